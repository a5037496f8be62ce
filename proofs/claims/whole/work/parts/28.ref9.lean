theorem zshr_16 {h : Int} (hh : 0 ≤ h ∧ h ≤ 4) : zshr 16 h * zshl 1 h = 16 ∧ 1 ≤ zshr 16 h ∧ zshr 16 h ≤ 16 := by
  have hc : h = 0 ∨ h = 1 ∨ h = 2 ∨ h = 3 ∨ h = 4 := by omega
  rcases hc with rfl | rfl | rfl | rfl | rfl <;> decide

set_option maxHeartbeats 4000000 in
theorem bR_leaf {ρ : z_Sg} (hw : z_wf ρ) (t i : Int) (hp0 : 0 ≤ t ∧ t ≤ 19) (hp1 : 0 ≤ i ∧ i ≤ 15) : 0 ≤ rR_leaf ρ t i ∧ rR_leaf ρ t i ≤ 1000000 := by
  have g1 : 0 ≤ ρ 1 t ∧ ρ 1 t ≤ 3 := hw 1 t (by decide)
  have g2 : 0 ≤ ρ 2 t ∧ ρ 2 t ≤ 5 := hw 2 t (by decide)
  have g3 : 0 ≤ ρ 3 t ∧ ρ 3 t ≤ 1000000 := hw 3 t (by decide)
  have g4 : 0 ≤ ρ 4 t ∧ ρ 4 t ≤ 1000000 := hw 4 t (by decide)
  have g5 : 0 ≤ ρ 11 (4 * t + i - 3) ∧ ρ 11 (4 * t + i - 3) ≤ 79 := hw 11 _ (by decide)
  have g6 : 0 ≤ ρ 12 (4 * t + i - 8) ∧ ρ 12 (4 * t + i - 8) ≤ 2 := hw 12 _ (by decide)
  have g7 : 0 ≤ ρ 13 (4 * t + i - 8) ∧ ρ 13 (4 * t + i - 8) ≤ 3 := hw 13 _ (by decide)
  have g8 : 0 ≤ ρ 14 (4 * t + i - 8) ∧ ρ 14 (4 * t + i - 8) ≤ 3 := hw 14 _ (by decide)
  have g9 : 0 ≤ ρ 15 (4 * t + i - 8) ∧ ρ 15 (4 * t + i - 8) ≤ 1000 := hw 15 _ (by decide)
  have g10 : -1 ≤ ρ 16 (4 * t + i - 8) ∧ ρ 16 (4 * t + i - 8) ≤ 3 := hw 16 _ (by decide)
  have g11 := bR_needs hw t hp0
  unfold rR_leaf
  repeat' split
  all_goals omega

theorem z_tr (i h : Int) (hh : 0 ≤ h ∧ h ≤ 4) (hi : 0 ≤ i ∧ i < zshr 16 h) : 0 ≤ i * zshl 1 h ∧ i * zshl 1 h + zshl 1 h ≤ 16 := by
  have h1 := zshr_16 hh
  have h2 := zshl_1 hh
  have h3 : (i + 1) * zshl 1 h ≤ zshr 16 h * zshl 1 h := Int.mul_le_mul_of_nonneg_right (by omega) (by omega)
  have h4 : (i + 1) * zshl 1 h = i * zshl 1 h + zshl 1 h := by rw [Int.add_mul, Int.one_mul]
  have h5 : 0 ≤ i * zshl 1 h := Int.mul_nonneg hi.1 (by omega)
  omega

def lR_tree_39 (ρ : z_Sg) (t h i : Int) (j : Nat) (k : Int) : z_Sg := match j with
  | 0 => ρ
  | j + 1 => lR_tree_39 (z_up ρ 26 k (rR_leaf ρ t ((i * (zshl 1 h)) + k))) t h i j (k + 1)
set_option maxRecDepth 100000 in
set_option maxHeartbeats 4000000 in
theorem eR_tree_39 {κ ρ : z_Sg} {a : Int → Nat} {B : List va_E} {Q : Option Value → List va_E → Prop} (hw : z_wf ρ) (t h i : Int) (hp0 : z_rg t) (hp1 : z_rg h) (hp2 : z_rg i) : ∀ (j : Nat) (k : Int), 0 ≤ k → k + j = zshl 1 h → (0 ≤ i * zshl 1 h ∧ i * zshl 1 h + zshl 1 h ≤ 16) → (1 ≤ zshl 1 h ∧ zshl 1 h ≤ 16) → (0 ≤ t ∧ t ≤ 19) → (∀ (y5 : Value), z_Ev mR_tree (5, 125) 0 0 71 [.ref 12, zi t, zi h, zi i, zi (zshl 1 h), y5, .float 0, .float 0] [] (zM κ a (lR_tree_39 ρ t h i j k) B) Q) → z_Ev mR_tree (5, 125) 0 0 39 [.ref 12, zi t, zi h, zi i, zi (zshl 1 h), zi k, .float 0, .float 0] [] (zM κ a ρ B) Q := by
  intro j
  induction j generalizing ρ with
  | zero =>
    intro k   c0 c1 c2 c3 c4 hk
    refine ev_iload (q := 41) dR_tree_39 (by rfl) rfl ?_
    refine ev_iload (q := 43) dR_tree_41 (by rfl) rfl ?_
    refine zr_icmp_ge (t := 71) (q := 46) dR_tree_43 rfl rfl ⟨by omega, by omega⟩ ⟨by omega, by omega⟩ (fun h1 => ?_) (fun h1 => ?_)
    · exact hk _
    · exfalso
      omega
  | succ j ih =>
    intro k   c0 c1 c2 c3 c4 hk
    refine ev_iload (q := 41) dR_tree_39 (by rfl) rfl ?_
    refine ev_iload (q := 43) dR_tree_41 (by rfl) rfl ?_
    refine zr_icmp_ge (t := 71) (q := 46) dR_tree_43 rfl rfl ⟨by omega, by omega⟩ ⟨by omega, by omega⟩ (fun h1 => ?_) (fun h1 => ?_)
    · exfalso
      omega
    · refine ev_aload_n 0 (q := 47) dR_tree_46 rfl (by rfl) rfl ?_
      refine ev_get (q := 50) dR_tree_47 fR_80 atR (by rfl) rfl ?_
      refine ev_iload (q := 52) dR_tree_50 (by rfl) rfl ?_
      refine ev_aload_n 0 (q := 53) dR_tree_52 rfl (by rfl) rfl ?_
      refine ev_iload_n 1 (q := 54) dR_tree_53 rfl (by rfl) rfl ?_
      refine ev_iload_n 3 (q := 55) dR_tree_54 rfl (by rfl) rfl ?_
      refine ev_iload (q := 57) dR_tree_55 (by rfl) rfl ?_
      refine zr_imul (q := 58) dR_tree_57 rfl ?_
      refine ev_iload (q := 60) dR_tree_58 (by rfl) rfl ?_
      refine zr_iadd (q := 61) dR_tree_60 rfl ?_
      refine cv_V (As := [_, _]) (q := 64) dR_tree_61 kR_185 atR rfl rfl (Nat.le_of_ble_eq_true rfl) rfl rfl rfl (by decide) (sR_leaf hw t ((i * (zshl 1 h)) + k) ⟨by omega, by omega⟩ ⟨by omega, by omega⟩ ) ?_
      have g2 := bR_leaf hw t ((i * (zshl 1 h)) + k) ⟨by omega, by omega⟩ ⟨by omega, by omega⟩ 
      refine zr_iast (q := 65) dR_tree_64 at_mix (by decide) ⟨by omega, by omega⟩ st_mix rfl ?_
      have hw3 : z_wf (z_up ρ 26 k (rR_leaf ρ t ((i * (zshl 1 h)) + k))) := z_wf_up hw (show (-2147483648 : Int) ≤ (rR_leaf ρ t ((i * (zshl 1 h)) + k)) by omega) (show (rR_leaf ρ t ((i * (zshl 1 h)) + k)) ≤ (2147483647 : Int) by omega)
      refine zr_iinc (q := 68) dR_tree_65 (by rfl) (by decide) rfl rfl ?_
      dsimp only [List.set]
      refine ev_goto (t := 39) (q := 39) dR_tree_68 rfl rfl ?_
      rw [show lR_tree_39 ρ t h i (j + 1) k = lR_tree_39 (z_up ρ 26 k (rR_leaf ρ t ((i * (zshl 1 h)) + k))) t h i j (k + 1) from by rw [lR_tree_39]] at hk
      exact ih hw3  (k + 1)   (by omega) (by omega) c2 c3 c4 hk
set_option maxRecDepth 100000 in
set_option maxHeartbeats 4000000 in
theorem wlR_tree_39 {ρ : z_Sg} (hw : z_wf ρ) (t h i : Int) (hp0 : z_rg t) (hp1 : z_rg h) (hp2 : z_rg i) : ∀ (j : Nat) (k : Int), 0 ≤ k → k + j = zshl 1 h → (0 ≤ i * zshl 1 h ∧ i * zshl 1 h + zshl 1 h ≤ 16) → (1 ≤ zshl 1 h ∧ zshl 1 h ≤ 16) → (0 ≤ t ∧ t ≤ 19) → z_wf (lR_tree_39 ρ t h i j k) := by
  intro j
  induction j generalizing ρ with
  | zero =>
    intro k  c0 c1 c2 c3 c4
    rw [lR_tree_39]
    exact hw
  | succ j ihw =>
    intro k  c0 c1 c2 c3 c4
    rw [lR_tree_39]
    have g2 := bR_leaf hw t ((i * (zshl 1 h)) + k) ⟨by omega, by omega⟩ ⟨by omega, by omega⟩ 
    have hw3 : z_wf (z_up ρ 26 k (rR_leaf ρ t ((i * (zshl 1 h)) + k))) := z_wf_up hw (show (-2147483648 : Int) ≤ (rR_leaf ρ t ((i * (zshl 1 h)) + k)) by omega) (show (rR_leaf ρ t ((i * (zshl 1 h)) + k)) ≤ (2147483647 : Int) by omega)
    exact ihw hw3  (k + 1)  (by omega) (by omega) c2 c3 c4
def lR_tree_85 (ρ : z_Sg) (t h i : Int) (j : Nat) (k : Int) : z_Sg := match j with
  | 0 => ρ
  | j + 1 => lR_tree_85 (z_up ρ 26 k (zxor (((31 * (ρ 26 (2 * k))) + (17 * (ρ 26 ((2 * k) + 1)))) + 7) (zushr (((31 * (ρ 26 (2 * k))) + (17 * (ρ 26 ((2 * k) + 1)))) + 7) 13))) t h i j (k + 1)
set_option maxRecDepth 100000 in
set_option maxHeartbeats 4000000 in
theorem eR_tree_85 {κ ρ : z_Sg} {a : Int → Nat} {B : List va_E} {Q : Option Value → List va_E → Prop} (hw : z_wf ρ) (t h i : Int) (hp0 : z_rg t) (hp1 : z_rg h) (hp2 : z_rg i) : ∀ (j : Nat) (k : Int) (n : Int) (x7 : Value), 0 ≤ k → k + j = n → (0 ≤ n ∧ n ≤ 8) → (∀ (y6 y7 : Value), z_Ev mR_tree (5, 125) 0 0 145 [.ref 12, zi t, zi h, zi i, zi (zshl 1 h), zi n, y6, y7] [] (zM κ a (lR_tree_85 ρ t h i j k) B) Q) → z_Ev mR_tree (5, 125) 0 0 85 [.ref 12, zi t, zi h, zi i, zi (zshl 1 h), zi n, zi k, x7] [] (zM κ a ρ B) Q := by
  intro j
  induction j generalizing ρ with
  | zero =>
    intro k n x7 c0 c1 c2 hk
    refine ev_iload (q := 87) dR_tree_85 (by rfl) rfl ?_
    refine ev_iload (q := 89) dR_tree_87 (by rfl) rfl ?_
    refine zr_icmp_ge (t := 145) (q := 92) dR_tree_89 rfl rfl ⟨by omega, by omega⟩ ⟨by omega, by omega⟩ (fun h1 => ?_) (fun h1 => ?_)
    · exact hk _ _
    · exfalso
      omega
  | succ j ih =>
    intro k n x7 c0 c1 c2 hk
    refine ev_iload (q := 87) dR_tree_85 (by rfl) rfl ?_
    refine ev_iload (q := 89) dR_tree_87 (by rfl) rfl ?_
    refine zr_icmp_ge (t := 145) (q := 92) dR_tree_89 rfl rfl ⟨by omega, by omega⟩ ⟨by omega, by omega⟩ (fun h1 => ?_) (fun h1 => ?_)
    · exfalso
      omega
    · refine ev_bipush (v := iI 31) (q := 94) dR_tree_92 (by decide) rfl ?_
      refine ev_aload_n 0 (q := 95) dR_tree_94 rfl (by rfl) rfl ?_
      refine ev_get (q := 98) dR_tree_95 fR_80 atR (by rfl) rfl ?_
      refine ev_iconst (v := iI 2) (q := 99) dR_tree_98 rfl rfl ?_
      refine ev_iload (q := 101) dR_tree_99 (by rfl) rfl ?_
      refine zr_imul (q := 102) dR_tree_101 rfl ?_
      refine zr_iald (q := 103) (g := ρ 26) dR_tree_102 at_mix (by decide) ⟨by omega, by omega⟩ rfl ?_
      refine zr_imul (q := 104) dR_tree_103 rfl ?_
      refine ev_bipush (v := iI 17) (q := 106) dR_tree_104 (by decide) rfl ?_
      refine ev_aload_n 0 (q := 107) dR_tree_106 rfl (by rfl) rfl ?_
      refine ev_get (q := 110) dR_tree_107 fR_80 atR (by rfl) rfl ?_
      refine ev_iconst (v := iI 2) (q := 111) dR_tree_110 rfl rfl ?_
      refine ev_iload (q := 113) dR_tree_111 (by rfl) rfl ?_
      refine zr_imul (q := 114) dR_tree_113 rfl ?_
      refine ev_iconst (v := iI 1) (q := 115) dR_tree_114 rfl rfl ?_
      refine zr_iadd (q := 116) dR_tree_115 rfl ?_
      refine zr_iald (q := 117) (g := ρ 26) dR_tree_116 at_mix (by decide) ⟨by omega, by omega⟩ rfl ?_
      refine zr_imul (q := 118) dR_tree_117 rfl ?_
      refine zr_iadd (q := 119) dR_tree_118 rfl ?_
      refine ev_bipush (v := iI 7) (q := 121) dR_tree_119 (by decide) rfl ?_
      refine zr_iadd (q := 122) dR_tree_121 rfl ?_
      refine ev_istore (q := 124) dR_tree_122 (by decide) rfl rfl ?_
      dsimp only [List.set]
      refine ev_aload_n 0 (q := 125) dR_tree_124 rfl (by rfl) rfl ?_
      refine ev_get (q := 128) dR_tree_125 fR_80 atR (by rfl) rfl ?_
      refine ev_iload (q := 130) dR_tree_128 (by rfl) rfl ?_
      refine ev_iload (q := 132) dR_tree_130 (by rfl) rfl ?_
      refine ev_iload (q := 134) dR_tree_132 (by rfl) rfl ?_
      refine ev_bipush (v := iI 13) (q := 136) dR_tree_134 (by decide) rfl ?_
      refine zr_iushr (q := 137) dR_tree_136 rfl ?_
      have g2 : z_rg (zushr (((31 * (ρ 26 (2 * k))) + (17 * (ρ 26 ((2 * k) + 1)))) + 7) 13) := iI_rg _
      refine zr_ixor (q := 138) dR_tree_137 rfl ?_
      have g3 : z_rg (zxor (((31 * (ρ 26 (2 * k))) + (17 * (ρ 26 ((2 * k) + 1)))) + 7) (zushr (((31 * (ρ 26 (2 * k))) + (17 * (ρ 26 ((2 * k) + 1)))) + 7) 13)) := iI_rg _
      refine zr_iast (q := 139) dR_tree_138 at_mix (by decide) ⟨by omega, by omega⟩ st_mix rfl ?_
      have hw4 : z_wf (z_up ρ 26 k (zxor (((31 * (ρ 26 (2 * k))) + (17 * (ρ 26 ((2 * k) + 1)))) + 7) (zushr (((31 * (ρ 26 (2 * k))) + (17 * (ρ 26 ((2 * k) + 1)))) + 7) 13))) := z_wf_up hw (show (-2147483648 : Int) ≤ (zxor (((31 * (ρ 26 (2 * k))) + (17 * (ρ 26 ((2 * k) + 1)))) + 7) (zushr (((31 * (ρ 26 (2 * k))) + (17 * (ρ 26 ((2 * k) + 1)))) + 7) 13)) by omega) (show (zxor (((31 * (ρ 26 (2 * k))) + (17 * (ρ 26 ((2 * k) + 1)))) + 7) (zushr (((31 * (ρ 26 (2 * k))) + (17 * (ρ 26 ((2 * k) + 1)))) + 7) 13)) ≤ (2147483647 : Int) by omega)
      refine zr_iinc (q := 142) dR_tree_139 (by rfl) (by decide) rfl rfl ?_
      dsimp only [List.set]
      refine ev_goto (t := 85) (q := 85) dR_tree_142 rfl rfl ?_
      rw [show lR_tree_85 ρ t h i (j + 1) k = lR_tree_85 (z_up ρ 26 k (zxor (((31 * (ρ 26 (2 * k))) + (17 * (ρ 26 ((2 * k) + 1)))) + 7) (zushr (((31 * (ρ 26 (2 * k))) + (17 * (ρ 26 ((2 * k) + 1)))) + 7) 13))) t h i j (k + 1) from by rw [lR_tree_85]] at hk
      exact ih hw4  (k + 1) n (zi (((31 * (ρ 26 (2 * k))) + (17 * (ρ 26 ((2 * k) + 1)))) + 7)) (by omega) (by omega) c2 hk
set_option maxRecDepth 100000 in
set_option maxHeartbeats 4000000 in
theorem wlR_tree_85 {ρ : z_Sg} (hw : z_wf ρ) (t h i : Int) (hp0 : z_rg t) (hp1 : z_rg h) (hp2 : z_rg i) : ∀ (j : Nat) (k : Int) (n : Int), 0 ≤ k → k + j = n → (0 ≤ n ∧ n ≤ 8) → z_wf (lR_tree_85 ρ t h i j k) := by
  intro j
  induction j generalizing ρ with
  | zero =>
    intro k n c0 c1 c2
    rw [lR_tree_85]
    exact hw
  | succ j ihw =>
    intro k n c0 c1 c2
    rw [lR_tree_85]
    have g2 : z_rg (zushr (((31 * (ρ 26 (2 * k))) + (17 * (ρ 26 ((2 * k) + 1)))) + 7) 13) := iI_rg _
    have g3 : z_rg (zxor (((31 * (ρ 26 (2 * k))) + (17 * (ρ 26 ((2 * k) + 1)))) + 7) (zushr (((31 * (ρ 26 (2 * k))) + (17 * (ρ 26 ((2 * k) + 1)))) + 7) 13)) := iI_rg _
    have hw4 : z_wf (z_up ρ 26 k (zxor (((31 * (ρ 26 (2 * k))) + (17 * (ρ 26 ((2 * k) + 1)))) + 7) (zushr (((31 * (ρ 26 (2 * k))) + (17 * (ρ 26 ((2 * k) + 1)))) + 7) 13))) := z_wf_up hw (show (-2147483648 : Int) ≤ (zxor (((31 * (ρ 26 (2 * k))) + (17 * (ρ 26 ((2 * k) + 1)))) + 7) (zushr (((31 * (ρ 26 (2 * k))) + (17 * (ρ 26 ((2 * k) + 1)))) + 7) 13)) by omega) (show (zxor (((31 * (ρ 26 (2 * k))) + (17 * (ρ 26 ((2 * k) + 1)))) + 7) (zushr (((31 * (ρ 26 (2 * k))) + (17 * (ρ 26 ((2 * k) + 1)))) + 7) 13)) ≤ (2147483647 : Int) by omega)
    exact ihw hw4  (k + 1) n (by omega) (by omega) c2
def lR_tree_77 (ρ : z_Sg) (t h i : Int) (j : Nat) (n : Int) : z_Sg := match j with
  | 0 => ρ
  | j + 1 => if n ≤ 0 then ρ else lR_tree_77 (lR_tree_85 ρ t h i (n).toNat 0) t h i j (n / 2)
set_option maxRecDepth 100000 in
set_option maxHeartbeats 4000000 in
theorem eR_tree_77 {κ ρ : z_Sg} {a : Int → Nat} {B : List va_E} {Q : Option Value → List va_E → Prop} (hw : z_wf ρ) (t h i : Int) (hp0 : z_rg t) (hp1 : z_rg h) (hp2 : z_rg i) : ∀ (j : Nat) (n : Int) (x6 : Value) (x7 : Value), (0 ≤ n ∧ n ≤ 8) → (n ≤ 0 ∨ (1 ≤ j ∧ n ≤ 1) ∨ (2 ≤ j ∧ n ≤ 3) ∨ (3 ≤ j ∧ n ≤ 7) ∨ (4 ≤ j ∧ n ≤ 15)) → (∀ (y5 y6 y7 : Value), z_Ev mR_tree (5, 125) 0 0 154 [.ref 12, zi t, zi h, zi i, zi (zshl 1 h), y5, y6, y7] [] (zM κ a (lR_tree_77 ρ t h i j n) B) Q) → z_Ev mR_tree (5, 125) 0 0 77 [.ref 12, zi t, zi h, zi i, zi (zshl 1 h), zi n, x6, x7] [] (zM κ a ρ B) Q := by
  intro j
  induction j generalizing ρ with
  | zero =>
    intro n  x6 x7 c0 c1 hk
    refine ev_iload (q := 79) dR_tree_77 (by rfl) rfl ?_
    refine zr_if_le (t := 154) (q := 82) dR_tree_79 rfl rfl ⟨by omega, by omega⟩ (fun h1 => ?_) (fun h1 => ?_)
    · exact hk _ _ _
    · exfalso
      omega
  | succ j ih =>
    intro n  x6 x7 c0 c1 hk
    refine ev_iload (q := 79) dR_tree_77 (by rfl) rfl ?_
    refine zr_if_le (t := 154) (q := 82) dR_tree_79 rfl rfl ⟨by omega, by omega⟩ (fun h1 => ?_) (fun h1 => ?_)
    · rw [show lR_tree_77 ρ t h i (j + 1) n = ρ from by rw [lR_tree_77, if_pos h1]] at hk
      exact hk _ _ _
    · refine ev_iconst (v := iI 0) (q := 83) dR_tree_82 rfl rfl ?_
      refine ev_istore (q := 85) dR_tree_83 (by decide) rfl rfl ?_
      dsimp only [List.set]
      refine eR_tree_85 hw t h i hp0 hp1 hp2 (n).toNat 0 n x7 (by omega) (by omega) ⟨by omega, by omega⟩ (fun y2 y3 => ?_)
      have hw4 : z_wf (lR_tree_85 ρ t h i (n).toNat 0) := wlR_tree_85 hw t h i hp0 hp1 hp2 (n).toNat 0 n (by omega) (by omega) ⟨by omega, by omega⟩
      refine ev_iload (q := 147) dR_tree_145 (by rfl) rfl ?_
      refine ev_iconst (v := iI 2) (q := 148) dR_tree_147 rfl rfl ?_
      refine zr_idiv (q := 149) dR_tree_148 ⟨by omega, by omega⟩ ⟨by omega, by omega⟩ rfl ?_
      refine ev_istore (q := 151) dR_tree_149 (by decide) rfl rfl ?_
      dsimp only [List.set]
      refine ev_goto (t := 77) (q := 77) dR_tree_151 rfl rfl ?_
      rw [show lR_tree_77 ρ t h i (j + 1) n = lR_tree_77 (lR_tree_85 ρ t h i (n).toNat 0) t h i j (n / 2) from by rw [lR_tree_77, if_neg (Int.not_le.mpr h1)]] at hk
      exact ih hw4  (n / 2)  y2 y3 (by omega) (by omega) hk
set_option maxRecDepth 100000 in
set_option maxHeartbeats 4000000 in
theorem wlR_tree_77 {ρ : z_Sg} (hw : z_wf ρ) (t h i : Int) (hp0 : z_rg t) (hp1 : z_rg h) (hp2 : z_rg i) : ∀ (j : Nat) (n : Int), (0 ≤ n ∧ n ≤ 8) → (n ≤ 0 ∨ (1 ≤ j ∧ n ≤ 1) ∨ (2 ≤ j ∧ n ≤ 3) ∨ (3 ≤ j ∧ n ≤ 7) ∨ (4 ≤ j ∧ n ≤ 15)) → z_wf (lR_tree_77 ρ t h i j n) := by
  intro j
  induction j generalizing ρ with
  | zero =>
    intro n  c0 c1
    rw [lR_tree_77]
    exact hw
  | succ j ihw =>
    intro n  c0 c1
    rw [lR_tree_77]
    by_cases h1 : n ≤ 0
    · rw [if_pos h1]
      exact hw
    · rw [if_neg h1]
      have hw4 : z_wf (lR_tree_85 ρ t h i (n).toNat 0) := wlR_tree_85 hw t h i hp0 hp1 hp2 (n).toNat 0 n (by omega) (by omega) ⟨by omega, by omega⟩
      exact ihw hw4  (n / 2)  (by omega) (by omega)
def rR_tree (ρ : z_Sg) (t h i : Int) : Int × z_Sg := if (rR_isTx ρ t) = 0 then (0, ρ) else if h < 0 then (0, ρ) else if 4 < h then (0, ρ) else if i < 0 then (0, ρ) else if i < (zshr 16 h) then (((lR_tree_77 (lR_tree_39 ρ t h i (zshl 1 h).toNat 0) t h i 4 ((zshl 1 h) / 2)) 26 0), (lR_tree_77 (lR_tree_39 ρ t h i (zshl 1 h).toNat 0) t h i 4 ((zshl 1 h) / 2))) else (0, ρ)
set_option maxRecDepth 100000 in
set_option maxHeartbeats 4000000 in
theorem sR_tree {κ ρ : z_Sg} {a : Int → Nat} {B : List va_E} (hw : z_wf ρ) (t h i : Int) (hp0 : z_rg t) (hp1 : z_rg h) (hp2 : z_rg i) : z_Sp mR_tree (5, 125) 0 0 [.ref 12, zi t, zi h, zi i] (zM κ a ρ B) (fun r M' => r = some (zi (rR_tree ρ t h i).1) ∧ M' = zM κ a (rR_tree ρ t h i).2 B) := by
  refine z_Sp_of (L := [.ref 12, zi t, zi h, zi i, .float 0, .float 0, .float 0, .float 0]) (by decide) rfl rfl rfl (Nat.le_of_ble_eq_true rfl) ?_
  refine ev_aload_n 0 (q := 1) dR_tree_0 rfl (by rfl) rfl ?_
  refine ev_iload_n 1 (q := 2) dR_tree_1 rfl (by rfl) rfl ?_
  refine cv_V (As := [_]) (q := 5) dR_tree_2 kR_87 atR rfl rfl (Nat.le_of_ble_eq_true rfl) rfl rfl rfl (by decide) (sR_isTx hw t ⟨by omega, by omega⟩ ) ?_
  have g1 : (rR_isTx ρ t) = 0 ∨ (rR_isTx ρ t) = 1 := bR_isTx _ _
  refine zr_if_eq (t := 29) (q := 8) dR_tree_5 rfl rfl ⟨by omega, by omega⟩ (fun h2 => ?_) (fun h2 => ?_)
  · refine ev_iconst (v := iI 0) (q := 30) dR_tree_29 rfl rfl ?_
    exact zr_iret dR_tree_30 rfl ⟨by rw [rR_tree, if_pos h2], by rw [rR_tree, if_pos h2]⟩
  · have f17 := tR_isTx hw h2
    refine ev_iload_n 2 (q := 9) dR_tree_8 rfl (by rfl) rfl ?_
    refine zr_if_lt (t := 29) (q := 12) dR_tree_9 rfl rfl ⟨by omega, by omega⟩ (fun h3 => ?_) (fun h3 => ?_)
    · refine ev_iconst (v := iI 0) (q := 30) dR_tree_29 rfl rfl ?_
      exact zr_iret dR_tree_30 rfl ⟨by rw [rR_tree, if_neg h2, if_pos h3], by rw [rR_tree, if_neg h2, if_pos h3]⟩
    · refine ev_iload_n 2 (q := 13) dR_tree_12 rfl (by rfl) rfl ?_
      refine ev_iconst (v := iI 4) (q := 14) dR_tree_13 rfl rfl ?_
      refine zr_icmp_gt (t := 29) (q := 17) dR_tree_14 rfl rfl ⟨by omega, by omega⟩ ⟨by omega, by omega⟩ (fun h4 => ?_) (fun h4 => ?_)
      · refine ev_iconst (v := iI 0) (q := 30) dR_tree_29 rfl rfl ?_
        exact zr_iret dR_tree_30 rfl ⟨by rw [rR_tree, if_neg h2, if_neg (Int.not_lt.mpr h3), if_pos h4], by rw [rR_tree, if_neg h2, if_neg (Int.not_lt.mpr h3), if_pos h4]⟩
      · refine ev_iload_n 3 (q := 18) dR_tree_17 rfl (by rfl) rfl ?_
        refine zr_if_lt (t := 29) (q := 21) dR_tree_18 rfl rfl ⟨by omega, by omega⟩ (fun h5 => ?_) (fun h5 => ?_)
        · refine ev_iconst (v := iI 0) (q := 30) dR_tree_29 rfl rfl ?_
          exact zr_iret dR_tree_30 rfl ⟨by rw [rR_tree, if_neg h2, if_neg (Int.not_lt.mpr h3), if_neg (Int.not_lt.mpr h4), if_pos h5], by rw [rR_tree, if_neg h2, if_neg (Int.not_lt.mpr h3), if_neg (Int.not_lt.mpr h4), if_pos h5]⟩
        · refine ev_iload_n 3 (q := 22) dR_tree_21 rfl (by rfl) rfl ?_
          refine ev_bipush (v := iI 16) (q := 24) dR_tree_22 (by decide) rfl ?_
          refine ev_iload_n 2 (q := 25) dR_tree_24 rfl (by rfl) rfl ?_
          refine zr_ishr (q := 26) dR_tree_25 rfl ?_
          have g6 : z_rg (zshr 16 h) := iI_rg _
          have g7 := zshr_16 (h := h) ⟨by omega, by omega⟩
          refine zr_icmp_lt (t := 31) (q := 29) dR_tree_26 rfl rfl ⟨by omega, by omega⟩ ⟨by omega, by omega⟩ (fun h8 => ?_) (fun h8 => ?_)
          · refine ev_iconst (v := iI 1) (q := 32) dR_tree_31 rfl rfl ?_
            refine ev_iload_n 2 (q := 33) dR_tree_32 rfl (by rfl) rfl ?_
            refine zr_ishl (q := 34) dR_tree_33 rfl ?_
            have g9 : z_rg (zshl 1 h) := iI_rg _
            have g10 := zshl_1 (n := h) ⟨by omega, by omega⟩
            refine ev_istore (q := 36) dR_tree_34 (by decide) rfl rfl ?_
            dsimp only [List.set]
            refine ev_iconst (v := iI 0) (q := 37) dR_tree_36 rfl rfl ?_
            refine ev_istore (q := 39) dR_tree_37 (by decide) rfl rfl ?_
            dsimp only [List.set]
            refine eR_tree_39 hw t h i hp0 hp1 hp2 (zshl 1 h).toNat 0   (by omega) (by omega) (z_tr i h ⟨by omega, by omega⟩ ⟨by omega, by omega⟩) ⟨by omega, by omega⟩ ⟨by omega, by omega⟩ (fun y11 => ?_)
            have hw12 : z_wf (lR_tree_39 ρ t h i (zshl 1 h).toNat 0) := wlR_tree_39 hw t h i hp0 hp1 hp2 (zshl 1 h).toNat 0  (by omega) (by omega) (z_tr i h ⟨by omega, by omega⟩ ⟨by omega, by omega⟩) ⟨by omega, by omega⟩ ⟨by omega, by omega⟩
            refine ev_iload (q := 73) dR_tree_71 (by rfl) rfl ?_
            refine ev_iconst (v := iI 2) (q := 74) dR_tree_73 rfl rfl ?_
            refine zr_idiv (q := 75) dR_tree_74 ⟨by omega, by omega⟩ ⟨by omega, by omega⟩ rfl ?_
            refine ev_istore (q := 77) dR_tree_75 (by decide) rfl rfl ?_
            dsimp only [List.set]
            refine eR_tree_77 hw12 t h i hp0 hp1 hp2 4 ((zshl 1 h) / 2)  (.float 0) (.float 0) (by omega) (by omega) (fun y13 y14 y15 => ?_)
            have hw16 : z_wf (lR_tree_77 (lR_tree_39 ρ t h i (zshl 1 h).toNat 0) t h i 4 ((zshl 1 h) / 2)) := wlR_tree_77 hw12 t h i hp0 hp1 hp2 4 ((zshl 1 h) / 2)  (by omega) (by omega)
            refine ev_aload_n 0 (q := 155) dR_tree_154 rfl (by rfl) rfl ?_
            refine ev_get (q := 158) dR_tree_155 fR_80 atR (by rfl) rfl ?_
            refine ev_iconst (v := iI 0) (q := 159) dR_tree_158 rfl rfl ?_
            refine zr_iald (q := 160) (g := (lR_tree_77 (lR_tree_39 ρ t h i (zshl 1 h).toNat 0) t h i 4 ((zshl 1 h) / 2)) 26) dR_tree_159 at_mix (by decide) ⟨by omega, by omega⟩ rfl ?_
            exact zr_iret dR_tree_160 rfl ⟨by rw [rR_tree, if_neg h2, if_neg (Int.not_lt.mpr h3), if_neg (Int.not_lt.mpr h4), if_neg (Int.not_lt.mpr h5), if_pos h8], by rw [rR_tree, if_neg h2, if_neg (Int.not_lt.mpr h3), if_neg (Int.not_lt.mpr h4), if_neg (Int.not_lt.mpr h5), if_pos h8]⟩
          · refine ev_iconst (v := iI 0) (q := 30) dR_tree_29 rfl rfl ?_
            exact zr_iret dR_tree_30 rfl ⟨by rw [rR_tree, if_neg h2, if_neg (Int.not_lt.mpr h3), if_neg (Int.not_lt.mpr h4), if_neg (Int.not_lt.mpr h5), if_neg (Int.not_lt.mpr h8)], by rw [rR_tree, if_neg h2, if_neg (Int.not_lt.mpr h3), if_neg (Int.not_lt.mpr h4), if_neg (Int.not_lt.mpr h5), if_neg (Int.not_lt.mpr h8)]⟩
set_option maxRecDepth 100000 in
set_option maxHeartbeats 4000000 in
theorem wR_tree {ρ : z_Sg} (hw : z_wf ρ) (t h i : Int) (hp0 : z_rg t) (hp1 : z_rg h) (hp2 : z_rg i) : z_wf (rR_tree ρ t h i).2 := by
  rw [rR_tree]
  have g1 : (rR_isTx ρ t) = 0 ∨ (rR_isTx ρ t) = 1 := bR_isTx _ _
  by_cases h2 : (rR_isTx ρ t) = 0
  · rw [if_pos h2]
    exact hw
  · rw [if_neg h2]
    have f17 := tR_isTx hw h2
    by_cases h3 : h < 0
    · rw [if_pos h3]
      exact hw
    · rw [if_neg h3]
      by_cases h4 : 4 < h
      · rw [if_pos h4]
        exact hw
      · rw [if_neg h4]
        by_cases h5 : i < 0
        · rw [if_pos h5]
          exact hw
        · rw [if_neg h5]
          have g6 : z_rg (zshr 16 h) := iI_rg _
          have g7 := zshr_16 (h := h) ⟨by omega, by omega⟩
          by_cases h8 : i < (zshr 16 h)
          · rw [if_pos h8]
            have g9 : z_rg (zshl 1 h) := iI_rg _
            have g10 := zshl_1 (n := h) ⟨by omega, by omega⟩
            have hw12 : z_wf (lR_tree_39 ρ t h i (zshl 1 h).toNat 0) := wlR_tree_39 hw t h i hp0 hp1 hp2 (zshl 1 h).toNat 0  (by omega) (by omega) (z_tr i h ⟨by omega, by omega⟩ ⟨by omega, by omega⟩) ⟨by omega, by omega⟩ ⟨by omega, by omega⟩
            have hw16 : z_wf (lR_tree_77 (lR_tree_39 ρ t h i (zshl 1 h).toNat 0) t h i 4 ((zshl 1 h) / 2)) := wlR_tree_77 hw12 t h i hp0 hp1 hp2 4 ((zshl 1 h) / 2)  (by omega) (by omega)
            exact hw16
          · rw [if_neg h8]
            exact hw
