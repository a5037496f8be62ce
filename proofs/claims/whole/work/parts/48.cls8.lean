theorem zshr_8 {h : Int} (hh : 1 ≤ h ∧ h ≤ 4) : 1 ≤ zshr 16 h ∧ zshr 16 h ≤ 8 := by
  have hc : h = 1 ∨ h = 2 ∨ h = 3 ∨ h = 4 := by omega
  rcases hc with rfl | rfl | rfl | rfl <;> decide
theorem bH_mix (γ : z_Sg) (x y : Int) : z_rg (cH_mix γ x y) := iI_rg _
theorem bS_leafValue {g : z_Gl} {γ : z_Sg} (hc : zC g γ) (s : Int) : 0 ≤ cS_leafValue γ s ∧ cS_leafValue γ s ≤ 1000000 := by
  have g1 : 0 ≤ γ 34 s ∧ γ 34 s ≤ 2 := hc.1 34 s (by decide)
  have g2 : 0 ≤ γ 35 s ∧ γ 35 s ≤ 3 := hc.1 35 s (by decide)
  have g3 : 0 ≤ γ 36 s ∧ γ 36 s ≤ 3 := hc.1 36 s (by decide)
  have g4 : 0 ≤ γ 37 s ∧ γ 37 s ≤ 1000 := hc.1 37 s (by decide)
  have g5 : -1 ≤ γ 38 s ∧ γ 38 s ≤ 3 := hc.1 38 s (by decide)
  unfold cS_leafValue
  omega
theorem bT_leaf {g : z_Gl} {γ : z_Sg} (hc : zC g γ) (t i : Int) (ht : 0 ≤ t ∧ t < γ 0 0) (hi : 0 ≤ i ∧ i ≤ 15) : 0 ≤ cT_leaf γ t i ∧ cT_leaf γ t i ≤ 1000000 := by
  have g0 : 0 ≤ γ 0 0 ∧ γ 0 0 ≤ 20 := hc.1 0 0 (by decide)
  have g1 : 0 ≤ γ 20 t ∧ γ 20 t ≤ 3 := hc.1 20 t (by decide)
  have g2 : 0 ≤ γ 21 t ∧ γ 21 t ≤ 5 := hc.1 21 t (by decide)
  have g3 : 0 ≤ γ 22 t ∧ γ 22 t ≤ 1000000 := hc.1 22 t (by decide)
  have g4 : 0 ≤ γ 23 t ∧ γ 23 t ≤ 1000000 := hc.1 23 t (by decide)
  have gn := bT_needs hc t ht
  have go : ∀ x : Int, 0 ≤ cT_outputLeaf γ t x ∧ cT_outputLeaf γ t x ≤ 1000000 := by
    intro x
    unfold cT_outputLeaf
    repeat' split
    all_goals first | exact bS_leafValue hc _ | omega
  have gi : ∀ x : Int, 0 ≤ cT_inputLeaf γ t x ∧ cT_inputLeaf γ t x ≤ 1000000 := by
    intro x
    have ge : 0 ≤ γ 33 (4 * (2 * t) + x) ∧ γ 33 (4 * (2 * t) + x) ≤ 79 := hc.1 33 _ (by decide)
    unfold cT_inputLeaf
    repeat' split
    all_goals omega
  have h3 := gi (i - 3)
  have h8 := go (i - 8)
  unfold cT_leaf
  repeat' split
  all_goals omega

def lH_tree_38 (γ : z_Sg) (t h i : Int) (j : Nat) (k : Int) : z_Sg := match j with
  | 0 => γ
  | j + 1 => lH_tree_38 (z_up γ 10 k (cT_leaf γ t k)) t h i j (k + 1)
set_option maxRecDepth 100000 in
set_option maxHeartbeats 4000000 in
theorem eH_tree_38 {g : z_Gl} {γ ρ : z_Sg} {Q : Option Value → List va_E → Prop} (hc : zC g γ) (t h i : Int) (hp0 : z_rg t) (hp1 : z_rg h) (hp2 : z_rg i) : ∀ (j : Nat) (k : Int), 0 ≤ k → k + j = 16 → (0 ≤ t ∧ t < γ 0 0) → (∀ (y5 : Value), z_Ev mH_tree (6, 134) 0 0 65 [.ref (0), zi t, zi h, zi i, .ref (g.1 t), y5, .float 0] [] (zH g (lH_tree_38 γ t h i j k) ρ) Q) → z_Ev mH_tree (6, 134) 0 0 38 [.ref (0), zi t, zi h, zi i, .ref (g.1 t), zi k, .float 0] [] (zH g γ ρ) Q := by
  intro j
  induction j generalizing γ with
  | zero =>
    intro k   c0 c1 c2 hk
    refine ev_iload (q := 40) dH_tree_38 (by rfl) rfl ?_
    refine ev_bipush (v := iI 16) (q := 42) dH_tree_40 (by decide) rfl ?_
    refine zr_icmp_ge (t := 65) (q := 45) dH_tree_42 rfl rfl ⟨by omega, by omega⟩ ⟨by omega, by omega⟩ (fun h1 => ?_) (fun h1 => ?_)
    · exact hk _
    · exfalso
      omega
  | succ j ih =>
    intro k   c0 c1 c2 hk
    refine ev_iload (q := 40) dH_tree_38 (by rfl) rfl ?_
    refine ev_bipush (v := iI 16) (q := 42) dH_tree_40 (by decide) rfl ?_
    refine zr_icmp_ge (t := 65) (q := 45) dH_tree_42 rfl rfl ⟨by omega, by omega⟩ ⟨by omega, by omega⟩ (fun h1 => ?_) (fun h1 => ?_)
    · exfalso
      omega
    · refine ev_aload_n 0 (q := 46) dH_tree_45 rfl (by rfl) rfl ?_
      refine ev_get (q := 49) dH_tree_46 fH_42 at_H (by rfl) rfl ?_
      refine ev_iload (q := 51) dH_tree_49 (by rfl) rfl ?_
      refine ev_aload (q := 53) dH_tree_51 (by rfl) rfl ?_
      refine ev_iload (q := 55) dH_tree_53 (by rfl) rfl ?_
      refine cv_V (As := [_]) (q := 58) dH_tree_55 kH_212 (at_T hc.2.1 c2) rfl rfl (Nat.le_of_ble_eq_true rfl) rfl rfl rfl (by decide) (sT_leaf hc t k c2 ⟨by omega, by omega⟩ ) ?_
      have g2 := bT_leaf hc t k c2 ⟨by omega, by omega⟩ 
      refine zr_iast (q := 59) dH_tree_58 at_treeRow (by decide) ⟨by omega, by omega⟩ ct_treeRow rfl ?_
      have hc3 : zC g (z_up γ 10 k (cT_leaf γ t k)) := zC_up hc (by decide) (by decide) (by decide) (show (-2147483648 : Int) ≤ (cT_leaf γ t k) by omega) (show (cT_leaf γ t k) ≤ (2147483647 : Int) by omega)
      refine zr_iinc (q := 62) dH_tree_59 (by rfl) (by decide) rfl rfl ?_
      dsimp only [List.set]
      refine ev_goto (t := 38) (q := 38) dH_tree_62 rfl rfl ?_
      rw [show lH_tree_38 γ t h i (j + 1) k = lH_tree_38 (z_up γ 10 k (cT_leaf γ t k)) t h i j (k + 1) from by rw [lH_tree_38]] at hk
      exact ih hc3   (k + 1)   (by omega) (by omega) c2 hk
set_option maxRecDepth 100000 in
set_option maxHeartbeats 4000000 in
theorem wlH_tree_38 {g : z_Gl} {γ : z_Sg} (hc : zC g γ) (t h i : Int) (hp0 : z_rg t) (hp1 : z_rg h) (hp2 : z_rg i) : ∀ (j : Nat) (k : Int), 0 ≤ k → k + j = 16 → (0 ≤ t ∧ t < γ 0 0) → zC g (lH_tree_38 γ t h i j k) := by
  intro j
  induction j generalizing γ with
  | zero =>
    intro k  c0 c1 c2
    rw [lH_tree_38]
    exact hc
  | succ j ihw =>
    intro k  c0 c1 c2
    rw [lH_tree_38]
    have g2 := bT_leaf hc t k c2 ⟨by omega, by omega⟩ 
    have hc3 : zC g (z_up γ 10 k (cT_leaf γ t k)) := zC_up hc (by decide) (by decide) (by decide) (show (-2147483648 : Int) ≤ (cT_leaf γ t k) by omega) (show (cT_leaf γ t k) ≤ (2147483647 : Int) by omega)
    exact ihw hc3   (k + 1)  (by omega) (by omega) c2
theorem kH_tree_38 {γ : z_Sg} (t h i : Int) (j : Nat) (k : Int) {c : Nat} (h0 : c ≠ 10) : lH_tree_38 γ t h i j k c = γ c := by
  induction j generalizing γ k with
  | zero => rfl
  | succ j ih => rw [lH_tree_38, ih, z_up_n h0]
def lH_tree_77 (γ : z_Sg) (t h i : Int) (j : Nat) (k : Int) : z_Sg := match j with
  | 0 => γ
  | j + 1 => lH_tree_77 (z_up γ 10 k (cH_mix γ (γ 10 (2 * k)) (γ 10 ((2 * k) + 1)))) t h i j (k + 1)
set_option maxRecDepth 100000 in
set_option maxHeartbeats 4000000 in
theorem eH_tree_77 {g : z_Gl} {γ ρ : z_Sg} {Q : Option Value → List va_E → Prop} (hc : zC g γ) (t h i : Int) (hp0 : z_rg t) (hp1 : z_rg h) (hp2 : z_rg i) : ∀ (j : Nat) (k : Int) (e : Int) (x4 : Value), 0 ≤ k → k + j = zshr 16 e → (1 ≤ e ∧ e ≤ 4) → (1 ≤ zshr 16 e ∧ zshr 16 e ≤ 8) → (∀ (y6 : Value), z_Ev mH_tree (6, 134) 0 0 123 [.ref (0), zi t, zi h, zi i, x4, zi e, y6] [] (zH g (lH_tree_77 γ t h i j k) ρ) Q) → z_Ev mH_tree (6, 134) 0 0 77 [.ref (0), zi t, zi h, zi i, x4, zi e, zi k] [] (zH g γ ρ) Q := by
  intro j
  induction j generalizing γ with
  | zero =>
    intro k e x4 c0 c1 c2 c3 hk
    refine ev_iload (q := 79) dH_tree_77 (by rfl) rfl ?_
    refine ev_bipush (v := iI 16) (q := 81) dH_tree_79 (by decide) rfl ?_
    refine ev_iload (q := 83) dH_tree_81 (by rfl) rfl ?_
    refine zr_ishr (q := 84) dH_tree_83 rfl ?_
    have g1 : z_rg (zshr 16 e) := iI_rg _
    have g2 := zshr_8 (h := e) ⟨by omega, by omega⟩
    refine zr_icmp_ge (t := 123) (q := 87) dH_tree_84 rfl rfl ⟨by omega, by omega⟩ ⟨by omega, by omega⟩ (fun h3 => ?_) (fun h3 => ?_)
    · exact hk _
    · exfalso
      omega
  | succ j ih =>
    intro k e x4 c0 c1 c2 c3 hk
    refine ev_iload (q := 79) dH_tree_77 (by rfl) rfl ?_
    refine ev_bipush (v := iI 16) (q := 81) dH_tree_79 (by decide) rfl ?_
    refine ev_iload (q := 83) dH_tree_81 (by rfl) rfl ?_
    refine zr_ishr (q := 84) dH_tree_83 rfl ?_
    have g1 : z_rg (zshr 16 e) := iI_rg _
    have g2 := zshr_8 (h := e) ⟨by omega, by omega⟩
    refine zr_icmp_ge (t := 123) (q := 87) dH_tree_84 rfl rfl ⟨by omega, by omega⟩ ⟨by omega, by omega⟩ (fun h3 => ?_) (fun h3 => ?_)
    · exfalso
      omega
    · refine ev_aload_n 0 (q := 88) dH_tree_87 rfl (by rfl) rfl ?_
      refine ev_get (q := 91) dH_tree_88 fH_42 at_H (by rfl) rfl ?_
      refine ev_iload (q := 93) dH_tree_91 (by rfl) rfl ?_
      refine ev_aload_n 0 (q := 94) dH_tree_93 rfl (by rfl) rfl ?_
      refine ev_get (q := 97) dH_tree_94 fH_42 at_H (by rfl) rfl ?_
      refine ev_iconst (v := iI 2) (q := 98) dH_tree_97 rfl rfl ?_
      refine ev_iload (q := 100) dH_tree_98 (by rfl) rfl ?_
      refine zr_imul (q := 101) dH_tree_100 rfl ?_
      refine zr_iald (q := 102) (g := γ 10) dH_tree_101 at_treeRow (by decide) ⟨by omega, by omega⟩ rfl ?_
      have g4 : -2147483648 ≤ γ 10 (2 * k) ∧ γ 10 (2 * k) ≤ 2147483647 := hc.1 10 (2 * k) (by decide)
      refine ev_aload_n 0 (q := 103) dH_tree_102 rfl (by rfl) rfl ?_
      refine ev_get (q := 106) dH_tree_103 fH_42 at_H (by rfl) rfl ?_
      refine ev_iconst (v := iI 2) (q := 107) dH_tree_106 rfl rfl ?_
      refine ev_iload (q := 109) dH_tree_107 (by rfl) rfl ?_
      refine zr_imul (q := 110) dH_tree_109 rfl ?_
      refine ev_iconst (v := iI 1) (q := 111) dH_tree_110 rfl rfl ?_
      refine zr_iadd (q := 112) dH_tree_111 rfl ?_
      refine zr_iald (q := 113) (g := γ 10) dH_tree_112 at_treeRow (by decide) ⟨by omega, by omega⟩ rfl ?_
      have g5 : -2147483648 ≤ γ 10 ((2 * k) + 1) ∧ γ 10 ((2 * k) + 1) ≤ 2147483647 := hc.1 10 ((2 * k) + 1) (by decide)
      refine cv_S (As := [_, _]) (q := 116) dH_tree_113 kH_215 rfl (Nat.le_of_ble_eq_true rfl) rfl rfl rfl (by decide) (sH_mix hc (γ 10 (2 * k)) (γ 10 ((2 * k) + 1)) ⟨by omega, by omega⟩ ⟨by omega, by omega⟩ ) ?_
      have g6 := bH_mix γ (γ 10 (2 * k)) (γ 10 ((2 * k) + 1))
      refine zr_iast (q := 117) dH_tree_116 at_treeRow (by decide) ⟨by omega, by omega⟩ ct_treeRow rfl ?_
      have hc7 : zC g (z_up γ 10 k (cH_mix γ (γ 10 (2 * k)) (γ 10 ((2 * k) + 1)))) := zC_up hc (by decide) (by decide) (by decide) (show (-2147483648 : Int) ≤ (cH_mix γ (γ 10 (2 * k)) (γ 10 ((2 * k) + 1))) by omega) (show (cH_mix γ (γ 10 (2 * k)) (γ 10 ((2 * k) + 1))) ≤ (2147483647 : Int) by omega)
      refine zr_iinc (q := 120) dH_tree_117 (by rfl) (by decide) rfl rfl ?_
      dsimp only [List.set]
      refine ev_goto (t := 77) (q := 77) dH_tree_120 rfl rfl ?_
      rw [show lH_tree_77 γ t h i (j + 1) k = lH_tree_77 (z_up γ 10 k (cH_mix γ (γ 10 (2 * k)) (γ 10 ((2 * k) + 1)))) t h i j (k + 1) from by rw [lH_tree_77]] at hk
      exact ih hc7   (k + 1) e x4 (by omega) (by omega) c2 c3 hk
set_option maxRecDepth 100000 in
set_option maxHeartbeats 4000000 in
theorem wlH_tree_77 {g : z_Gl} {γ : z_Sg} (hc : zC g γ) (t h i : Int) (hp0 : z_rg t) (hp1 : z_rg h) (hp2 : z_rg i) : ∀ (j : Nat) (k : Int) (e : Int), 0 ≤ k → k + j = zshr 16 e → (1 ≤ e ∧ e ≤ 4) → (1 ≤ zshr 16 e ∧ zshr 16 e ≤ 8) → zC g (lH_tree_77 γ t h i j k) := by
  intro j
  induction j generalizing γ with
  | zero =>
    intro k e c0 c1 c2 c3
    rw [lH_tree_77]
    have g1 : z_rg (zshr 16 e) := iI_rg _
    have g2 := zshr_8 (h := e) ⟨by omega, by omega⟩
    exact hc
  | succ j ihw =>
    intro k e c0 c1 c2 c3
    rw [lH_tree_77]
    have g1 : z_rg (zshr 16 e) := iI_rg _
    have g2 := zshr_8 (h := e) ⟨by omega, by omega⟩
    have g4 : -2147483648 ≤ γ 10 (2 * k) ∧ γ 10 (2 * k) ≤ 2147483647 := hc.1 10 (2 * k) (by decide)
    have g5 : -2147483648 ≤ γ 10 ((2 * k) + 1) ∧ γ 10 ((2 * k) + 1) ≤ 2147483647 := hc.1 10 ((2 * k) + 1) (by decide)
    have g6 := bH_mix γ (γ 10 (2 * k)) (γ 10 ((2 * k) + 1))
    have hc7 : zC g (z_up γ 10 k (cH_mix γ (γ 10 (2 * k)) (γ 10 ((2 * k) + 1)))) := zC_up hc (by decide) (by decide) (by decide) (show (-2147483648 : Int) ≤ (cH_mix γ (γ 10 (2 * k)) (γ 10 ((2 * k) + 1))) by omega) (show (cH_mix γ (γ 10 (2 * k)) (γ 10 ((2 * k) + 1))) ≤ (2147483647 : Int) by omega)
    exact ihw hc7   (k + 1) e (by omega) (by omega) c2 c3
theorem kH_tree_77 {γ : z_Sg} (t h i : Int) (j : Nat) (k : Int) {c : Nat} (h0 : c ≠ 10) : lH_tree_77 γ t h i j k c = γ c := by
  induction j generalizing γ k with
  | zero => rfl
  | succ j ih => rw [lH_tree_77, ih, z_up_n h0]
def lH_tree_68 (γ : z_Sg) (t h i : Int) (j : Nat) (e : Int) : z_Sg := match j with
  | 0 => γ
  | j + 1 => lH_tree_68 (lH_tree_77 γ t h i (zshr 16 e).toNat 0) t h i j (e + 1)
set_option maxRecDepth 100000 in
set_option maxHeartbeats 4000000 in
theorem eH_tree_68 {g : z_Gl} {γ ρ : z_Sg} {Q : Option Value → List va_E → Prop} (hc : zC g γ) (t h i : Int) (hp0 : z_rg t) (hp1 : z_rg h) (hp2 : z_rg i) : ∀ (j : Nat) (e : Int) (x6 : Value) (x4 : Value), 1 ≤ e → e + j = h + 1 → (0 ≤ h ∧ h ≤ 4) → (∀ (y5 y6 : Value), z_Ev mH_tree (6, 134) 0 0 129 [.ref (0), zi t, zi h, zi i, x4, y5, y6] [] (zH g (lH_tree_68 γ t h i j e) ρ) Q) → z_Ev mH_tree (6, 134) 0 0 68 [.ref (0), zi t, zi h, zi i, x4, zi e, x6] [] (zH g γ ρ) Q := by
  intro j
  induction j generalizing γ with
  | zero =>
    intro e  x6 x4 c0 c1 c2 hk
    refine ev_iload (q := 70) dH_tree_68 (by rfl) rfl ?_
    refine ev_iload_n 2 (q := 71) dH_tree_70 rfl (by rfl) rfl ?_
    refine zr_icmp_gt (t := 129) (q := 74) dH_tree_71 rfl rfl ⟨by omega, by omega⟩ ⟨by omega, by omega⟩ (fun h1 => ?_) (fun h1 => ?_)
    · exact hk _ _
    · exfalso
      omega
  | succ j ih =>
    intro e  x6 x4 c0 c1 c2 hk
    have z8 := zshr_8 (h := e) ⟨by omega, by omega⟩
    refine ev_iload (q := 70) dH_tree_68 (by rfl) rfl ?_
    refine ev_iload_n 2 (q := 71) dH_tree_70 rfl (by rfl) rfl ?_
    refine zr_icmp_gt (t := 129) (q := 74) dH_tree_71 rfl rfl ⟨by omega, by omega⟩ ⟨by omega, by omega⟩ (fun h1 => ?_) (fun h1 => ?_)
    · exfalso
      omega
    · refine ev_iconst (v := iI 0) (q := 75) dH_tree_74 rfl rfl ?_
      refine ev_istore (q := 77) dH_tree_75 (by decide) rfl rfl ?_
      dsimp only [List.set]
      refine eH_tree_77 hc t h i hp0 hp1 hp2 (zshr 16 e).toNat 0 e x4 (by omega) (by omega) ⟨by omega, by omega⟩ (zshr_8 ⟨by omega, by omega⟩) (fun y2 => ?_)
      have hw3 : zC g (lH_tree_77 γ t h i (zshr 16 e).toNat 0) := wlH_tree_77 hc t h i hp0 hp1 hp2 (zshr 16 e).toNat 0 e (by omega) (by omega) ⟨by omega, by omega⟩ (zshr_8 ⟨by omega, by omega⟩)
      refine zr_iinc (q := 126) dH_tree_123 (by rfl) (by decide) rfl rfl ?_
      dsimp only [List.set]
      refine ev_goto (t := 68) (q := 68) dH_tree_126 rfl rfl ?_
      rw [show lH_tree_68 γ t h i (j + 1) e = lH_tree_68 (lH_tree_77 γ t h i (zshr 16 e).toNat 0) t h i j (e + 1) from by rw [lH_tree_68]] at hk
      exact ih hw3   (e + 1)  y2 x4 (by omega) (by omega) (by omega) hk
set_option maxRecDepth 100000 in
set_option maxHeartbeats 4000000 in
theorem wlH_tree_68 {g : z_Gl} {γ : z_Sg} (hc : zC g γ) (t h i : Int) (hp0 : z_rg t) (hp1 : z_rg h) (hp2 : z_rg i) : ∀ (j : Nat) (e : Int), 1 ≤ e → e + j = h + 1 → (0 ≤ h ∧ h ≤ 4) → zC g (lH_tree_68 γ t h i j e) := by
  intro j
  induction j generalizing γ with
  | zero =>
    intro e  c0 c1 c2
    rw [lH_tree_68]
    exact hc
  | succ j ihw =>
    intro e  c0 c1 c2
    rw [lH_tree_68]
    have z8 := zshr_8 (h := e) ⟨by omega, by omega⟩
    have hw3 : zC g (lH_tree_77 γ t h i (zshr 16 e).toNat 0) := wlH_tree_77 hc t h i hp0 hp1 hp2 (zshr 16 e).toNat 0 e (by omega) (by omega) ⟨by omega, by omega⟩ (zshr_8 ⟨by omega, by omega⟩)
    exact ihw hw3   (e + 1)  (by omega) (by omega) (by omega)
theorem kH_tree_68 {γ : z_Sg} (t h i : Int) (j : Nat) (e : Int) {c : Nat} (h0 : c ≠ 10) : lH_tree_68 γ t h i j e c = γ c := by
  induction j generalizing γ e with
  | zero => rfl
  | succ j ih => rw [lH_tree_68, ih, kH_tree_77 _ _ _ _ _ h0]
def cH_tree (γ : z_Sg) (t h i : Int) : Int × z_Sg := if 0 ≤ t ∧ t < (γ 0 0) then if h < 0 then (0, γ) else if 4 < h then (0, γ) else if i < 0 then (0, γ) else if i < (zshr 16 h) then (((lH_tree_68 (lH_tree_38 γ t h i 16 0) t h i h.toNat 1) 10 i), (lH_tree_68 (lH_tree_38 γ t h i 16 0) t h i h.toNat 1)) else (0, γ) else (0, γ)
set_option maxRecDepth 100000 in
set_option maxHeartbeats 4000000 in
theorem sH_tree {g : z_Gl} {γ ρ : z_Sg} (hc : zC g γ) (t h i : Int) (hp0 : z_rg t) (hp1 : z_rg h) (hp2 : z_rg i) : z_Sp mH_tree (6, 134) 0 0 [.ref (0), zi t, zi h, zi i] (zH g γ ρ) (fun r M' => r = some (zi (cH_tree γ t h i).1) ∧ M' = zH g (cH_tree γ t h i).2 ρ) := by
  refine z_Sp_of (L := [.ref (0), zi t, zi h, zi i, .float 0, .float 0, .float 0]) (by decide) rfl rfl rfl (Nat.le_of_ble_eq_true rfl) ?_
  have g0 : 0 ≤ γ 0 0 ∧ γ 0 0 ≤ 20 := hc.1 0 0 (by decide)
  refine ev_aload_n 0 (q := 1) dH_tree_0 rfl (by rfl) rfl ?_
  refine ev_iload_n 1 (q := 2) dH_tree_1 rfl (by rfl) rfl ?_
  by_cases h1 : 0 ≤ t ∧ t < (γ 0 0)
  · refine cv_V (As := [_]) (q := 5) dH_tree_2 kH_60 at_H rfl rfl (Nat.le_of_ble_eq_true rfl) rfl rfl rfl (by decide) (sH_find_s hc t  h1) ?_
    refine ev_astore (q := 7) dH_tree_5 (by decide) rfl rfl ?_
    dsimp only [List.set]
    refine ev_aload (q := 9) dH_tree_7 (by rfl) rfl ?_
    refine ev_ifnull (q := 12) dH_tree_9 rfl ?_
    refine ev_iload_n 2 (q := 13) dH_tree_12 rfl (by rfl) rfl ?_
    refine zr_if_lt (t := 33) (q := 16) dH_tree_13 rfl rfl ⟨by omega, by omega⟩ (fun h2 => ?_) (fun h2 => ?_)
    · refine ev_iconst (v := iI 0) (q := 34) dH_tree_33 rfl rfl ?_
      exact zr_iret dH_tree_34 rfl ⟨by rw [cH_tree, if_pos h1, if_pos h2], by rw [cH_tree, if_pos h1, if_pos h2]⟩
    · refine ev_iload_n 2 (q := 17) dH_tree_16 rfl (by rfl) rfl ?_
      refine ev_iconst (v := iI 4) (q := 18) dH_tree_17 rfl rfl ?_
      refine zr_icmp_gt (t := 33) (q := 21) dH_tree_18 rfl rfl ⟨by omega, by omega⟩ ⟨by omega, by omega⟩ (fun h3 => ?_) (fun h3 => ?_)
      · refine ev_iconst (v := iI 0) (q := 34) dH_tree_33 rfl rfl ?_
        exact zr_iret dH_tree_34 rfl ⟨by rw [cH_tree, if_pos h1, if_neg (Int.not_lt.mpr h2), if_pos h3], by rw [cH_tree, if_pos h1, if_neg (Int.not_lt.mpr h2), if_pos h3]⟩
      · refine ev_iload_n 3 (q := 22) dH_tree_21 rfl (by rfl) rfl ?_
        refine zr_if_lt (t := 33) (q := 25) dH_tree_22 rfl rfl ⟨by omega, by omega⟩ (fun h4 => ?_) (fun h4 => ?_)
        · refine ev_iconst (v := iI 0) (q := 34) dH_tree_33 rfl rfl ?_
          exact zr_iret dH_tree_34 rfl ⟨by rw [cH_tree, if_pos h1, if_neg (Int.not_lt.mpr h2), if_neg (Int.not_lt.mpr h3), if_pos h4], by rw [cH_tree, if_pos h1, if_neg (Int.not_lt.mpr h2), if_neg (Int.not_lt.mpr h3), if_pos h4]⟩
        · refine ev_iload_n 3 (q := 26) dH_tree_25 rfl (by rfl) rfl ?_
          refine ev_bipush (v := iI 16) (q := 28) dH_tree_26 (by decide) rfl ?_
          refine ev_iload_n 2 (q := 29) dH_tree_28 rfl (by rfl) rfl ?_
          refine zr_ishr (q := 30) dH_tree_29 rfl ?_
          have g5 : z_rg (zshr 16 h) := iI_rg _
          have g6 := zshr_16 (h := h) ⟨by omega, by omega⟩
          refine zr_icmp_lt (t := 35) (q := 33) dH_tree_30 rfl rfl ⟨by omega, by omega⟩ ⟨by omega, by omega⟩ (fun h7 => ?_) (fun h7 => ?_)
          · refine ev_iconst (v := iI 0) (q := 36) dH_tree_35 rfl rfl ?_
            refine ev_istore (q := 38) dH_tree_36 (by decide) rfl rfl ?_
            dsimp only [List.set]
            refine eH_tree_38 hc t h i hp0 hp1 hp2 16 0   (by omega) (by omega) ⟨by omega, by omega⟩ (fun y8 => ?_)
            have hw9 : zC g (lH_tree_38 γ t h i 16 0) := wlH_tree_38 hc t h i hp0 hp1 hp2 16 0  (by omega) (by omega) ⟨by omega, by omega⟩
            refine ev_iconst (v := iI 1) (q := 66) dH_tree_65 rfl rfl ?_
            refine ev_istore (q := 68) dH_tree_66 (by decide) rfl rfl ?_
            dsimp only [List.set]
            refine eH_tree_68 hw9 t h i hp0 hp1 hp2 h.toNat 1  (.float 0) (.ref (g.1 t)) (by omega) (by omega) (by omega) (fun y10 y11 => ?_)
            have hw12 : zC g (lH_tree_68 (lH_tree_38 γ t h i 16 0) t h i h.toNat 1) := wlH_tree_68 hw9 t h i hp0 hp1 hp2 h.toNat 1  (by omega) (by omega) (by omega)
            refine ev_aload_n 0 (q := 130) dH_tree_129 rfl (by rfl) rfl ?_
            refine ev_get (q := 133) dH_tree_130 fH_42 at_H (by rfl) rfl ?_
            refine ev_iload_n 3 (q := 134) dH_tree_133 rfl (by rfl) rfl ?_
            refine zr_iald (q := 135) (g := (lH_tree_68 (lH_tree_38 γ t h i 16 0) t h i h.toNat 1) 10) dH_tree_134 at_treeRow (by decide) ⟨by omega, by omega⟩ rfl ?_
            have g13 : -2147483648 ≤ (lH_tree_68 (lH_tree_38 γ t h i 16 0) t h i h.toNat 1) 10 i ∧ (lH_tree_68 (lH_tree_38 γ t h i 16 0) t h i h.toNat 1) 10 i ≤ 2147483647 := hw12.1 10 i (by decide)
            exact zr_iret dH_tree_135 rfl ⟨by rw [cH_tree, if_pos h1, if_neg (Int.not_lt.mpr h2), if_neg (Int.not_lt.mpr h3), if_neg (Int.not_lt.mpr h4), if_pos h7], by rw [cH_tree, if_pos h1, if_neg (Int.not_lt.mpr h2), if_neg (Int.not_lt.mpr h3), if_neg (Int.not_lt.mpr h4), if_pos h7]⟩
          · refine ev_iconst (v := iI 0) (q := 34) dH_tree_33 rfl rfl ?_
            exact zr_iret dH_tree_34 rfl ⟨by rw [cH_tree, if_pos h1, if_neg (Int.not_lt.mpr h2), if_neg (Int.not_lt.mpr h3), if_neg (Int.not_lt.mpr h4), if_neg (Int.not_lt.mpr h7)], by rw [cH_tree, if_pos h1, if_neg (Int.not_lt.mpr h2), if_neg (Int.not_lt.mpr h3), if_neg (Int.not_lt.mpr h4), if_neg (Int.not_lt.mpr h7)]⟩
  · refine cv_V (As := [_]) (q := 5) dH_tree_2 kH_60 at_H rfl rfl (Nat.le_of_ble_eq_true rfl) rfl rfl rfl (by decide) (sH_find_n hc t ⟨by omega, by omega⟩ h1) ?_
    refine ev_astoreN (q := 7) dH_tree_5 (by decide) rfl rfl ?_
    dsimp only [List.set]
    refine ev_aloadN (q := 9) dH_tree_7 (by rfl) rfl ?_
    refine ev_ifnullN (t := 33) (q := 33) dH_tree_9 rfl rfl ?_
    refine ev_iconst (v := iI 0) (q := 34) dH_tree_33 rfl rfl ?_
    exact zr_iret dH_tree_34 rfl ⟨by rw [cH_tree, if_neg h1], by rw [cH_tree, if_neg h1]⟩
set_option maxRecDepth 100000 in
set_option maxHeartbeats 4000000 in
theorem wH_tree {g : z_Gl} {γ : z_Sg} (hc : zC g γ) (t h i : Int) (hp0 : z_rg t) (hp1 : z_rg h) (hp2 : z_rg i) : zC g (cH_tree γ t h i).2 := by
  rw [cH_tree]
  by_cases h1 : 0 ≤ t ∧ t < (γ 0 0)
  · rw [if_pos h1]
    by_cases h2 : h < 0
    · rw [if_pos h2]
      exact hc
    · rw [if_neg h2]
      by_cases h3 : 4 < h
      · rw [if_pos h3]
        exact hc
      · rw [if_neg h3]
        by_cases h4 : i < 0
        · rw [if_pos h4]
          exact hc
        · rw [if_neg h4]
          have g5 : z_rg (zshr 16 h) := iI_rg _
          have g6 := zshr_16 (h := h) ⟨by omega, by omega⟩
          by_cases h7 : i < (zshr 16 h)
          · rw [if_pos h7]
            have hw9 : zC g (lH_tree_38 γ t h i 16 0) := wlH_tree_38 hc t h i hp0 hp1 hp2 16 0  (by omega) (by omega) ⟨by omega, by omega⟩
            have hw12 : zC g (lH_tree_68 (lH_tree_38 γ t h i 16 0) t h i h.toNat 1) := wlH_tree_68 hw9 t h i hp0 hp1 hp2 h.toNat 1  (by omega) (by omega) (by omega)
            have g13 : -2147483648 ≤ (lH_tree_68 (lH_tree_38 γ t h i 16 0) t h i h.toNat 1) 10 i ∧ (lH_tree_68 (lH_tree_38 γ t h i 16 0) t h i h.toNat 1) 10 i ≤ 2147483647 := hw12.1 10 i (by decide)
            exact hw12
          · rw [if_neg h7]
            exact hc
  · rw [if_neg h1]
    exact hc

theorem kH_tree {γ : z_Sg} (t h i : Int) {c : Nat} (h0 : c ≠ 10) : (cH_tree γ t h i).2 c = γ c := by
  unfold cH_tree
  repeat' split
  all_goals first | rfl | (simp only [z_up_n h0, kH_tree_68 _ _ _ _ _ h0, kH_tree_38 _ _ _ _ _ h0])
