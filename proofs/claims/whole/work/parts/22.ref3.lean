def lR_inVault_44 (ρ : z_Sg) (node s : Int) : Nat → Int → Int
  | 0, k => 1
  | j + 1, k => if (ρ 18 ((20 * node) + k)) ≤ 0 then lR_inVault_44 ρ node s j (k + 1) else if (rR_isInput ρ k s) = 0 then lR_inVault_44 ρ node s j (k + 1) else 0
theorem blR_inVault_44 (ρ : z_Sg) (node s : Int) : ∀ (j : Nat) (k : Int), lR_inVault_44 ρ node s j k = 0 ∨ lR_inVault_44 ρ node s j k = 1 := by
  intro j
  induction j with
  | zero =>
    intro k
    rw [lR_inVault_44]
    repeat' split
    all_goals first | exact Or.inl rfl | exact Or.inr rfl
  | succ j ih =>
    intro k
    rw [lR_inVault_44]
    repeat' split
    all_goals first | exact Or.inl rfl | exact Or.inr rfl | exact ih _
set_option maxRecDepth 100000 in
set_option maxHeartbeats 4000000 in
theorem eR_inVault_44 {κ ρ : z_Sg} {a : Int → Nat} {B : List va_E} (hw : z_wf ρ) (node s : Int) (hp0 : 0 ≤ node ∧ node ≤ 3) (hp1 : 0 ≤ s ∧ s ≤ 79) : ∀ (j : Nat) (k : Int), 0 ≤ k → k + j = ρ 0 0 → z_Ev mR_inVault (2, 43) 0 0 44 [.ref 12, zi node, zi s, zi (s / 4), zi k] [] (zM κ a ρ B) (fun r M' => r = some (zi (lR_inVault_44 ρ node s j k)) ∧ M' = zM κ a ρ B) := by
  intro j
  induction j with
  | zero =>
    intro k  c0 c1
    refine ev_iload (q := 46) dR_inVault_44 (by rfl) rfl ?_
    refine ev_aload_n 0 (q := 47) dR_inVault_46 rfl (by rfl) rfl ?_
    refine ev_get (q := 50) (v := zi (ρ 0 0)) dR_inVault_47 fR_83 atR rfl rfl ?_
    have g1 : 0 ≤ ρ 0 0 ∧ ρ 0 0 ≤ 20 := hw 0 0 (by decide)
    refine zr_icmp_ge (t := 86) (q := 53) dR_inVault_50 rfl rfl ⟨by omega, by omega⟩ ⟨by omega, by omega⟩ (fun h2 => ?_) (fun h2 => ?_)
    · refine ev_iconst (v := iI 1) (q := 87) dR_inVault_86 rfl rfl ?_
      exact zr_zret dR_inVault_87 rfl (by omega) ⟨by rw [lR_inVault_44], rfl⟩
    · exfalso
      omega
  | succ j ih =>
    intro k  c0 c1
    refine ev_iload (q := 46) dR_inVault_44 (by rfl) rfl ?_
    refine ev_aload_n 0 (q := 47) dR_inVault_46 rfl (by rfl) rfl ?_
    refine ev_get (q := 50) (v := zi (ρ 0 0)) dR_inVault_47 fR_83 atR rfl rfl ?_
    have g1 : 0 ≤ ρ 0 0 ∧ ρ 0 0 ≤ 20 := hw 0 0 (by decide)
    refine zr_icmp_ge (t := 86) (q := 53) dR_inVault_50 rfl rfl ⟨by omega, by omega⟩ ⟨by omega, by omega⟩ (fun h2 => ?_) (fun h2 => ?_)
    · exfalso
      omega
    · refine ev_aload_n 0 (q := 54) dR_inVault_53 rfl (by rfl) rfl ?_
      refine ev_get (q := 57) dR_inVault_54 fR_62 atR (by rfl) rfl ?_
      refine ev_bipush (v := iI 20) (q := 59) dR_inVault_57 (by decide) rfl ?_
      refine ev_iload_n 1 (q := 60) dR_inVault_59 rfl (by rfl) rfl ?_
      refine zr_imul (q := 61) dR_inVault_60 rfl ?_
      refine ev_iload (q := 63) dR_inVault_61 (by rfl) rfl ?_
      refine zr_iadd (q := 64) dR_inVault_63 rfl ?_
      refine zr_iald (q := 65) (g := ρ 18) dR_inVault_64 at_knows (by decide) ⟨by omega, by omega⟩ rfl ?_
      have g3 : 0 ≤ ρ 18 ((20 * node) + k) ∧ ρ 18 ((20 * node) + k) ≤ 2 := hw 18 ((20 * node) + k) (by decide)
      refine zr_if_le (t := 80) (q := 68) dR_inVault_65 rfl rfl ⟨by omega, by omega⟩ (fun h4 => ?_) (fun h4 => ?_)
      · refine zr_iinc (q := 83) dR_inVault_80 (by rfl) (by decide) rfl rfl ?_
        dsimp only [List.set]
        refine ev_goto (t := 44) (q := 44) dR_inVault_83 rfl rfl ?_
        rw [show lR_inVault_44 ρ node s (j + 1) k = lR_inVault_44 ρ node s j (k + 1) from by rw [lR_inVault_44, if_pos h4]]
        exact ih (k + 1)  (by omega) (by omega)
      · refine ev_aload_n 0 (q := 69) dR_inVault_68 rfl (by rfl) rfl ?_
        refine ev_iload (q := 71) dR_inVault_69 (by rfl) rfl ?_
        refine ev_iload_n 2 (q := 72) dR_inVault_71 rfl (by rfl) rfl ?_
        refine cv_V (As := [_, _]) (q := 75) dR_inVault_72 kR_99 atR rfl rfl (Nat.le_of_ble_eq_true rfl) rfl rfl rfl (by decide) (sR_isInput hw k s ⟨by omega, by omega⟩ ⟨by omega, by omega⟩ ) ?_
        have g5 : (rR_isInput ρ k s) = 0 ∨ (rR_isInput ρ k s) = 1 := bR_isInput _ _ _
        refine zr_if_eq (t := 80) (q := 78) dR_inVault_75 rfl rfl ⟨by omega, by omega⟩ (fun h6 => ?_) (fun h6 => ?_)
        · refine zr_iinc (q := 83) dR_inVault_80 (by rfl) (by decide) rfl rfl ?_
          dsimp only [List.set]
          refine ev_goto (t := 44) (q := 44) dR_inVault_83 rfl rfl ?_
          rw [show lR_inVault_44 ρ node s (j + 1) k = lR_inVault_44 ρ node s j (k + 1) from by rw [lR_inVault_44, if_neg (Int.not_le.mpr h4), if_pos h6]]
          exact ih (k + 1)  (by omega) (by omega)
        · refine ev_iconst (v := iI 0) (q := 79) dR_inVault_78 rfl rfl ?_
          exact zr_zret dR_inVault_79 rfl (by omega) ⟨by rw [lR_inVault_44, if_neg (Int.not_le.mpr h4), if_neg h6], rfl⟩
def rR_inVault (ρ : z_Sg) (node s : Int) : Int := if (rR_isState ρ (s / 4) (s % 4)) = 0 then 0 else if (ρ 18 ((20 * node) + (s / 4))) ≠ 2 then 0 else if (rR_concerns ρ s node) ≠ 0 then lR_inVault_44 ρ node s (ρ 0 0).toNat 0 else 0
theorem bR_inVault (ρ : z_Sg) (node s : Int) : rR_inVault ρ node s = 0 ∨ rR_inVault ρ node s = 1 := by
  unfold rR_inVault
  repeat' split
  all_goals first | exact Or.inl rfl | exact Or.inr rfl | exact blR_inVault_44 _ _ _ _ _
set_option maxRecDepth 100000 in
set_option maxHeartbeats 4000000 in
theorem sR_inVault {κ ρ : z_Sg} {a : Int → Nat} {B : List va_E} (hw : z_wf ρ) (node s : Int) (hp0 : 0 ≤ node ∧ node ≤ 3) (hp1 : 0 ≤ s ∧ s ≤ 79) : z_Sp mR_inVault (2, 43) 0 0 [.ref 12, zi node, zi s] (zM κ a ρ B) (fun r M' => r = some (zi (rR_inVault ρ node s)) ∧ M' = zM κ a ρ B) := by
  refine z_Sp_of (L := [.ref 12, zi node, zi s, .float 0, .float 0]) (by decide) rfl rfl rfl (Nat.le_of_ble_eq_true rfl) ?_
  refine ev_iload_n 2 (q := 1) dR_inVault_0 rfl (by rfl) rfl ?_
  refine ev_iconst (v := iI 4) (q := 2) dR_inVault_1 rfl rfl ?_
  refine zr_idiv (q := 3) dR_inVault_2 ⟨by omega, by omega⟩ ⟨by omega, by omega⟩ rfl ?_
  refine ev_istore_n 3 (q := 4) dR_inVault_3 rfl (by decide) rfl rfl ?_
  dsimp only [List.set]
  refine ev_aload_n 0 (q := 5) dR_inVault_4 rfl (by rfl) rfl ?_
  refine ev_iload_n 3 (q := 6) dR_inVault_5 rfl (by rfl) rfl ?_
  refine ev_iload_n 2 (q := 7) dR_inVault_6 rfl (by rfl) rfl ?_
  refine ev_iconst (v := iI 4) (q := 8) dR_inVault_7 rfl rfl ?_
  refine zr_irem (q := 9) dR_inVault_8 ⟨by omega, by omega⟩ ⟨by omega, by omega⟩ rfl ?_
  refine cv_V (As := [_, _]) (q := 12) dR_inVault_9 kR_95 atR rfl rfl (Nat.le_of_ble_eq_true rfl) rfl rfl rfl (by decide) (sR_isState hw (s / 4) (s % 4) ⟨by omega, by omega⟩ ⟨by omega, by omega⟩ ) ?_
  have g1 : (rR_isState ρ (s / 4) (s % 4)) = 0 ∨ (rR_isState ρ (s / 4) (s % 4)) = 1 := bR_isState _ _ _
  refine zr_if_eq (t := 39) (q := 15) dR_inVault_12 rfl rfl ⟨by omega, by omega⟩ (fun h2 => ?_) (fun h2 => ?_)
  · refine ev_iconst (v := iI 0) (q := 40) dR_inVault_39 rfl rfl ?_
    exact zr_zret dR_inVault_40 rfl (by omega) ⟨by rw [rR_inVault, if_pos h2], rfl⟩
  · have f8 := tR_isState hw h2
    refine ev_aload_n 0 (q := 16) dR_inVault_15 rfl (by rfl) rfl ?_
    refine ev_get (q := 19) dR_inVault_16 fR_62 atR (by rfl) rfl ?_
    refine ev_bipush (v := iI 20) (q := 21) dR_inVault_19 (by decide) rfl ?_
    refine ev_iload_n 1 (q := 22) dR_inVault_21 rfl (by rfl) rfl ?_
    refine zr_imul (q := 23) dR_inVault_22 rfl ?_
    refine ev_iload_n 3 (q := 24) dR_inVault_23 rfl (by rfl) rfl ?_
    refine zr_iadd (q := 25) dR_inVault_24 rfl ?_
    refine zr_iald (q := 26) (g := ρ 18) dR_inVault_25 at_knows (by decide) ⟨by omega, by omega⟩ rfl ?_
    have g3 : 0 ≤ ρ 18 ((20 * node) + (s / 4)) ∧ ρ 18 ((20 * node) + (s / 4)) ≤ 2 := hw 18 ((20 * node) + (s / 4)) (by decide)
    refine ev_iconst (v := iI 2) (q := 27) dR_inVault_26 rfl rfl ?_
    refine zr_icmp_ne (t := 39) (q := 30) dR_inVault_27 rfl rfl ⟨by omega, by omega⟩ ⟨by omega, by omega⟩ (fun h4 => ?_) (fun h4 => ?_)
    · refine ev_iconst (v := iI 0) (q := 40) dR_inVault_39 rfl rfl ?_
      exact zr_zret dR_inVault_40 rfl (by omega) ⟨by rw [rR_inVault, if_neg h2, if_pos h4], rfl⟩
    · refine ev_aload_n 0 (q := 31) dR_inVault_30 rfl (by rfl) rfl ?_
      refine ev_iload_n 2 (q := 32) dR_inVault_31 rfl (by rfl) rfl ?_
      refine ev_iload_n 1 (q := 33) dR_inVault_32 rfl (by rfl) rfl ?_
      refine cv_V (As := [_, _]) (q := 36) dR_inVault_33 kR_110 atR rfl rfl (Nat.le_of_ble_eq_true rfl) rfl rfl rfl (by decide) (sR_concerns hw s node ⟨by omega, by omega⟩ ⟨by omega, by omega⟩ ) ?_
      have g5 : (rR_concerns ρ s node) = 0 ∨ (rR_concerns ρ s node) = 1 := bR_concerns _ _ _
      refine zr_if_ne (t := 41) (q := 39) dR_inVault_36 rfl rfl ⟨by omega, by omega⟩ (fun h6 => ?_) (fun h6 => ?_)
      · refine ev_iconst (v := iI 0) (q := 42) dR_inVault_41 rfl rfl ?_
        refine ev_istore (q := 44) dR_inVault_42 (by decide) rfl rfl ?_
        dsimp only [List.set]
        have g7 : 0 ≤ ρ 0 0 ∧ ρ 0 0 ≤ 20 := hw 0 0 (by decide)
        rw [show rR_inVault ρ node s = lR_inVault_44 ρ node s (ρ 0 0).toNat 0 from by rw [rR_inVault, if_neg h2, if_neg (fun z => z h4), if_pos h6]]
        exact eR_inVault_44 hw node s hp0 hp1 (ρ 0 0).toNat 0  (by omega) (by omega)
      · refine ev_iconst (v := iI 0) (q := 40) dR_inVault_39 rfl rfl ?_
        exact zr_zret dR_inVault_40 rfl (by omega) ⟨by rw [rR_inVault, if_neg h2, if_neg (fun z => z h4), if_neg (fun z => z h6)], rfl⟩

def lR_held_2 (ρ : z_Sg) (node s : Int) : Nat → Int → Int
  | 0, k => 0
  | j + 1, k => if (ρ 1 k) ≠ node then lR_held_2 ρ node s j (k + 1) else if 2 < (ρ 5 k) then lR_held_2 ρ node s j (k + 1) else if (rR_isInput ρ k s) = 0 then lR_held_2 ρ node s j (k + 1) else 1
theorem blR_held_2 (ρ : z_Sg) (node s : Int) : ∀ (j : Nat) (k : Int), lR_held_2 ρ node s j k = 0 ∨ lR_held_2 ρ node s j k = 1 := by
  intro j
  induction j with
  | zero =>
    intro k
    rw [lR_held_2]
    repeat' split
    all_goals first | exact Or.inl rfl | exact Or.inr rfl
  | succ j ih =>
    intro k
    rw [lR_held_2]
    repeat' split
    all_goals first | exact Or.inl rfl | exact Or.inr rfl | exact ih _
set_option maxRecDepth 100000 in
set_option maxHeartbeats 4000000 in
theorem eR_held_2 {κ ρ : z_Sg} {a : Int → Nat} {B : List va_E} (hw : z_wf ρ) (node s : Int) (hp0 : z_rg node) (hp1 : z_rg s) : ∀ (j : Nat) (k : Int), 0 ≤ k → k + j = ρ 0 0 → z_Ev mR_held (1, 23) 0 0 2 [.ref 12, zi node, zi s, zi k] [] (zM κ a ρ B) (fun r M' => r = some (zi (lR_held_2 ρ node s j k)) ∧ M' = zM κ a ρ B) := by
  intro j
  induction j with
  | zero =>
    intro k  c0 c1
    refine ev_iload_n 3 (q := 3) dR_held_2 rfl (by rfl) rfl ?_
    refine ev_aload_n 0 (q := 4) dR_held_3 rfl (by rfl) rfl ?_
    refine ev_get (q := 7) (v := zi (ρ 0 0)) dR_held_4 fR_83 atR rfl rfl ?_
    have g1 : 0 ≤ ρ 0 0 ∧ ρ 0 0 ≤ 20 := hw 0 0 (by decide)
    refine zr_icmp_ge (t := 47) (q := 10) dR_held_7 rfl rfl ⟨by omega, by omega⟩ ⟨by omega, by omega⟩ (fun h2 => ?_) (fun h2 => ?_)
    · refine ev_iconst (v := iI 0) (q := 48) dR_held_47 rfl rfl ?_
      exact zr_zret dR_held_48 rfl (by omega) ⟨by rw [lR_held_2], rfl⟩
    · exfalso
      omega
  | succ j ih =>
    intro k  c0 c1
    refine ev_iload_n 3 (q := 3) dR_held_2 rfl (by rfl) rfl ?_
    refine ev_aload_n 0 (q := 4) dR_held_3 rfl (by rfl) rfl ?_
    refine ev_get (q := 7) (v := zi (ρ 0 0)) dR_held_4 fR_83 atR rfl rfl ?_
    have g1 : 0 ≤ ρ 0 0 ∧ ρ 0 0 ≤ 20 := hw 0 0 (by decide)
    refine zr_icmp_ge (t := 47) (q := 10) dR_held_7 rfl rfl ⟨by omega, by omega⟩ ⟨by omega, by omega⟩ (fun h2 => ?_) (fun h2 => ?_)
    · exfalso
      omega
    · refine ev_aload_n 0 (q := 11) dR_held_10 rfl (by rfl) rfl ?_
      refine ev_get (q := 14) dR_held_11 fR_7 atR (by rfl) rfl ?_
      refine ev_iload_n 3 (q := 15) dR_held_14 rfl (by rfl) rfl ?_
      refine zr_iald (q := 16) (g := ρ 1) dR_held_15 at_begunBy (by decide) ⟨by omega, by omega⟩ rfl ?_
      have g3 : 0 ≤ ρ 1 k ∧ ρ 1 k ≤ 3 := hw 1 k (by decide)
      refine ev_iload_n 1 (q := 17) dR_held_16 rfl (by rfl) rfl ?_
      refine zr_icmp_ne (t := 41) (q := 20) dR_held_17 rfl rfl ⟨by omega, by omega⟩ ⟨by omega, by omega⟩ (fun h4 => ?_) (fun h4 => ?_)
      · refine zr_iinc (q := 44) dR_held_41 (by rfl) (by decide) rfl rfl ?_
        dsimp only [List.set]
        refine ev_goto (t := 2) (q := 2) dR_held_44 rfl rfl ?_
        rw [show lR_held_2 ρ node s (j + 1) k = lR_held_2 ρ node s j (k + 1) from by rw [lR_held_2, if_pos h4]]
        exact ih (k + 1)  (by omega) (by omega)
      · refine ev_aload_n 0 (q := 21) dR_held_20 rfl (by rfl) rfl ?_
        refine ev_get (q := 24) dR_held_21 fR_22 atR (by rfl) rfl ?_
        refine ev_iload_n 3 (q := 25) dR_held_24 rfl (by rfl) rfl ?_
        refine zr_iald (q := 26) (g := ρ 5) dR_held_25 at_stageOf (by decide) ⟨by omega, by omega⟩ rfl ?_
        have g5 : 0 ≤ ρ 5 k ∧ ρ 5 k ≤ 9 := hw 5 k (by decide)
        refine ev_iconst (v := iI 2) (q := 27) dR_held_26 rfl rfl ?_
        refine zr_icmp_gt (t := 41) (q := 30) dR_held_27 rfl rfl ⟨by omega, by omega⟩ ⟨by omega, by omega⟩ (fun h6 => ?_) (fun h6 => ?_)
        · refine zr_iinc (q := 44) dR_held_41 (by rfl) (by decide) rfl rfl ?_
          dsimp only [List.set]
          refine ev_goto (t := 2) (q := 2) dR_held_44 rfl rfl ?_
          rw [show lR_held_2 ρ node s (j + 1) k = lR_held_2 ρ node s j (k + 1) from by rw [lR_held_2, if_neg (fun z => z h4), if_pos h6]]
          exact ih (k + 1)  (by omega) (by omega)
        · refine ev_aload_n 0 (q := 31) dR_held_30 rfl (by rfl) rfl ?_
          refine ev_iload_n 3 (q := 32) dR_held_31 rfl (by rfl) rfl ?_
          refine ev_iload_n 2 (q := 33) dR_held_32 rfl (by rfl) rfl ?_
          refine cv_V (As := [_, _]) (q := 36) dR_held_33 kR_99 atR rfl rfl (Nat.le_of_ble_eq_true rfl) rfl rfl rfl (by decide) (sR_isInput hw k s ⟨by omega, by omega⟩ ⟨by omega, by omega⟩ ) ?_
          have g7 : (rR_isInput ρ k s) = 0 ∨ (rR_isInput ρ k s) = 1 := bR_isInput _ _ _
          refine zr_if_eq (t := 41) (q := 39) dR_held_36 rfl rfl ⟨by omega, by omega⟩ (fun h8 => ?_) (fun h8 => ?_)
          · refine zr_iinc (q := 44) dR_held_41 (by rfl) (by decide) rfl rfl ?_
            dsimp only [List.set]
            refine ev_goto (t := 2) (q := 2) dR_held_44 rfl rfl ?_
            rw [show lR_held_2 ρ node s (j + 1) k = lR_held_2 ρ node s j (k + 1) from by rw [lR_held_2, if_neg (fun z => z h4), if_neg (Int.not_lt.mpr h6), if_pos h8]]
            exact ih (k + 1)  (by omega) (by omega)
          · refine ev_iconst (v := iI 1) (q := 40) dR_held_39 rfl rfl ?_
            exact zr_zret dR_held_40 rfl (by omega) ⟨by rw [lR_held_2, if_neg (fun z => z h4), if_neg (Int.not_lt.mpr h6), if_neg h8], rfl⟩
def rR_held (ρ : z_Sg) (node s : Int) : Int := lR_held_2 ρ node s (ρ 0 0).toNat 0
theorem bR_held (ρ : z_Sg) (node s : Int) : rR_held ρ node s = 0 ∨ rR_held ρ node s = 1 := by
  unfold rR_held
  repeat' split
  all_goals first | exact Or.inl rfl | exact Or.inr rfl | exact blR_held_2 _ _ _ _ _
set_option maxRecDepth 100000 in
set_option maxHeartbeats 4000000 in
theorem sR_held {κ ρ : z_Sg} {a : Int → Nat} {B : List va_E} (hw : z_wf ρ) (node s : Int) (hp0 : z_rg node) (hp1 : z_rg s) : z_Sp mR_held (1, 23) 0 0 [.ref 12, zi node, zi s] (zM κ a ρ B) (fun r M' => r = some (zi (rR_held ρ node s)) ∧ M' = zM κ a ρ B) := by
  refine z_Sp_of (L := [.ref 12, zi node, zi s, .float 0]) (by decide) rfl rfl rfl (Nat.le_of_ble_eq_true rfl) ?_
  refine ev_iconst (v := iI 0) (q := 1) dR_held_0 rfl rfl ?_
  refine ev_istore_n 3 (q := 2) dR_held_1 rfl (by decide) rfl rfl ?_
  dsimp only [List.set]
  have g1 : 0 ≤ ρ 0 0 ∧ ρ 0 0 ≤ 20 := hw 0 0 (by decide)
  rw [show rR_held ρ node s = lR_held_2 ρ node s (ρ 0 0).toNat 0 from by rw [rR_held]]
  exact eR_held_2 hw node s hp0 hp1 (ρ 0 0).toNat 0  (by omega) (by omega)

def rR_coin (ρ : z_Sg) (t iss s : Int) : Int := if (rR_inVault ρ (ρ 1 t) s) = 0 then 0 else if (ρ 12 s) ≠ 0 then 0 else if (ρ 13 s) ≠ iss then 0 else if (ρ 16 s) ≠ (-1) then 0 else if (ρ 2 (s / 4)) ≠ (ρ 2 t) then 0 else if (rR_held ρ (ρ 1 t) s) ≠ 0 then 0 else 1
theorem bR_coin (ρ : z_Sg) (t iss s : Int) : rR_coin ρ t iss s = 0 ∨ rR_coin ρ t iss s = 1 := by
  unfold rR_coin
  repeat' split
  all_goals first | exact Or.inl rfl | exact Or.inr rfl
set_option maxRecDepth 100000 in
set_option maxHeartbeats 4000000 in
theorem sR_coin {κ ρ : z_Sg} {a : Int → Nat} {B : List va_E} (hw : z_wf ρ) (t iss s : Int) (hp0 : 0 ≤ t ∧ t ≤ 19) (hp1 : z_rg iss) (hp2 : 0 ≤ s ∧ s ≤ 79) : z_Sp mR_coin (3, 67) 0 0 [.ref 12, zi t, zi iss, zi s] (zM κ a ρ B) (fun r M' => r = some (zi (rR_coin ρ t iss s)) ∧ M' = zM κ a ρ B) := by
  refine z_Sp_of (L := [.ref 12, zi t, zi iss, zi s, .float 0]) (by decide) rfl rfl rfl (Nat.le_of_ble_eq_true rfl) ?_
  refine ev_aload_n 0 (q := 1) dR_coin_0 rfl (by rfl) rfl ?_
  refine ev_get (q := 4) dR_coin_1 fR_7 atR (by rfl) rfl ?_
  refine ev_iload_n 1 (q := 5) dR_coin_4 rfl (by rfl) rfl ?_
  refine zr_iald (q := 6) (g := ρ 1) dR_coin_5 at_begunBy (by decide) ⟨by omega, by omega⟩ rfl ?_
  have g1 : 0 ≤ ρ 1 t ∧ ρ 1 t ≤ 3 := hw 1 t (by decide)
  refine ev_istore (q := 8) dR_coin_6 (by decide) rfl rfl ?_
  dsimp only [List.set]
  refine ev_aload_n 0 (q := 9) dR_coin_8 rfl (by rfl) rfl ?_
  refine ev_iload (q := 11) dR_coin_9 (by rfl) rfl ?_
  refine ev_iload_n 3 (q := 12) dR_coin_11 rfl (by rfl) rfl ?_
  refine cv_V (As := [_, _]) (q := 15) dR_coin_12 kR_113 atR rfl rfl (Nat.le_of_ble_eq_true rfl) rfl rfl rfl (by decide) (sR_inVault hw (ρ 1 t) s ⟨by omega, by omega⟩ ⟨by omega, by omega⟩ ) ?_
  have g2 : (rR_inVault ρ (ρ 1 t) s) = 0 ∨ (rR_inVault ρ (ρ 1 t) s) = 1 := bR_inVault _ _ _
  refine zr_if_eq (t := 78) (q := 18) dR_coin_15 rfl rfl ⟨by omega, by omega⟩ (fun h3 => ?_) (fun h3 => ?_)
  · refine ev_iconst (v := iI 0) (q := 79) dR_coin_78 rfl rfl ?_
    exact zr_zret dR_coin_79 rfl (by omega) ⟨by rw [rR_coin, if_pos h3], rfl⟩
  · refine ev_aload_n 0 (q := 19) dR_coin_18 rfl (by rfl) rfl ?_
    refine ev_get (q := 22) dR_coin_19 fR_44 atR (by rfl) rfl ?_
    refine ev_iload_n 3 (q := 23) dR_coin_22 rfl (by rfl) rfl ?_
    refine zr_iald (q := 24) (g := ρ 12) dR_coin_23 at_kindOf (by decide) ⟨by omega, by omega⟩ rfl ?_
    have g4 : 0 ≤ ρ 12 s ∧ ρ 12 s ≤ 2 := hw 12 s (by decide)
    refine zr_if_ne (t := 78) (q := 27) dR_coin_24 rfl rfl ⟨by omega, by omega⟩ (fun h5 => ?_) (fun h5 => ?_)
    · refine ev_iconst (v := iI 0) (q := 79) dR_coin_78 rfl rfl ?_
      exact zr_zret dR_coin_79 rfl (by omega) ⟨by rw [rR_coin, if_neg h3, if_pos h5], rfl⟩
    · refine ev_aload_n 0 (q := 28) dR_coin_27 rfl (by rfl) rfl ?_
      refine ev_get (q := 31) dR_coin_28 fR_47 atR (by rfl) rfl ?_
      refine ev_iload_n 3 (q := 32) dR_coin_31 rfl (by rfl) rfl ?_
      refine zr_iald (q := 33) (g := ρ 13) dR_coin_32 at_first (by decide) ⟨by omega, by omega⟩ rfl ?_
      have g6 : 0 ≤ ρ 13 s ∧ ρ 13 s ≤ 3 := hw 13 s (by decide)
      refine ev_iload_n 2 (q := 34) dR_coin_33 rfl (by rfl) rfl ?_
      refine zr_icmp_ne (t := 78) (q := 37) dR_coin_34 rfl rfl ⟨by omega, by omega⟩ ⟨by omega, by omega⟩ (fun h7 => ?_) (fun h7 => ?_)
      · refine ev_iconst (v := iI 0) (q := 79) dR_coin_78 rfl rfl ?_
        exact zr_zret dR_coin_79 rfl (by omega) ⟨by rw [rR_coin, if_neg h3, if_neg (fun z => z h5), if_pos h7], rfl⟩
      · refine ev_aload_n 0 (q := 38) dR_coin_37 rfl (by rfl) rfl ?_
        refine ev_get (q := 41) dR_coin_38 fR_56 atR (by rfl) rfl ?_
        refine ev_iload_n 3 (q := 42) dR_coin_41 rfl (by rfl) rfl ?_
        refine zr_iald (q := 43) (g := ρ 16) dR_coin_42 at_boundTo (by decide) ⟨by omega, by omega⟩ rfl ?_
        have g8 : -1 ≤ ρ 16 s ∧ ρ 16 s ≤ 3 := hw 16 s (by decide)
        refine ev_iconst (v := iI (-1)) (q := 44) dR_coin_43 rfl rfl ?_
        refine zr_icmp_ne (t := 78) (q := 47) dR_coin_44 rfl rfl ⟨by omega, by omega⟩ ⟨by omega, by omega⟩ (fun h9 => ?_) (fun h9 => ?_)
        · refine ev_iconst (v := iI 0) (q := 79) dR_coin_78 rfl rfl ?_
          exact zr_zret dR_coin_79 rfl (by omega) ⟨by rw [rR_coin, if_neg h3, if_neg (fun z => z h5), if_neg (fun z => z h7), if_pos h9], rfl⟩
        · refine ev_aload_n 0 (q := 48) dR_coin_47 rfl (by rfl) rfl ?_
          refine ev_get (q := 51) dR_coin_48 fR_13 atR (by rfl) rfl ?_
          refine ev_iload_n 3 (q := 52) dR_coin_51 rfl (by rfl) rfl ?_
          refine ev_iconst (v := iI 4) (q := 53) dR_coin_52 rfl rfl ?_
          refine zr_idiv (q := 54) dR_coin_53 ⟨by omega, by omega⟩ ⟨by omega, by omega⟩ rfl ?_
          refine zr_iald (q := 55) (g := ρ 2) dR_coin_54 at_notaryOf (by decide) ⟨by omega, by omega⟩ rfl ?_
          have g10 : 0 ≤ ρ 2 (s / 4) ∧ ρ 2 (s / 4) ≤ 5 := hw 2 (s / 4) (by decide)
          refine ev_aload_n 0 (q := 56) dR_coin_55 rfl (by rfl) rfl ?_
          refine ev_get (q := 59) dR_coin_56 fR_13 atR (by rfl) rfl ?_
          refine ev_iload_n 1 (q := 60) dR_coin_59 rfl (by rfl) rfl ?_
          refine zr_iald (q := 61) (g := ρ 2) dR_coin_60 at_notaryOf (by decide) ⟨by omega, by omega⟩ rfl ?_
          have g11 : 0 ≤ ρ 2 t ∧ ρ 2 t ≤ 5 := hw 2 t (by decide)
          refine zr_icmp_ne (t := 78) (q := 64) dR_coin_61 rfl rfl ⟨by omega, by omega⟩ ⟨by omega, by omega⟩ (fun h12 => ?_) (fun h12 => ?_)
          · refine ev_iconst (v := iI 0) (q := 79) dR_coin_78 rfl rfl ?_
            exact zr_zret dR_coin_79 rfl (by omega) ⟨by rw [rR_coin, if_neg h3, if_neg (fun z => z h5), if_neg (fun z => z h7), if_neg (fun z => z h9), if_pos h12], rfl⟩
          · refine ev_aload_n 0 (q := 65) dR_coin_64 rfl (by rfl) rfl ?_
            refine ev_iload (q := 67) dR_coin_65 (by rfl) rfl ?_
            refine ev_iload_n 3 (q := 68) dR_coin_67 rfl (by rfl) rfl ?_
            refine cv_V (As := [_, _]) (q := 71) dR_coin_68 kR_116 atR rfl rfl (Nat.le_of_ble_eq_true rfl) rfl rfl rfl (by decide) (sR_held hw (ρ 1 t) s ⟨by omega, by omega⟩ ⟨by omega, by omega⟩ ) ?_
            have g13 : (rR_held ρ (ρ 1 t) s) = 0 ∨ (rR_held ρ (ρ 1 t) s) = 1 := bR_held _ _ _
            refine zr_if_ne (t := 78) (q := 74) dR_coin_71 rfl rfl ⟨by omega, by omega⟩ (fun h14 => ?_) (fun h14 => ?_)
            · refine ev_iconst (v := iI 0) (q := 79) dR_coin_78 rfl rfl ?_
              exact zr_zret dR_coin_79 rfl (by omega) ⟨by rw [rR_coin, if_neg h3, if_neg (fun z => z h5), if_neg (fun z => z h7), if_neg (fun z => z h9), if_neg (fun z => z h12), if_pos h14], rfl⟩
            · refine ev_iconst (v := iI 1) (q := 75) dR_coin_74 rfl rfl ?_
              refine ev_goto (t := 79) (q := 79) dR_coin_75 rfl rfl ?_
              exact zr_zret dR_coin_79 rfl (by omega) ⟨by rw [rR_coin, if_neg h3, if_neg (fun z => z h5), if_neg (fun z => z h7), if_neg (fun z => z h9), if_neg (fun z => z h12), if_neg (fun z => z h14)], rfl⟩

def lR_gain_6 (ρ : z_Sg) (t kind x y : Int) : Nat → Int → Int → Int
  | 0, k, sm => sm
  | j + 1, k, sm => if 4 ≤ k then if (ρ 9 t) ≤ (k - 4) then lR_gain_6 ρ t kind x y j (k + 1) sm else if (ρ 12 (ρ 11 (((4 * t) + k) - 4))) ≠ kind then lR_gain_6 ρ t kind x y j (k + 1) sm else if x = (-1) then if y = (-1) then lR_gain_6 ρ t kind x y j (k + 1) (sm + (-(ρ 15 (ρ 11 (((4 * t) + k) - 4))))) else if (ρ 14 (ρ 11 (((4 * t) + k) - 4))) ≠ y then lR_gain_6 ρ t kind x y j (k + 1) sm else lR_gain_6 ρ t kind x y j (k + 1) (sm + (-(ρ 15 (ρ 11 (((4 * t) + k) - 4))))) else if (ρ 13 (ρ 11 (((4 * t) + k) - 4))) ≠ x then lR_gain_6 ρ t kind x y j (k + 1) sm else if y = (-1) then lR_gain_6 ρ t kind x y j (k + 1) (sm + (-(ρ 15 (ρ 11 (((4 * t) + k) - 4))))) else if (ρ 14 (ρ 11 (((4 * t) + k) - 4))) ≠ y then lR_gain_6 ρ t kind x y j (k + 1) sm else lR_gain_6 ρ t kind x y j (k + 1) (sm + (-(ρ 15 (ρ 11 (((4 * t) + k) - 4))))) else if (ρ 10 t) ≤ k then lR_gain_6 ρ t kind x y j (k + 1) sm else if (ρ 12 ((4 * t) + k)) ≠ kind then lR_gain_6 ρ t kind x y j (k + 1) sm else if x = (-1) then if y = (-1) then lR_gain_6 ρ t kind x y j (k + 1) (sm + (ρ 15 ((4 * t) + k))) else if (ρ 14 ((4 * t) + k)) ≠ y then lR_gain_6 ρ t kind x y j (k + 1) sm else lR_gain_6 ρ t kind x y j (k + 1) (sm + (ρ 15 ((4 * t) + k))) else if (ρ 13 ((4 * t) + k)) ≠ x then lR_gain_6 ρ t kind x y j (k + 1) sm else if y = (-1) then lR_gain_6 ρ t kind x y j (k + 1) (sm + (ρ 15 ((4 * t) + k))) else if (ρ 14 ((4 * t) + k)) ≠ y then lR_gain_6 ρ t kind x y j (k + 1) sm else lR_gain_6 ρ t kind x y j (k + 1) (sm + (ρ 15 ((4 * t) + k)))
set_option maxRecDepth 100000 in
set_option maxHeartbeats 4000000 in
theorem eR_gain_6 {κ ρ : z_Sg} {a : Int → Nat} {B : List va_E} (hw : z_wf ρ) (t kind x y : Int) (hp0 : 0 ≤ t ∧ t ≤ 19) (hp1 : z_rg kind) (hp2 : z_rg x) (hp3 : z_rg y) : ∀ (j : Nat) (k sm : Int) (x7 : Value) (x8 : Value) (x9 : Value) (x10 : Value), 0 ≤ k → k + j = 8 → -1000 * k ≤ sm → sm ≤ 1000 * k → z_Ev mR_gain (0, 0) 0 0 6 [.ref 12, zi t, zi kind, zi x, zi y, zi sm, zi k, x7, x8, x9, x10] [] (zM κ a ρ B) (fun r M' => r = some (zi (lR_gain_6 ρ t kind x y j k sm)) ∧ M' = zM κ a ρ B) := by
  intro j
  induction j with
  | zero =>
    intro k sm x7 x8 x9 x10 c0 c1 c2 c3
    refine ev_iload (q := 8) dR_gain_6 (by rfl) rfl ?_
    refine ev_bipush (v := iI 8) (q := 10) dR_gain_8 (by decide) rfl ?_
    refine zr_icmp_ge (t := 204) (q := 13) dR_gain_10 rfl rfl ⟨by omega, by omega⟩ ⟨by omega, by omega⟩ (fun h1 => ?_) (fun h1 => ?_)
    · refine ev_iload (q := 206) dR_gain_204 (by rfl) rfl ?_
      exact zr_iret dR_gain_206 rfl ⟨by rw [lR_gain_6], rfl⟩
    · exfalso
      omega
  | succ j ih =>
    intro k sm x7 x8 x9 x10 c0 c1 c2 c3
    refine ev_iload (q := 8) dR_gain_6 (by rfl) rfl ?_
    refine ev_bipush (v := iI 8) (q := 10) dR_gain_8 (by decide) rfl ?_
    refine zr_icmp_ge (t := 204) (q := 13) dR_gain_10 rfl rfl ⟨by omega, by omega⟩ ⟨by omega, by omega⟩ (fun h1 => ?_) (fun h1 => ?_)
    · exfalso
      omega
    · refine ev_iload (q := 15) dR_gain_13 (by rfl) rfl ?_
      refine ev_iconst (v := iI 4) (q := 16) dR_gain_15 rfl rfl ?_
      refine zr_icmp_ge (t := 23) (q := 19) dR_gain_16 rfl rfl ⟨by omega, by omega⟩ ⟨by omega, by omega⟩ (fun h2 => ?_) (fun h2 => ?_)
      · refine ev_iconst (v := iI 0) (q := 24) dR_gain_23 rfl rfl ?_
        refine ev_istore (q := 26) dR_gain_24 (by decide) rfl rfl ?_
        dsimp only [List.set]
        refine ev_iload (q := 28) dR_gain_26 (by rfl) rfl ?_
        refine zr_if_eq (t := 50) (q := 31) dR_gain_28 rfl rfl ⟨by omega, by omega⟩ (fun h3 => ?_) (fun h3 => ?_)
        · refine ev_iload (q := 52) dR_gain_50 (by rfl) rfl ?_
          refine ev_iconst (v := iI 4) (q := 53) dR_gain_52 rfl rfl ?_
          refine zr_isub (q := 54) dR_gain_53 rfl ?_
          refine ev_aload_n 0 (q := 55) dR_gain_54 rfl (by rfl) rfl ?_
          refine ev_get (q := 58) dR_gain_55 fR_35 atR (by rfl) rfl ?_
          refine ev_iload_n 1 (q := 59) dR_gain_58 rfl (by rfl) rfl ?_
          refine zr_iald (q := 60) (g := ρ 9) dR_gain_59 at_inputs (by decide) ⟨by omega, by omega⟩ rfl ?_
          have g4 : 0 ≤ ρ 9 t ∧ ρ 9 t ≤ 4 := hw 9 t (by decide)
          refine zr_icmp_ge (t := 67) (q := 63) dR_gain_60 rfl rfl ⟨by omega, by omega⟩ ⟨by omega, by omega⟩ (fun h5 => ?_) (fun h5 => ?_)
          · refine ev_iconst (v := iI 0) (q := 68) dR_gain_67 rfl rfl ?_
            refine ev_istore (q := 70) dR_gain_68 (by decide) rfl rfl ?_
            dsimp only [List.set]
            refine ev_iload (q := 72) dR_gain_70 (by rfl) rfl ?_
            refine zr_if_ne (t := 79) (q := 75) dR_gain_72 rfl rfl ⟨by omega, by omega⟩ (fun h6 => ?_) (fun h6 => ?_)
            · exfalso
              omega
            · refine ev_iconst (v := iI 0) (q := 76) dR_gain_75 rfl rfl ?_
              refine ev_goto (t := 106) (q := 106) dR_gain_76 rfl rfl ?_
              refine ev_istore (q := 108) dR_gain_106 (by decide) rfl rfl ?_
              dsimp only [List.set]
              refine ev_iload (q := 110) dR_gain_108 (by rfl) rfl ?_
              refine zr_if_eq (t := 162) (q := 113) dR_gain_110 rfl rfl ⟨by omega, by omega⟩ (fun h7 => ?_) (fun h7 => ?_)
              · refine ev_iconst (v := iI 0) (q := 163) dR_gain_162 rfl rfl ?_
                refine ev_istore (q := 165) dR_gain_163 (by decide) rfl rfl ?_
                dsimp only [List.set]
                refine ev_iload (q := 167) dR_gain_165 (by rfl) rfl ?_
                refine zr_if_eq (t := 198) (q := 170) dR_gain_167 rfl rfl ⟨by omega, by omega⟩ (fun h8 => ?_) (fun h8 => ?_)
                · refine zr_iinc (q := 201) dR_gain_198 (by rfl) (by decide) rfl rfl ?_
                  dsimp only [List.set]
                  refine ev_goto (t := 6) (q := 6) dR_gain_201 rfl rfl ?_
                  rw [show lR_gain_6 ρ t kind x y (j + 1) k sm = lR_gain_6 ρ t kind x y j (k + 1) sm from by rw [lR_gain_6, if_pos h2, if_pos h5]]
                  exact ih (k + 1) sm (zi 0) (zi 0) (zi 0) (zi 0) (by omega) (by omega) (by omega) (by omega)
                · exfalso
                  omega
              · exfalso
                omega
          · refine ev_iconst (v := iI 1) (q := 64) dR_gain_63 rfl rfl ?_
            refine ev_goto (t := 68) (q := 68) dR_gain_64 rfl rfl ?_
            refine ev_istore (q := 70) dR_gain_68 (by decide) rfl rfl ?_
            dsimp only [List.set]
            refine ev_iload (q := 72) dR_gain_70 (by rfl) rfl ?_
            refine zr_if_ne (t := 79) (q := 75) dR_gain_72 rfl rfl ⟨by omega, by omega⟩ (fun h9 => ?_) (fun h9 => ?_)
            · refine ev_iload (q := 81) dR_gain_79 (by rfl) rfl ?_
              refine zr_if_eq (t := 93) (q := 84) dR_gain_81 rfl rfl ⟨by omega, by omega⟩ (fun h10 => ?_) (fun h10 => ?_)
              · refine ev_aload_n 0 (q := 94) dR_gain_93 rfl (by rfl) rfl ?_
                refine ev_get (q := 97) dR_gain_94 fR_41 atR (by rfl) rfl ?_
                refine ev_iconst (v := iI 4) (q := 98) dR_gain_97 rfl rfl ?_
                refine ev_iload_n 1 (q := 99) dR_gain_98 rfl (by rfl) rfl ?_
                refine zr_imul (q := 100) dR_gain_99 rfl ?_
                refine ev_iload (q := 102) dR_gain_100 (by rfl) rfl ?_
                refine zr_iadd (q := 103) dR_gain_102 rfl ?_
                refine ev_iconst (v := iI 4) (q := 104) dR_gain_103 rfl rfl ?_
                refine zr_isub (q := 105) dR_gain_104 rfl ?_
                refine zr_iald (q := 106) (g := ρ 11) dR_gain_105 at_input (by decide) ⟨by omega, by omega⟩ rfl ?_
                have g11 : 0 ≤ ρ 11 (((4 * t) + k) - 4) ∧ ρ 11 (((4 * t) + k) - 4) ≤ 79 := hw 11 (((4 * t) + k) - 4) (by decide)
                refine ev_istore (q := 108) dR_gain_106 (by decide) rfl rfl ?_
                dsimp only [List.set]
                refine ev_iload (q := 110) dR_gain_108 (by rfl) rfl ?_
                refine zr_if_eq (t := 162) (q := 113) dR_gain_110 rfl rfl ⟨by omega, by omega⟩ (fun h12 => ?_) (fun h12 => ?_)
                · exfalso
                  omega
                · refine ev_aload_n 0 (q := 114) dR_gain_113 rfl (by rfl) rfl ?_
                  refine ev_get (q := 117) dR_gain_114 fR_44 atR (by rfl) rfl ?_
                  refine ev_iload (q := 119) dR_gain_117 (by rfl) rfl ?_
                  refine zr_iald (q := 120) (g := ρ 12) dR_gain_119 at_kindOf (by decide) ⟨by omega, by omega⟩ rfl ?_
                  have g13 : 0 ≤ ρ 12 (ρ 11 (((4 * t) + k) - 4)) ∧ ρ 12 (ρ 11 (((4 * t) + k) - 4)) ≤ 2 := hw 12 (ρ 11 (((4 * t) + k) - 4)) (by decide)
                  refine ev_iload_n 2 (q := 121) dR_gain_120 rfl (by rfl) rfl ?_
                  refine zr_icmp_ne (t := 162) (q := 124) dR_gain_121 rfl rfl ⟨by omega, by omega⟩ ⟨by omega, by omega⟩ (fun h14 => ?_) (fun h14 => ?_)
                  · refine ev_iconst (v := iI 0) (q := 163) dR_gain_162 rfl rfl ?_
                    refine ev_istore (q := 165) dR_gain_163 (by decide) rfl rfl ?_
                    dsimp only [List.set]
                    refine ev_iload (q := 167) dR_gain_165 (by rfl) rfl ?_
                    refine zr_if_eq (t := 198) (q := 170) dR_gain_167 rfl rfl ⟨by omega, by omega⟩ (fun h15 => ?_) (fun h15 => ?_)
                    · refine zr_iinc (q := 201) dR_gain_198 (by rfl) (by decide) rfl rfl ?_
                      dsimp only [List.set]
                      refine ev_goto (t := 6) (q := 6) dR_gain_201 rfl rfl ?_
                      rw [show lR_gain_6 ρ t kind x y (j + 1) k sm = lR_gain_6 ρ t kind x y j (k + 1) sm from by rw [lR_gain_6, if_pos h2, if_neg (Int.not_le.mpr h5), if_pos h14]]
                      exact ih (k + 1) sm (zi 0) (zi 1) (zi (ρ 11 (((4 * t) + k) - 4))) (zi 0) (by omega) (by omega) (by omega) (by omega)
                    · exfalso
                      omega
                  · refine ev_iload_n 3 (q := 125) dR_gain_124 rfl (by rfl) rfl ?_
                    refine ev_iconst (v := iI (-1)) (q := 126) dR_gain_125 rfl rfl ?_
                    refine zr_icmp_eq (t := 140) (q := 129) dR_gain_126 rfl rfl ⟨by omega, by omega⟩ ⟨by omega, by omega⟩ (fun h16 => ?_) (fun h16 => ?_)
                    · refine ev_iload (q := 142) dR_gain_140 (by rfl) rfl ?_
                      refine ev_iconst (v := iI (-1)) (q := 143) dR_gain_142 rfl rfl ?_
                      refine zr_icmp_eq (t := 158) (q := 146) dR_gain_143 rfl rfl ⟨by omega, by omega⟩ ⟨by omega, by omega⟩ (fun h17 => ?_) (fun h17 => ?_)
                      · refine ev_iconst (v := iI 1) (q := 159) dR_gain_158 rfl rfl ?_
                        refine ev_goto (t := 163) (q := 163) dR_gain_159 rfl rfl ?_
                        refine ev_istore (q := 165) dR_gain_163 (by decide) rfl rfl ?_
                        dsimp only [List.set]
                        refine ev_iload (q := 167) dR_gain_165 (by rfl) rfl ?_
                        refine zr_if_eq (t := 198) (q := 170) dR_gain_167 rfl rfl ⟨by omega, by omega⟩ (fun h18 => ?_) (fun h18 => ?_)
                        · exfalso
                          omega
                        · refine ev_iload (q := 172) dR_gain_170 (by rfl) rfl ?_
                          refine ev_iload (q := 174) dR_gain_172 (by rfl) rfl ?_
                          refine zr_if_eq (t := 187) (q := 177) dR_gain_174 rfl rfl ⟨by omega, by omega⟩ (fun h19 => ?_) (fun h19 => ?_)
                          · refine ev_aload_n 0 (q := 188) dR_gain_187 rfl (by rfl) rfl ?_
                            refine ev_get (q := 191) dR_gain_188 fR_53 atR (by rfl) rfl ?_
                            refine ev_iload (q := 193) dR_gain_191 (by rfl) rfl ?_
                            refine zr_iald (q := 194) (g := ρ 15) dR_gain_193 at_amountOf (by decide) ⟨by omega, by omega⟩ rfl ?_
                            have g20 : 0 ≤ ρ 15 (ρ 11 (((4 * t) + k) - 4)) ∧ ρ 15 (ρ 11 (((4 * t) + k) - 4)) ≤ 1000 := hw 15 (ρ 11 (((4 * t) + k) - 4)) (by decide)
                            refine zr_ineg (q := 195) dR_gain_194 rfl ?_
                            refine zr_iadd (q := 196) dR_gain_195 rfl ?_
                            refine ev_istore (q := 198) dR_gain_196 (by decide) rfl rfl ?_
                            dsimp only [List.set]
                            refine zr_iinc (q := 201) dR_gain_198 (by rfl) (by decide) rfl rfl ?_
                            dsimp only [List.set]
                            refine ev_goto (t := 6) (q := 6) dR_gain_201 rfl rfl ?_
                            rw [show lR_gain_6 ρ t kind x y (j + 1) k sm = lR_gain_6 ρ t kind x y j (k + 1) (sm + (-(ρ 15 (ρ 11 (((4 * t) + k) - 4))))) from by rw [lR_gain_6, if_pos h2, if_neg (Int.not_le.mpr h5), if_neg (fun z => z h14), if_pos h16, if_pos h17]]
                            exact ih (k + 1) (sm + (-(ρ 15 (ρ 11 (((4 * t) + k) - 4))))) (zi 0) (zi 1) (zi (ρ 11 (((4 * t) + k) - 4))) (zi 1) (by omega) (by omega) (by omega) (by omega)
                          · exfalso
                            omega
                      · refine ev_aload_n 0 (q := 147) dR_gain_146 rfl (by rfl) rfl ?_
                        refine ev_get (q := 150) dR_gain_147 fR_50 atR (by rfl) rfl ?_
                        refine ev_iload (q := 152) dR_gain_150 (by rfl) rfl ?_
                        refine zr_iald (q := 153) (g := ρ 14) dR_gain_152 at_second (by decide) ⟨by omega, by omega⟩ rfl ?_
                        have g21 : 0 ≤ ρ 14 (ρ 11 (((4 * t) + k) - 4)) ∧ ρ 14 (ρ 11 (((4 * t) + k) - 4)) ≤ 3 := hw 14 (ρ 11 (((4 * t) + k) - 4)) (by decide)
                        refine ev_iload (q := 155) dR_gain_153 (by rfl) rfl ?_
                        refine zr_icmp_ne (t := 162) (q := 158) dR_gain_155 rfl rfl ⟨by omega, by omega⟩ ⟨by omega, by omega⟩ (fun h22 => ?_) (fun h22 => ?_)
                        · refine ev_iconst (v := iI 0) (q := 163) dR_gain_162 rfl rfl ?_
                          refine ev_istore (q := 165) dR_gain_163 (by decide) rfl rfl ?_
                          dsimp only [List.set]
                          refine ev_iload (q := 167) dR_gain_165 (by rfl) rfl ?_
                          refine zr_if_eq (t := 198) (q := 170) dR_gain_167 rfl rfl ⟨by omega, by omega⟩ (fun h23 => ?_) (fun h23 => ?_)
                          · refine zr_iinc (q := 201) dR_gain_198 (by rfl) (by decide) rfl rfl ?_
                            dsimp only [List.set]
                            refine ev_goto (t := 6) (q := 6) dR_gain_201 rfl rfl ?_
                            rw [show lR_gain_6 ρ t kind x y (j + 1) k sm = lR_gain_6 ρ t kind x y j (k + 1) sm from by rw [lR_gain_6, if_pos h2, if_neg (Int.not_le.mpr h5), if_neg (fun z => z h14), if_pos h16, if_neg h17, if_pos h22]]
                            exact ih (k + 1) sm (zi 0) (zi 1) (zi (ρ 11 (((4 * t) + k) - 4))) (zi 0) (by omega) (by omega) (by omega) (by omega)
                          · exfalso
                            omega
                        · refine ev_iconst (v := iI 1) (q := 159) dR_gain_158 rfl rfl ?_
                          refine ev_goto (t := 163) (q := 163) dR_gain_159 rfl rfl ?_
                          refine ev_istore (q := 165) dR_gain_163 (by decide) rfl rfl ?_
                          dsimp only [List.set]
                          refine ev_iload (q := 167) dR_gain_165 (by rfl) rfl ?_
                          refine zr_if_eq (t := 198) (q := 170) dR_gain_167 rfl rfl ⟨by omega, by omega⟩ (fun h24 => ?_) (fun h24 => ?_)
                          · exfalso
                            omega
                          · refine ev_iload (q := 172) dR_gain_170 (by rfl) rfl ?_
                            refine ev_iload (q := 174) dR_gain_172 (by rfl) rfl ?_
                            refine zr_if_eq (t := 187) (q := 177) dR_gain_174 rfl rfl ⟨by omega, by omega⟩ (fun h25 => ?_) (fun h25 => ?_)
                            · refine ev_aload_n 0 (q := 188) dR_gain_187 rfl (by rfl) rfl ?_
                              refine ev_get (q := 191) dR_gain_188 fR_53 atR (by rfl) rfl ?_
                              refine ev_iload (q := 193) dR_gain_191 (by rfl) rfl ?_
                              refine zr_iald (q := 194) (g := ρ 15) dR_gain_193 at_amountOf (by decide) ⟨by omega, by omega⟩ rfl ?_
                              have g26 : 0 ≤ ρ 15 (ρ 11 (((4 * t) + k) - 4)) ∧ ρ 15 (ρ 11 (((4 * t) + k) - 4)) ≤ 1000 := hw 15 (ρ 11 (((4 * t) + k) - 4)) (by decide)
                              refine zr_ineg (q := 195) dR_gain_194 rfl ?_
                              refine zr_iadd (q := 196) dR_gain_195 rfl ?_
                              refine ev_istore (q := 198) dR_gain_196 (by decide) rfl rfl ?_
                              dsimp only [List.set]
                              refine zr_iinc (q := 201) dR_gain_198 (by rfl) (by decide) rfl rfl ?_
                              dsimp only [List.set]
                              refine ev_goto (t := 6) (q := 6) dR_gain_201 rfl rfl ?_
                              rw [show lR_gain_6 ρ t kind x y (j + 1) k sm = lR_gain_6 ρ t kind x y j (k + 1) (sm + (-(ρ 15 (ρ 11 (((4 * t) + k) - 4))))) from by rw [lR_gain_6, if_pos h2, if_neg (Int.not_le.mpr h5), if_neg (fun z => z h14), if_pos h16, if_neg h17, if_neg (fun z => z h22)]]
                              exact ih (k + 1) (sm + (-(ρ 15 (ρ 11 (((4 * t) + k) - 4))))) (zi 0) (zi 1) (zi (ρ 11 (((4 * t) + k) - 4))) (zi 1) (by omega) (by omega) (by omega) (by omega)
                            · exfalso
                              omega
                    · refine ev_aload_n 0 (q := 130) dR_gain_129 rfl (by rfl) rfl ?_
                      refine ev_get (q := 133) dR_gain_130 fR_47 atR (by rfl) rfl ?_
                      refine ev_iload (q := 135) dR_gain_133 (by rfl) rfl ?_
                      refine zr_iald (q := 136) (g := ρ 13) dR_gain_135 at_first (by decide) ⟨by omega, by omega⟩ rfl ?_
                      have g27 : 0 ≤ ρ 13 (ρ 11 (((4 * t) + k) - 4)) ∧ ρ 13 (ρ 11 (((4 * t) + k) - 4)) ≤ 3 := hw 13 (ρ 11 (((4 * t) + k) - 4)) (by decide)
                      refine ev_iload_n 3 (q := 137) dR_gain_136 rfl (by rfl) rfl ?_
                      refine zr_icmp_ne (t := 162) (q := 140) dR_gain_137 rfl rfl ⟨by omega, by omega⟩ ⟨by omega, by omega⟩ (fun h28 => ?_) (fun h28 => ?_)
                      · refine ev_iconst (v := iI 0) (q := 163) dR_gain_162 rfl rfl ?_
                        refine ev_istore (q := 165) dR_gain_163 (by decide) rfl rfl ?_
                        dsimp only [List.set]
                        refine ev_iload (q := 167) dR_gain_165 (by rfl) rfl ?_
                        refine zr_if_eq (t := 198) (q := 170) dR_gain_167 rfl rfl ⟨by omega, by omega⟩ (fun h29 => ?_) (fun h29 => ?_)
                        · refine zr_iinc (q := 201) dR_gain_198 (by rfl) (by decide) rfl rfl ?_
                          dsimp only [List.set]
                          refine ev_goto (t := 6) (q := 6) dR_gain_201 rfl rfl ?_
                          rw [show lR_gain_6 ρ t kind x y (j + 1) k sm = lR_gain_6 ρ t kind x y j (k + 1) sm from by rw [lR_gain_6, if_pos h2, if_neg (Int.not_le.mpr h5), if_neg (fun z => z h14), if_neg h16, if_pos h28]]
                          exact ih (k + 1) sm (zi 0) (zi 1) (zi (ρ 11 (((4 * t) + k) - 4))) (zi 0) (by omega) (by omega) (by omega) (by omega)
                        · exfalso
                          omega
                      · refine ev_iload (q := 142) dR_gain_140 (by rfl) rfl ?_
                        refine ev_iconst (v := iI (-1)) (q := 143) dR_gain_142 rfl rfl ?_
                        refine zr_icmp_eq (t := 158) (q := 146) dR_gain_143 rfl rfl ⟨by omega, by omega⟩ ⟨by omega, by omega⟩ (fun h30 => ?_) (fun h30 => ?_)
                        · refine ev_iconst (v := iI 1) (q := 159) dR_gain_158 rfl rfl ?_
                          refine ev_goto (t := 163) (q := 163) dR_gain_159 rfl rfl ?_
                          refine ev_istore (q := 165) dR_gain_163 (by decide) rfl rfl ?_
                          dsimp only [List.set]
                          refine ev_iload (q := 167) dR_gain_165 (by rfl) rfl ?_
                          refine zr_if_eq (t := 198) (q := 170) dR_gain_167 rfl rfl ⟨by omega, by omega⟩ (fun h31 => ?_) (fun h31 => ?_)
                          · exfalso
                            omega
                          · refine ev_iload (q := 172) dR_gain_170 (by rfl) rfl ?_
                            refine ev_iload (q := 174) dR_gain_172 (by rfl) rfl ?_
                            refine zr_if_eq (t := 187) (q := 177) dR_gain_174 rfl rfl ⟨by omega, by omega⟩ (fun h32 => ?_) (fun h32 => ?_)
                            · refine ev_aload_n 0 (q := 188) dR_gain_187 rfl (by rfl) rfl ?_
                              refine ev_get (q := 191) dR_gain_188 fR_53 atR (by rfl) rfl ?_
                              refine ev_iload (q := 193) dR_gain_191 (by rfl) rfl ?_
                              refine zr_iald (q := 194) (g := ρ 15) dR_gain_193 at_amountOf (by decide) ⟨by omega, by omega⟩ rfl ?_
                              have g33 : 0 ≤ ρ 15 (ρ 11 (((4 * t) + k) - 4)) ∧ ρ 15 (ρ 11 (((4 * t) + k) - 4)) ≤ 1000 := hw 15 (ρ 11 (((4 * t) + k) - 4)) (by decide)
                              refine zr_ineg (q := 195) dR_gain_194 rfl ?_
                              refine zr_iadd (q := 196) dR_gain_195 rfl ?_
                              refine ev_istore (q := 198) dR_gain_196 (by decide) rfl rfl ?_
                              dsimp only [List.set]
                              refine zr_iinc (q := 201) dR_gain_198 (by rfl) (by decide) rfl rfl ?_
                              dsimp only [List.set]
                              refine ev_goto (t := 6) (q := 6) dR_gain_201 rfl rfl ?_
                              rw [show lR_gain_6 ρ t kind x y (j + 1) k sm = lR_gain_6 ρ t kind x y j (k + 1) (sm + (-(ρ 15 (ρ 11 (((4 * t) + k) - 4))))) from by rw [lR_gain_6, if_pos h2, if_neg (Int.not_le.mpr h5), if_neg (fun z => z h14), if_neg h16, if_neg (fun z => z h28), if_pos h30]]
                              exact ih (k + 1) (sm + (-(ρ 15 (ρ 11 (((4 * t) + k) - 4))))) (zi 0) (zi 1) (zi (ρ 11 (((4 * t) + k) - 4))) (zi 1) (by omega) (by omega) (by omega) (by omega)
                            · exfalso
                              omega
                        · refine ev_aload_n 0 (q := 147) dR_gain_146 rfl (by rfl) rfl ?_
                          refine ev_get (q := 150) dR_gain_147 fR_50 atR (by rfl) rfl ?_
                          refine ev_iload (q := 152) dR_gain_150 (by rfl) rfl ?_
                          refine zr_iald (q := 153) (g := ρ 14) dR_gain_152 at_second (by decide) ⟨by omega, by omega⟩ rfl ?_
                          have g34 : 0 ≤ ρ 14 (ρ 11 (((4 * t) + k) - 4)) ∧ ρ 14 (ρ 11 (((4 * t) + k) - 4)) ≤ 3 := hw 14 (ρ 11 (((4 * t) + k) - 4)) (by decide)
                          refine ev_iload (q := 155) dR_gain_153 (by rfl) rfl ?_
                          refine zr_icmp_ne (t := 162) (q := 158) dR_gain_155 rfl rfl ⟨by omega, by omega⟩ ⟨by omega, by omega⟩ (fun h35 => ?_) (fun h35 => ?_)
                          · refine ev_iconst (v := iI 0) (q := 163) dR_gain_162 rfl rfl ?_
                            refine ev_istore (q := 165) dR_gain_163 (by decide) rfl rfl ?_
                            dsimp only [List.set]
                            refine ev_iload (q := 167) dR_gain_165 (by rfl) rfl ?_
                            refine zr_if_eq (t := 198) (q := 170) dR_gain_167 rfl rfl ⟨by omega, by omega⟩ (fun h36 => ?_) (fun h36 => ?_)
                            · refine zr_iinc (q := 201) dR_gain_198 (by rfl) (by decide) rfl rfl ?_
                              dsimp only [List.set]
                              refine ev_goto (t := 6) (q := 6) dR_gain_201 rfl rfl ?_
                              rw [show lR_gain_6 ρ t kind x y (j + 1) k sm = lR_gain_6 ρ t kind x y j (k + 1) sm from by rw [lR_gain_6, if_pos h2, if_neg (Int.not_le.mpr h5), if_neg (fun z => z h14), if_neg h16, if_neg (fun z => z h28), if_neg h30, if_pos h35]]
                              exact ih (k + 1) sm (zi 0) (zi 1) (zi (ρ 11 (((4 * t) + k) - 4))) (zi 0) (by omega) (by omega) (by omega) (by omega)
                            · exfalso
                              omega
                          · refine ev_iconst (v := iI 1) (q := 159) dR_gain_158 rfl rfl ?_
                            refine ev_goto (t := 163) (q := 163) dR_gain_159 rfl rfl ?_
                            refine ev_istore (q := 165) dR_gain_163 (by decide) rfl rfl ?_
                            dsimp only [List.set]
                            refine ev_iload (q := 167) dR_gain_165 (by rfl) rfl ?_
                            refine zr_if_eq (t := 198) (q := 170) dR_gain_167 rfl rfl ⟨by omega, by omega⟩ (fun h37 => ?_) (fun h37 => ?_)
                            · exfalso
                              omega
                            · refine ev_iload (q := 172) dR_gain_170 (by rfl) rfl ?_
                              refine ev_iload (q := 174) dR_gain_172 (by rfl) rfl ?_
                              refine zr_if_eq (t := 187) (q := 177) dR_gain_174 rfl rfl ⟨by omega, by omega⟩ (fun h38 => ?_) (fun h38 => ?_)
                              · refine ev_aload_n 0 (q := 188) dR_gain_187 rfl (by rfl) rfl ?_
                                refine ev_get (q := 191) dR_gain_188 fR_53 atR (by rfl) rfl ?_
                                refine ev_iload (q := 193) dR_gain_191 (by rfl) rfl ?_
                                refine zr_iald (q := 194) (g := ρ 15) dR_gain_193 at_amountOf (by decide) ⟨by omega, by omega⟩ rfl ?_
                                have g39 : 0 ≤ ρ 15 (ρ 11 (((4 * t) + k) - 4)) ∧ ρ 15 (ρ 11 (((4 * t) + k) - 4)) ≤ 1000 := hw 15 (ρ 11 (((4 * t) + k) - 4)) (by decide)
                                refine zr_ineg (q := 195) dR_gain_194 rfl ?_
                                refine zr_iadd (q := 196) dR_gain_195 rfl ?_
                                refine ev_istore (q := 198) dR_gain_196 (by decide) rfl rfl ?_
                                dsimp only [List.set]
                                refine zr_iinc (q := 201) dR_gain_198 (by rfl) (by decide) rfl rfl ?_
                                dsimp only [List.set]
                                refine ev_goto (t := 6) (q := 6) dR_gain_201 rfl rfl ?_
                                rw [show lR_gain_6 ρ t kind x y (j + 1) k sm = lR_gain_6 ρ t kind x y j (k + 1) (sm + (-(ρ 15 (ρ 11 (((4 * t) + k) - 4))))) from by rw [lR_gain_6, if_pos h2, if_neg (Int.not_le.mpr h5), if_neg (fun z => z h14), if_neg h16, if_neg (fun z => z h28), if_neg h30, if_neg (fun z => z h35)]]
                                exact ih (k + 1) (sm + (-(ρ 15 (ρ 11 (((4 * t) + k) - 4))))) (zi 0) (zi 1) (zi (ρ 11 (((4 * t) + k) - 4))) (zi 1) (by omega) (by omega) (by omega) (by omega)
                              · exfalso
                                omega
              · exfalso
                omega
            · exfalso
              omega
        · exfalso
          omega
      · refine ev_iconst (v := iI 1) (q := 20) dR_gain_19 rfl rfl ?_
        refine ev_goto (t := 24) (q := 24) dR_gain_20 rfl rfl ?_
        refine ev_istore (q := 26) dR_gain_24 (by decide) rfl rfl ?_
        dsimp only [List.set]
        refine ev_iload (q := 28) dR_gain_26 (by rfl) rfl ?_
        refine zr_if_eq (t := 50) (q := 31) dR_gain_28 rfl rfl ⟨by omega, by omega⟩ (fun h40 => ?_) (fun h40 => ?_)
        · exfalso
          omega
        · refine ev_iload (q := 33) dR_gain_31 (by rfl) rfl ?_
          refine ev_aload_n 0 (q := 34) dR_gain_33 rfl (by rfl) rfl ?_
          refine ev_get (q := 37) dR_gain_34 fR_38 atR (by rfl) rfl ?_
          refine ev_iload_n 1 (q := 38) dR_gain_37 rfl (by rfl) rfl ?_
          refine zr_iald (q := 39) (g := ρ 10) dR_gain_38 at_outputs (by decide) ⟨by omega, by omega⟩ rfl ?_
          have g41 : 0 ≤ ρ 10 t ∧ ρ 10 t ≤ 4 := hw 10 t (by decide)
          refine zr_icmp_ge (t := 46) (q := 42) dR_gain_39 rfl rfl ⟨by omega, by omega⟩ ⟨by omega, by omega⟩ (fun h42 => ?_) (fun h42 => ?_)
          · refine ev_iconst (v := iI 0) (q := 47) dR_gain_46 rfl rfl ?_
            refine ev_goto (t := 68) (q := 68) dR_gain_47 rfl rfl ?_
            refine ev_istore (q := 70) dR_gain_68 (by decide) rfl rfl ?_
            dsimp only [List.set]
            refine ev_iload (q := 72) dR_gain_70 (by rfl) rfl ?_
            refine zr_if_ne (t := 79) (q := 75) dR_gain_72 rfl rfl ⟨by omega, by omega⟩ (fun h43 => ?_) (fun h43 => ?_)
            · exfalso
              omega
            · refine ev_iconst (v := iI 0) (q := 76) dR_gain_75 rfl rfl ?_
              refine ev_goto (t := 106) (q := 106) dR_gain_76 rfl rfl ?_
              refine ev_istore (q := 108) dR_gain_106 (by decide) rfl rfl ?_
              dsimp only [List.set]
              refine ev_iload (q := 110) dR_gain_108 (by rfl) rfl ?_
              refine zr_if_eq (t := 162) (q := 113) dR_gain_110 rfl rfl ⟨by omega, by omega⟩ (fun h44 => ?_) (fun h44 => ?_)
              · refine ev_iconst (v := iI 0) (q := 163) dR_gain_162 rfl rfl ?_
                refine ev_istore (q := 165) dR_gain_163 (by decide) rfl rfl ?_
                dsimp only [List.set]
                refine ev_iload (q := 167) dR_gain_165 (by rfl) rfl ?_
                refine zr_if_eq (t := 198) (q := 170) dR_gain_167 rfl rfl ⟨by omega, by omega⟩ (fun h45 => ?_) (fun h45 => ?_)
                · refine zr_iinc (q := 201) dR_gain_198 (by rfl) (by decide) rfl rfl ?_
                  dsimp only [List.set]
                  refine ev_goto (t := 6) (q := 6) dR_gain_201 rfl rfl ?_
                  rw [show lR_gain_6 ρ t kind x y (j + 1) k sm = lR_gain_6 ρ t kind x y j (k + 1) sm from by rw [lR_gain_6, if_neg (Int.not_le.mpr h2), if_pos h42]]
                  exact ih (k + 1) sm (zi 1) (zi 0) (zi 0) (zi 0) (by omega) (by omega) (by omega) (by omega)
                · exfalso
                  omega
              · exfalso
                omega
          · refine ev_iconst (v := iI 1) (q := 43) dR_gain_42 rfl rfl ?_
            refine ev_goto (t := 68) (q := 68) dR_gain_43 rfl rfl ?_
            refine ev_istore (q := 70) dR_gain_68 (by decide) rfl rfl ?_
            dsimp only [List.set]
            refine ev_iload (q := 72) dR_gain_70 (by rfl) rfl ?_
            refine zr_if_ne (t := 79) (q := 75) dR_gain_72 rfl rfl ⟨by omega, by omega⟩ (fun h46 => ?_) (fun h46 => ?_)
            · refine ev_iload (q := 81) dR_gain_79 (by rfl) rfl ?_
              refine zr_if_eq (t := 93) (q := 84) dR_gain_81 rfl rfl ⟨by omega, by omega⟩ (fun h47 => ?_) (fun h47 => ?_)
              · exfalso
                omega
              · refine ev_iconst (v := iI 4) (q := 85) dR_gain_84 rfl rfl ?_
                refine ev_iload_n 1 (q := 86) dR_gain_85 rfl (by rfl) rfl ?_
                refine zr_imul (q := 87) dR_gain_86 rfl ?_
                refine ev_iload (q := 89) dR_gain_87 (by rfl) rfl ?_
                refine zr_iadd (q := 90) dR_gain_89 rfl ?_
                refine ev_goto (t := 106) (q := 106) dR_gain_90 rfl rfl ?_
                refine ev_istore (q := 108) dR_gain_106 (by decide) rfl rfl ?_
                dsimp only [List.set]
                refine ev_iload (q := 110) dR_gain_108 (by rfl) rfl ?_
                refine zr_if_eq (t := 162) (q := 113) dR_gain_110 rfl rfl ⟨by omega, by omega⟩ (fun h48 => ?_) (fun h48 => ?_)
                · exfalso
                  omega
                · refine ev_aload_n 0 (q := 114) dR_gain_113 rfl (by rfl) rfl ?_
                  refine ev_get (q := 117) dR_gain_114 fR_44 atR (by rfl) rfl ?_
                  refine ev_iload (q := 119) dR_gain_117 (by rfl) rfl ?_
                  refine zr_iald (q := 120) (g := ρ 12) dR_gain_119 at_kindOf (by decide) ⟨by omega, by omega⟩ rfl ?_
                  have g49 : 0 ≤ ρ 12 ((4 * t) + k) ∧ ρ 12 ((4 * t) + k) ≤ 2 := hw 12 ((4 * t) + k) (by decide)
                  refine ev_iload_n 2 (q := 121) dR_gain_120 rfl (by rfl) rfl ?_
                  refine zr_icmp_ne (t := 162) (q := 124) dR_gain_121 rfl rfl ⟨by omega, by omega⟩ ⟨by omega, by omega⟩ (fun h50 => ?_) (fun h50 => ?_)
                  · refine ev_iconst (v := iI 0) (q := 163) dR_gain_162 rfl rfl ?_
                    refine ev_istore (q := 165) dR_gain_163 (by decide) rfl rfl ?_
                    dsimp only [List.set]
                    refine ev_iload (q := 167) dR_gain_165 (by rfl) rfl ?_
                    refine zr_if_eq (t := 198) (q := 170) dR_gain_167 rfl rfl ⟨by omega, by omega⟩ (fun h51 => ?_) (fun h51 => ?_)
                    · refine zr_iinc (q := 201) dR_gain_198 (by rfl) (by decide) rfl rfl ?_
                      dsimp only [List.set]
                      refine ev_goto (t := 6) (q := 6) dR_gain_201 rfl rfl ?_
                      rw [show lR_gain_6 ρ t kind x y (j + 1) k sm = lR_gain_6 ρ t kind x y j (k + 1) sm from by rw [lR_gain_6, if_neg (Int.not_le.mpr h2), if_neg (Int.not_le.mpr h42), if_pos h50]]
                      exact ih (k + 1) sm (zi 1) (zi 1) (zi ((4 * t) + k)) (zi 0) (by omega) (by omega) (by omega) (by omega)
                    · exfalso
                      omega
                  · refine ev_iload_n 3 (q := 125) dR_gain_124 rfl (by rfl) rfl ?_
                    refine ev_iconst (v := iI (-1)) (q := 126) dR_gain_125 rfl rfl ?_
                    refine zr_icmp_eq (t := 140) (q := 129) dR_gain_126 rfl rfl ⟨by omega, by omega⟩ ⟨by omega, by omega⟩ (fun h52 => ?_) (fun h52 => ?_)
                    · refine ev_iload (q := 142) dR_gain_140 (by rfl) rfl ?_
                      refine ev_iconst (v := iI (-1)) (q := 143) dR_gain_142 rfl rfl ?_
                      refine zr_icmp_eq (t := 158) (q := 146) dR_gain_143 rfl rfl ⟨by omega, by omega⟩ ⟨by omega, by omega⟩ (fun h53 => ?_) (fun h53 => ?_)
                      · refine ev_iconst (v := iI 1) (q := 159) dR_gain_158 rfl rfl ?_
                        refine ev_goto (t := 163) (q := 163) dR_gain_159 rfl rfl ?_
                        refine ev_istore (q := 165) dR_gain_163 (by decide) rfl rfl ?_
                        dsimp only [List.set]
                        refine ev_iload (q := 167) dR_gain_165 (by rfl) rfl ?_
                        refine zr_if_eq (t := 198) (q := 170) dR_gain_167 rfl rfl ⟨by omega, by omega⟩ (fun h54 => ?_) (fun h54 => ?_)
                        · exfalso
                          omega
                        · refine ev_iload (q := 172) dR_gain_170 (by rfl) rfl ?_
                          refine ev_iload (q := 174) dR_gain_172 (by rfl) rfl ?_
                          refine zr_if_eq (t := 187) (q := 177) dR_gain_174 rfl rfl ⟨by omega, by omega⟩ (fun h55 => ?_) (fun h55 => ?_)
                          · exfalso
                            omega
                          · refine ev_aload_n 0 (q := 178) dR_gain_177 rfl (by rfl) rfl ?_
                            refine ev_get (q := 181) dR_gain_178 fR_53 atR (by rfl) rfl ?_
                            refine ev_iload (q := 183) dR_gain_181 (by rfl) rfl ?_
                            refine zr_iald (q := 184) (g := ρ 15) dR_gain_183 at_amountOf (by decide) ⟨by omega, by omega⟩ rfl ?_
                            have g56 : 0 ≤ ρ 15 ((4 * t) + k) ∧ ρ 15 ((4 * t) + k) ≤ 1000 := hw 15 ((4 * t) + k) (by decide)
                            refine ev_goto (t := 195) (q := 195) dR_gain_184 rfl rfl ?_
                            refine zr_iadd (q := 196) dR_gain_195 rfl ?_
                            refine ev_istore (q := 198) dR_gain_196 (by decide) rfl rfl ?_
                            dsimp only [List.set]
                            refine zr_iinc (q := 201) dR_gain_198 (by rfl) (by decide) rfl rfl ?_
                            dsimp only [List.set]
                            refine ev_goto (t := 6) (q := 6) dR_gain_201 rfl rfl ?_
                            rw [show lR_gain_6 ρ t kind x y (j + 1) k sm = lR_gain_6 ρ t kind x y j (k + 1) (sm + (ρ 15 ((4 * t) + k))) from by rw [lR_gain_6, if_neg (Int.not_le.mpr h2), if_neg (Int.not_le.mpr h42), if_neg (fun z => z h50), if_pos h52, if_pos h53]]
                            exact ih (k + 1) (sm + (ρ 15 ((4 * t) + k))) (zi 1) (zi 1) (zi ((4 * t) + k)) (zi 1) (by omega) (by omega) (by omega) (by omega)
                      · refine ev_aload_n 0 (q := 147) dR_gain_146 rfl (by rfl) rfl ?_
                        refine ev_get (q := 150) dR_gain_147 fR_50 atR (by rfl) rfl ?_
                        refine ev_iload (q := 152) dR_gain_150 (by rfl) rfl ?_
                        refine zr_iald (q := 153) (g := ρ 14) dR_gain_152 at_second (by decide) ⟨by omega, by omega⟩ rfl ?_
                        have g57 : 0 ≤ ρ 14 ((4 * t) + k) ∧ ρ 14 ((4 * t) + k) ≤ 3 := hw 14 ((4 * t) + k) (by decide)
                        refine ev_iload (q := 155) dR_gain_153 (by rfl) rfl ?_
                        refine zr_icmp_ne (t := 162) (q := 158) dR_gain_155 rfl rfl ⟨by omega, by omega⟩ ⟨by omega, by omega⟩ (fun h58 => ?_) (fun h58 => ?_)
                        · refine ev_iconst (v := iI 0) (q := 163) dR_gain_162 rfl rfl ?_
                          refine ev_istore (q := 165) dR_gain_163 (by decide) rfl rfl ?_
                          dsimp only [List.set]
                          refine ev_iload (q := 167) dR_gain_165 (by rfl) rfl ?_
                          refine zr_if_eq (t := 198) (q := 170) dR_gain_167 rfl rfl ⟨by omega, by omega⟩ (fun h59 => ?_) (fun h59 => ?_)
                          · refine zr_iinc (q := 201) dR_gain_198 (by rfl) (by decide) rfl rfl ?_
                            dsimp only [List.set]
                            refine ev_goto (t := 6) (q := 6) dR_gain_201 rfl rfl ?_
                            rw [show lR_gain_6 ρ t kind x y (j + 1) k sm = lR_gain_6 ρ t kind x y j (k + 1) sm from by rw [lR_gain_6, if_neg (Int.not_le.mpr h2), if_neg (Int.not_le.mpr h42), if_neg (fun z => z h50), if_pos h52, if_neg h53, if_pos h58]]
                            exact ih (k + 1) sm (zi 1) (zi 1) (zi ((4 * t) + k)) (zi 0) (by omega) (by omega) (by omega) (by omega)
                          · exfalso
                            omega
                        · refine ev_iconst (v := iI 1) (q := 159) dR_gain_158 rfl rfl ?_
                          refine ev_goto (t := 163) (q := 163) dR_gain_159 rfl rfl ?_
                          refine ev_istore (q := 165) dR_gain_163 (by decide) rfl rfl ?_
                          dsimp only [List.set]
                          refine ev_iload (q := 167) dR_gain_165 (by rfl) rfl ?_
                          refine zr_if_eq (t := 198) (q := 170) dR_gain_167 rfl rfl ⟨by omega, by omega⟩ (fun h60 => ?_) (fun h60 => ?_)
                          · exfalso
                            omega
                          · refine ev_iload (q := 172) dR_gain_170 (by rfl) rfl ?_
                            refine ev_iload (q := 174) dR_gain_172 (by rfl) rfl ?_
                            refine zr_if_eq (t := 187) (q := 177) dR_gain_174 rfl rfl ⟨by omega, by omega⟩ (fun h61 => ?_) (fun h61 => ?_)
                            · exfalso
                              omega
                            · refine ev_aload_n 0 (q := 178) dR_gain_177 rfl (by rfl) rfl ?_
                              refine ev_get (q := 181) dR_gain_178 fR_53 atR (by rfl) rfl ?_
                              refine ev_iload (q := 183) dR_gain_181 (by rfl) rfl ?_
                              refine zr_iald (q := 184) (g := ρ 15) dR_gain_183 at_amountOf (by decide) ⟨by omega, by omega⟩ rfl ?_
                              have g62 : 0 ≤ ρ 15 ((4 * t) + k) ∧ ρ 15 ((4 * t) + k) ≤ 1000 := hw 15 ((4 * t) + k) (by decide)
                              refine ev_goto (t := 195) (q := 195) dR_gain_184 rfl rfl ?_
                              refine zr_iadd (q := 196) dR_gain_195 rfl ?_
                              refine ev_istore (q := 198) dR_gain_196 (by decide) rfl rfl ?_
                              dsimp only [List.set]
                              refine zr_iinc (q := 201) dR_gain_198 (by rfl) (by decide) rfl rfl ?_
                              dsimp only [List.set]
                              refine ev_goto (t := 6) (q := 6) dR_gain_201 rfl rfl ?_
                              rw [show lR_gain_6 ρ t kind x y (j + 1) k sm = lR_gain_6 ρ t kind x y j (k + 1) (sm + (ρ 15 ((4 * t) + k))) from by rw [lR_gain_6, if_neg (Int.not_le.mpr h2), if_neg (Int.not_le.mpr h42), if_neg (fun z => z h50), if_pos h52, if_neg h53, if_neg (fun z => z h58)]]
                              exact ih (k + 1) (sm + (ρ 15 ((4 * t) + k))) (zi 1) (zi 1) (zi ((4 * t) + k)) (zi 1) (by omega) (by omega) (by omega) (by omega)
                    · refine ev_aload_n 0 (q := 130) dR_gain_129 rfl (by rfl) rfl ?_
                      refine ev_get (q := 133) dR_gain_130 fR_47 atR (by rfl) rfl ?_
                      refine ev_iload (q := 135) dR_gain_133 (by rfl) rfl ?_
                      refine zr_iald (q := 136) (g := ρ 13) dR_gain_135 at_first (by decide) ⟨by omega, by omega⟩ rfl ?_
                      have g63 : 0 ≤ ρ 13 ((4 * t) + k) ∧ ρ 13 ((4 * t) + k) ≤ 3 := hw 13 ((4 * t) + k) (by decide)
                      refine ev_iload_n 3 (q := 137) dR_gain_136 rfl (by rfl) rfl ?_
                      refine zr_icmp_ne (t := 162) (q := 140) dR_gain_137 rfl rfl ⟨by omega, by omega⟩ ⟨by omega, by omega⟩ (fun h64 => ?_) (fun h64 => ?_)
                      · refine ev_iconst (v := iI 0) (q := 163) dR_gain_162 rfl rfl ?_
                        refine ev_istore (q := 165) dR_gain_163 (by decide) rfl rfl ?_
                        dsimp only [List.set]
                        refine ev_iload (q := 167) dR_gain_165 (by rfl) rfl ?_
                        refine zr_if_eq (t := 198) (q := 170) dR_gain_167 rfl rfl ⟨by omega, by omega⟩ (fun h65 => ?_) (fun h65 => ?_)
                        · refine zr_iinc (q := 201) dR_gain_198 (by rfl) (by decide) rfl rfl ?_
                          dsimp only [List.set]
                          refine ev_goto (t := 6) (q := 6) dR_gain_201 rfl rfl ?_
                          rw [show lR_gain_6 ρ t kind x y (j + 1) k sm = lR_gain_6 ρ t kind x y j (k + 1) sm from by rw [lR_gain_6, if_neg (Int.not_le.mpr h2), if_neg (Int.not_le.mpr h42), if_neg (fun z => z h50), if_neg h52, if_pos h64]]
                          exact ih (k + 1) sm (zi 1) (zi 1) (zi ((4 * t) + k)) (zi 0) (by omega) (by omega) (by omega) (by omega)
                        · exfalso
                          omega
                      · refine ev_iload (q := 142) dR_gain_140 (by rfl) rfl ?_
                        refine ev_iconst (v := iI (-1)) (q := 143) dR_gain_142 rfl rfl ?_
                        refine zr_icmp_eq (t := 158) (q := 146) dR_gain_143 rfl rfl ⟨by omega, by omega⟩ ⟨by omega, by omega⟩ (fun h66 => ?_) (fun h66 => ?_)
                        · refine ev_iconst (v := iI 1) (q := 159) dR_gain_158 rfl rfl ?_
                          refine ev_goto (t := 163) (q := 163) dR_gain_159 rfl rfl ?_
                          refine ev_istore (q := 165) dR_gain_163 (by decide) rfl rfl ?_
                          dsimp only [List.set]
                          refine ev_iload (q := 167) dR_gain_165 (by rfl) rfl ?_
                          refine zr_if_eq (t := 198) (q := 170) dR_gain_167 rfl rfl ⟨by omega, by omega⟩ (fun h67 => ?_) (fun h67 => ?_)
                          · exfalso
                            omega
                          · refine ev_iload (q := 172) dR_gain_170 (by rfl) rfl ?_
                            refine ev_iload (q := 174) dR_gain_172 (by rfl) rfl ?_
                            refine zr_if_eq (t := 187) (q := 177) dR_gain_174 rfl rfl ⟨by omega, by omega⟩ (fun h68 => ?_) (fun h68 => ?_)
                            · exfalso
                              omega
                            · refine ev_aload_n 0 (q := 178) dR_gain_177 rfl (by rfl) rfl ?_
                              refine ev_get (q := 181) dR_gain_178 fR_53 atR (by rfl) rfl ?_
                              refine ev_iload (q := 183) dR_gain_181 (by rfl) rfl ?_
                              refine zr_iald (q := 184) (g := ρ 15) dR_gain_183 at_amountOf (by decide) ⟨by omega, by omega⟩ rfl ?_
                              have g69 : 0 ≤ ρ 15 ((4 * t) + k) ∧ ρ 15 ((4 * t) + k) ≤ 1000 := hw 15 ((4 * t) + k) (by decide)
                              refine ev_goto (t := 195) (q := 195) dR_gain_184 rfl rfl ?_
                              refine zr_iadd (q := 196) dR_gain_195 rfl ?_
                              refine ev_istore (q := 198) dR_gain_196 (by decide) rfl rfl ?_
                              dsimp only [List.set]
                              refine zr_iinc (q := 201) dR_gain_198 (by rfl) (by decide) rfl rfl ?_
                              dsimp only [List.set]
                              refine ev_goto (t := 6) (q := 6) dR_gain_201 rfl rfl ?_
                              rw [show lR_gain_6 ρ t kind x y (j + 1) k sm = lR_gain_6 ρ t kind x y j (k + 1) (sm + (ρ 15 ((4 * t) + k))) from by rw [lR_gain_6, if_neg (Int.not_le.mpr h2), if_neg (Int.not_le.mpr h42), if_neg (fun z => z h50), if_neg h52, if_neg (fun z => z h64), if_pos h66]]
                              exact ih (k + 1) (sm + (ρ 15 ((4 * t) + k))) (zi 1) (zi 1) (zi ((4 * t) + k)) (zi 1) (by omega) (by omega) (by omega) (by omega)
                        · refine ev_aload_n 0 (q := 147) dR_gain_146 rfl (by rfl) rfl ?_
                          refine ev_get (q := 150) dR_gain_147 fR_50 atR (by rfl) rfl ?_
                          refine ev_iload (q := 152) dR_gain_150 (by rfl) rfl ?_
                          refine zr_iald (q := 153) (g := ρ 14) dR_gain_152 at_second (by decide) ⟨by omega, by omega⟩ rfl ?_
                          have g70 : 0 ≤ ρ 14 ((4 * t) + k) ∧ ρ 14 ((4 * t) + k) ≤ 3 := hw 14 ((4 * t) + k) (by decide)
                          refine ev_iload (q := 155) dR_gain_153 (by rfl) rfl ?_
                          refine zr_icmp_ne (t := 162) (q := 158) dR_gain_155 rfl rfl ⟨by omega, by omega⟩ ⟨by omega, by omega⟩ (fun h71 => ?_) (fun h71 => ?_)
                          · refine ev_iconst (v := iI 0) (q := 163) dR_gain_162 rfl rfl ?_
                            refine ev_istore (q := 165) dR_gain_163 (by decide) rfl rfl ?_
                            dsimp only [List.set]
                            refine ev_iload (q := 167) dR_gain_165 (by rfl) rfl ?_
                            refine zr_if_eq (t := 198) (q := 170) dR_gain_167 rfl rfl ⟨by omega, by omega⟩ (fun h72 => ?_) (fun h72 => ?_)
                            · refine zr_iinc (q := 201) dR_gain_198 (by rfl) (by decide) rfl rfl ?_
                              dsimp only [List.set]
                              refine ev_goto (t := 6) (q := 6) dR_gain_201 rfl rfl ?_
                              rw [show lR_gain_6 ρ t kind x y (j + 1) k sm = lR_gain_6 ρ t kind x y j (k + 1) sm from by rw [lR_gain_6, if_neg (Int.not_le.mpr h2), if_neg (Int.not_le.mpr h42), if_neg (fun z => z h50), if_neg h52, if_neg (fun z => z h64), if_neg h66, if_pos h71]]
                              exact ih (k + 1) sm (zi 1) (zi 1) (zi ((4 * t) + k)) (zi 0) (by omega) (by omega) (by omega) (by omega)
                            · exfalso
                              omega
                          · refine ev_iconst (v := iI 1) (q := 159) dR_gain_158 rfl rfl ?_
                            refine ev_goto (t := 163) (q := 163) dR_gain_159 rfl rfl ?_
                            refine ev_istore (q := 165) dR_gain_163 (by decide) rfl rfl ?_
                            dsimp only [List.set]
                            refine ev_iload (q := 167) dR_gain_165 (by rfl) rfl ?_
                            refine zr_if_eq (t := 198) (q := 170) dR_gain_167 rfl rfl ⟨by omega, by omega⟩ (fun h73 => ?_) (fun h73 => ?_)
                            · exfalso
                              omega
                            · refine ev_iload (q := 172) dR_gain_170 (by rfl) rfl ?_
                              refine ev_iload (q := 174) dR_gain_172 (by rfl) rfl ?_
                              refine zr_if_eq (t := 187) (q := 177) dR_gain_174 rfl rfl ⟨by omega, by omega⟩ (fun h74 => ?_) (fun h74 => ?_)
                              · exfalso
                                omega
                              · refine ev_aload_n 0 (q := 178) dR_gain_177 rfl (by rfl) rfl ?_
                                refine ev_get (q := 181) dR_gain_178 fR_53 atR (by rfl) rfl ?_
                                refine ev_iload (q := 183) dR_gain_181 (by rfl) rfl ?_
                                refine zr_iald (q := 184) (g := ρ 15) dR_gain_183 at_amountOf (by decide) ⟨by omega, by omega⟩ rfl ?_
                                have g75 : 0 ≤ ρ 15 ((4 * t) + k) ∧ ρ 15 ((4 * t) + k) ≤ 1000 := hw 15 ((4 * t) + k) (by decide)
                                refine ev_goto (t := 195) (q := 195) dR_gain_184 rfl rfl ?_
                                refine zr_iadd (q := 196) dR_gain_195 rfl ?_
                                refine ev_istore (q := 198) dR_gain_196 (by decide) rfl rfl ?_
                                dsimp only [List.set]
                                refine zr_iinc (q := 201) dR_gain_198 (by rfl) (by decide) rfl rfl ?_
                                dsimp only [List.set]
                                refine ev_goto (t := 6) (q := 6) dR_gain_201 rfl rfl ?_
                                rw [show lR_gain_6 ρ t kind x y (j + 1) k sm = lR_gain_6 ρ t kind x y j (k + 1) (sm + (ρ 15 ((4 * t) + k))) from by rw [lR_gain_6, if_neg (Int.not_le.mpr h2), if_neg (Int.not_le.mpr h42), if_neg (fun z => z h50), if_neg h52, if_neg (fun z => z h64), if_neg h66, if_neg (fun z => z h71)]]
                                exact ih (k + 1) (sm + (ρ 15 ((4 * t) + k))) (zi 1) (zi 1) (zi ((4 * t) + k)) (zi 1) (by omega) (by omega) (by omega) (by omega)
            · exfalso
              omega
def rR_gain (ρ : z_Sg) (t kind x y : Int) : Int := lR_gain_6 ρ t kind x y 8 0 0
set_option maxRecDepth 100000 in
set_option maxHeartbeats 4000000 in
theorem sR_gain {κ ρ : z_Sg} {a : Int → Nat} {B : List va_E} (hw : z_wf ρ) (t kind x y : Int) (hp0 : 0 ≤ t ∧ t ≤ 19) (hp1 : z_rg kind) (hp2 : z_rg x) (hp3 : z_rg y) : z_Sp mR_gain (0, 0) 0 0 [.ref 12, zi t, zi kind, zi x, zi y] (zM κ a ρ B) (fun r M' => r = some (zi (rR_gain ρ t kind x y)) ∧ M' = zM κ a ρ B) := by
  refine z_Sp_of (L := [.ref 12, zi t, zi kind, zi x, zi y, .float 0, .float 0, .float 0, .float 0, .float 0, .float 0]) (by decide) rfl rfl rfl (Nat.le_of_ble_eq_true rfl) ?_
  refine ev_iconst (v := iI 0) (q := 1) dR_gain_0 rfl rfl ?_
  refine ev_istore (q := 3) dR_gain_1 (by decide) rfl rfl ?_
  dsimp only [List.set]
  refine ev_iconst (v := iI 0) (q := 4) dR_gain_3 rfl rfl ?_
  refine ev_istore (q := 6) dR_gain_4 (by decide) rfl rfl ?_
  dsimp only [List.set]
  rw [show rR_gain ρ t kind x y = lR_gain_6 ρ t kind x y 8 0 0 from by rw [rR_gain]]
  exact eR_gain_6 hw t kind x y hp0 hp1 hp2 hp3 8 0 0 (.float 0) (.float 0) (.float 0) (.float 0) (by omega) (by omega) (by omega) (by omega)

theorem bR_gain {ρ : z_Sg} (hw : z_wf ρ) (t kind x y : Int) (hp0 : 0 ≤ t ∧ t ≤ 19) (hp1 : z_rg kind) (hp2 : z_rg x) (hp3 : z_rg y) : -8000 ≤ rR_gain ρ t kind x y ∧ rR_gain ρ t kind x y ≤ 8000 := by
  have key : ∀ (j : Nat) (k sm : Int), k + j = 8 → -1000 * k ≤ sm → sm ≤ 1000 * k → -8000 ≤ lR_gain_6 ρ t kind x y j k sm ∧ lR_gain_6 ρ t kind x y j k sm ≤ 8000 := by
    intro j
    induction j with
    | zero =>
      intro k sm h1 h2 h3
      rw [lR_gain_6]
      omega
    | succ j ih =>
      intro k sm h1 h2 h3
      rw [lR_gain_6]
      have g1 : 0 ≤ ρ 15 (4 * t + k) ∧ ρ 15 (4 * t + k) ≤ 1000 := hw 15 _ (by decide)
      have g2 : 0 ≤ ρ 15 (ρ 11 (4 * t + k - 4)) ∧ ρ 15 (ρ 11 (4 * t + k - 4)) ≤ 1000 := hw 15 _ (by decide)
      repeat' split
      all_goals (apply ih <;> omega)
  exact key _ _ _ (by omega) (by omega) (by omega)

def lR_letDown_5 (ρ : z_Sg) (t y : Int) : Nat → Int → Int → Int
  | 0, k, sm => if sm ≤ 0 then 0 else if sm ≤ (rR_gain ρ t 0 (-1) y) then 0 else 1
  | j + 1, k, sm => if 0 ≤ (rR_gain ρ t 1 k y) then lR_letDown_5 ρ t y j (k + 1) sm else lR_letDown_5 ρ t y j (k + 1) (sm - (rR_gain ρ t 1 k y))
theorem blR_letDown_5 (ρ : z_Sg) (t y : Int) : ∀ (j : Nat) (k sm : Int), lR_letDown_5 ρ t y j k sm = 0 ∨ lR_letDown_5 ρ t y j k sm = 1 := by
  intro j
  induction j with
  | zero =>
    intro k sm
    rw [lR_letDown_5]
    repeat' split
    all_goals first | exact Or.inl rfl | exact Or.inr rfl
  | succ j ih =>
    intro k sm
    rw [lR_letDown_5]
    repeat' split
    all_goals first | exact Or.inl rfl | exact Or.inr rfl | exact ih _ _
set_option maxRecDepth 100000 in
set_option maxHeartbeats 4000000 in
theorem eR_letDown_5 {κ ρ : z_Sg} {a : Int → Nat} {B : List va_E} (hw : z_wf ρ) (t y : Int) (hp0 : 0 ≤ t ∧ t ≤ 19) (hp1 : z_rg y) : ∀ (j : Nat) (k sm : Int) (x5 : Value), 0 ≤ k → k + j = 4 → 0 ≤ sm → sm ≤ 8000 * k → z_Ev mR_letDown (1, 30) 0 0 5 [.ref 12, zi t, zi y, zi sm, zi k, x5] [] (zM κ a ρ B) (fun r M' => r = some (zi (lR_letDown_5 ρ t y j k sm)) ∧ M' = zM κ a ρ B) := by
  intro j
  induction j with
  | zero =>
    intro k sm x5 c0 c1 c2 c3
    refine ev_iload (q := 7) dR_letDown_5 (by rfl) rfl ?_
    refine ev_iconst (v := iI 4) (q := 8) dR_letDown_7 rfl rfl ?_
    refine zr_icmp_ge (t := 38) (q := 11) dR_letDown_8 rfl rfl ⟨by omega, by omega⟩ ⟨by omega, by omega⟩ (fun h1 => ?_) (fun h1 => ?_)
    · refine ev_iload_n 3 (q := 39) dR_letDown_38 rfl (by rfl) rfl ?_
      refine zr_if_le (t := 58) (q := 42) dR_letDown_39 rfl rfl ⟨by omega, by omega⟩ (fun h2 => ?_) (fun h2 => ?_)
      · refine ev_iconst (v := iI 0) (q := 59) dR_letDown_58 rfl rfl ?_
        exact zr_zret dR_letDown_59 rfl (by omega) ⟨by rw [lR_letDown_5, if_pos h2], rfl⟩
      · refine ev_iload_n 3 (q := 43) dR_letDown_42 rfl (by rfl) rfl ?_
        refine ev_aload_n 0 (q := 44) dR_letDown_43 rfl (by rfl) rfl ?_
        refine ev_iload_n 1 (q := 45) dR_letDown_44 rfl (by rfl) rfl ?_
        refine ev_iconst (v := iI 0) (q := 46) dR_letDown_45 rfl rfl ?_
        refine ev_iconst (v := iI (-1)) (q := 47) dR_letDown_46 rfl rfl ?_
        refine ev_iload_n 2 (q := 48) dR_letDown_47 rfl (by rfl) rfl ?_
        refine cv_V (As := [_, _, _, _]) (q := 51) dR_letDown_48 kR_123 atR rfl rfl (Nat.le_of_ble_eq_true rfl) rfl rfl rfl (by decide) (sR_gain hw t 0 (-1) y ⟨by omega, by omega⟩ ⟨by omega, by omega⟩ ⟨by omega, by omega⟩ ⟨by omega, by omega⟩ ) ?_
        have g3 := bR_gain hw t 0 (-1) y ⟨by omega, by omega⟩ ⟨by omega, by omega⟩ ⟨by omega, by omega⟩ ⟨by omega, by omega⟩ 
        refine zr_icmp_le (t := 58) (q := 54) dR_letDown_51 rfl rfl ⟨by omega, by omega⟩ ⟨by omega, by omega⟩ (fun h4 => ?_) (fun h4 => ?_)
        · refine ev_iconst (v := iI 0) (q := 59) dR_letDown_58 rfl rfl ?_
          exact zr_zret dR_letDown_59 rfl (by omega) ⟨by rw [lR_letDown_5, if_neg (Int.not_le.mpr h2), if_pos h4], rfl⟩
        · refine ev_iconst (v := iI 1) (q := 55) dR_letDown_54 rfl rfl ?_
          refine ev_goto (t := 59) (q := 59) dR_letDown_55 rfl rfl ?_
          exact zr_zret dR_letDown_59 rfl (by omega) ⟨by rw [lR_letDown_5, if_neg (Int.not_le.mpr h2), if_neg (Int.not_le.mpr h4)], rfl⟩
    · exfalso
      omega
  | succ j ih =>
    intro k sm x5 c0 c1 c2 c3
    refine ev_iload (q := 7) dR_letDown_5 (by rfl) rfl ?_
    refine ev_iconst (v := iI 4) (q := 8) dR_letDown_7 rfl rfl ?_
    refine zr_icmp_ge (t := 38) (q := 11) dR_letDown_8 rfl rfl ⟨by omega, by omega⟩ ⟨by omega, by omega⟩ (fun h1 => ?_) (fun h1 => ?_)
    · exfalso
      omega
    · refine ev_aload_n 0 (q := 12) dR_letDown_11 rfl (by rfl) rfl ?_
      refine ev_iload_n 1 (q := 13) dR_letDown_12 rfl (by rfl) rfl ?_
      refine ev_iconst (v := iI 1) (q := 14) dR_letDown_13 rfl rfl ?_
      refine ev_iload (q := 16) dR_letDown_14 (by rfl) rfl ?_
      refine ev_iload_n 2 (q := 17) dR_letDown_16 rfl (by rfl) rfl ?_
      refine cv_V (As := [_, _, _, _]) (q := 20) dR_letDown_17 kR_123 atR rfl rfl (Nat.le_of_ble_eq_true rfl) rfl rfl rfl (by decide) (sR_gain hw t 1 k y ⟨by omega, by omega⟩ ⟨by omega, by omega⟩ ⟨by omega, by omega⟩ ⟨by omega, by omega⟩ ) ?_
      have g2 := bR_gain hw t 1 k y ⟨by omega, by omega⟩ ⟨by omega, by omega⟩ ⟨by omega, by omega⟩ ⟨by omega, by omega⟩ 
      refine ev_istore (q := 22) dR_letDown_20 (by decide) rfl rfl ?_
      dsimp only [List.set]
      refine ev_iload (q := 24) dR_letDown_22 (by rfl) rfl ?_
      refine zr_if_ge (t := 32) (q := 27) dR_letDown_24 rfl rfl ⟨by omega, by omega⟩ (fun h3 => ?_) (fun h3 => ?_)
      · refine zr_iinc (q := 35) dR_letDown_32 (by rfl) (by decide) rfl rfl ?_
        dsimp only [List.set]
        refine ev_goto (t := 5) (q := 5) dR_letDown_35 rfl rfl ?_
        rw [show lR_letDown_5 ρ t y (j + 1) k sm = lR_letDown_5 ρ t y j (k + 1) sm from by rw [lR_letDown_5, if_pos h3]]
        exact ih (k + 1) sm (zi (rR_gain ρ t 1 k y)) (by omega) (by omega) (by omega) (by omega)
      · refine ev_iload_n 3 (q := 28) dR_letDown_27 rfl (by rfl) rfl ?_
        refine ev_iload (q := 30) dR_letDown_28 (by rfl) rfl ?_
        refine zr_isub (q := 31) dR_letDown_30 rfl ?_
        refine ev_istore_n 3 (q := 32) dR_letDown_31 rfl (by decide) rfl rfl ?_
        dsimp only [List.set]
        refine zr_iinc (q := 35) dR_letDown_32 (by rfl) (by decide) rfl rfl ?_
        dsimp only [List.set]
        refine ev_goto (t := 5) (q := 5) dR_letDown_35 rfl rfl ?_
        rw [show lR_letDown_5 ρ t y (j + 1) k sm = lR_letDown_5 ρ t y j (k + 1) (sm - (rR_gain ρ t 1 k y)) from by rw [lR_letDown_5, if_neg (Int.not_le.mpr h3)]]
        exact ih (k + 1) (sm - (rR_gain ρ t 1 k y)) (zi (rR_gain ρ t 1 k y)) (by omega) (by omega) (by omega) (by omega)
def rR_letDown (ρ : z_Sg) (t y : Int) : Int := lR_letDown_5 ρ t y 4 0 0
theorem bR_letDown (ρ : z_Sg) (t y : Int) : rR_letDown ρ t y = 0 ∨ rR_letDown ρ t y = 1 := by
  unfold rR_letDown
  repeat' split
  all_goals first | exact Or.inl rfl | exact Or.inr rfl | exact blR_letDown_5 _ _ _ _ _ _
set_option maxRecDepth 100000 in
set_option maxHeartbeats 4000000 in
theorem sR_letDown {κ ρ : z_Sg} {a : Int → Nat} {B : List va_E} (hw : z_wf ρ) (t y : Int) (hp0 : 0 ≤ t ∧ t ≤ 19) (hp1 : z_rg y) : z_Sp mR_letDown (1, 30) 0 0 [.ref 12, zi t, zi y] (zM κ a ρ B) (fun r M' => r = some (zi (rR_letDown ρ t y)) ∧ M' = zM κ a ρ B) := by
  refine z_Sp_of (L := [.ref 12, zi t, zi y, .float 0, .float 0, .float 0]) (by decide) rfl rfl rfl (Nat.le_of_ble_eq_true rfl) ?_
  refine ev_iconst (v := iI 0) (q := 1) dR_letDown_0 rfl rfl ?_
  refine ev_istore_n 3 (q := 2) dR_letDown_1 rfl (by decide) rfl rfl ?_
  dsimp only [List.set]
  refine ev_iconst (v := iI 0) (q := 3) dR_letDown_2 rfl rfl ?_
  refine ev_istore (q := 5) dR_letDown_3 (by decide) rfl rfl ?_
  dsimp only [List.set]
  rw [show rR_letDown ρ t y = lR_letDown_5 ρ t y 4 0 0 from by rw [rR_letDown]]
  exact eR_letDown_5 hw t y hp0 hp1 4 0 0 (.float 0) (by omega) (by omega) (by omega) (by omega)

def lR_mustSign_87 (ρ : z_Sg) (t n : Int) : Nat → Int → Int
  | 0, k => 0
  | j + 1, k => if (rR_gain ρ t 1 n k) ≤ 0 then lR_mustSign_87 ρ t n j (k + 1) else 1
theorem blR_mustSign_87 (ρ : z_Sg) (t n : Int) : ∀ (j : Nat) (k : Int), lR_mustSign_87 ρ t n j k = 0 ∨ lR_mustSign_87 ρ t n j k = 1 := by
  intro j
  induction j with
  | zero =>
    intro k
    rw [lR_mustSign_87]
    repeat' split
    all_goals first | exact Or.inl rfl | exact Or.inr rfl
  | succ j ih =>
    intro k
    rw [lR_mustSign_87]
    repeat' split
    all_goals first | exact Or.inl rfl | exact Or.inr rfl | exact ih _
set_option maxRecDepth 100000 in
set_option maxHeartbeats 4000000 in
theorem eR_mustSign_87 {κ ρ : z_Sg} {a : Int → Nat} {B : List va_E} (hw : z_wf ρ) (t n : Int) (hp0 : 0 ≤ t ∧ t ≤ 19) (hp1 : z_rg n) : ∀ (j : Nat) (k : Int) (x4 : Value), 0 ≤ k → k + j = 4 → z_Ev mR_mustSign (2, 55) 0 0 87 [.ref 12, zi t, zi n, zi k, x4] [] (zM κ a ρ B) (fun r M' => r = some (zi (lR_mustSign_87 ρ t n j k)) ∧ M' = zM κ a ρ B) := by
  intro j
  induction j with
  | zero =>
    intro k x4 c0 c1
    refine ev_iload_n 3 (q := 88) dR_mustSign_87 rfl (by rfl) rfl ?_
    refine ev_iconst (v := iI 4) (q := 89) dR_mustSign_88 rfl rfl ?_
    refine zr_icmp_ge (t := 111) (q := 92) dR_mustSign_89 rfl rfl ⟨by omega, by omega⟩ ⟨by omega, by omega⟩ (fun h1 => ?_) (fun h1 => ?_)
    · refine ev_iconst (v := iI 0) (q := 112) dR_mustSign_111 rfl rfl ?_
      exact zr_zret dR_mustSign_112 rfl (by omega) ⟨by rw [lR_mustSign_87], rfl⟩
    · exfalso
      omega
  | succ j ih =>
    intro k x4 c0 c1
    refine ev_iload_n 3 (q := 88) dR_mustSign_87 rfl (by rfl) rfl ?_
    refine ev_iconst (v := iI 4) (q := 89) dR_mustSign_88 rfl rfl ?_
    refine zr_icmp_ge (t := 111) (q := 92) dR_mustSign_89 rfl rfl ⟨by omega, by omega⟩ ⟨by omega, by omega⟩ (fun h1 => ?_) (fun h1 => ?_)
    · exfalso
      omega
    · refine ev_aload_n 0 (q := 93) dR_mustSign_92 rfl (by rfl) rfl ?_
      refine ev_iload_n 1 (q := 94) dR_mustSign_93 rfl (by rfl) rfl ?_
      refine ev_iconst (v := iI 1) (q := 95) dR_mustSign_94 rfl rfl ?_
      refine ev_iload_n 2 (q := 96) dR_mustSign_95 rfl (by rfl) rfl ?_
      refine ev_iload_n 3 (q := 97) dR_mustSign_96 rfl (by rfl) rfl ?_
      refine cv_V (As := [_, _, _, _]) (q := 100) dR_mustSign_97 kR_123 atR rfl rfl (Nat.le_of_ble_eq_true rfl) rfl rfl rfl (by decide) (sR_gain hw t 1 n k ⟨by omega, by omega⟩ ⟨by omega, by omega⟩ ⟨by omega, by omega⟩ ⟨by omega, by omega⟩ ) ?_
      have g2 := bR_gain hw t 1 n k ⟨by omega, by omega⟩ ⟨by omega, by omega⟩ ⟨by omega, by omega⟩ ⟨by omega, by omega⟩ 
      refine zr_if_le (t := 105) (q := 103) dR_mustSign_100 rfl rfl ⟨by omega, by omega⟩ (fun h3 => ?_) (fun h3 => ?_)
      · refine zr_iinc (q := 108) dR_mustSign_105 (by rfl) (by decide) rfl rfl ?_
        dsimp only [List.set]
        refine ev_goto (t := 87) (q := 87) dR_mustSign_108 rfl rfl ?_
        rw [show lR_mustSign_87 ρ t n (j + 1) k = lR_mustSign_87 ρ t n j (k + 1) from by rw [lR_mustSign_87, if_pos h3]]
        exact ih (k + 1) x4 (by omega) (by omega)
      · refine ev_iconst (v := iI 1) (q := 104) dR_mustSign_103 rfl rfl ?_
        exact zr_zret dR_mustSign_104 rfl (by omega) ⟨by rw [lR_mustSign_87, if_neg (Int.not_le.mpr h3)], rfl⟩
def lR_mustSign_34 (ρ : z_Sg) (t n : Int) : Nat → Int → Int
  | 0, k => lR_mustSign_87 ρ t n 4 0
  | j + 1, k => if (ρ 12 (ρ 11 ((4 * t) + k))) ≠ 0 then lR_mustSign_34 ρ t n j (k + 1) else if (ρ 14 (ρ 11 ((4 * t) + k))) ≠ n then lR_mustSign_34 ρ t n j (k + 1) else 1
theorem blR_mustSign_34 (ρ : z_Sg) (t n : Int) : ∀ (j : Nat) (k : Int), lR_mustSign_34 ρ t n j k = 0 ∨ lR_mustSign_34 ρ t n j k = 1 := by
  intro j
  induction j with
  | zero =>
    intro k
    rw [lR_mustSign_34]
    repeat' split
    all_goals first | exact Or.inl rfl | exact Or.inr rfl | exact blR_mustSign_87 _ _ _ _ _
  | succ j ih =>
    intro k
    rw [lR_mustSign_34]
    repeat' split
    all_goals first | exact Or.inl rfl | exact Or.inr rfl | exact ih _ | exact blR_mustSign_87 _ _ _ _ _
set_option maxRecDepth 100000 in
set_option maxHeartbeats 4000000 in
theorem eR_mustSign_34 {κ ρ : z_Sg} {a : Int → Nat} {B : List va_E} (hw : z_wf ρ) (t n : Int) (hp0 : 0 ≤ t ∧ t ≤ 19) (hp1 : z_rg n) : ∀ (j : Nat) (k : Int) (x4 : Value), 0 ≤ k → k + j = ρ 9 t → z_Ev mR_mustSign (2, 55) 0 0 34 [.ref 12, zi t, zi n, zi k, x4] [] (zM κ a ρ B) (fun r M' => r = some (zi (lR_mustSign_34 ρ t n j k)) ∧ M' = zM κ a ρ B) := by
  intro j
  induction j with
  | zero =>
    intro k x4 c0 c1
    refine ev_iload_n 3 (q := 35) dR_mustSign_34 rfl (by rfl) rfl ?_
    refine ev_aload_n 0 (q := 36) dR_mustSign_35 rfl (by rfl) rfl ?_
    refine ev_get (q := 39) dR_mustSign_36 fR_35 atR (by rfl) rfl ?_
    refine ev_iload_n 1 (q := 40) dR_mustSign_39 rfl (by rfl) rfl ?_
    refine zr_iald (q := 41) (g := ρ 9) dR_mustSign_40 at_inputs (by decide) ⟨by omega, by omega⟩ rfl ?_
    have g1 : 0 ≤ ρ 9 t ∧ ρ 9 t ≤ 4 := hw 9 t (by decide)
    refine zr_icmp_ge (t := 85) (q := 44) dR_mustSign_41 rfl rfl ⟨by omega, by omega⟩ ⟨by omega, by omega⟩ (fun h2 => ?_) (fun h2 => ?_)
    · refine ev_iconst (v := iI 0) (q := 86) dR_mustSign_85 rfl rfl ?_
      refine ev_istore_n 3 (q := 87) dR_mustSign_86 rfl (by decide) rfl rfl ?_
      dsimp only [List.set]
      rw [show lR_mustSign_34 ρ t n 0 k = lR_mustSign_87 ρ t n 4 0 from by rw [lR_mustSign_34]]
      exact eR_mustSign_87 hw t n hp0 hp1 4 0 x4 (by omega) (by omega)
    · exfalso
      omega
  | succ j ih =>
    intro k x4 c0 c1
    refine ev_iload_n 3 (q := 35) dR_mustSign_34 rfl (by rfl) rfl ?_
    refine ev_aload_n 0 (q := 36) dR_mustSign_35 rfl (by rfl) rfl ?_
    refine ev_get (q := 39) dR_mustSign_36 fR_35 atR (by rfl) rfl ?_
    refine ev_iload_n 1 (q := 40) dR_mustSign_39 rfl (by rfl) rfl ?_
    refine zr_iald (q := 41) (g := ρ 9) dR_mustSign_40 at_inputs (by decide) ⟨by omega, by omega⟩ rfl ?_
    have g1 : 0 ≤ ρ 9 t ∧ ρ 9 t ≤ 4 := hw 9 t (by decide)
    refine zr_icmp_ge (t := 85) (q := 44) dR_mustSign_41 rfl rfl ⟨by omega, by omega⟩ ⟨by omega, by omega⟩ (fun h2 => ?_) (fun h2 => ?_)
    · exfalso
      omega
    · refine ev_aload_n 0 (q := 45) dR_mustSign_44 rfl (by rfl) rfl ?_
      refine ev_get (q := 48) dR_mustSign_45 fR_41 atR (by rfl) rfl ?_
      refine ev_iconst (v := iI 4) (q := 49) dR_mustSign_48 rfl rfl ?_
      refine ev_iload_n 1 (q := 50) dR_mustSign_49 rfl (by rfl) rfl ?_
      refine zr_imul (q := 51) dR_mustSign_50 rfl ?_
      refine ev_iload_n 3 (q := 52) dR_mustSign_51 rfl (by rfl) rfl ?_
      refine zr_iadd (q := 53) dR_mustSign_52 rfl ?_
      refine zr_iald (q := 54) (g := ρ 11) dR_mustSign_53 at_input (by decide) ⟨by omega, by omega⟩ rfl ?_
      have g3 : 0 ≤ ρ 11 ((4 * t) + k) ∧ ρ 11 ((4 * t) + k) ≤ 79 := hw 11 ((4 * t) + k) (by decide)
      refine ev_istore (q := 56) dR_mustSign_54 (by decide) rfl rfl ?_
      dsimp only [List.set]
      refine ev_aload_n 0 (q := 57) dR_mustSign_56 rfl (by rfl) rfl ?_
      refine ev_get (q := 60) dR_mustSign_57 fR_44 atR (by rfl) rfl ?_
      refine ev_iload (q := 62) dR_mustSign_60 (by rfl) rfl ?_
      refine zr_iald (q := 63) (g := ρ 12) dR_mustSign_62 at_kindOf (by decide) ⟨by omega, by omega⟩ rfl ?_
      have g4 : 0 ≤ ρ 12 (ρ 11 ((4 * t) + k)) ∧ ρ 12 (ρ 11 ((4 * t) + k)) ≤ 2 := hw 12 (ρ 11 ((4 * t) + k)) (by decide)
      refine zr_if_ne (t := 79) (q := 66) dR_mustSign_63 rfl rfl ⟨by omega, by omega⟩ (fun h5 => ?_) (fun h5 => ?_)
      · refine zr_iinc (q := 82) dR_mustSign_79 (by rfl) (by decide) rfl rfl ?_
        dsimp only [List.set]
        refine ev_goto (t := 34) (q := 34) dR_mustSign_82 rfl rfl ?_
        rw [show lR_mustSign_34 ρ t n (j + 1) k = lR_mustSign_34 ρ t n j (k + 1) from by rw [lR_mustSign_34, if_pos h5]]
        exact ih (k + 1) (zi (ρ 11 ((4 * t) + k))) (by omega) (by omega)
      · refine ev_aload_n 0 (q := 67) dR_mustSign_66 rfl (by rfl) rfl ?_
        refine ev_get (q := 70) dR_mustSign_67 fR_50 atR (by rfl) rfl ?_
        refine ev_iload (q := 72) dR_mustSign_70 (by rfl) rfl ?_
        refine zr_iald (q := 73) (g := ρ 14) dR_mustSign_72 at_second (by decide) ⟨by omega, by omega⟩ rfl ?_
        have g6 : 0 ≤ ρ 14 (ρ 11 ((4 * t) + k)) ∧ ρ 14 (ρ 11 ((4 * t) + k)) ≤ 3 := hw 14 (ρ 11 ((4 * t) + k)) (by decide)
        refine ev_iload_n 2 (q := 74) dR_mustSign_73 rfl (by rfl) rfl ?_
        refine zr_icmp_ne (t := 79) (q := 77) dR_mustSign_74 rfl rfl ⟨by omega, by omega⟩ ⟨by omega, by omega⟩ (fun h7 => ?_) (fun h7 => ?_)
        · refine zr_iinc (q := 82) dR_mustSign_79 (by rfl) (by decide) rfl rfl ?_
          dsimp only [List.set]
          refine ev_goto (t := 34) (q := 34) dR_mustSign_82 rfl rfl ?_
          rw [show lR_mustSign_34 ρ t n (j + 1) k = lR_mustSign_34 ρ t n j (k + 1) from by rw [lR_mustSign_34, if_neg (fun z => z h5), if_pos h7]]
          exact ih (k + 1) (zi (ρ 11 ((4 * t) + k))) (by omega) (by omega)
        · refine ev_iconst (v := iI 1) (q := 78) dR_mustSign_77 rfl rfl ?_
          exact zr_zret dR_mustSign_78 rfl (by omega) ⟨by rw [lR_mustSign_34, if_neg (fun z => z h5), if_neg (fun z => z h7)], rfl⟩
def rR_mustSign (ρ : z_Sg) (t n : Int) : Int := if (ρ 1 t) = n then 1 else if (rR_gain ρ t 0 n (-1)) ≠ 0 then 1 else if (rR_letDown ρ t n) = 0 then lR_mustSign_34 ρ t n (ρ 9 t).toNat 0 else 1
theorem bR_mustSign (ρ : z_Sg) (t n : Int) : rR_mustSign ρ t n = 0 ∨ rR_mustSign ρ t n = 1 := by
  unfold rR_mustSign
  repeat' split
  all_goals first | exact Or.inl rfl | exact Or.inr rfl | exact blR_mustSign_34 _ _ _ _ _ | exact blR_mustSign_87 _ _ _ _ _
set_option maxRecDepth 100000 in
set_option maxHeartbeats 4000000 in
theorem sR_mustSign {κ ρ : z_Sg} {a : Int → Nat} {B : List va_E} (hw : z_wf ρ) (t n : Int) (hp0 : 0 ≤ t ∧ t ≤ 19) (hp1 : z_rg n) : z_Sp mR_mustSign (2, 55) 0 0 [.ref 12, zi t, zi n] (zM κ a ρ B) (fun r M' => r = some (zi (rR_mustSign ρ t n)) ∧ M' = zM κ a ρ B) := by
  refine z_Sp_of (L := [.ref 12, zi t, zi n, .float 0, .float 0]) (by decide) rfl rfl rfl (Nat.le_of_ble_eq_true rfl) ?_
  refine ev_aload_n 0 (q := 1) dR_mustSign_0 rfl (by rfl) rfl ?_
  refine ev_get (q := 4) dR_mustSign_1 fR_7 atR (by rfl) rfl ?_
  refine ev_iload_n 1 (q := 5) dR_mustSign_4 rfl (by rfl) rfl ?_
  refine zr_iald (q := 6) (g := ρ 1) dR_mustSign_5 at_begunBy (by decide) ⟨by omega, by omega⟩ rfl ?_
  have g1 : 0 ≤ ρ 1 t ∧ ρ 1 t ≤ 3 := hw 1 t (by decide)
  refine ev_iload_n 2 (q := 7) dR_mustSign_6 rfl (by rfl) rfl ?_
  refine zr_icmp_eq (t := 30) (q := 10) dR_mustSign_7 rfl rfl ⟨by omega, by omega⟩ ⟨by omega, by omega⟩ (fun h2 => ?_) (fun h2 => ?_)
  · refine ev_iconst (v := iI 1) (q := 31) dR_mustSign_30 rfl rfl ?_
    exact zr_zret dR_mustSign_31 rfl (by omega) ⟨by rw [rR_mustSign, if_pos h2], rfl⟩
  · refine ev_aload_n 0 (q := 11) dR_mustSign_10 rfl (by rfl) rfl ?_
    refine ev_iload_n 1 (q := 12) dR_mustSign_11 rfl (by rfl) rfl ?_
    refine ev_iconst (v := iI 0) (q := 13) dR_mustSign_12 rfl rfl ?_
    refine ev_iload_n 2 (q := 14) dR_mustSign_13 rfl (by rfl) rfl ?_
    refine ev_iconst (v := iI (-1)) (q := 15) dR_mustSign_14 rfl rfl ?_
    refine cv_V (As := [_, _, _, _]) (q := 18) dR_mustSign_15 kR_123 atR rfl rfl (Nat.le_of_ble_eq_true rfl) rfl rfl rfl (by decide) (sR_gain hw t 0 n (-1) ⟨by omega, by omega⟩ ⟨by omega, by omega⟩ ⟨by omega, by omega⟩ ⟨by omega, by omega⟩ ) ?_
    have g3 := bR_gain hw t 0 n (-1) ⟨by omega, by omega⟩ ⟨by omega, by omega⟩ ⟨by omega, by omega⟩ ⟨by omega, by omega⟩ 
    refine zr_if_ne (t := 30) (q := 21) dR_mustSign_18 rfl rfl ⟨by omega, by omega⟩ (fun h4 => ?_) (fun h4 => ?_)
    · refine ev_iconst (v := iI 1) (q := 31) dR_mustSign_30 rfl rfl ?_
      exact zr_zret dR_mustSign_31 rfl (by omega) ⟨by rw [rR_mustSign, if_neg h2, if_pos h4], rfl⟩
    · refine ev_aload_n 0 (q := 22) dR_mustSign_21 rfl (by rfl) rfl ?_
      refine ev_iload_n 1 (q := 23) dR_mustSign_22 rfl (by rfl) rfl ?_
      refine ev_iload_n 2 (q := 24) dR_mustSign_23 rfl (by rfl) rfl ?_
      refine cv_V (As := [_, _]) (q := 27) dR_mustSign_24 kR_127 atR rfl rfl (Nat.le_of_ble_eq_true rfl) rfl rfl rfl (by decide) (sR_letDown hw t n ⟨by omega, by omega⟩ ⟨by omega, by omega⟩ ) ?_
      have g5 : (rR_letDown ρ t n) = 0 ∨ (rR_letDown ρ t n) = 1 := bR_letDown _ _ _
      refine zr_if_eq (t := 32) (q := 30) dR_mustSign_27 rfl rfl ⟨by omega, by omega⟩ (fun h6 => ?_) (fun h6 => ?_)
      · refine ev_iconst (v := iI 0) (q := 33) dR_mustSign_32 rfl rfl ?_
        refine ev_istore_n 3 (q := 34) dR_mustSign_33 rfl (by decide) rfl rfl ?_
        dsimp only [List.set]
        have g7 : 0 ≤ ρ 9 t ∧ ρ 9 t ≤ 4 := hw 9 t (by decide)
        rw [show rR_mustSign ρ t n = lR_mustSign_34 ρ t n (ρ 9 t).toNat 0 from by rw [rR_mustSign, if_neg h2, if_neg (fun z => z h4), if_pos h6]]
        exact eR_mustSign_34 hw t n hp0 hp1 (ρ 9 t).toNat 0 (.float 0) (by omega) (by omega)
      · refine ev_iconst (v := iI 1) (q := 31) dR_mustSign_30 rfl rfl ?_
        exact zr_zret dR_mustSign_31 rfl (by omega) ⟨by rw [rR_mustSign, if_neg h2, if_neg (fun z => z h4), if_neg h6], rfl⟩

def lR_needs_4 (ρ : z_Sg) (t : Int) : Nat → Int → Int → Int
  | 0, n, sm => sm
  | j + 1, n, sm => if (rR_mustSign ρ t n) = 0 then lR_needs_4 ρ t j (n + (-1)) ((2 * sm) + 0) else lR_needs_4 ρ t j (n + (-1)) ((2 * sm) + 1)
set_option maxRecDepth 100000 in
set_option maxHeartbeats 4000000 in
theorem eR_needs_4 {κ ρ : z_Sg} {a : Int → Nat} {B : List va_E} (hw : z_wf ρ) (t : Int) (hp0 : 0 ≤ t ∧ t ≤ 19) : ∀ (j : Nat) (n sm : Int), n + 1 = j → n ≤ 3 → z_Ev mR_needs (3, 79) 0 0 4 [.ref 12, zi t, zi sm, zi n] [] (zM κ a ρ B) (fun r M' => r = some (zi (lR_needs_4 ρ t j n sm)) ∧ M' = zM κ a ρ B) := by
  intro j
  induction j with
  | zero =>
    intro n sm  c0 c1
    refine ev_iload_n 3 (q := 5) dR_needs_4 rfl (by rfl) rfl ?_
    refine zr_if_lt (t := 33) (q := 8) dR_needs_5 rfl rfl ⟨by omega, by omega⟩ (fun h1 => ?_) (fun h1 => ?_)
    · refine ev_iload_n 2 (q := 34) dR_needs_33 rfl (by rfl) rfl ?_
      exact zr_iret dR_needs_34 rfl ⟨by rw [lR_needs_4], rfl⟩
    · exfalso
      omega
  | succ j ih =>
    intro n sm  c0 c1
    refine ev_iload_n 3 (q := 5) dR_needs_4 rfl (by rfl) rfl ?_
    refine zr_if_lt (t := 33) (q := 8) dR_needs_5 rfl rfl ⟨by omega, by omega⟩ (fun h1 => ?_) (fun h1 => ?_)
    · exfalso
      omega
    · refine ev_iconst (v := iI 2) (q := 9) dR_needs_8 rfl rfl ?_
      refine ev_iload_n 2 (q := 10) dR_needs_9 rfl (by rfl) rfl ?_
      refine zr_imul (q := 11) dR_needs_10 rfl ?_
      refine ev_aload_n 0 (q := 12) dR_needs_11 rfl (by rfl) rfl ?_
      refine ev_iload_n 1 (q := 13) dR_needs_12 rfl (by rfl) rfl ?_
      refine ev_iload_n 3 (q := 14) dR_needs_13 rfl (by rfl) rfl ?_
      refine cv_V (As := [_, _]) (q := 17) dR_needs_14 kR_130 atR rfl rfl (Nat.le_of_ble_eq_true rfl) rfl rfl rfl (by decide) (sR_mustSign hw t n ⟨by omega, by omega⟩ ⟨by omega, by omega⟩ ) ?_
      have g2 : (rR_mustSign ρ t n) = 0 ∨ (rR_mustSign ρ t n) = 1 := bR_mustSign _ _ _
      refine zr_if_eq (t := 24) (q := 20) dR_needs_17 rfl rfl ⟨by omega, by omega⟩ (fun h3 => ?_) (fun h3 => ?_)
      · refine ev_iconst (v := iI 0) (q := 25) dR_needs_24 rfl rfl ?_
        refine zr_iadd (q := 26) dR_needs_25 rfl ?_
        refine ev_istore_n 2 (q := 27) dR_needs_26 rfl (by decide) rfl rfl ?_
        dsimp only [List.set]
        refine zr_iinc (q := 30) dR_needs_27 (by rfl) (by decide) rfl rfl ?_
        dsimp only [List.set]
        refine ev_goto (t := 4) (q := 4) dR_needs_30 rfl rfl ?_
        rw [show lR_needs_4 ρ t (j + 1) n sm = lR_needs_4 ρ t j (n + (-1)) ((2 * sm) + 0) from by rw [lR_needs_4, if_pos h3]]
        exact ih (n + (-1)) ((2 * sm) + 0)  (by omega) (by omega)
      · refine ev_iconst (v := iI 1) (q := 21) dR_needs_20 rfl rfl ?_
        refine ev_goto (t := 25) (q := 25) dR_needs_21 rfl rfl ?_
        refine zr_iadd (q := 26) dR_needs_25 rfl ?_
        refine ev_istore_n 2 (q := 27) dR_needs_26 rfl (by decide) rfl rfl ?_
        dsimp only [List.set]
        refine zr_iinc (q := 30) dR_needs_27 (by rfl) (by decide) rfl rfl ?_
        dsimp only [List.set]
        refine ev_goto (t := 4) (q := 4) dR_needs_30 rfl rfl ?_
        rw [show lR_needs_4 ρ t (j + 1) n sm = lR_needs_4 ρ t j (n + (-1)) ((2 * sm) + 1) from by rw [lR_needs_4, if_neg h3]]
        exact ih (n + (-1)) ((2 * sm) + 1)  (by omega) (by omega)
def rR_needs (ρ : z_Sg) (t : Int) : Int := lR_needs_4 ρ t 4 3 0
set_option maxRecDepth 100000 in
set_option maxHeartbeats 4000000 in
theorem sR_needs {κ ρ : z_Sg} {a : Int → Nat} {B : List va_E} (hw : z_wf ρ) (t : Int) (hp0 : 0 ≤ t ∧ t ≤ 19) : z_Sp mR_needs (3, 79) 0 0 [.ref 12, zi t] (zM κ a ρ B) (fun r M' => r = some (zi (rR_needs ρ t)) ∧ M' = zM κ a ρ B) := by
  refine z_Sp_of (L := [.ref 12, zi t, .float 0, .float 0]) (by decide) rfl rfl rfl (Nat.le_of_ble_eq_true rfl) ?_
  refine ev_iconst (v := iI 0) (q := 1) dR_needs_0 rfl rfl ?_
  refine ev_istore_n 2 (q := 2) dR_needs_1 rfl (by decide) rfl rfl ?_
  dsimp only [List.set]
  refine ev_iconst (v := iI 3) (q := 3) dR_needs_2 rfl rfl ?_
  refine ev_istore_n 3 (q := 4) dR_needs_3 rfl (by decide) rfl rfl ?_
  dsimp only [List.set]
  rw [show rR_needs ρ t = lR_needs_4 ρ t 4 3 0 from by rw [rR_needs]]
  exact eR_needs_4 hw t hp0 4 3 0  (by omega) (by omega)

theorem bR_needs {ρ : z_Sg} (hw : z_wf ρ) (t : Int) (hp0 : 0 ≤ t ∧ t ≤ 19) : 0 ≤ rR_needs ρ t ∧ rR_needs ρ t ≤ 15 := by
  have h0 := bR_mustSign ρ t 0
  have h1 := bR_mustSign ρ t 1
  have h2 := bR_mustSign ρ t 2
  have h3 := bR_mustSign ρ t 3
  unfold rR_needs
  simp only [lR_needs_4]
  simp only [show (3 : Int) + -1 = 2 from rfl, show (2 : Int) + -1 = 1 from rfl, show (1 : Int) + -1 = 0 from rfl]
  rcases h0 with h0 | h0 <;> rcases h1 with h1 | h1 <;> rcases h2 with h2 | h2 <;> rcases h3 with h3 | h3 <;> simp [h0, h1, h2, h3]

def lR_valid_20 (ρ : z_Sg) (t : Int) : Nat → Int → Int
  | 0, k => 1
  | j + 1, k => if (ρ 16 (ρ 11 ((4 * t) + k))) < 0 then if (ρ 12 (ρ 11 ((4 * t) + k))) ≠ 2 then lR_valid_20 ρ t j (k + 1) else if (ρ 15 (ρ 11 ((4 * t) + k))) ≤ (ρ 3 t) then lR_valid_20 ρ t j (k + 1) else 0 else if (rR_isInput ρ t ((((ρ 11 ((4 * t) + k)) / 4) * 4) + (ρ 16 (ρ 11 ((4 * t) + k))))) ≠ 0 then if (ρ 12 (ρ 11 ((4 * t) + k))) ≠ 2 then lR_valid_20 ρ t j (k + 1) else if (ρ 15 (ρ 11 ((4 * t) + k))) ≤ (ρ 3 t) then lR_valid_20 ρ t j (k + 1) else 0 else 0
theorem blR_valid_20 (ρ : z_Sg) (t : Int) : ∀ (j : Nat) (k : Int), lR_valid_20 ρ t j k = 0 ∨ lR_valid_20 ρ t j k = 1 := by
  intro j
  induction j with
  | zero =>
    intro k
    rw [lR_valid_20]
    repeat' split
    all_goals first | exact Or.inl rfl | exact Or.inr rfl
  | succ j ih =>
    intro k
    rw [lR_valid_20]
    repeat' split
    all_goals first | exact Or.inl rfl | exact Or.inr rfl | exact ih _
set_option maxRecDepth 100000 in
set_option maxHeartbeats 4000000 in
theorem eR_valid_20 {κ ρ : z_Sg} {a : Int → Nat} {B : List va_E} (hw : z_wf ρ) (t : Int) (hp0 : 0 ≤ t ∧ t ≤ 19) : ∀ (j : Nat) (k : Int) (x3 : Value) (x4 : Value), 0 ≤ k → k + j = ρ 9 t → z_Ev mR_valid (1, 23) 0 0 20 [.ref 12, zi t, zi k, x3, x4] [] (zM κ a ρ B) (fun r M' => r = some (zi (lR_valid_20 ρ t j k)) ∧ M' = zM κ a ρ B) := by
  intro j
  induction j with
  | zero =>
    intro k x3 x4 c0 c1
    refine ev_iload_n 2 (q := 21) dR_valid_20 rfl (by rfl) rfl ?_
    refine ev_aload_n 0 (q := 22) dR_valid_21 rfl (by rfl) rfl ?_
    refine ev_get (q := 25) dR_valid_22 fR_35 atR (by rfl) rfl ?_
    refine ev_iload_n 1 (q := 26) dR_valid_25 rfl (by rfl) rfl ?_
    refine zr_iald (q := 27) (g := ρ 9) dR_valid_26 at_inputs (by decide) ⟨by omega, by omega⟩ rfl ?_
    have g1 : 0 ≤ ρ 9 t ∧ ρ 9 t ≤ 4 := hw 9 t (by decide)
    refine zr_icmp_ge (t := 109) (q := 30) dR_valid_27 rfl rfl ⟨by omega, by omega⟩ ⟨by omega, by omega⟩ (fun h2 => ?_) (fun h2 => ?_)
    · refine ev_iconst (v := iI 1) (q := 110) dR_valid_109 rfl rfl ?_
      exact zr_zret dR_valid_110 rfl (by omega) ⟨by rw [lR_valid_20], rfl⟩
    · exfalso
      omega
  | succ j ih =>
    intro k x3 x4 c0 c1
    refine ev_iload_n 2 (q := 21) dR_valid_20 rfl (by rfl) rfl ?_
    refine ev_aload_n 0 (q := 22) dR_valid_21 rfl (by rfl) rfl ?_
    refine ev_get (q := 25) dR_valid_22 fR_35 atR (by rfl) rfl ?_
    refine ev_iload_n 1 (q := 26) dR_valid_25 rfl (by rfl) rfl ?_
    refine zr_iald (q := 27) (g := ρ 9) dR_valid_26 at_inputs (by decide) ⟨by omega, by omega⟩ rfl ?_
    have g1 : 0 ≤ ρ 9 t ∧ ρ 9 t ≤ 4 := hw 9 t (by decide)
    refine zr_icmp_ge (t := 109) (q := 30) dR_valid_27 rfl rfl ⟨by omega, by omega⟩ ⟨by omega, by omega⟩ (fun h2 => ?_) (fun h2 => ?_)
    · exfalso
      omega
    · refine ev_aload_n 0 (q := 31) dR_valid_30 rfl (by rfl) rfl ?_
      refine ev_get (q := 34) dR_valid_31 fR_41 atR (by rfl) rfl ?_
      refine ev_iconst (v := iI 4) (q := 35) dR_valid_34 rfl rfl ?_
      refine ev_iload_n 1 (q := 36) dR_valid_35 rfl (by rfl) rfl ?_
      refine zr_imul (q := 37) dR_valid_36 rfl ?_
      refine ev_iload_n 2 (q := 38) dR_valid_37 rfl (by rfl) rfl ?_
      refine zr_iadd (q := 39) dR_valid_38 rfl ?_
      refine zr_iald (q := 40) (g := ρ 11) dR_valid_39 at_input (by decide) ⟨by omega, by omega⟩ rfl ?_
      have g3 : 0 ≤ ρ 11 ((4 * t) + k) ∧ ρ 11 ((4 * t) + k) ≤ 79 := hw 11 ((4 * t) + k) (by decide)
      refine ev_istore_n 3 (q := 41) dR_valid_40 rfl (by decide) rfl rfl ?_
      dsimp only [List.set]
      refine ev_iload_n 3 (q := 42) dR_valid_41 rfl (by rfl) rfl ?_
      refine ev_iconst (v := iI 4) (q := 43) dR_valid_42 rfl rfl ?_
      refine zr_idiv (q := 44) dR_valid_43 ⟨by omega, by omega⟩ ⟨by omega, by omega⟩ rfl ?_
      refine ev_iconst (v := iI 4) (q := 45) dR_valid_44 rfl rfl ?_
      refine zr_imul (q := 46) dR_valid_45 rfl ?_
      refine ev_aload_n 0 (q := 47) dR_valid_46 rfl (by rfl) rfl ?_
      refine ev_get (q := 50) dR_valid_47 fR_56 atR (by rfl) rfl ?_
      refine ev_iload_n 3 (q := 51) dR_valid_50 rfl (by rfl) rfl ?_
      refine zr_iald (q := 52) (g := ρ 16) dR_valid_51 at_boundTo (by decide) ⟨by omega, by omega⟩ rfl ?_
      have g4 : -1 ≤ ρ 16 (ρ 11 ((4 * t) + k)) ∧ ρ 16 (ρ 11 ((4 * t) + k)) ≤ 3 := hw 16 (ρ 11 ((4 * t) + k)) (by decide)
      refine zr_iadd (q := 53) dR_valid_52 rfl ?_
      refine ev_istore (q := 55) dR_valid_53 (by decide) rfl rfl ?_
      dsimp only [List.set]
      refine ev_aload_n 0 (q := 56) dR_valid_55 rfl (by rfl) rfl ?_
      refine ev_get (q := 59) dR_valid_56 fR_56 atR (by rfl) rfl ?_
      refine ev_iload_n 3 (q := 60) dR_valid_59 rfl (by rfl) rfl ?_
      refine zr_iald (q := 61) (g := ρ 16) dR_valid_60 at_boundTo (by decide) ⟨by omega, by omega⟩ rfl ?_
      have g5 : -1 ≤ ρ 16 (ρ 11 ((4 * t) + k)) ∧ ρ 16 (ρ 11 ((4 * t) + k)) ≤ 3 := hw 16 (ρ 11 ((4 * t) + k)) (by decide)
      refine zr_if_lt (t := 76) (q := 64) dR_valid_61 rfl rfl ⟨by omega, by omega⟩ (fun h6 => ?_) (fun h6 => ?_)
      · refine ev_aload_n 0 (q := 77) dR_valid_76 rfl (by rfl) rfl ?_
        refine ev_get (q := 80) dR_valid_77 fR_44 atR (by rfl) rfl ?_
        refine ev_iload_n 3 (q := 81) dR_valid_80 rfl (by rfl) rfl ?_
        refine zr_iald (q := 82) (g := ρ 12) dR_valid_81 at_kindOf (by decide) ⟨by omega, by omega⟩ rfl ?_
        have g7 : 0 ≤ ρ 12 (ρ 11 ((4 * t) + k)) ∧ ρ 12 (ρ 11 ((4 * t) + k)) ≤ 2 := hw 12 (ρ 11 ((4 * t) + k)) (by decide)
        refine ev_iconst (v := iI 2) (q := 83) dR_valid_82 rfl rfl ?_
        refine zr_icmp_ne (t := 103) (q := 86) dR_valid_83 rfl rfl ⟨by omega, by omega⟩ ⟨by omega, by omega⟩ (fun h8 => ?_) (fun h8 => ?_)
        · refine zr_iinc (q := 106) dR_valid_103 (by rfl) (by decide) rfl rfl ?_
          dsimp only [List.set]
          refine ev_goto (t := 20) (q := 20) dR_valid_106 rfl rfl ?_
          rw [show lR_valid_20 ρ t (j + 1) k = lR_valid_20 ρ t j (k + 1) from by rw [lR_valid_20, if_pos h6, if_pos h8]]
          exact ih (k + 1) (zi (ρ 11 ((4 * t) + k))) (zi ((((ρ 11 ((4 * t) + k)) / 4) * 4) + (ρ 16 (ρ 11 ((4 * t) + k))))) (by omega) (by omega)
        · refine ev_aload_n 0 (q := 87) dR_valid_86 rfl (by rfl) rfl ?_
          refine ev_get (q := 90) dR_valid_87 fR_53 atR (by rfl) rfl ?_
          refine ev_iload_n 3 (q := 91) dR_valid_90 rfl (by rfl) rfl ?_
          refine zr_iald (q := 92) (g := ρ 15) dR_valid_91 at_amountOf (by decide) ⟨by omega, by omega⟩ rfl ?_
          have g9 : 0 ≤ ρ 15 (ρ 11 ((4 * t) + k)) ∧ ρ 15 (ρ 11 ((4 * t) + k)) ≤ 1000 := hw 15 (ρ 11 ((4 * t) + k)) (by decide)
          refine ev_aload_n 0 (q := 93) dR_valid_92 rfl (by rfl) rfl ?_
          refine ev_get (q := 96) dR_valid_93 fR_16 atR (by rfl) rfl ?_
          refine ev_iload_n 1 (q := 97) dR_valid_96 rfl (by rfl) rfl ?_
          refine zr_iald (q := 98) (g := ρ 3) dR_valid_97 at_fromTime (by decide) ⟨by omega, by omega⟩ rfl ?_
          have g10 : 0 ≤ ρ 3 t ∧ ρ 3 t ≤ 1000000 := hw 3 t (by decide)
          refine zr_icmp_le (t := 103) (q := 101) dR_valid_98 rfl rfl ⟨by omega, by omega⟩ ⟨by omega, by omega⟩ (fun h11 => ?_) (fun h11 => ?_)
          · refine zr_iinc (q := 106) dR_valid_103 (by rfl) (by decide) rfl rfl ?_
            dsimp only [List.set]
            refine ev_goto (t := 20) (q := 20) dR_valid_106 rfl rfl ?_
            rw [show lR_valid_20 ρ t (j + 1) k = lR_valid_20 ρ t j (k + 1) from by rw [lR_valid_20, if_pos h6, if_neg (fun z => z h8), if_pos h11]]
            exact ih (k + 1) (zi (ρ 11 ((4 * t) + k))) (zi ((((ρ 11 ((4 * t) + k)) / 4) * 4) + (ρ 16 (ρ 11 ((4 * t) + k))))) (by omega) (by omega)
          · refine ev_iconst (v := iI 0) (q := 102) dR_valid_101 rfl rfl ?_
            exact zr_zret dR_valid_102 rfl (by omega) ⟨by rw [lR_valid_20, if_pos h6, if_neg (fun z => z h8), if_neg (Int.not_le.mpr h11)], rfl⟩
      · refine ev_aload_n 0 (q := 65) dR_valid_64 rfl (by rfl) rfl ?_
        refine ev_iload_n 1 (q := 66) dR_valid_65 rfl (by rfl) rfl ?_
        refine ev_iload (q := 68) dR_valid_66 (by rfl) rfl ?_
        refine cv_V (As := [_, _]) (q := 71) dR_valid_68 kR_99 atR rfl rfl (Nat.le_of_ble_eq_true rfl) rfl rfl rfl (by decide) (sR_isInput hw t ((((ρ 11 ((4 * t) + k)) / 4) * 4) + (ρ 16 (ρ 11 ((4 * t) + k)))) ⟨by omega, by omega⟩ ⟨by omega, by omega⟩ ) ?_
        have g12 : (rR_isInput ρ t ((((ρ 11 ((4 * t) + k)) / 4) * 4) + (ρ 16 (ρ 11 ((4 * t) + k))))) = 0 ∨ (rR_isInput ρ t ((((ρ 11 ((4 * t) + k)) / 4) * 4) + (ρ 16 (ρ 11 ((4 * t) + k))))) = 1 := bR_isInput _ _ _
        refine zr_if_ne (t := 76) (q := 74) dR_valid_71 rfl rfl ⟨by omega, by omega⟩ (fun h13 => ?_) (fun h13 => ?_)
        · refine ev_aload_n 0 (q := 77) dR_valid_76 rfl (by rfl) rfl ?_
          refine ev_get (q := 80) dR_valid_77 fR_44 atR (by rfl) rfl ?_
          refine ev_iload_n 3 (q := 81) dR_valid_80 rfl (by rfl) rfl ?_
          refine zr_iald (q := 82) (g := ρ 12) dR_valid_81 at_kindOf (by decide) ⟨by omega, by omega⟩ rfl ?_
          have g14 : 0 ≤ ρ 12 (ρ 11 ((4 * t) + k)) ∧ ρ 12 (ρ 11 ((4 * t) + k)) ≤ 2 := hw 12 (ρ 11 ((4 * t) + k)) (by decide)
          refine ev_iconst (v := iI 2) (q := 83) dR_valid_82 rfl rfl ?_
          refine zr_icmp_ne (t := 103) (q := 86) dR_valid_83 rfl rfl ⟨by omega, by omega⟩ ⟨by omega, by omega⟩ (fun h15 => ?_) (fun h15 => ?_)
          · refine zr_iinc (q := 106) dR_valid_103 (by rfl) (by decide) rfl rfl ?_
            dsimp only [List.set]
            refine ev_goto (t := 20) (q := 20) dR_valid_106 rfl rfl ?_
            rw [show lR_valid_20 ρ t (j + 1) k = lR_valid_20 ρ t j (k + 1) from by rw [lR_valid_20, if_neg (Int.not_lt.mpr h6), if_pos h13, if_pos h15]]
            exact ih (k + 1) (zi (ρ 11 ((4 * t) + k))) (zi ((((ρ 11 ((4 * t) + k)) / 4) * 4) + (ρ 16 (ρ 11 ((4 * t) + k))))) (by omega) (by omega)
          · refine ev_aload_n 0 (q := 87) dR_valid_86 rfl (by rfl) rfl ?_
            refine ev_get (q := 90) dR_valid_87 fR_53 atR (by rfl) rfl ?_
            refine ev_iload_n 3 (q := 91) dR_valid_90 rfl (by rfl) rfl ?_
            refine zr_iald (q := 92) (g := ρ 15) dR_valid_91 at_amountOf (by decide) ⟨by omega, by omega⟩ rfl ?_
            have g16 : 0 ≤ ρ 15 (ρ 11 ((4 * t) + k)) ∧ ρ 15 (ρ 11 ((4 * t) + k)) ≤ 1000 := hw 15 (ρ 11 ((4 * t) + k)) (by decide)
            refine ev_aload_n 0 (q := 93) dR_valid_92 rfl (by rfl) rfl ?_
            refine ev_get (q := 96) dR_valid_93 fR_16 atR (by rfl) rfl ?_
            refine ev_iload_n 1 (q := 97) dR_valid_96 rfl (by rfl) rfl ?_
            refine zr_iald (q := 98) (g := ρ 3) dR_valid_97 at_fromTime (by decide) ⟨by omega, by omega⟩ rfl ?_
            have g17 : 0 ≤ ρ 3 t ∧ ρ 3 t ≤ 1000000 := hw 3 t (by decide)
            refine zr_icmp_le (t := 103) (q := 101) dR_valid_98 rfl rfl ⟨by omega, by omega⟩ ⟨by omega, by omega⟩ (fun h18 => ?_) (fun h18 => ?_)
            · refine zr_iinc (q := 106) dR_valid_103 (by rfl) (by decide) rfl rfl ?_
              dsimp only [List.set]
              refine ev_goto (t := 20) (q := 20) dR_valid_106 rfl rfl ?_
              rw [show lR_valid_20 ρ t (j + 1) k = lR_valid_20 ρ t j (k + 1) from by rw [lR_valid_20, if_neg (Int.not_lt.mpr h6), if_pos h13, if_neg (fun z => z h15), if_pos h18]]
              exact ih (k + 1) (zi (ρ 11 ((4 * t) + k))) (zi ((((ρ 11 ((4 * t) + k)) / 4) * 4) + (ρ 16 (ρ 11 ((4 * t) + k))))) (by omega) (by omega)
            · refine ev_iconst (v := iI 0) (q := 102) dR_valid_101 rfl rfl ?_
              exact zr_zret dR_valid_102 rfl (by omega) ⟨by rw [lR_valid_20, if_neg (Int.not_lt.mpr h6), if_pos h13, if_neg (fun z => z h15), if_neg (Int.not_le.mpr h18)], rfl⟩
        · refine ev_iconst (v := iI 0) (q := 75) dR_valid_74 rfl rfl ?_
          exact zr_zret dR_valid_75 rfl (by omega) ⟨by rw [lR_valid_20, if_neg (Int.not_lt.mpr h6), if_neg (fun z => z h13)], rfl⟩
def rR_valid (ρ : z_Sg) (t : Int) : Int := if ((ρ 9 t) + (ρ 10 t)) ≠ 0 then lR_valid_20 ρ t (ρ 9 t).toNat 0 else 0
theorem bR_valid (ρ : z_Sg) (t : Int) : rR_valid ρ t = 0 ∨ rR_valid ρ t = 1 := by
  unfold rR_valid
  repeat' split
  all_goals first | exact Or.inl rfl | exact Or.inr rfl | exact blR_valid_20 _ _ _ _
set_option maxRecDepth 100000 in
set_option maxHeartbeats 4000000 in
theorem sR_valid {κ ρ : z_Sg} {a : Int → Nat} {B : List va_E} (hw : z_wf ρ) (t : Int) (hp0 : 0 ≤ t ∧ t ≤ 19) : z_Sp mR_valid (1, 23) 0 0 [.ref 12, zi t] (zM κ a ρ B) (fun r M' => r = some (zi (rR_valid ρ t)) ∧ M' = zM κ a ρ B) := by
  refine z_Sp_of (L := [.ref 12, zi t, .float 0, .float 0, .float 0]) (by decide) rfl rfl rfl (Nat.le_of_ble_eq_true rfl) ?_
  refine ev_aload_n 0 (q := 1) dR_valid_0 rfl (by rfl) rfl ?_
  refine ev_get (q := 4) dR_valid_1 fR_35 atR (by rfl) rfl ?_
  refine ev_iload_n 1 (q := 5) dR_valid_4 rfl (by rfl) rfl ?_
  refine zr_iald (q := 6) (g := ρ 9) dR_valid_5 at_inputs (by decide) ⟨by omega, by omega⟩ rfl ?_
  have g1 : 0 ≤ ρ 9 t ∧ ρ 9 t ≤ 4 := hw 9 t (by decide)
  refine ev_aload_n 0 (q := 7) dR_valid_6 rfl (by rfl) rfl ?_
  refine ev_get (q := 10) dR_valid_7 fR_38 atR (by rfl) rfl ?_
  refine ev_iload_n 1 (q := 11) dR_valid_10 rfl (by rfl) rfl ?_
  refine zr_iald (q := 12) (g := ρ 10) dR_valid_11 at_outputs (by decide) ⟨by omega, by omega⟩ rfl ?_
  have g2 : 0 ≤ ρ 10 t ∧ ρ 10 t ≤ 4 := hw 10 t (by decide)
  refine zr_iadd (q := 13) dR_valid_12 rfl ?_
  refine zr_if_ne (t := 18) (q := 16) dR_valid_13 rfl rfl ⟨by omega, by omega⟩ (fun h3 => ?_) (fun h3 => ?_)
  · refine ev_iconst (v := iI 0) (q := 19) dR_valid_18 rfl rfl ?_
    refine ev_istore_n 2 (q := 20) dR_valid_19 rfl (by decide) rfl rfl ?_
    dsimp only [List.set]
    have g4 : 0 ≤ ρ 9 t ∧ ρ 9 t ≤ 4 := hw 9 t (by decide)
    rw [show rR_valid ρ t = lR_valid_20 ρ t (ρ 9 t).toNat 0 from by rw [rR_valid, if_pos h3]]
    exact eR_valid_20 hw t hp0 (ρ 9 t).toNat 0 (.float 0) (.float 0) (by omega) (by omega)
  · refine ev_iconst (v := iI 0) (q := 17) dR_valid_16 rfl rfl ?_
    exact zr_zret dR_valid_17 rfl (by omega) ⟨by rw [rR_valid, if_neg (fun z => z h3)], rfl⟩
