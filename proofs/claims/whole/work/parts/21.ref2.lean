def lR_isInput_2 (ρ : z_Sg) (t s : Int) : Nat → Int → Int
  | 0, k => 0
  | j + 1, k => if (ρ 11 ((4 * t) + k)) ≠ s then lR_isInput_2 ρ t s j (k + 1) else 1
theorem blR_isInput_2 (ρ : z_Sg) (t s : Int) : ∀ (j : Nat) (k : Int), lR_isInput_2 ρ t s j k = 0 ∨ lR_isInput_2 ρ t s j k = 1 := by
  intro j
  induction j with
  | zero =>
    intro k
    rw [lR_isInput_2]
    repeat' split
    all_goals first | exact Or.inl rfl | exact Or.inr rfl
  | succ j ih =>
    intro k
    rw [lR_isInput_2]
    repeat' split
    all_goals first | exact Or.inl rfl | exact Or.inr rfl | exact ih _
set_option maxRecDepth 100000 in
set_option maxHeartbeats 4000000 in
theorem eR_isInput_2 {κ ρ : z_Sg} {a : Int → Nat} {B : List va_E} (hw : z_wf ρ) (t s : Int) (hp0 : 0 ≤ t ∧ t ≤ 19) (hp1 : z_rg s) : ∀ (j : Nat) (k : Int), 0 ≤ k → k + j = ρ 9 t → z_Ev mR_isInput (0, 0) 0 0 2 [.ref 12, zi t, zi s, zi k] [] (zM κ a ρ B) (fun r M' => r = some (zi (lR_isInput_2 ρ t s j k)) ∧ M' = zM κ a ρ B) := by
  intro j
  induction j with
  | zero =>
    intro k  c0 c1
    refine ev_iload_n 3 (q := 3) dR_isInput_2 rfl (by rfl) rfl ?_
    refine ev_aload_n 0 (q := 4) dR_isInput_3 rfl (by rfl) rfl ?_
    refine ev_get (q := 7) dR_isInput_4 fR_35 atR (by rfl) rfl ?_
    refine ev_iload_n 1 (q := 8) dR_isInput_7 rfl (by rfl) rfl ?_
    refine zr_iald (q := 9) (g := ρ 9) dR_isInput_8 at_inputs (by decide) ⟨by omega, by omega⟩ rfl ?_
    have g1 : 0 ≤ ρ 9 t ∧ ρ 9 t ≤ 4 := hw 9 t (by decide)
    refine zr_icmp_ge (t := 34) (q := 12) dR_isInput_9 rfl rfl ⟨by omega, by omega⟩ ⟨by omega, by omega⟩ (fun h2 => ?_) (fun h2 => ?_)
    · refine ev_iconst (v := iI 0) (q := 35) dR_isInput_34 rfl rfl ?_
      exact zr_zret dR_isInput_35 rfl (by omega) ⟨by rw [lR_isInput_2], rfl⟩
    · exfalso
      omega
  | succ j ih =>
    intro k  c0 c1
    refine ev_iload_n 3 (q := 3) dR_isInput_2 rfl (by rfl) rfl ?_
    refine ev_aload_n 0 (q := 4) dR_isInput_3 rfl (by rfl) rfl ?_
    refine ev_get (q := 7) dR_isInput_4 fR_35 atR (by rfl) rfl ?_
    refine ev_iload_n 1 (q := 8) dR_isInput_7 rfl (by rfl) rfl ?_
    refine zr_iald (q := 9) (g := ρ 9) dR_isInput_8 at_inputs (by decide) ⟨by omega, by omega⟩ rfl ?_
    have g1 : 0 ≤ ρ 9 t ∧ ρ 9 t ≤ 4 := hw 9 t (by decide)
    refine zr_icmp_ge (t := 34) (q := 12) dR_isInput_9 rfl rfl ⟨by omega, by omega⟩ ⟨by omega, by omega⟩ (fun h2 => ?_) (fun h2 => ?_)
    · exfalso
      omega
    · refine ev_aload_n 0 (q := 13) dR_isInput_12 rfl (by rfl) rfl ?_
      refine ev_get (q := 16) dR_isInput_13 fR_41 atR (by rfl) rfl ?_
      refine ev_iconst (v := iI 4) (q := 17) dR_isInput_16 rfl rfl ?_
      refine ev_iload_n 1 (q := 18) dR_isInput_17 rfl (by rfl) rfl ?_
      refine zr_imul (q := 19) dR_isInput_18 rfl ?_
      refine ev_iload_n 3 (q := 20) dR_isInput_19 rfl (by rfl) rfl ?_
      refine zr_iadd (q := 21) dR_isInput_20 rfl ?_
      refine zr_iald (q := 22) (g := ρ 11) dR_isInput_21 at_input (by decide) ⟨by omega, by omega⟩ rfl ?_
      have g3 : 0 ≤ ρ 11 ((4 * t) + k) ∧ ρ 11 ((4 * t) + k) ≤ 79 := hw 11 ((4 * t) + k) (by decide)
      refine ev_iload_n 2 (q := 23) dR_isInput_22 rfl (by rfl) rfl ?_
      refine zr_icmp_ne (t := 28) (q := 26) dR_isInput_23 rfl rfl ⟨by omega, by omega⟩ ⟨by omega, by omega⟩ (fun h4 => ?_) (fun h4 => ?_)
      · refine zr_iinc (q := 31) dR_isInput_28 (by rfl) (by decide) rfl rfl ?_
        dsimp only [List.set]
        refine ev_goto (t := 2) (q := 2) dR_isInput_31 rfl rfl ?_
        rw [show lR_isInput_2 ρ t s (j + 1) k = lR_isInput_2 ρ t s j (k + 1) from by rw [lR_isInput_2, if_pos h4]]
        exact ih (k + 1)  (by omega) (by omega)
      · refine ev_iconst (v := iI 1) (q := 27) dR_isInput_26 rfl rfl ?_
        exact zr_zret dR_isInput_27 rfl (by omega) ⟨by rw [lR_isInput_2, if_neg (fun z => z h4)], rfl⟩
def rR_isInput (ρ : z_Sg) (t s : Int) : Int := lR_isInput_2 ρ t s (ρ 9 t).toNat 0
theorem bR_isInput (ρ : z_Sg) (t s : Int) : rR_isInput ρ t s = 0 ∨ rR_isInput ρ t s = 1 := by
  unfold rR_isInput
  repeat' split
  all_goals first | exact Or.inl rfl | exact Or.inr rfl | exact blR_isInput_2 _ _ _ _ _
set_option maxRecDepth 100000 in
set_option maxHeartbeats 4000000 in
theorem sR_isInput {κ ρ : z_Sg} {a : Int → Nat} {B : List va_E} (hw : z_wf ρ) (t s : Int) (hp0 : 0 ≤ t ∧ t ≤ 19) (hp1 : z_rg s) : z_Sp mR_isInput (0, 0) 0 0 [.ref 12, zi t, zi s] (zM κ a ρ B) (fun r M' => r = some (zi (rR_isInput ρ t s)) ∧ M' = zM κ a ρ B) := by
  refine z_Sp_of (L := [.ref 12, zi t, zi s, .float 0]) (by decide) rfl rfl rfl (Nat.le_of_ble_eq_true rfl) ?_
  refine ev_iconst (v := iI 0) (q := 1) dR_isInput_0 rfl rfl ?_
  refine ev_istore_n 3 (q := 2) dR_isInput_1 rfl (by decide) rfl rfl ?_
  dsimp only [List.set]
  have g1 : 0 ≤ ρ 9 t ∧ ρ 9 t ≤ 4 := hw 9 t (by decide)
  rw [show rR_isInput ρ t s = lR_isInput_2 ρ t s (ρ 9 t).toNat 0 from by rw [rR_isInput]]
  exact eR_isInput_2 hw t s hp0 hp1 (ρ 9 t).toNat 0  (by omega) (by omega)

def rR_addInput (ρ : z_Sg) (t s : Int) : Int × z_Sg := (0, (z_up (z_up ρ 11 ((4 * t) + (ρ 9 t)) s) 9 t ((ρ 9 t) + 1)))
set_option maxRecDepth 100000 in
set_option maxHeartbeats 4000000 in
theorem sR_addInput {κ ρ : z_Sg} {a : Int → Nat} {B : List va_E} (hw : z_wf ρ) (t s : Int) (hp0 : 0 ≤ t ∧ t ≤ 19) (hp1 : 0 ≤ s ∧ s ≤ 79) (he0 : ρ 9 t ≤ 3) : z_Sp mR_addInput (0, 0) 0 0 [.ref 12, zi t, zi s] (zM κ a ρ B) (fun r M' => r = none ∧ M' = zM κ a (rR_addInput ρ t s).2 B) := by
  refine z_Sp_of (L := [.ref 12, zi t, zi s]) (by decide) rfl rfl rfl (Nat.le_of_ble_eq_true rfl) ?_
  refine ev_aload_n 0 (q := 1) dR_addInput_0 rfl (by rfl) rfl ?_
  refine ev_get (q := 4) dR_addInput_1 fR_41 atR (by rfl) rfl ?_
  refine ev_iconst (v := iI 4) (q := 5) dR_addInput_4 rfl rfl ?_
  refine ev_iload_n 1 (q := 6) dR_addInput_5 rfl (by rfl) rfl ?_
  refine zr_imul (q := 7) dR_addInput_6 rfl ?_
  refine ev_aload_n 0 (q := 8) dR_addInput_7 rfl (by rfl) rfl ?_
  refine ev_get (q := 11) dR_addInput_8 fR_35 atR (by rfl) rfl ?_
  refine ev_iload_n 1 (q := 12) dR_addInput_11 rfl (by rfl) rfl ?_
  refine zr_iald (q := 13) (g := ρ 9) dR_addInput_12 at_inputs (by decide) ⟨by omega, by omega⟩ rfl ?_
  have g1 : 0 ≤ ρ 9 t ∧ ρ 9 t ≤ 4 := hw 9 t (by decide)
  refine zr_iadd (q := 14) dR_addInput_13 rfl ?_
  refine ev_iload_n 2 (q := 15) dR_addInput_14 rfl (by rfl) rfl ?_
  refine zr_iast (q := 16) dR_addInput_15 at_input (by decide) ⟨by omega, by omega⟩ st_input rfl ?_
  have hw2 : z_wf (z_up ρ 11 ((4 * t) + (ρ 9 t)) s) := z_wf_up hw (show (0 : Int) ≤ s by omega) (show s ≤ (79 : Int) by omega)
  refine ev_aload_n 0 (q := 17) dR_addInput_16 rfl (by rfl) rfl ?_
  refine ev_get (q := 20) dR_addInput_17 fR_35 atR (by rfl) rfl ?_
  refine ev_iload_n 1 (q := 21) dR_addInput_20 rfl (by rfl) rfl ?_
  refine ev_dup2 (q := 22) dR_addInput_21 rfl rfl rfl ?_
  refine zr_iald (q := 23) (g := ρ 9) dR_addInput_22 at_inputs (by decide) ⟨by omega, by omega⟩ rfl ?_
  have g3 : 0 ≤ ρ 9 t ∧ ρ 9 t ≤ 4 := hw 9 t (by decide)
  refine ev_iconst (v := iI 1) (q := 24) dR_addInput_23 rfl rfl ?_
  refine zr_iadd (q := 25) dR_addInput_24 rfl ?_
  refine zr_iast (q := 26) dR_addInput_25 at_inputs (by decide) ⟨by omega, by omega⟩ st_inputs rfl ?_
  have hw4 : z_wf (z_up (z_up ρ 11 ((4 * t) + (ρ 9 t)) s) 9 t ((ρ 9 t) + 1)) := z_wf_up hw2 (show (0 : Int) ≤ ((ρ 9 t) + 1) by omega) (show ((ρ 9 t) + 1) ≤ (4 : Int) by omega)
  exact ev_ret dR_addInput_26 rfl ⟨rfl, by rw [rR_addInput]⟩
set_option maxRecDepth 100000 in
set_option maxHeartbeats 4000000 in
theorem wR_addInput {ρ : z_Sg} (hw : z_wf ρ) (t s : Int) (hp0 : 0 ≤ t ∧ t ≤ 19) (hp1 : 0 ≤ s ∧ s ≤ 79) (he0 : ρ 9 t ≤ 3) : z_wf (rR_addInput ρ t s).2 := by
  rw [rR_addInput]
  have g1 : 0 ≤ ρ 9 t ∧ ρ 9 t ≤ 4 := hw 9 t (by decide)
  have hw2 : z_wf (z_up ρ 11 ((4 * t) + (ρ 9 t)) s) := z_wf_up hw (show (0 : Int) ≤ s by omega) (show s ≤ (79 : Int) by omega)
  have g3 : 0 ≤ ρ 9 t ∧ ρ 9 t ≤ 4 := hw 9 t (by decide)
  have hw4 : z_wf (z_up (z_up ρ 11 ((4 * t) + (ρ 9 t)) s) 9 t ((ρ 9 t) + 1)) := z_wf_up hw2 (show (0 : Int) ≤ ((ρ 9 t) + 1) by omega) (show ((ρ 9 t) + 1) ≤ (4 : Int) by omega)
  exact hw4

def rR_addOutput (ρ : z_Sg) (t kind x y am : Int) : Int × z_Sg := (0, (z_up (z_up (z_up (z_up (z_up (z_up (z_up ρ 12 ((4 * t) + (ρ 10 t)) kind) 13 ((4 * t) + (ρ 10 t)) x) 14 ((4 * t) + (ρ 10 t)) y) 15 ((4 * t) + (ρ 10 t)) am) 16 ((4 * t) + (ρ 10 t)) (-1)) 17 ((4 * t) + (ρ 10 t)) (-1)) 10 t ((ρ 10 t) + 1)))
set_option maxRecDepth 100000 in
set_option maxHeartbeats 4000000 in
theorem sR_addOutput {κ ρ : z_Sg} {a : Int → Nat} {B : List va_E} (hw : z_wf ρ) (t kind x y am : Int) (hp0 : 0 ≤ t ∧ t ≤ 19) (hp1 : 0 ≤ kind ∧ kind ≤ 2) (hp2 : 0 ≤ x ∧ x ≤ 3) (hp3 : 0 ≤ y ∧ y ≤ 3) (hp4 : 0 ≤ am ∧ am ≤ 1000) (he0 : ρ 10 t ≤ 3) : z_Sp mR_addOutput (0, 0) 0 0 [.ref 12, zi t, zi kind, zi x, zi y, zi am] (zM κ a ρ B) (fun r M' => r = none ∧ M' = zM κ a (rR_addOutput ρ t kind x y am).2 B) := by
  refine z_Sp_of (L := [.ref 12, zi t, zi kind, zi x, zi y, zi am, .float 0]) (by decide) rfl rfl rfl (Nat.le_of_ble_eq_true rfl) ?_
  refine ev_iconst (v := iI 4) (q := 1) dR_addOutput_0 rfl rfl ?_
  refine ev_iload_n 1 (q := 2) dR_addOutput_1 rfl (by rfl) rfl ?_
  refine zr_imul (q := 3) dR_addOutput_2 rfl ?_
  refine ev_aload_n 0 (q := 4) dR_addOutput_3 rfl (by rfl) rfl ?_
  refine ev_get (q := 7) dR_addOutput_4 fR_38 atR (by rfl) rfl ?_
  refine ev_iload_n 1 (q := 8) dR_addOutput_7 rfl (by rfl) rfl ?_
  refine zr_iald (q := 9) (g := ρ 10) dR_addOutput_8 at_outputs (by decide) ⟨by omega, by omega⟩ rfl ?_
  have g1 : 0 ≤ ρ 10 t ∧ ρ 10 t ≤ 4 := hw 10 t (by decide)
  refine zr_iadd (q := 10) dR_addOutput_9 rfl ?_
  refine ev_istore (q := 12) dR_addOutput_10 (by decide) rfl rfl ?_
  dsimp only [List.set]
  refine ev_aload_n 0 (q := 13) dR_addOutput_12 rfl (by rfl) rfl ?_
  refine ev_get (q := 16) dR_addOutput_13 fR_44 atR (by rfl) rfl ?_
  refine ev_iload (q := 18) dR_addOutput_16 (by rfl) rfl ?_
  refine ev_iload_n 2 (q := 19) dR_addOutput_18 rfl (by rfl) rfl ?_
  refine zr_iast (q := 20) dR_addOutput_19 at_kindOf (by decide) ⟨by omega, by omega⟩ st_kindOf rfl ?_
  have hw2 : z_wf (z_up ρ 12 ((4 * t) + (ρ 10 t)) kind) := z_wf_up hw (show (0 : Int) ≤ kind by omega) (show kind ≤ (2 : Int) by omega)
  refine ev_aload_n 0 (q := 21) dR_addOutput_20 rfl (by rfl) rfl ?_
  refine ev_get (q := 24) dR_addOutput_21 fR_47 atR (by rfl) rfl ?_
  refine ev_iload (q := 26) dR_addOutput_24 (by rfl) rfl ?_
  refine ev_iload_n 3 (q := 27) dR_addOutput_26 rfl (by rfl) rfl ?_
  refine zr_iast (q := 28) dR_addOutput_27 at_first (by decide) ⟨by omega, by omega⟩ st_first rfl ?_
  have hw3 : z_wf (z_up (z_up ρ 12 ((4 * t) + (ρ 10 t)) kind) 13 ((4 * t) + (ρ 10 t)) x) := z_wf_up hw2 (show (0 : Int) ≤ x by omega) (show x ≤ (3 : Int) by omega)
  refine ev_aload_n 0 (q := 29) dR_addOutput_28 rfl (by rfl) rfl ?_
  refine ev_get (q := 32) dR_addOutput_29 fR_50 atR (by rfl) rfl ?_
  refine ev_iload (q := 34) dR_addOutput_32 (by rfl) rfl ?_
  refine ev_iload (q := 36) dR_addOutput_34 (by rfl) rfl ?_
  refine zr_iast (q := 37) dR_addOutput_36 at_second (by decide) ⟨by omega, by omega⟩ st_second rfl ?_
  have hw4 : z_wf (z_up (z_up (z_up ρ 12 ((4 * t) + (ρ 10 t)) kind) 13 ((4 * t) + (ρ 10 t)) x) 14 ((4 * t) + (ρ 10 t)) y) := z_wf_up hw3 (show (0 : Int) ≤ y by omega) (show y ≤ (3 : Int) by omega)
  refine ev_aload_n 0 (q := 38) dR_addOutput_37 rfl (by rfl) rfl ?_
  refine ev_get (q := 41) dR_addOutput_38 fR_53 atR (by rfl) rfl ?_
  refine ev_iload (q := 43) dR_addOutput_41 (by rfl) rfl ?_
  refine ev_iload (q := 45) dR_addOutput_43 (by rfl) rfl ?_
  refine zr_iast (q := 46) dR_addOutput_45 at_amountOf (by decide) ⟨by omega, by omega⟩ st_amountOf rfl ?_
  have hw5 : z_wf (z_up (z_up (z_up (z_up ρ 12 ((4 * t) + (ρ 10 t)) kind) 13 ((4 * t) + (ρ 10 t)) x) 14 ((4 * t) + (ρ 10 t)) y) 15 ((4 * t) + (ρ 10 t)) am) := z_wf_up hw4 (show (0 : Int) ≤ am by omega) (show am ≤ (1000 : Int) by omega)
  refine ev_aload_n 0 (q := 47) dR_addOutput_46 rfl (by rfl) rfl ?_
  refine ev_get (q := 50) dR_addOutput_47 fR_56 atR (by rfl) rfl ?_
  refine ev_iload (q := 52) dR_addOutput_50 (by rfl) rfl ?_
  refine ev_iconst (v := iI (-1)) (q := 53) dR_addOutput_52 rfl rfl ?_
  refine zr_iast (q := 54) dR_addOutput_53 at_boundTo (by decide) ⟨by omega, by omega⟩ st_boundTo rfl ?_
  have hw6 : z_wf (z_up (z_up (z_up (z_up (z_up ρ 12 ((4 * t) + (ρ 10 t)) kind) 13 ((4 * t) + (ρ 10 t)) x) 14 ((4 * t) + (ρ 10 t)) y) 15 ((4 * t) + (ρ 10 t)) am) 16 ((4 * t) + (ρ 10 t)) (-1)) := z_wf_up hw5 (show (-1 : Int) ≤ (-1) by omega) (show (-1) ≤ (3 : Int) by omega)
  refine ev_aload_n 0 (q := 55) dR_addOutput_54 rfl (by rfl) rfl ?_
  refine ev_get (q := 58) dR_addOutput_55 fR_59 atR (by rfl) rfl ?_
  refine ev_iload (q := 60) dR_addOutput_58 (by rfl) rfl ?_
  refine ev_iconst (v := iI (-1)) (q := 61) dR_addOutput_60 rfl rfl ?_
  refine zr_iast (q := 62) dR_addOutput_61 at_usedBy (by decide) ⟨by omega, by omega⟩ st_usedBy rfl ?_
  have hw7 : z_wf (z_up (z_up (z_up (z_up (z_up (z_up ρ 12 ((4 * t) + (ρ 10 t)) kind) 13 ((4 * t) + (ρ 10 t)) x) 14 ((4 * t) + (ρ 10 t)) y) 15 ((4 * t) + (ρ 10 t)) am) 16 ((4 * t) + (ρ 10 t)) (-1)) 17 ((4 * t) + (ρ 10 t)) (-1)) := z_wf_up hw6 (show (-1 : Int) ≤ (-1) by omega) (show (-1) ≤ (19 : Int) by omega)
  refine ev_aload_n 0 (q := 63) dR_addOutput_62 rfl (by rfl) rfl ?_
  refine ev_get (q := 66) dR_addOutput_63 fR_38 atR (by rfl) rfl ?_
  refine ev_iload_n 1 (q := 67) dR_addOutput_66 rfl (by rfl) rfl ?_
  refine ev_dup2 (q := 68) dR_addOutput_67 rfl rfl rfl ?_
  refine zr_iald (q := 69) (g := ρ 10) dR_addOutput_68 at_outputs (by decide) ⟨by omega, by omega⟩ rfl ?_
  have g8 : 0 ≤ ρ 10 t ∧ ρ 10 t ≤ 4 := hw 10 t (by decide)
  refine ev_iconst (v := iI 1) (q := 70) dR_addOutput_69 rfl rfl ?_
  refine zr_iadd (q := 71) dR_addOutput_70 rfl ?_
  refine zr_iast (q := 72) dR_addOutput_71 at_outputs (by decide) ⟨by omega, by omega⟩ st_outputs rfl ?_
  have hw9 : z_wf (z_up (z_up (z_up (z_up (z_up (z_up (z_up ρ 12 ((4 * t) + (ρ 10 t)) kind) 13 ((4 * t) + (ρ 10 t)) x) 14 ((4 * t) + (ρ 10 t)) y) 15 ((4 * t) + (ρ 10 t)) am) 16 ((4 * t) + (ρ 10 t)) (-1)) 17 ((4 * t) + (ρ 10 t)) (-1)) 10 t ((ρ 10 t) + 1)) := z_wf_up hw7 (show (0 : Int) ≤ ((ρ 10 t) + 1) by omega) (show ((ρ 10 t) + 1) ≤ (4 : Int) by omega)
  exact ev_ret dR_addOutput_72 rfl ⟨rfl, by rw [rR_addOutput]⟩
set_option maxRecDepth 100000 in
set_option maxHeartbeats 4000000 in
theorem wR_addOutput {ρ : z_Sg} (hw : z_wf ρ) (t kind x y am : Int) (hp0 : 0 ≤ t ∧ t ≤ 19) (hp1 : 0 ≤ kind ∧ kind ≤ 2) (hp2 : 0 ≤ x ∧ x ≤ 3) (hp3 : 0 ≤ y ∧ y ≤ 3) (hp4 : 0 ≤ am ∧ am ≤ 1000) (he0 : ρ 10 t ≤ 3) : z_wf (rR_addOutput ρ t kind x y am).2 := by
  rw [rR_addOutput]
  have g1 : 0 ≤ ρ 10 t ∧ ρ 10 t ≤ 4 := hw 10 t (by decide)
  have hw2 : z_wf (z_up ρ 12 ((4 * t) + (ρ 10 t)) kind) := z_wf_up hw (show (0 : Int) ≤ kind by omega) (show kind ≤ (2 : Int) by omega)
  have hw3 : z_wf (z_up (z_up ρ 12 ((4 * t) + (ρ 10 t)) kind) 13 ((4 * t) + (ρ 10 t)) x) := z_wf_up hw2 (show (0 : Int) ≤ x by omega) (show x ≤ (3 : Int) by omega)
  have hw4 : z_wf (z_up (z_up (z_up ρ 12 ((4 * t) + (ρ 10 t)) kind) 13 ((4 * t) + (ρ 10 t)) x) 14 ((4 * t) + (ρ 10 t)) y) := z_wf_up hw3 (show (0 : Int) ≤ y by omega) (show y ≤ (3 : Int) by omega)
  have hw5 : z_wf (z_up (z_up (z_up (z_up ρ 12 ((4 * t) + (ρ 10 t)) kind) 13 ((4 * t) + (ρ 10 t)) x) 14 ((4 * t) + (ρ 10 t)) y) 15 ((4 * t) + (ρ 10 t)) am) := z_wf_up hw4 (show (0 : Int) ≤ am by omega) (show am ≤ (1000 : Int) by omega)
  have hw6 : z_wf (z_up (z_up (z_up (z_up (z_up ρ 12 ((4 * t) + (ρ 10 t)) kind) 13 ((4 * t) + (ρ 10 t)) x) 14 ((4 * t) + (ρ 10 t)) y) 15 ((4 * t) + (ρ 10 t)) am) 16 ((4 * t) + (ρ 10 t)) (-1)) := z_wf_up hw5 (show (-1 : Int) ≤ (-1) by omega) (show (-1) ≤ (3 : Int) by omega)
  have hw7 : z_wf (z_up (z_up (z_up (z_up (z_up (z_up ρ 12 ((4 * t) + (ρ 10 t)) kind) 13 ((4 * t) + (ρ 10 t)) x) 14 ((4 * t) + (ρ 10 t)) y) 15 ((4 * t) + (ρ 10 t)) am) 16 ((4 * t) + (ρ 10 t)) (-1)) 17 ((4 * t) + (ρ 10 t)) (-1)) := z_wf_up hw6 (show (-1 : Int) ≤ (-1) by omega) (show (-1) ≤ (19 : Int) by omega)
  have g8 : 0 ≤ ρ 10 t ∧ ρ 10 t ≤ 4 := hw 10 t (by decide)
  have hw9 : z_wf (z_up (z_up (z_up (z_up (z_up (z_up (z_up ρ 12 ((4 * t) + (ρ 10 t)) kind) 13 ((4 * t) + (ρ 10 t)) x) 14 ((4 * t) + (ρ 10 t)) y) 15 ((4 * t) + (ρ 10 t)) am) 16 ((4 * t) + (ρ 10 t)) (-1)) 17 ((4 * t) + (ρ 10 t)) (-1)) 10 t ((ρ 10 t) + 1)) := z_wf_up hw7 (show (0 : Int) ≤ ((ρ 10 t) + 1) by omega) (show ((ρ 10 t) + 1) ≤ (4 : Int) by omega)
  exact hw9

def rR_consume (ρ : z_Sg) (t u o : Int) : Int × z_Sg := if (rR_isTx ρ t) = 0 then ((-1), ρ) else if (rR_isState ρ u o) ≠ 0 then if (ρ 5 t) = 0 then if (ρ 18 ((20 * (ρ 1 t)) + u)) ≠ 0 then if (ρ 2 u) = (ρ 2 t) then if (rR_isInput ρ t ((4 * u) + o)) = 0 then if (ρ 9 t) ≠ 4 then (((((rR_addInput ρ t ((4 * u) + o))).2 9 t) - 1), ((rR_addInput ρ t ((4 * u) + o))).2) else ((-6), ρ) else ((-5), ρ) else ((-4), ρ) else ((-3), ρ) else ((-2), ρ) else ((-1), ρ)
set_option maxRecDepth 100000 in
set_option maxHeartbeats 4000000 in
theorem sR_consume {κ ρ : z_Sg} {a : Int → Nat} {B : List va_E} (hw : z_wf ρ) (t u o : Int) (hp0 : z_rg t) (hp1 : z_rg u) (hp2 : z_rg o) : z_Sp mR_consume (2, 43) 0 0 [.ref 12, zi t, zi u, zi o] (zM κ a ρ B) (fun r M' => r = some (zi (rR_consume ρ t u o).1) ∧ M' = zM κ a (rR_consume ρ t u o).2 B) := by
  refine z_Sp_of (L := [.ref 12, zi t, zi u, zi o]) (by decide) rfl rfl rfl (Nat.le_of_ble_eq_true rfl) ?_
  refine ev_aload_n 0 (q := 1) dR_consume_0 rfl (by rfl) rfl ?_
  refine ev_iload_n 1 (q := 2) dR_consume_1 rfl (by rfl) rfl ?_
  refine cv_V (As := [_]) (q := 5) dR_consume_2 kR_87 atR rfl rfl (Nat.le_of_ble_eq_true rfl) rfl rfl rfl (by decide) (sR_isTx hw t ⟨by omega, by omega⟩ ) ?_
  have g1 : (rR_isTx ρ t) = 0 ∨ (rR_isTx ρ t) = 1 := bR_isTx _ _
  refine zr_if_eq (t := 17) (q := 8) dR_consume_5 rfl rfl ⟨by omega, by omega⟩ (fun h2 => ?_) (fun h2 => ?_)
  · refine ev_iconst (v := iI (-1)) (q := 18) dR_consume_17 rfl rfl ?_
    exact zr_iret dR_consume_18 rfl ⟨by rw [rR_consume, if_pos h2], by rw [rR_consume, if_pos h2]⟩
  · have f20 := tR_isTx hw h2
    refine ev_aload_n 0 (q := 9) dR_consume_8 rfl (by rfl) rfl ?_
    refine ev_iload_n 2 (q := 10) dR_consume_9 rfl (by rfl) rfl ?_
    refine ev_iload_n 3 (q := 11) dR_consume_10 rfl (by rfl) rfl ?_
    refine cv_V (As := [_, _]) (q := 14) dR_consume_11 kR_95 atR rfl rfl (Nat.le_of_ble_eq_true rfl) rfl rfl rfl (by decide) (sR_isState hw u o ⟨by omega, by omega⟩ ⟨by omega, by omega⟩ ) ?_
    have g3 : (rR_isState ρ u o) = 0 ∨ (rR_isState ρ u o) = 1 := bR_isState _ _ _
    refine zr_if_ne (t := 19) (q := 17) dR_consume_14 rfl rfl ⟨by omega, by omega⟩ (fun h4 => ?_) (fun h4 => ?_)
    · have f19 := tR_isState hw h4
      refine ev_aload_n 0 (q := 20) dR_consume_19 rfl (by rfl) rfl ?_
      refine ev_get (q := 23) dR_consume_20 fR_22 atR (by rfl) rfl ?_
      refine ev_iload_n 1 (q := 24) dR_consume_23 rfl (by rfl) rfl ?_
      refine zr_iald (q := 25) (g := ρ 5) dR_consume_24 at_stageOf (by decide) ⟨by omega, by omega⟩ rfl ?_
      have g5 : 0 ≤ ρ 5 t ∧ ρ 5 t ≤ 9 := hw 5 t (by decide)
      refine zr_if_eq (t := 31) (q := 28) dR_consume_25 rfl rfl ⟨by omega, by omega⟩ (fun h6 => ?_) (fun h6 => ?_)
      · refine ev_aload_n 0 (q := 32) dR_consume_31 rfl (by rfl) rfl ?_
        refine ev_get (q := 35) dR_consume_32 fR_62 atR (by rfl) rfl ?_
        refine ev_bipush (v := iI 20) (q := 37) dR_consume_35 (by decide) rfl ?_
        refine ev_aload_n 0 (q := 38) dR_consume_37 rfl (by rfl) rfl ?_
        refine ev_get (q := 41) dR_consume_38 fR_7 atR (by rfl) rfl ?_
        refine ev_iload_n 1 (q := 42) dR_consume_41 rfl (by rfl) rfl ?_
        refine zr_iald (q := 43) (g := ρ 1) dR_consume_42 at_begunBy (by decide) ⟨by omega, by omega⟩ rfl ?_
        have g7 : 0 ≤ ρ 1 t ∧ ρ 1 t ≤ 3 := hw 1 t (by decide)
        refine zr_imul (q := 44) dR_consume_43 rfl ?_
        refine ev_iload_n 2 (q := 45) dR_consume_44 rfl (by rfl) rfl ?_
        refine zr_iadd (q := 46) dR_consume_45 rfl ?_
        refine zr_iald (q := 47) (g := ρ 18) dR_consume_46 at_knows (by decide) ⟨by omega, by omega⟩ rfl ?_
        have g8 : 0 ≤ ρ 18 ((20 * (ρ 1 t)) + u) ∧ ρ 18 ((20 * (ρ 1 t)) + u) ≤ 2 := hw 18 ((20 * (ρ 1 t)) + u) (by decide)
        refine zr_if_ne (t := 53) (q := 50) dR_consume_47 rfl rfl ⟨by omega, by omega⟩ (fun h9 => ?_) (fun h9 => ?_)
        · refine ev_aload_n 0 (q := 54) dR_consume_53 rfl (by rfl) rfl ?_
          refine ev_get (q := 57) dR_consume_54 fR_13 atR (by rfl) rfl ?_
          refine ev_iload_n 2 (q := 58) dR_consume_57 rfl (by rfl) rfl ?_
          refine zr_iald (q := 59) (g := ρ 2) dR_consume_58 at_notaryOf (by decide) ⟨by omega, by omega⟩ rfl ?_
          have g10 : 0 ≤ ρ 2 u ∧ ρ 2 u ≤ 5 := hw 2 u (by decide)
          refine ev_aload_n 0 (q := 60) dR_consume_59 rfl (by rfl) rfl ?_
          refine ev_get (q := 63) dR_consume_60 fR_13 atR (by rfl) rfl ?_
          refine ev_iload_n 1 (q := 64) dR_consume_63 rfl (by rfl) rfl ?_
          refine zr_iald (q := 65) (g := ρ 2) dR_consume_64 at_notaryOf (by decide) ⟨by omega, by omega⟩ rfl ?_
          have g11 : 0 ≤ ρ 2 t ∧ ρ 2 t ≤ 5 := hw 2 t (by decide)
          refine zr_icmp_eq (t := 71) (q := 68) dR_consume_65 rfl rfl ⟨by omega, by omega⟩ ⟨by omega, by omega⟩ (fun h12 => ?_) (fun h12 => ?_)
          · refine ev_aload_n 0 (q := 72) dR_consume_71 rfl (by rfl) rfl ?_
            refine ev_iload_n 1 (q := 73) dR_consume_72 rfl (by rfl) rfl ?_
            refine ev_iconst (v := iI 4) (q := 74) dR_consume_73 rfl rfl ?_
            refine ev_iload_n 2 (q := 75) dR_consume_74 rfl (by rfl) rfl ?_
            refine zr_imul (q := 76) dR_consume_75 rfl ?_
            refine ev_iload_n 3 (q := 77) dR_consume_76 rfl (by rfl) rfl ?_
            refine zr_iadd (q := 78) dR_consume_77 rfl ?_
            refine cv_V (As := [_, _]) (q := 81) dR_consume_78 kR_99 atR rfl rfl (Nat.le_of_ble_eq_true rfl) rfl rfl rfl (by decide) (sR_isInput hw t ((4 * u) + o) ⟨by omega, by omega⟩ ⟨by omega, by omega⟩ ) ?_
            have g13 : (rR_isInput ρ t ((4 * u) + o)) = 0 ∨ (rR_isInput ρ t ((4 * u) + o)) = 1 := bR_isInput _ _ _
            refine zr_if_eq (t := 87) (q := 84) dR_consume_81 rfl rfl ⟨by omega, by omega⟩ (fun h14 => ?_) (fun h14 => ?_)
            · refine ev_aload_n 0 (q := 88) dR_consume_87 rfl (by rfl) rfl ?_
              refine ev_get (q := 91) dR_consume_88 fR_35 atR (by rfl) rfl ?_
              refine ev_iload_n 1 (q := 92) dR_consume_91 rfl (by rfl) rfl ?_
              refine zr_iald (q := 93) (g := ρ 9) dR_consume_92 at_inputs (by decide) ⟨by omega, by omega⟩ rfl ?_
              have g15 : 0 ≤ ρ 9 t ∧ ρ 9 t ≤ 4 := hw 9 t (by decide)
              refine ev_iconst (v := iI 4) (q := 94) dR_consume_93 rfl rfl ?_
              refine zr_icmp_ne (t := 100) (q := 97) dR_consume_94 rfl rfl ⟨by omega, by omega⟩ ⟨by omega, by omega⟩ (fun h16 => ?_) (fun h16 => ?_)
              · refine ev_aload_n 0 (q := 101) dR_consume_100 rfl (by rfl) rfl ?_
                refine ev_iload_n 1 (q := 102) dR_consume_101 rfl (by rfl) rfl ?_
                refine ev_iconst (v := iI 4) (q := 103) dR_consume_102 rfl rfl ?_
                refine ev_iload_n 2 (q := 104) dR_consume_103 rfl (by rfl) rfl ?_
                refine zr_imul (q := 105) dR_consume_104 rfl ?_
                refine ev_iload_n 3 (q := 106) dR_consume_105 rfl (by rfl) rfl ?_
                refine zr_iadd (q := 107) dR_consume_106 rfl ?_
                refine cv_Vv (As := [_, _]) (q := 110) dR_consume_107 kR_102 atR rfl rfl (Nat.le_of_ble_eq_true rfl) rfl rfl rfl (by decide) (sR_addInput hw t ((4 * u) + o) ⟨by omega, by omega⟩ ⟨by omega, by omega⟩ (by omega)) ?_
                have hw17 : z_wf ((rR_addInput ρ t ((4 * u) + o))).2 := wR_addInput hw t ((4 * u) + o) ⟨by omega, by omega⟩ ⟨by omega, by omega⟩ (by omega)
                refine ev_aload_n 0 (q := 111) dR_consume_110 rfl (by rfl) rfl ?_
                refine ev_get (q := 114) dR_consume_111 fR_35 atR (by rfl) rfl ?_
                refine ev_iload_n 1 (q := 115) dR_consume_114 rfl (by rfl) rfl ?_
                refine zr_iald (q := 116) (g := ((rR_addInput ρ t ((4 * u) + o))).2 9) dR_consume_115 at_inputs (by decide) ⟨by omega, by omega⟩ rfl ?_
                have g18 : 0 ≤ ((rR_addInput ρ t ((4 * u) + o))).2 9 t ∧ ((rR_addInput ρ t ((4 * u) + o))).2 9 t ≤ 4 := hw17 9 t (by decide)
                refine ev_iconst (v := iI 1) (q := 117) dR_consume_116 rfl rfl ?_
                refine zr_isub (q := 118) dR_consume_117 rfl ?_
                exact zr_iret dR_consume_118 rfl ⟨by rw [rR_consume, if_neg h2, if_pos h4, if_pos h6, if_pos h9, if_pos h12, if_pos h14, if_pos h16], by rw [rR_consume, if_neg h2, if_pos h4, if_pos h6, if_pos h9, if_pos h12, if_pos h14, if_pos h16]⟩
              · refine ev_bipush (v := iI (-6)) (q := 99) dR_consume_97 (by decide) rfl ?_
                exact zr_iret dR_consume_99 rfl ⟨by rw [rR_consume, if_neg h2, if_pos h4, if_pos h6, if_pos h9, if_pos h12, if_pos h14, if_neg (fun z => z h16)], by rw [rR_consume, if_neg h2, if_pos h4, if_pos h6, if_pos h9, if_pos h12, if_pos h14, if_neg (fun z => z h16)]⟩
            · refine ev_bipush (v := iI (-5)) (q := 86) dR_consume_84 (by decide) rfl ?_
              exact zr_iret dR_consume_86 rfl ⟨by rw [rR_consume, if_neg h2, if_pos h4, if_pos h6, if_pos h9, if_pos h12, if_neg h14], by rw [rR_consume, if_neg h2, if_pos h4, if_pos h6, if_pos h9, if_pos h12, if_neg h14]⟩
          · refine ev_bipush (v := iI (-4)) (q := 70) dR_consume_68 (by decide) rfl ?_
            exact zr_iret dR_consume_70 rfl ⟨by rw [rR_consume, if_neg h2, if_pos h4, if_pos h6, if_pos h9, if_neg h12], by rw [rR_consume, if_neg h2, if_pos h4, if_pos h6, if_pos h9, if_neg h12]⟩
        · refine ev_bipush (v := iI (-3)) (q := 52) dR_consume_50 (by decide) rfl ?_
          exact zr_iret dR_consume_52 rfl ⟨by rw [rR_consume, if_neg h2, if_pos h4, if_pos h6, if_neg (fun z => z h9)], by rw [rR_consume, if_neg h2, if_pos h4, if_pos h6, if_neg (fun z => z h9)]⟩
      · refine ev_bipush (v := iI (-2)) (q := 30) dR_consume_28 (by decide) rfl ?_
        exact zr_iret dR_consume_30 rfl ⟨by rw [rR_consume, if_neg h2, if_pos h4, if_neg h6], by rw [rR_consume, if_neg h2, if_pos h4, if_neg h6]⟩
    · refine ev_iconst (v := iI (-1)) (q := 18) dR_consume_17 rfl rfl ?_
      exact zr_iret dR_consume_18 rfl ⟨by rw [rR_consume, if_neg h2, if_neg (fun z => z h4)], by rw [rR_consume, if_neg h2, if_neg (fun z => z h4)]⟩
set_option maxRecDepth 100000 in
set_option maxHeartbeats 4000000 in
theorem wR_consume {ρ : z_Sg} (hw : z_wf ρ) (t u o : Int) (hp0 : z_rg t) (hp1 : z_rg u) (hp2 : z_rg o) : z_wf (rR_consume ρ t u o).2 := by
  rw [rR_consume]
  have g1 : (rR_isTx ρ t) = 0 ∨ (rR_isTx ρ t) = 1 := bR_isTx _ _
  by_cases h2 : (rR_isTx ρ t) = 0
  · rw [if_pos h2]
    exact hw
  · rw [if_neg h2]
    have f20 := tR_isTx hw h2
    have g3 : (rR_isState ρ u o) = 0 ∨ (rR_isState ρ u o) = 1 := bR_isState _ _ _
    by_cases h4 : (rR_isState ρ u o) ≠ 0
    · rw [if_pos h4]
      have f19 := tR_isState hw h4
      have g5 : 0 ≤ ρ 5 t ∧ ρ 5 t ≤ 9 := hw 5 t (by decide)
      by_cases h6 : (ρ 5 t) = 0
      · rw [if_pos h6]
        have g7 : 0 ≤ ρ 1 t ∧ ρ 1 t ≤ 3 := hw 1 t (by decide)
        have g8 : 0 ≤ ρ 18 ((20 * (ρ 1 t)) + u) ∧ ρ 18 ((20 * (ρ 1 t)) + u) ≤ 2 := hw 18 ((20 * (ρ 1 t)) + u) (by decide)
        by_cases h9 : (ρ 18 ((20 * (ρ 1 t)) + u)) ≠ 0
        · rw [if_pos h9]
          have g10 : 0 ≤ ρ 2 u ∧ ρ 2 u ≤ 5 := hw 2 u (by decide)
          have g11 : 0 ≤ ρ 2 t ∧ ρ 2 t ≤ 5 := hw 2 t (by decide)
          by_cases h12 : (ρ 2 u) = (ρ 2 t)
          · rw [if_pos h12]
            have g13 : (rR_isInput ρ t ((4 * u) + o)) = 0 ∨ (rR_isInput ρ t ((4 * u) + o)) = 1 := bR_isInput _ _ _
            by_cases h14 : (rR_isInput ρ t ((4 * u) + o)) = 0
            · rw [if_pos h14]
              have g15 : 0 ≤ ρ 9 t ∧ ρ 9 t ≤ 4 := hw 9 t (by decide)
              by_cases h16 : (ρ 9 t) ≠ 4
              · rw [if_pos h16]
                have hw17 : z_wf ((rR_addInput ρ t ((4 * u) + o))).2 := wR_addInput hw t ((4 * u) + o) ⟨by omega, by omega⟩ ⟨by omega, by omega⟩ (by omega)
                have g18 : 0 ≤ ((rR_addInput ρ t ((4 * u) + o))).2 9 t ∧ ((rR_addInput ρ t ((4 * u) + o))).2 9 t ≤ 4 := hw17 9 t (by decide)
                exact hw17
              · rw [if_neg h16]
                exact hw
            · rw [if_neg h14]
              exact hw
          · rw [if_neg h12]
            exact hw
        · rw [if_neg h9]
          exact hw
      · rw [if_neg h6]
        exact hw
    · rw [if_neg h4]
      exact hw

def rR_produce (ρ : z_Sg) (t kind x y am : Int) : Int × z_Sg := if (rR_isTx ρ t) = 0 then ((-1), ρ) else if kind < 0 then ((-1), ρ) else if 2 < kind then ((-1), ρ) else if (rR_isNode ρ x) = 0 then ((-1), ρ) else if (rR_isNode ρ y) = 0 then ((-1), ρ) else if am < 1 then ((-1), ρ) else if am ≤ 1000 then if kind ≠ 1 then if kind ≠ 2 then if (ρ 5 t) = 0 then if (ρ 10 t) ≠ 4 then (((((rR_addOutput ρ t kind x y am)).2 10 t) - 1), ((rR_addOutput ρ t kind x y am)).2) else ((-6), ρ) else ((-2), ρ) else if x ≠ 0 then ((-1), ρ) else if y = 0 then if (ρ 5 t) = 0 then if (ρ 10 t) ≠ 4 then (((((rR_addOutput ρ t kind x y am)).2 10 t) - 1), ((rR_addOutput ρ t kind x y am)).2) else ((-6), ρ) else ((-2), ρ) else ((-1), ρ) else if x = y then ((-1), ρ) else if kind ≠ 2 then if (ρ 5 t) = 0 then if (ρ 10 t) ≠ 4 then (((((rR_addOutput ρ t kind x y am)).2 10 t) - 1), ((rR_addOutput ρ t kind x y am)).2) else ((-6), ρ) else ((-2), ρ) else if x ≠ 0 then ((-1), ρ) else if y = 0 then if (ρ 5 t) = 0 then if (ρ 10 t) ≠ 4 then (((((rR_addOutput ρ t kind x y am)).2 10 t) - 1), ((rR_addOutput ρ t kind x y am)).2) else ((-6), ρ) else ((-2), ρ) else ((-1), ρ) else ((-1), ρ)
set_option maxRecDepth 100000 in
set_option maxHeartbeats 4000000 in
theorem sR_produce {κ ρ : z_Sg} {a : Int → Nat} {B : List va_E} (hw : z_wf ρ) (t kind x y am : Int) (hp0 : z_rg t) (hp1 : z_rg kind) (hp2 : z_rg x) (hp3 : z_rg y) (hp4 : z_rg am) : z_Sp mR_produce (1, 26) 0 0 [.ref 12, zi t, zi kind, zi x, zi y, zi am] (zM κ a ρ B) (fun r M' => r = some (zi (rR_produce ρ t kind x y am).1) ∧ M' = zM κ a (rR_produce ρ t kind x y am).2 B) := by
  refine z_Sp_of (L := [.ref 12, zi t, zi kind, zi x, zi y, zi am]) (by decide) rfl rfl rfl (Nat.le_of_ble_eq_true rfl) ?_
  refine ev_aload_n 0 (q := 1) dR_produce_0 rfl (by rfl) rfl ?_
  refine ev_iload_n 1 (q := 2) dR_produce_1 rfl (by rfl) rfl ?_
  refine cv_V (As := [_]) (q := 5) dR_produce_2 kR_87 atR rfl rfl (Nat.le_of_ble_eq_true rfl) rfl rfl rfl (by decide) (sR_isTx hw t ⟨by omega, by omega⟩ ) ?_
  have g1 : (rR_isTx ρ t) = 0 ∨ (rR_isTx ρ t) = 1 := bR_isTx _ _
  refine zr_if_eq (t := 48) (q := 8) dR_produce_5 rfl rfl ⟨by omega, by omega⟩ (fun h2 => ?_) (fun h2 => ?_)
  · refine ev_iconst (v := iI (-1)) (q := 49) dR_produce_48 rfl rfl ?_
    exact zr_iret dR_produce_49 rfl ⟨by rw [rR_produce, if_pos h2], by rw [rR_produce, if_pos h2]⟩
  · have f45 := tR_isTx hw h2
    refine ev_iload_n 2 (q := 9) dR_produce_8 rfl (by rfl) rfl ?_
    refine zr_if_lt (t := 48) (q := 12) dR_produce_9 rfl rfl ⟨by omega, by omega⟩ (fun h3 => ?_) (fun h3 => ?_)
    · refine ev_iconst (v := iI (-1)) (q := 49) dR_produce_48 rfl rfl ?_
      exact zr_iret dR_produce_49 rfl ⟨by rw [rR_produce, if_neg h2, if_pos h3], by rw [rR_produce, if_neg h2, if_pos h3]⟩
    · refine ev_iload_n 2 (q := 13) dR_produce_12 rfl (by rfl) rfl ?_
      refine ev_iconst (v := iI 2) (q := 14) dR_produce_13 rfl rfl ?_
      refine zr_icmp_gt (t := 48) (q := 17) dR_produce_14 rfl rfl ⟨by omega, by omega⟩ ⟨by omega, by omega⟩ (fun h4 => ?_) (fun h4 => ?_)
      · refine ev_iconst (v := iI (-1)) (q := 49) dR_produce_48 rfl rfl ?_
        exact zr_iret dR_produce_49 rfl ⟨by rw [rR_produce, if_neg h2, if_neg (Int.not_lt.mpr h3), if_pos h4], by rw [rR_produce, if_neg h2, if_neg (Int.not_lt.mpr h3), if_pos h4]⟩
      · refine ev_aload_n 0 (q := 18) dR_produce_17 rfl (by rfl) rfl ?_
        refine ev_iload_n 3 (q := 19) dR_produce_18 rfl (by rfl) rfl ?_
        refine cv_V (As := [_]) (q := 22) dR_produce_19 kR_91 atR rfl rfl (Nat.le_of_ble_eq_true rfl) rfl rfl rfl (by decide) (sR_isNode hw x ⟨by omega, by omega⟩ ) ?_
        have g5 : (rR_isNode ρ x) = 0 ∨ (rR_isNode ρ x) = 1 := bR_isNode _ _
        refine zr_if_eq (t := 48) (q := 25) dR_produce_22 rfl rfl ⟨by omega, by omega⟩ (fun h6 => ?_) (fun h6 => ?_)
        · refine ev_iconst (v := iI (-1)) (q := 49) dR_produce_48 rfl rfl ?_
          exact zr_iret dR_produce_49 rfl ⟨by rw [rR_produce, if_neg h2, if_neg (Int.not_lt.mpr h3), if_neg (Int.not_lt.mpr h4), if_pos h6], by rw [rR_produce, if_neg h2, if_neg (Int.not_lt.mpr h3), if_neg (Int.not_lt.mpr h4), if_pos h6]⟩
        · have f44 := tR_isNode hw h6
          refine ev_aload_n 0 (q := 26) dR_produce_25 rfl (by rfl) rfl ?_
          refine ev_iload (q := 28) dR_produce_26 (by rfl) rfl ?_
          refine cv_V (As := [_]) (q := 31) dR_produce_28 kR_91 atR rfl rfl (Nat.le_of_ble_eq_true rfl) rfl rfl rfl (by decide) (sR_isNode hw y ⟨by omega, by omega⟩ ) ?_
          have g7 : (rR_isNode ρ y) = 0 ∨ (rR_isNode ρ y) = 1 := bR_isNode _ _
          refine zr_if_eq (t := 48) (q := 34) dR_produce_31 rfl rfl ⟨by omega, by omega⟩ (fun h8 => ?_) (fun h8 => ?_)
          · refine ev_iconst (v := iI (-1)) (q := 49) dR_produce_48 rfl rfl ?_
            exact zr_iret dR_produce_49 rfl ⟨by rw [rR_produce, if_neg h2, if_neg (Int.not_lt.mpr h3), if_neg (Int.not_lt.mpr h4), if_neg h6, if_pos h8], by rw [rR_produce, if_neg h2, if_neg (Int.not_lt.mpr h3), if_neg (Int.not_lt.mpr h4), if_neg h6, if_pos h8]⟩
          · have f43 := tR_isNode hw h8
            refine ev_iload (q := 36) dR_produce_34 (by rfl) rfl ?_
            refine ev_iconst (v := iI 1) (q := 37) dR_produce_36 rfl rfl ?_
            refine zr_icmp_lt (t := 48) (q := 40) dR_produce_37 rfl rfl ⟨by omega, by omega⟩ ⟨by omega, by omega⟩ (fun h9 => ?_) (fun h9 => ?_)
            · refine ev_iconst (v := iI (-1)) (q := 49) dR_produce_48 rfl rfl ?_
              exact zr_iret dR_produce_49 rfl ⟨by rw [rR_produce, if_neg h2, if_neg (Int.not_lt.mpr h3), if_neg (Int.not_lt.mpr h4), if_neg h6, if_neg h8, if_pos h9], by rw [rR_produce, if_neg h2, if_neg (Int.not_lt.mpr h3), if_neg (Int.not_lt.mpr h4), if_neg h6, if_neg h8, if_pos h9]⟩
            · refine ev_iload (q := 42) dR_produce_40 (by rfl) rfl ?_
              refine ev_sipush (v := iI 1000) (q := 45) dR_produce_42 (by decide) rfl ?_
              refine zr_icmp_le (t := 50) (q := 48) dR_produce_45 rfl rfl ⟨by omega, by omega⟩ ⟨by omega, by omega⟩ (fun h10 => ?_) (fun h10 => ?_)
              · refine ev_iload_n 2 (q := 51) dR_produce_50 rfl (by rfl) rfl ?_
                refine ev_iconst (v := iI 1) (q := 52) dR_produce_51 rfl rfl ?_
                refine zr_icmp_ne (t := 61) (q := 55) dR_produce_52 rfl rfl ⟨by omega, by omega⟩ ⟨by omega, by omega⟩ (fun h11 => ?_) (fun h11 => ?_)
                · refine ev_iload_n 2 (q := 62) dR_produce_61 rfl (by rfl) rfl ?_
                  refine ev_iconst (v := iI 2) (q := 63) dR_produce_62 rfl rfl ?_
                  refine zr_icmp_ne (t := 77) (q := 66) dR_produce_63 rfl rfl ⟨by omega, by omega⟩ ⟨by omega, by omega⟩ (fun h12 => ?_) (fun h12 => ?_)
                  · refine ev_aload_n 0 (q := 78) dR_produce_77 rfl (by rfl) rfl ?_
                    refine ev_get (q := 81) dR_produce_78 fR_22 atR (by rfl) rfl ?_
                    refine ev_iload_n 1 (q := 82) dR_produce_81 rfl (by rfl) rfl ?_
                    refine zr_iald (q := 83) (g := ρ 5) dR_produce_82 at_stageOf (by decide) ⟨by omega, by omega⟩ rfl ?_
                    have g13 : 0 ≤ ρ 5 t ∧ ρ 5 t ≤ 9 := hw 5 t (by decide)
                    refine zr_if_eq (t := 89) (q := 86) dR_produce_83 rfl rfl ⟨by omega, by omega⟩ (fun h14 => ?_) (fun h14 => ?_)
                    · refine ev_aload_n 0 (q := 90) dR_produce_89 rfl (by rfl) rfl ?_
                      refine ev_get (q := 93) dR_produce_90 fR_38 atR (by rfl) rfl ?_
                      refine ev_iload_n 1 (q := 94) dR_produce_93 rfl (by rfl) rfl ?_
                      refine zr_iald (q := 95) (g := ρ 10) dR_produce_94 at_outputs (by decide) ⟨by omega, by omega⟩ rfl ?_
                      have g15 : 0 ≤ ρ 10 t ∧ ρ 10 t ≤ 4 := hw 10 t (by decide)
                      refine ev_iconst (v := iI 4) (q := 96) dR_produce_95 rfl rfl ?_
                      refine zr_icmp_ne (t := 102) (q := 99) dR_produce_96 rfl rfl ⟨by omega, by omega⟩ ⟨by omega, by omega⟩ (fun h16 => ?_) (fun h16 => ?_)
                      · refine ev_aload_n 0 (q := 103) dR_produce_102 rfl (by rfl) rfl ?_
                        refine ev_iload_n 1 (q := 104) dR_produce_103 rfl (by rfl) rfl ?_
                        refine ev_iload_n 2 (q := 105) dR_produce_104 rfl (by rfl) rfl ?_
                        refine ev_iload_n 3 (q := 106) dR_produce_105 rfl (by rfl) rfl ?_
                        refine ev_iload (q := 108) dR_produce_106 (by rfl) rfl ?_
                        refine ev_iload (q := 110) dR_produce_108 (by rfl) rfl ?_
                        refine cv_Vv (As := [_, _, _, _, _]) (q := 113) dR_produce_110 kR_106 atR rfl rfl (Nat.le_of_ble_eq_true rfl) rfl rfl rfl (by decide) (sR_addOutput hw t kind x y am ⟨by omega, by omega⟩ ⟨by omega, by omega⟩ ⟨by omega, by omega⟩ ⟨by omega, by omega⟩ ⟨by omega, by omega⟩ (by omega)) ?_
                        have hw17 : z_wf ((rR_addOutput ρ t kind x y am)).2 := wR_addOutput hw t kind x y am ⟨by omega, by omega⟩ ⟨by omega, by omega⟩ ⟨by omega, by omega⟩ ⟨by omega, by omega⟩ ⟨by omega, by omega⟩ (by omega)
                        refine ev_aload_n 0 (q := 114) dR_produce_113 rfl (by rfl) rfl ?_
                        refine ev_get (q := 117) dR_produce_114 fR_38 atR (by rfl) rfl ?_
                        refine ev_iload_n 1 (q := 118) dR_produce_117 rfl (by rfl) rfl ?_
                        refine zr_iald (q := 119) (g := ((rR_addOutput ρ t kind x y am)).2 10) dR_produce_118 at_outputs (by decide) ⟨by omega, by omega⟩ rfl ?_
                        have g18 : 0 ≤ ((rR_addOutput ρ t kind x y am)).2 10 t ∧ ((rR_addOutput ρ t kind x y am)).2 10 t ≤ 4 := hw17 10 t (by decide)
                        refine ev_iconst (v := iI 1) (q := 120) dR_produce_119 rfl rfl ?_
                        refine zr_isub (q := 121) dR_produce_120 rfl ?_
                        exact zr_iret dR_produce_121 rfl ⟨by rw [rR_produce, if_neg h2, if_neg (Int.not_lt.mpr h3), if_neg (Int.not_lt.mpr h4), if_neg h6, if_neg h8, if_neg (Int.not_lt.mpr h9), if_pos h10, if_pos h11, if_pos h12, if_pos h14, if_pos h16], by rw [rR_produce, if_neg h2, if_neg (Int.not_lt.mpr h3), if_neg (Int.not_lt.mpr h4), if_neg h6, if_neg h8, if_neg (Int.not_lt.mpr h9), if_pos h10, if_pos h11, if_pos h12, if_pos h14, if_pos h16]⟩
                      · refine ev_bipush (v := iI (-6)) (q := 101) dR_produce_99 (by decide) rfl ?_
                        exact zr_iret dR_produce_101 rfl ⟨by rw [rR_produce, if_neg h2, if_neg (Int.not_lt.mpr h3), if_neg (Int.not_lt.mpr h4), if_neg h6, if_neg h8, if_neg (Int.not_lt.mpr h9), if_pos h10, if_pos h11, if_pos h12, if_pos h14, if_neg (fun z => z h16)], by rw [rR_produce, if_neg h2, if_neg (Int.not_lt.mpr h3), if_neg (Int.not_lt.mpr h4), if_neg h6, if_neg h8, if_neg (Int.not_lt.mpr h9), if_pos h10, if_pos h11, if_pos h12, if_pos h14, if_neg (fun z => z h16)]⟩
                    · refine ev_bipush (v := iI (-2)) (q := 88) dR_produce_86 (by decide) rfl ?_
                      exact zr_iret dR_produce_88 rfl ⟨by rw [rR_produce, if_neg h2, if_neg (Int.not_lt.mpr h3), if_neg (Int.not_lt.mpr h4), if_neg h6, if_neg h8, if_neg (Int.not_lt.mpr h9), if_pos h10, if_pos h11, if_pos h12, if_neg h14], by rw [rR_produce, if_neg h2, if_neg (Int.not_lt.mpr h3), if_neg (Int.not_lt.mpr h4), if_neg h6, if_neg h8, if_neg (Int.not_lt.mpr h9), if_pos h10, if_pos h11, if_pos h12, if_neg h14]⟩
                  · refine ev_iload_n 3 (q := 67) dR_produce_66 rfl (by rfl) rfl ?_
                    refine zr_if_ne (t := 75) (q := 70) dR_produce_67 rfl rfl ⟨by omega, by omega⟩ (fun h19 => ?_) (fun h19 => ?_)
                    · refine ev_iconst (v := iI (-1)) (q := 76) dR_produce_75 rfl rfl ?_
                      exact zr_iret dR_produce_76 rfl ⟨by rw [rR_produce, if_neg h2, if_neg (Int.not_lt.mpr h3), if_neg (Int.not_lt.mpr h4), if_neg h6, if_neg h8, if_neg (Int.not_lt.mpr h9), if_pos h10, if_pos h11, if_neg (fun z => z h12), if_pos h19], by rw [rR_produce, if_neg h2, if_neg (Int.not_lt.mpr h3), if_neg (Int.not_lt.mpr h4), if_neg h6, if_neg h8, if_neg (Int.not_lt.mpr h9), if_pos h10, if_pos h11, if_neg (fun z => z h12), if_pos h19]⟩
                    · refine ev_iload (q := 72) dR_produce_70 (by rfl) rfl ?_
                      refine zr_if_eq (t := 77) (q := 75) dR_produce_72 rfl rfl ⟨by omega, by omega⟩ (fun h20 => ?_) (fun h20 => ?_)
                      · refine ev_aload_n 0 (q := 78) dR_produce_77 rfl (by rfl) rfl ?_
                        refine ev_get (q := 81) dR_produce_78 fR_22 atR (by rfl) rfl ?_
                        refine ev_iload_n 1 (q := 82) dR_produce_81 rfl (by rfl) rfl ?_
                        refine zr_iald (q := 83) (g := ρ 5) dR_produce_82 at_stageOf (by decide) ⟨by omega, by omega⟩ rfl ?_
                        have g21 : 0 ≤ ρ 5 t ∧ ρ 5 t ≤ 9 := hw 5 t (by decide)
                        refine zr_if_eq (t := 89) (q := 86) dR_produce_83 rfl rfl ⟨by omega, by omega⟩ (fun h22 => ?_) (fun h22 => ?_)
                        · refine ev_aload_n 0 (q := 90) dR_produce_89 rfl (by rfl) rfl ?_
                          refine ev_get (q := 93) dR_produce_90 fR_38 atR (by rfl) rfl ?_
                          refine ev_iload_n 1 (q := 94) dR_produce_93 rfl (by rfl) rfl ?_
                          refine zr_iald (q := 95) (g := ρ 10) dR_produce_94 at_outputs (by decide) ⟨by omega, by omega⟩ rfl ?_
                          have g23 : 0 ≤ ρ 10 t ∧ ρ 10 t ≤ 4 := hw 10 t (by decide)
                          refine ev_iconst (v := iI 4) (q := 96) dR_produce_95 rfl rfl ?_
                          refine zr_icmp_ne (t := 102) (q := 99) dR_produce_96 rfl rfl ⟨by omega, by omega⟩ ⟨by omega, by omega⟩ (fun h24 => ?_) (fun h24 => ?_)
                          · refine ev_aload_n 0 (q := 103) dR_produce_102 rfl (by rfl) rfl ?_
                            refine ev_iload_n 1 (q := 104) dR_produce_103 rfl (by rfl) rfl ?_
                            refine ev_iload_n 2 (q := 105) dR_produce_104 rfl (by rfl) rfl ?_
                            refine ev_iload_n 3 (q := 106) dR_produce_105 rfl (by rfl) rfl ?_
                            refine ev_iload (q := 108) dR_produce_106 (by rfl) rfl ?_
                            refine ev_iload (q := 110) dR_produce_108 (by rfl) rfl ?_
                            refine cv_Vv (As := [_, _, _, _, _]) (q := 113) dR_produce_110 kR_106 atR rfl rfl (Nat.le_of_ble_eq_true rfl) rfl rfl rfl (by decide) (sR_addOutput hw t kind x y am ⟨by omega, by omega⟩ ⟨by omega, by omega⟩ ⟨by omega, by omega⟩ ⟨by omega, by omega⟩ ⟨by omega, by omega⟩ (by omega)) ?_
                            have hw25 : z_wf ((rR_addOutput ρ t kind x y am)).2 := wR_addOutput hw t kind x y am ⟨by omega, by omega⟩ ⟨by omega, by omega⟩ ⟨by omega, by omega⟩ ⟨by omega, by omega⟩ ⟨by omega, by omega⟩ (by omega)
                            refine ev_aload_n 0 (q := 114) dR_produce_113 rfl (by rfl) rfl ?_
                            refine ev_get (q := 117) dR_produce_114 fR_38 atR (by rfl) rfl ?_
                            refine ev_iload_n 1 (q := 118) dR_produce_117 rfl (by rfl) rfl ?_
                            refine zr_iald (q := 119) (g := ((rR_addOutput ρ t kind x y am)).2 10) dR_produce_118 at_outputs (by decide) ⟨by omega, by omega⟩ rfl ?_
                            have g26 : 0 ≤ ((rR_addOutput ρ t kind x y am)).2 10 t ∧ ((rR_addOutput ρ t kind x y am)).2 10 t ≤ 4 := hw25 10 t (by decide)
                            refine ev_iconst (v := iI 1) (q := 120) dR_produce_119 rfl rfl ?_
                            refine zr_isub (q := 121) dR_produce_120 rfl ?_
                            exact zr_iret dR_produce_121 rfl ⟨by rw [rR_produce, if_neg h2, if_neg (Int.not_lt.mpr h3), if_neg (Int.not_lt.mpr h4), if_neg h6, if_neg h8, if_neg (Int.not_lt.mpr h9), if_pos h10, if_pos h11, if_neg (fun z => z h12), if_neg (fun z => z h19), if_pos h20, if_pos h22, if_pos h24], by rw [rR_produce, if_neg h2, if_neg (Int.not_lt.mpr h3), if_neg (Int.not_lt.mpr h4), if_neg h6, if_neg h8, if_neg (Int.not_lt.mpr h9), if_pos h10, if_pos h11, if_neg (fun z => z h12), if_neg (fun z => z h19), if_pos h20, if_pos h22, if_pos h24]⟩
                          · refine ev_bipush (v := iI (-6)) (q := 101) dR_produce_99 (by decide) rfl ?_
                            exact zr_iret dR_produce_101 rfl ⟨by rw [rR_produce, if_neg h2, if_neg (Int.not_lt.mpr h3), if_neg (Int.not_lt.mpr h4), if_neg h6, if_neg h8, if_neg (Int.not_lt.mpr h9), if_pos h10, if_pos h11, if_neg (fun z => z h12), if_neg (fun z => z h19), if_pos h20, if_pos h22, if_neg (fun z => z h24)], by rw [rR_produce, if_neg h2, if_neg (Int.not_lt.mpr h3), if_neg (Int.not_lt.mpr h4), if_neg h6, if_neg h8, if_neg (Int.not_lt.mpr h9), if_pos h10, if_pos h11, if_neg (fun z => z h12), if_neg (fun z => z h19), if_pos h20, if_pos h22, if_neg (fun z => z h24)]⟩
                        · refine ev_bipush (v := iI (-2)) (q := 88) dR_produce_86 (by decide) rfl ?_
                          exact zr_iret dR_produce_88 rfl ⟨by rw [rR_produce, if_neg h2, if_neg (Int.not_lt.mpr h3), if_neg (Int.not_lt.mpr h4), if_neg h6, if_neg h8, if_neg (Int.not_lt.mpr h9), if_pos h10, if_pos h11, if_neg (fun z => z h12), if_neg (fun z => z h19), if_pos h20, if_neg h22], by rw [rR_produce, if_neg h2, if_neg (Int.not_lt.mpr h3), if_neg (Int.not_lt.mpr h4), if_neg h6, if_neg h8, if_neg (Int.not_lt.mpr h9), if_pos h10, if_pos h11, if_neg (fun z => z h12), if_neg (fun z => z h19), if_pos h20, if_neg h22]⟩
                      · refine ev_iconst (v := iI (-1)) (q := 76) dR_produce_75 rfl rfl ?_
                        exact zr_iret dR_produce_76 rfl ⟨by rw [rR_produce, if_neg h2, if_neg (Int.not_lt.mpr h3), if_neg (Int.not_lt.mpr h4), if_neg h6, if_neg h8, if_neg (Int.not_lt.mpr h9), if_pos h10, if_pos h11, if_neg (fun z => z h12), if_neg (fun z => z h19), if_neg h20], by rw [rR_produce, if_neg h2, if_neg (Int.not_lt.mpr h3), if_neg (Int.not_lt.mpr h4), if_neg h6, if_neg h8, if_neg (Int.not_lt.mpr h9), if_pos h10, if_pos h11, if_neg (fun z => z h12), if_neg (fun z => z h19), if_neg h20]⟩
                · refine ev_iload_n 3 (q := 56) dR_produce_55 rfl (by rfl) rfl ?_
                  refine ev_iload (q := 58) dR_produce_56 (by rfl) rfl ?_
                  refine zr_icmp_eq (t := 75) (q := 61) dR_produce_58 rfl rfl ⟨by omega, by omega⟩ ⟨by omega, by omega⟩ (fun h27 => ?_) (fun h27 => ?_)
                  · refine ev_iconst (v := iI (-1)) (q := 76) dR_produce_75 rfl rfl ?_
                    exact zr_iret dR_produce_76 rfl ⟨by rw [rR_produce, if_neg h2, if_neg (Int.not_lt.mpr h3), if_neg (Int.not_lt.mpr h4), if_neg h6, if_neg h8, if_neg (Int.not_lt.mpr h9), if_pos h10, if_neg (fun z => z h11), if_pos h27], by rw [rR_produce, if_neg h2, if_neg (Int.not_lt.mpr h3), if_neg (Int.not_lt.mpr h4), if_neg h6, if_neg h8, if_neg (Int.not_lt.mpr h9), if_pos h10, if_neg (fun z => z h11), if_pos h27]⟩
                  · refine ev_iload_n 2 (q := 62) dR_produce_61 rfl (by rfl) rfl ?_
                    refine ev_iconst (v := iI 2) (q := 63) dR_produce_62 rfl rfl ?_
                    refine zr_icmp_ne (t := 77) (q := 66) dR_produce_63 rfl rfl ⟨by omega, by omega⟩ ⟨by omega, by omega⟩ (fun h28 => ?_) (fun h28 => ?_)
                    · refine ev_aload_n 0 (q := 78) dR_produce_77 rfl (by rfl) rfl ?_
                      refine ev_get (q := 81) dR_produce_78 fR_22 atR (by rfl) rfl ?_
                      refine ev_iload_n 1 (q := 82) dR_produce_81 rfl (by rfl) rfl ?_
                      refine zr_iald (q := 83) (g := ρ 5) dR_produce_82 at_stageOf (by decide) ⟨by omega, by omega⟩ rfl ?_
                      have g29 : 0 ≤ ρ 5 t ∧ ρ 5 t ≤ 9 := hw 5 t (by decide)
                      refine zr_if_eq (t := 89) (q := 86) dR_produce_83 rfl rfl ⟨by omega, by omega⟩ (fun h30 => ?_) (fun h30 => ?_)
                      · refine ev_aload_n 0 (q := 90) dR_produce_89 rfl (by rfl) rfl ?_
                        refine ev_get (q := 93) dR_produce_90 fR_38 atR (by rfl) rfl ?_
                        refine ev_iload_n 1 (q := 94) dR_produce_93 rfl (by rfl) rfl ?_
                        refine zr_iald (q := 95) (g := ρ 10) dR_produce_94 at_outputs (by decide) ⟨by omega, by omega⟩ rfl ?_
                        have g31 : 0 ≤ ρ 10 t ∧ ρ 10 t ≤ 4 := hw 10 t (by decide)
                        refine ev_iconst (v := iI 4) (q := 96) dR_produce_95 rfl rfl ?_
                        refine zr_icmp_ne (t := 102) (q := 99) dR_produce_96 rfl rfl ⟨by omega, by omega⟩ ⟨by omega, by omega⟩ (fun h32 => ?_) (fun h32 => ?_)
                        · refine ev_aload_n 0 (q := 103) dR_produce_102 rfl (by rfl) rfl ?_
                          refine ev_iload_n 1 (q := 104) dR_produce_103 rfl (by rfl) rfl ?_
                          refine ev_iload_n 2 (q := 105) dR_produce_104 rfl (by rfl) rfl ?_
                          refine ev_iload_n 3 (q := 106) dR_produce_105 rfl (by rfl) rfl ?_
                          refine ev_iload (q := 108) dR_produce_106 (by rfl) rfl ?_
                          refine ev_iload (q := 110) dR_produce_108 (by rfl) rfl ?_
                          refine cv_Vv (As := [_, _, _, _, _]) (q := 113) dR_produce_110 kR_106 atR rfl rfl (Nat.le_of_ble_eq_true rfl) rfl rfl rfl (by decide) (sR_addOutput hw t kind x y am ⟨by omega, by omega⟩ ⟨by omega, by omega⟩ ⟨by omega, by omega⟩ ⟨by omega, by omega⟩ ⟨by omega, by omega⟩ (by omega)) ?_
                          have hw33 : z_wf ((rR_addOutput ρ t kind x y am)).2 := wR_addOutput hw t kind x y am ⟨by omega, by omega⟩ ⟨by omega, by omega⟩ ⟨by omega, by omega⟩ ⟨by omega, by omega⟩ ⟨by omega, by omega⟩ (by omega)
                          refine ev_aload_n 0 (q := 114) dR_produce_113 rfl (by rfl) rfl ?_
                          refine ev_get (q := 117) dR_produce_114 fR_38 atR (by rfl) rfl ?_
                          refine ev_iload_n 1 (q := 118) dR_produce_117 rfl (by rfl) rfl ?_
                          refine zr_iald (q := 119) (g := ((rR_addOutput ρ t kind x y am)).2 10) dR_produce_118 at_outputs (by decide) ⟨by omega, by omega⟩ rfl ?_
                          have g34 : 0 ≤ ((rR_addOutput ρ t kind x y am)).2 10 t ∧ ((rR_addOutput ρ t kind x y am)).2 10 t ≤ 4 := hw33 10 t (by decide)
                          refine ev_iconst (v := iI 1) (q := 120) dR_produce_119 rfl rfl ?_
                          refine zr_isub (q := 121) dR_produce_120 rfl ?_
                          exact zr_iret dR_produce_121 rfl ⟨by rw [rR_produce, if_neg h2, if_neg (Int.not_lt.mpr h3), if_neg (Int.not_lt.mpr h4), if_neg h6, if_neg h8, if_neg (Int.not_lt.mpr h9), if_pos h10, if_neg (fun z => z h11), if_neg h27, if_pos h28, if_pos h30, if_pos h32], by rw [rR_produce, if_neg h2, if_neg (Int.not_lt.mpr h3), if_neg (Int.not_lt.mpr h4), if_neg h6, if_neg h8, if_neg (Int.not_lt.mpr h9), if_pos h10, if_neg (fun z => z h11), if_neg h27, if_pos h28, if_pos h30, if_pos h32]⟩
                        · refine ev_bipush (v := iI (-6)) (q := 101) dR_produce_99 (by decide) rfl ?_
                          exact zr_iret dR_produce_101 rfl ⟨by rw [rR_produce, if_neg h2, if_neg (Int.not_lt.mpr h3), if_neg (Int.not_lt.mpr h4), if_neg h6, if_neg h8, if_neg (Int.not_lt.mpr h9), if_pos h10, if_neg (fun z => z h11), if_neg h27, if_pos h28, if_pos h30, if_neg (fun z => z h32)], by rw [rR_produce, if_neg h2, if_neg (Int.not_lt.mpr h3), if_neg (Int.not_lt.mpr h4), if_neg h6, if_neg h8, if_neg (Int.not_lt.mpr h9), if_pos h10, if_neg (fun z => z h11), if_neg h27, if_pos h28, if_pos h30, if_neg (fun z => z h32)]⟩
                      · refine ev_bipush (v := iI (-2)) (q := 88) dR_produce_86 (by decide) rfl ?_
                        exact zr_iret dR_produce_88 rfl ⟨by rw [rR_produce, if_neg h2, if_neg (Int.not_lt.mpr h3), if_neg (Int.not_lt.mpr h4), if_neg h6, if_neg h8, if_neg (Int.not_lt.mpr h9), if_pos h10, if_neg (fun z => z h11), if_neg h27, if_pos h28, if_neg h30], by rw [rR_produce, if_neg h2, if_neg (Int.not_lt.mpr h3), if_neg (Int.not_lt.mpr h4), if_neg h6, if_neg h8, if_neg (Int.not_lt.mpr h9), if_pos h10, if_neg (fun z => z h11), if_neg h27, if_pos h28, if_neg h30]⟩
                    · refine ev_iload_n 3 (q := 67) dR_produce_66 rfl (by rfl) rfl ?_
                      refine zr_if_ne (t := 75) (q := 70) dR_produce_67 rfl rfl ⟨by omega, by omega⟩ (fun h35 => ?_) (fun h35 => ?_)
                      · refine ev_iconst (v := iI (-1)) (q := 76) dR_produce_75 rfl rfl ?_
                        exact zr_iret dR_produce_76 rfl ⟨by rw [rR_produce, if_neg h2, if_neg (Int.not_lt.mpr h3), if_neg (Int.not_lt.mpr h4), if_neg h6, if_neg h8, if_neg (Int.not_lt.mpr h9), if_pos h10, if_neg (fun z => z h11), if_neg h27, if_neg (fun z => z h28), if_pos h35], by rw [rR_produce, if_neg h2, if_neg (Int.not_lt.mpr h3), if_neg (Int.not_lt.mpr h4), if_neg h6, if_neg h8, if_neg (Int.not_lt.mpr h9), if_pos h10, if_neg (fun z => z h11), if_neg h27, if_neg (fun z => z h28), if_pos h35]⟩
                      · refine ev_iload (q := 72) dR_produce_70 (by rfl) rfl ?_
                        refine zr_if_eq (t := 77) (q := 75) dR_produce_72 rfl rfl ⟨by omega, by omega⟩ (fun h36 => ?_) (fun h36 => ?_)
                        · refine ev_aload_n 0 (q := 78) dR_produce_77 rfl (by rfl) rfl ?_
                          refine ev_get (q := 81) dR_produce_78 fR_22 atR (by rfl) rfl ?_
                          refine ev_iload_n 1 (q := 82) dR_produce_81 rfl (by rfl) rfl ?_
                          refine zr_iald (q := 83) (g := ρ 5) dR_produce_82 at_stageOf (by decide) ⟨by omega, by omega⟩ rfl ?_
                          have g37 : 0 ≤ ρ 5 t ∧ ρ 5 t ≤ 9 := hw 5 t (by decide)
                          refine zr_if_eq (t := 89) (q := 86) dR_produce_83 rfl rfl ⟨by omega, by omega⟩ (fun h38 => ?_) (fun h38 => ?_)
                          · refine ev_aload_n 0 (q := 90) dR_produce_89 rfl (by rfl) rfl ?_
                            refine ev_get (q := 93) dR_produce_90 fR_38 atR (by rfl) rfl ?_
                            refine ev_iload_n 1 (q := 94) dR_produce_93 rfl (by rfl) rfl ?_
                            refine zr_iald (q := 95) (g := ρ 10) dR_produce_94 at_outputs (by decide) ⟨by omega, by omega⟩ rfl ?_
                            have g39 : 0 ≤ ρ 10 t ∧ ρ 10 t ≤ 4 := hw 10 t (by decide)
                            refine ev_iconst (v := iI 4) (q := 96) dR_produce_95 rfl rfl ?_
                            refine zr_icmp_ne (t := 102) (q := 99) dR_produce_96 rfl rfl ⟨by omega, by omega⟩ ⟨by omega, by omega⟩ (fun h40 => ?_) (fun h40 => ?_)
                            · refine ev_aload_n 0 (q := 103) dR_produce_102 rfl (by rfl) rfl ?_
                              refine ev_iload_n 1 (q := 104) dR_produce_103 rfl (by rfl) rfl ?_
                              refine ev_iload_n 2 (q := 105) dR_produce_104 rfl (by rfl) rfl ?_
                              refine ev_iload_n 3 (q := 106) dR_produce_105 rfl (by rfl) rfl ?_
                              refine ev_iload (q := 108) dR_produce_106 (by rfl) rfl ?_
                              refine ev_iload (q := 110) dR_produce_108 (by rfl) rfl ?_
                              refine cv_Vv (As := [_, _, _, _, _]) (q := 113) dR_produce_110 kR_106 atR rfl rfl (Nat.le_of_ble_eq_true rfl) rfl rfl rfl (by decide) (sR_addOutput hw t kind x y am ⟨by omega, by omega⟩ ⟨by omega, by omega⟩ ⟨by omega, by omega⟩ ⟨by omega, by omega⟩ ⟨by omega, by omega⟩ (by omega)) ?_
                              have hw41 : z_wf ((rR_addOutput ρ t kind x y am)).2 := wR_addOutput hw t kind x y am ⟨by omega, by omega⟩ ⟨by omega, by omega⟩ ⟨by omega, by omega⟩ ⟨by omega, by omega⟩ ⟨by omega, by omega⟩ (by omega)
                              refine ev_aload_n 0 (q := 114) dR_produce_113 rfl (by rfl) rfl ?_
                              refine ev_get (q := 117) dR_produce_114 fR_38 atR (by rfl) rfl ?_
                              refine ev_iload_n 1 (q := 118) dR_produce_117 rfl (by rfl) rfl ?_
                              refine zr_iald (q := 119) (g := ((rR_addOutput ρ t kind x y am)).2 10) dR_produce_118 at_outputs (by decide) ⟨by omega, by omega⟩ rfl ?_
                              have g42 : 0 ≤ ((rR_addOutput ρ t kind x y am)).2 10 t ∧ ((rR_addOutput ρ t kind x y am)).2 10 t ≤ 4 := hw41 10 t (by decide)
                              refine ev_iconst (v := iI 1) (q := 120) dR_produce_119 rfl rfl ?_
                              refine zr_isub (q := 121) dR_produce_120 rfl ?_
                              exact zr_iret dR_produce_121 rfl ⟨by rw [rR_produce, if_neg h2, if_neg (Int.not_lt.mpr h3), if_neg (Int.not_lt.mpr h4), if_neg h6, if_neg h8, if_neg (Int.not_lt.mpr h9), if_pos h10, if_neg (fun z => z h11), if_neg h27, if_neg (fun z => z h28), if_neg (fun z => z h35), if_pos h36, if_pos h38, if_pos h40], by rw [rR_produce, if_neg h2, if_neg (Int.not_lt.mpr h3), if_neg (Int.not_lt.mpr h4), if_neg h6, if_neg h8, if_neg (Int.not_lt.mpr h9), if_pos h10, if_neg (fun z => z h11), if_neg h27, if_neg (fun z => z h28), if_neg (fun z => z h35), if_pos h36, if_pos h38, if_pos h40]⟩
                            · refine ev_bipush (v := iI (-6)) (q := 101) dR_produce_99 (by decide) rfl ?_
                              exact zr_iret dR_produce_101 rfl ⟨by rw [rR_produce, if_neg h2, if_neg (Int.not_lt.mpr h3), if_neg (Int.not_lt.mpr h4), if_neg h6, if_neg h8, if_neg (Int.not_lt.mpr h9), if_pos h10, if_neg (fun z => z h11), if_neg h27, if_neg (fun z => z h28), if_neg (fun z => z h35), if_pos h36, if_pos h38, if_neg (fun z => z h40)], by rw [rR_produce, if_neg h2, if_neg (Int.not_lt.mpr h3), if_neg (Int.not_lt.mpr h4), if_neg h6, if_neg h8, if_neg (Int.not_lt.mpr h9), if_pos h10, if_neg (fun z => z h11), if_neg h27, if_neg (fun z => z h28), if_neg (fun z => z h35), if_pos h36, if_pos h38, if_neg (fun z => z h40)]⟩
                          · refine ev_bipush (v := iI (-2)) (q := 88) dR_produce_86 (by decide) rfl ?_
                            exact zr_iret dR_produce_88 rfl ⟨by rw [rR_produce, if_neg h2, if_neg (Int.not_lt.mpr h3), if_neg (Int.not_lt.mpr h4), if_neg h6, if_neg h8, if_neg (Int.not_lt.mpr h9), if_pos h10, if_neg (fun z => z h11), if_neg h27, if_neg (fun z => z h28), if_neg (fun z => z h35), if_pos h36, if_neg h38], by rw [rR_produce, if_neg h2, if_neg (Int.not_lt.mpr h3), if_neg (Int.not_lt.mpr h4), if_neg h6, if_neg h8, if_neg (Int.not_lt.mpr h9), if_pos h10, if_neg (fun z => z h11), if_neg h27, if_neg (fun z => z h28), if_neg (fun z => z h35), if_pos h36, if_neg h38]⟩
                        · refine ev_iconst (v := iI (-1)) (q := 76) dR_produce_75 rfl rfl ?_
                          exact zr_iret dR_produce_76 rfl ⟨by rw [rR_produce, if_neg h2, if_neg (Int.not_lt.mpr h3), if_neg (Int.not_lt.mpr h4), if_neg h6, if_neg h8, if_neg (Int.not_lt.mpr h9), if_pos h10, if_neg (fun z => z h11), if_neg h27, if_neg (fun z => z h28), if_neg (fun z => z h35), if_neg h36], by rw [rR_produce, if_neg h2, if_neg (Int.not_lt.mpr h3), if_neg (Int.not_lt.mpr h4), if_neg h6, if_neg h8, if_neg (Int.not_lt.mpr h9), if_pos h10, if_neg (fun z => z h11), if_neg h27, if_neg (fun z => z h28), if_neg (fun z => z h35), if_neg h36]⟩
              · refine ev_iconst (v := iI (-1)) (q := 49) dR_produce_48 rfl rfl ?_
                exact zr_iret dR_produce_49 rfl ⟨by rw [rR_produce, if_neg h2, if_neg (Int.not_lt.mpr h3), if_neg (Int.not_lt.mpr h4), if_neg h6, if_neg h8, if_neg (Int.not_lt.mpr h9), if_neg (Int.not_le.mpr h10)], by rw [rR_produce, if_neg h2, if_neg (Int.not_lt.mpr h3), if_neg (Int.not_lt.mpr h4), if_neg h6, if_neg h8, if_neg (Int.not_lt.mpr h9), if_neg (Int.not_le.mpr h10)]⟩
set_option maxRecDepth 100000 in
set_option maxHeartbeats 4000000 in
theorem wR_produce {ρ : z_Sg} (hw : z_wf ρ) (t kind x y am : Int) (hp0 : z_rg t) (hp1 : z_rg kind) (hp2 : z_rg x) (hp3 : z_rg y) (hp4 : z_rg am) : z_wf (rR_produce ρ t kind x y am).2 := by
  rw [rR_produce]
  have g1 : (rR_isTx ρ t) = 0 ∨ (rR_isTx ρ t) = 1 := bR_isTx _ _
  by_cases h2 : (rR_isTx ρ t) = 0
  · rw [if_pos h2]
    exact hw
  · rw [if_neg h2]
    have f45 := tR_isTx hw h2
    by_cases h3 : kind < 0
    · rw [if_pos h3]
      exact hw
    · rw [if_neg h3]
      by_cases h4 : 2 < kind
      · rw [if_pos h4]
        exact hw
      · rw [if_neg h4]
        have g5 : (rR_isNode ρ x) = 0 ∨ (rR_isNode ρ x) = 1 := bR_isNode _ _
        by_cases h6 : (rR_isNode ρ x) = 0
        · rw [if_pos h6]
          exact hw
        · rw [if_neg h6]
          have f44 := tR_isNode hw h6
          have g7 : (rR_isNode ρ y) = 0 ∨ (rR_isNode ρ y) = 1 := bR_isNode _ _
          by_cases h8 : (rR_isNode ρ y) = 0
          · rw [if_pos h8]
            exact hw
          · rw [if_neg h8]
            have f43 := tR_isNode hw h8
            by_cases h9 : am < 1
            · rw [if_pos h9]
              exact hw
            · rw [if_neg h9]
              by_cases h10 : am ≤ 1000
              · rw [if_pos h10]
                by_cases h11 : kind ≠ 1
                · rw [if_pos h11]
                  by_cases h12 : kind ≠ 2
                  · rw [if_pos h12]
                    have g13 : 0 ≤ ρ 5 t ∧ ρ 5 t ≤ 9 := hw 5 t (by decide)
                    by_cases h14 : (ρ 5 t) = 0
                    · rw [if_pos h14]
                      have g15 : 0 ≤ ρ 10 t ∧ ρ 10 t ≤ 4 := hw 10 t (by decide)
                      by_cases h16 : (ρ 10 t) ≠ 4
                      · rw [if_pos h16]
                        have hw17 : z_wf ((rR_addOutput ρ t kind x y am)).2 := wR_addOutput hw t kind x y am ⟨by omega, by omega⟩ ⟨by omega, by omega⟩ ⟨by omega, by omega⟩ ⟨by omega, by omega⟩ ⟨by omega, by omega⟩ (by omega)
                        have g18 : 0 ≤ ((rR_addOutput ρ t kind x y am)).2 10 t ∧ ((rR_addOutput ρ t kind x y am)).2 10 t ≤ 4 := hw17 10 t (by decide)
                        exact hw17
                      · rw [if_neg h16]
                        exact hw
                    · rw [if_neg h14]
                      exact hw
                  · rw [if_neg h12]
                    by_cases h19 : x ≠ 0
                    · rw [if_pos h19]
                      exact hw
                    · rw [if_neg h19]
                      by_cases h20 : y = 0
                      · rw [if_pos h20]
                        have g21 : 0 ≤ ρ 5 t ∧ ρ 5 t ≤ 9 := hw 5 t (by decide)
                        by_cases h22 : (ρ 5 t) = 0
                        · rw [if_pos h22]
                          have g23 : 0 ≤ ρ 10 t ∧ ρ 10 t ≤ 4 := hw 10 t (by decide)
                          by_cases h24 : (ρ 10 t) ≠ 4
                          · rw [if_pos h24]
                            have hw25 : z_wf ((rR_addOutput ρ t kind x y am)).2 := wR_addOutput hw t kind x y am ⟨by omega, by omega⟩ ⟨by omega, by omega⟩ ⟨by omega, by omega⟩ ⟨by omega, by omega⟩ ⟨by omega, by omega⟩ (by omega)
                            have g26 : 0 ≤ ((rR_addOutput ρ t kind x y am)).2 10 t ∧ ((rR_addOutput ρ t kind x y am)).2 10 t ≤ 4 := hw25 10 t (by decide)
                            exact hw25
                          · rw [if_neg h24]
                            exact hw
                        · rw [if_neg h22]
                          exact hw
                      · rw [if_neg h20]
                        exact hw
                · rw [if_neg h11]
                  by_cases h27 : x = y
                  · rw [if_pos h27]
                    exact hw
                  · rw [if_neg h27]
                    by_cases h28 : kind ≠ 2
                    · rw [if_pos h28]
                      have g29 : 0 ≤ ρ 5 t ∧ ρ 5 t ≤ 9 := hw 5 t (by decide)
                      by_cases h30 : (ρ 5 t) = 0
                      · rw [if_pos h30]
                        have g31 : 0 ≤ ρ 10 t ∧ ρ 10 t ≤ 4 := hw 10 t (by decide)
                        by_cases h32 : (ρ 10 t) ≠ 4
                        · rw [if_pos h32]
                          have hw33 : z_wf ((rR_addOutput ρ t kind x y am)).2 := wR_addOutput hw t kind x y am ⟨by omega, by omega⟩ ⟨by omega, by omega⟩ ⟨by omega, by omega⟩ ⟨by omega, by omega⟩ ⟨by omega, by omega⟩ (by omega)
                          have g34 : 0 ≤ ((rR_addOutput ρ t kind x y am)).2 10 t ∧ ((rR_addOutput ρ t kind x y am)).2 10 t ≤ 4 := hw33 10 t (by decide)
                          exact hw33
                        · rw [if_neg h32]
                          exact hw
                      · rw [if_neg h30]
                        exact hw
                    · rw [if_neg h28]
                      by_cases h35 : x ≠ 0
                      · rw [if_pos h35]
                        exact hw
                      · rw [if_neg h35]
                        by_cases h36 : y = 0
                        · rw [if_pos h36]
                          have g37 : 0 ≤ ρ 5 t ∧ ρ 5 t ≤ 9 := hw 5 t (by decide)
                          by_cases h38 : (ρ 5 t) = 0
                          · rw [if_pos h38]
                            have g39 : 0 ≤ ρ 10 t ∧ ρ 10 t ≤ 4 := hw 10 t (by decide)
                            by_cases h40 : (ρ 10 t) ≠ 4
                            · rw [if_pos h40]
                              have hw41 : z_wf ((rR_addOutput ρ t kind x y am)).2 := wR_addOutput hw t kind x y am ⟨by omega, by omega⟩ ⟨by omega, by omega⟩ ⟨by omega, by omega⟩ ⟨by omega, by omega⟩ ⟨by omega, by omega⟩ (by omega)
                              have g42 : 0 ≤ ((rR_addOutput ρ t kind x y am)).2 10 t ∧ ((rR_addOutput ρ t kind x y am)).2 10 t ≤ 4 := hw41 10 t (by decide)
                              exact hw41
                            · rw [if_neg h40]
                              exact hw
                          · rw [if_neg h38]
                            exact hw
                        · rw [if_neg h36]
                          exact hw
              · rw [if_neg h10]
                exact hw

def rR_bind (ρ : z_Sg) (t o p : Int) : Int × z_Sg := if (rR_isState ρ t o) = 0 then ((-1), ρ) else if p = (-1) then if p ≠ o then if (ρ 5 t) = 0 then (0, (z_up ρ 16 ((4 * t) + o) p)) else ((-2), ρ) else ((-1), ρ) else if (rR_isState ρ t p) = 0 then ((-1), ρ) else if p ≠ o then if (ρ 5 t) = 0 then (0, (z_up ρ 16 ((4 * t) + o) p)) else ((-2), ρ) else ((-1), ρ)
set_option maxRecDepth 100000 in
set_option maxHeartbeats 4000000 in
theorem sR_bind {κ ρ : z_Sg} {a : Int → Nat} {B : List va_E} (hw : z_wf ρ) (t o p : Int) (hp0 : z_rg t) (hp1 : z_rg o) (hp2 : z_rg p) : z_Sp mR_bind (2, 43) 0 0 [.ref 12, zi t, zi o, zi p] (zM κ a ρ B) (fun r M' => r = some (zi (rR_bind ρ t o p).1) ∧ M' = zM κ a (rR_bind ρ t o p).2 B) := by
  refine z_Sp_of (L := [.ref 12, zi t, zi o, zi p]) (by decide) rfl rfl rfl (Nat.le_of_ble_eq_true rfl) ?_
  refine ev_aload_n 0 (q := 1) dR_bind_0 rfl (by rfl) rfl ?_
  refine ev_iload_n 1 (q := 2) dR_bind_1 rfl (by rfl) rfl ?_
  refine ev_iload_n 2 (q := 3) dR_bind_2 rfl (by rfl) rfl ?_
  refine cv_V (As := [_, _]) (q := 6) dR_bind_3 kR_95 atR rfl rfl (Nat.le_of_ble_eq_true rfl) rfl rfl rfl (by decide) (sR_isState hw t o ⟨by omega, by omega⟩ ⟨by omega, by omega⟩ ) ?_
  have g1 : (rR_isState ρ t o) = 0 ∨ (rR_isState ρ t o) = 1 := bR_isState _ _ _
  refine zr_if_eq (t := 28) (q := 9) dR_bind_6 rfl rfl ⟨by omega, by omega⟩ (fun h2 => ?_) (fun h2 => ?_)
  · refine ev_iconst (v := iI (-1)) (q := 29) dR_bind_28 rfl rfl ?_
    exact zr_iret dR_bind_29 rfl ⟨by rw [rR_bind, if_pos h2], by rw [rR_bind, if_pos h2]⟩
  · have f15 := tR_isState hw h2
    refine ev_iload_n 3 (q := 10) dR_bind_9 rfl (by rfl) rfl ?_
    refine ev_iconst (v := iI (-1)) (q := 11) dR_bind_10 rfl rfl ?_
    refine zr_icmp_eq (t := 23) (q := 14) dR_bind_11 rfl rfl ⟨by omega, by omega⟩ ⟨by omega, by omega⟩ (fun h3 => ?_) (fun h3 => ?_)
    · refine ev_iload_n 3 (q := 24) dR_bind_23 rfl (by rfl) rfl ?_
      refine ev_iload_n 2 (q := 25) dR_bind_24 rfl (by rfl) rfl ?_
      refine zr_icmp_ne (t := 30) (q := 28) dR_bind_25 rfl rfl ⟨by omega, by omega⟩ ⟨by omega, by omega⟩ (fun h4 => ?_) (fun h4 => ?_)
      · refine ev_aload_n 0 (q := 31) dR_bind_30 rfl (by rfl) rfl ?_
        refine ev_get (q := 34) dR_bind_31 fR_22 atR (by rfl) rfl ?_
        refine ev_iload_n 1 (q := 35) dR_bind_34 rfl (by rfl) rfl ?_
        refine zr_iald (q := 36) (g := ρ 5) dR_bind_35 at_stageOf (by decide) ⟨by omega, by omega⟩ rfl ?_
        have g5 : 0 ≤ ρ 5 t ∧ ρ 5 t ≤ 9 := hw 5 t (by decide)
        refine zr_if_eq (t := 42) (q := 39) dR_bind_36 rfl rfl ⟨by omega, by omega⟩ (fun h6 => ?_) (fun h6 => ?_)
        · refine ev_aload_n 0 (q := 43) dR_bind_42 rfl (by rfl) rfl ?_
          refine ev_get (q := 46) dR_bind_43 fR_56 atR (by rfl) rfl ?_
          refine ev_iconst (v := iI 4) (q := 47) dR_bind_46 rfl rfl ?_
          refine ev_iload_n 1 (q := 48) dR_bind_47 rfl (by rfl) rfl ?_
          refine zr_imul (q := 49) dR_bind_48 rfl ?_
          refine ev_iload_n 2 (q := 50) dR_bind_49 rfl (by rfl) rfl ?_
          refine zr_iadd (q := 51) dR_bind_50 rfl ?_
          refine ev_iload_n 3 (q := 52) dR_bind_51 rfl (by rfl) rfl ?_
          refine zr_iast (q := 53) dR_bind_52 at_boundTo (by decide) ⟨by omega, by omega⟩ st_boundTo rfl ?_
          have hw7 : z_wf (z_up ρ 16 ((4 * t) + o) p) := z_wf_up hw (show (-1 : Int) ≤ p by omega) (show p ≤ (3 : Int) by omega)
          refine ev_iconst (v := iI 0) (q := 54) dR_bind_53 rfl rfl ?_
          exact zr_iret dR_bind_54 rfl ⟨by rw [rR_bind, if_neg h2, if_pos h3, if_pos h4, if_pos h6], by rw [rR_bind, if_neg h2, if_pos h3, if_pos h4, if_pos h6]⟩
        · refine ev_bipush (v := iI (-2)) (q := 41) dR_bind_39 (by decide) rfl ?_
          exact zr_iret dR_bind_41 rfl ⟨by rw [rR_bind, if_neg h2, if_pos h3, if_pos h4, if_neg h6], by rw [rR_bind, if_neg h2, if_pos h3, if_pos h4, if_neg h6]⟩
      · refine ev_iconst (v := iI (-1)) (q := 29) dR_bind_28 rfl rfl ?_
        exact zr_iret dR_bind_29 rfl ⟨by rw [rR_bind, if_neg h2, if_pos h3, if_neg (fun z => z h4)], by rw [rR_bind, if_neg h2, if_pos h3, if_neg (fun z => z h4)]⟩
    · refine ev_aload_n 0 (q := 15) dR_bind_14 rfl (by rfl) rfl ?_
      refine ev_iload_n 1 (q := 16) dR_bind_15 rfl (by rfl) rfl ?_
      refine ev_iload_n 3 (q := 17) dR_bind_16 rfl (by rfl) rfl ?_
      refine cv_V (As := [_, _]) (q := 20) dR_bind_17 kR_95 atR rfl rfl (Nat.le_of_ble_eq_true rfl) rfl rfl rfl (by decide) (sR_isState hw t p ⟨by omega, by omega⟩ ⟨by omega, by omega⟩ ) ?_
      have g8 : (rR_isState ρ t p) = 0 ∨ (rR_isState ρ t p) = 1 := bR_isState _ _ _
      refine zr_if_eq (t := 28) (q := 23) dR_bind_20 rfl rfl ⟨by omega, by omega⟩ (fun h9 => ?_) (fun h9 => ?_)
      · refine ev_iconst (v := iI (-1)) (q := 29) dR_bind_28 rfl rfl ?_
        exact zr_iret dR_bind_29 rfl ⟨by rw [rR_bind, if_neg h2, if_neg h3, if_pos h9], by rw [rR_bind, if_neg h2, if_neg h3, if_pos h9]⟩
      · have f14 := tR_isState hw h9
        refine ev_iload_n 3 (q := 24) dR_bind_23 rfl (by rfl) rfl ?_
        refine ev_iload_n 2 (q := 25) dR_bind_24 rfl (by rfl) rfl ?_
        refine zr_icmp_ne (t := 30) (q := 28) dR_bind_25 rfl rfl ⟨by omega, by omega⟩ ⟨by omega, by omega⟩ (fun h10 => ?_) (fun h10 => ?_)
        · refine ev_aload_n 0 (q := 31) dR_bind_30 rfl (by rfl) rfl ?_
          refine ev_get (q := 34) dR_bind_31 fR_22 atR (by rfl) rfl ?_
          refine ev_iload_n 1 (q := 35) dR_bind_34 rfl (by rfl) rfl ?_
          refine zr_iald (q := 36) (g := ρ 5) dR_bind_35 at_stageOf (by decide) ⟨by omega, by omega⟩ rfl ?_
          have g11 : 0 ≤ ρ 5 t ∧ ρ 5 t ≤ 9 := hw 5 t (by decide)
          refine zr_if_eq (t := 42) (q := 39) dR_bind_36 rfl rfl ⟨by omega, by omega⟩ (fun h12 => ?_) (fun h12 => ?_)
          · refine ev_aload_n 0 (q := 43) dR_bind_42 rfl (by rfl) rfl ?_
            refine ev_get (q := 46) dR_bind_43 fR_56 atR (by rfl) rfl ?_
            refine ev_iconst (v := iI 4) (q := 47) dR_bind_46 rfl rfl ?_
            refine ev_iload_n 1 (q := 48) dR_bind_47 rfl (by rfl) rfl ?_
            refine zr_imul (q := 49) dR_bind_48 rfl ?_
            refine ev_iload_n 2 (q := 50) dR_bind_49 rfl (by rfl) rfl ?_
            refine zr_iadd (q := 51) dR_bind_50 rfl ?_
            refine ev_iload_n 3 (q := 52) dR_bind_51 rfl (by rfl) rfl ?_
            refine zr_iast (q := 53) dR_bind_52 at_boundTo (by decide) ⟨by omega, by omega⟩ st_boundTo rfl ?_
            have hw13 : z_wf (z_up ρ 16 ((4 * t) + o) p) := z_wf_up hw (show (-1 : Int) ≤ p by omega) (show p ≤ (3 : Int) by omega)
            refine ev_iconst (v := iI 0) (q := 54) dR_bind_53 rfl rfl ?_
            exact zr_iret dR_bind_54 rfl ⟨by rw [rR_bind, if_neg h2, if_neg h3, if_neg h9, if_pos h10, if_pos h12], by rw [rR_bind, if_neg h2, if_neg h3, if_neg h9, if_pos h10, if_pos h12]⟩
          · refine ev_bipush (v := iI (-2)) (q := 41) dR_bind_39 (by decide) rfl ?_
            exact zr_iret dR_bind_41 rfl ⟨by rw [rR_bind, if_neg h2, if_neg h3, if_neg h9, if_pos h10, if_neg h12], by rw [rR_bind, if_neg h2, if_neg h3, if_neg h9, if_pos h10, if_neg h12]⟩
        · refine ev_iconst (v := iI (-1)) (q := 29) dR_bind_28 rfl rfl ?_
          exact zr_iret dR_bind_29 rfl ⟨by rw [rR_bind, if_neg h2, if_neg h3, if_neg h9, if_neg (fun z => z h10)], by rw [rR_bind, if_neg h2, if_neg h3, if_neg h9, if_neg (fun z => z h10)]⟩
set_option maxRecDepth 100000 in
set_option maxHeartbeats 4000000 in
theorem wR_bind {ρ : z_Sg} (hw : z_wf ρ) (t o p : Int) (hp0 : z_rg t) (hp1 : z_rg o) (hp2 : z_rg p) : z_wf (rR_bind ρ t o p).2 := by
  rw [rR_bind]
  have g1 : (rR_isState ρ t o) = 0 ∨ (rR_isState ρ t o) = 1 := bR_isState _ _ _
  by_cases h2 : (rR_isState ρ t o) = 0
  · rw [if_pos h2]
    exact hw
  · rw [if_neg h2]
    have f15 := tR_isState hw h2
    by_cases h3 : p = (-1)
    · rw [if_pos h3]
      by_cases h4 : p ≠ o
      · rw [if_pos h4]
        have g5 : 0 ≤ ρ 5 t ∧ ρ 5 t ≤ 9 := hw 5 t (by decide)
        by_cases h6 : (ρ 5 t) = 0
        · rw [if_pos h6]
          have hw7 : z_wf (z_up ρ 16 ((4 * t) + o) p) := z_wf_up hw (show (-1 : Int) ≤ p by omega) (show p ≤ (3 : Int) by omega)
          exact hw7
        · rw [if_neg h6]
          exact hw
      · rw [if_neg h4]
        exact hw
    · rw [if_neg h3]
      have g8 : (rR_isState ρ t p) = 0 ∨ (rR_isState ρ t p) = 1 := bR_isState _ _ _
      by_cases h9 : (rR_isState ρ t p) = 0
      · rw [if_pos h9]
        exact hw
      · rw [if_neg h9]
        have f14 := tR_isState hw h9
        by_cases h10 : p ≠ o
        · rw [if_pos h10]
          have g11 : 0 ≤ ρ 5 t ∧ ρ 5 t ≤ 9 := hw 5 t (by decide)
          by_cases h12 : (ρ 5 t) = 0
          · rw [if_pos h12]
            have hw13 : z_wf (z_up ρ 16 ((4 * t) + o) p) := z_wf_up hw (show (-1 : Int) ≤ p by omega) (show p ≤ (3 : Int) by omega)
            exact hw13
          · rw [if_neg h12]
            exact hw
        · rw [if_neg h10]
          exact hw
