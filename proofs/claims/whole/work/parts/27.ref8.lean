theorem bR_judge {ρ : z_Sg} (hw : z_wf ρ) (t : Int) (hp0 : 0 ≤ t ∧ t ≤ 19) : 1 ≤ rR_judge ρ t ∧ rR_judge ρ t ≤ 4 := by
  have key : ∀ (j : Nat) (k : Int), 1 ≤ lR_judge_50 ρ t j k ∧ lR_judge_50 ρ t j k ≤ 4 := by
    intro j
    induction j with
    | zero => intro k; rw [lR_judge_50]; omega
    | succ j ih =>
      intro k
      rw [lR_judge_50]
      split
      · exact ih _
      · omega
  unfold rR_judge
  repeat' split
  all_goals first | exact key _ _ | omega
theorem tR_told {ρ : z_Sg} (hw : z_wf ρ) {t n : Int} (h : rR_told ρ t n ≠ 0) : n ≠ ρ 1 t := by
  have key : ∀ (j : Nat) (k du : Int), lR_told_10 ρ t n j k du ≠ 0 → n ≠ ρ 1 t := by
    intro j
    induction j with
    | zero =>
      intro k du h
      rw [lR_told_10] at h
      split at h
      · exact absurd rfl h
      · split at h
        · exact absurd rfl h
        · assumption
    | succ j ih =>
      intro k du h
      rw [lR_told_10] at h
      repeat' split at h
      all_goals exact ih _ _ h
  exact key _ _ _ h

def lR_notarise_22 (ρ : z_Sg) (t : Int) (j : Nat) (k : Int) : z_Sg := match j with
  | 0 => ρ
  | j + 1 => if (ρ 8 t) ≠ 1 then ρ else lR_notarise_22 (z_up ρ 17 (ρ 11 ((4 * t) + k)) t) t j (k + 1)
set_option maxRecDepth 100000 in
set_option maxHeartbeats 4000000 in
theorem eR_notarise_22 {κ ρ : z_Sg} {a : Int → Nat} {B : List va_E} {Q : Option Value → List va_E → Prop} (hw : z_wf ρ) (t : Int)  (hp0 : 0 ≤ t ∧ t ≤ 19) : ∀ (j : Nat) (k : Int), 0 ≤ k → k + j = ρ 9 t → (∀ (y2 : Value), z_Ev mR_notarise (7, 166) 0 0 64 [.ref 12, zi t, y2] [] (zM κ a (lR_notarise_22 ρ t j k) B) Q) → z_Ev mR_notarise (7, 166) 0 0 22 [.ref 12, zi t, zi k] [] (zM κ a ρ B) Q := by
  intro j
  induction j generalizing ρ with
  | zero =>
    intro k   c0 c1 hk
    refine ev_iload_n 2 (q := 23) dR_notarise_22 rfl (by rfl) rfl ?_
    refine ev_aload_n 0 (q := 24) dR_notarise_23 rfl (by rfl) rfl ?_
    refine ev_get (q := 27) dR_notarise_24 fR_35 atR (by rfl) rfl ?_
    refine ev_iload_n 1 (q := 28) dR_notarise_27 rfl (by rfl) rfl ?_
    refine zr_iald (q := 29) (g := ρ 9) dR_notarise_28 at_inputs (by decide) ⟨by omega, by omega⟩ rfl ?_
    have g1 : 0 ≤ ρ 9 t ∧ ρ 9 t ≤ 4 := hw 9 t (by decide)
    refine zr_icmp_ge (t := 64) (q := 32) dR_notarise_29 rfl rfl ⟨by omega, by omega⟩ ⟨by omega, by omega⟩ (fun h2 => ?_) (fun h2 => ?_)
    · exact hk _
    · exfalso
      omega
  | succ j ih =>
    intro k   c0 c1 hk
    refine ev_iload_n 2 (q := 23) dR_notarise_22 rfl (by rfl) rfl ?_
    refine ev_aload_n 0 (q := 24) dR_notarise_23 rfl (by rfl) rfl ?_
    refine ev_get (q := 27) dR_notarise_24 fR_35 atR (by rfl) rfl ?_
    refine ev_iload_n 1 (q := 28) dR_notarise_27 rfl (by rfl) rfl ?_
    refine zr_iald (q := 29) (g := ρ 9) dR_notarise_28 at_inputs (by decide) ⟨by omega, by omega⟩ rfl ?_
    have g1 : 0 ≤ ρ 9 t ∧ ρ 9 t ≤ 4 := hw 9 t (by decide)
    refine zr_icmp_ge (t := 64) (q := 32) dR_notarise_29 rfl rfl ⟨by omega, by omega⟩ ⟨by omega, by omega⟩ (fun h2 => ?_) (fun h2 => ?_)
    · exfalso
      omega
    · refine ev_aload_n 0 (q := 33) dR_notarise_32 rfl (by rfl) rfl ?_
      refine ev_get (q := 36) dR_notarise_33 fR_32 atR (by rfl) rfl ?_
      refine ev_iload_n 1 (q := 37) dR_notarise_36 rfl (by rfl) rfl ?_
      refine zr_iald (q := 38) (g := ρ 8) dR_notarise_37 at_verdictOf (by decide) ⟨by omega, by omega⟩ rfl ?_
      have g3 : 0 ≤ ρ 8 t ∧ ρ 8 t ≤ 4 := hw 8 t (by decide)
      refine ev_iconst (v := iI 1) (q := 39) dR_notarise_38 rfl rfl ?_
      refine zr_icmp_ne (t := 64) (q := 42) dR_notarise_39 rfl rfl ⟨by omega, by omega⟩ ⟨by omega, by omega⟩ (fun h4 => ?_) (fun h4 => ?_)
      · rw [show lR_notarise_22 ρ t (j + 1) k = ρ from by rw [lR_notarise_22, if_pos h4]] at hk
        exact hk _
      · refine ev_aload_n 0 (q := 43) dR_notarise_42 rfl (by rfl) rfl ?_
        refine ev_get (q := 46) dR_notarise_43 fR_59 atR (by rfl) rfl ?_
        refine ev_aload_n 0 (q := 47) dR_notarise_46 rfl (by rfl) rfl ?_
        refine ev_get (q := 50) dR_notarise_47 fR_41 atR (by rfl) rfl ?_
        refine ev_iconst (v := iI 4) (q := 51) dR_notarise_50 rfl rfl ?_
        refine ev_iload_n 1 (q := 52) dR_notarise_51 rfl (by rfl) rfl ?_
        refine zr_imul (q := 53) dR_notarise_52 rfl ?_
        refine ev_iload_n 2 (q := 54) dR_notarise_53 rfl (by rfl) rfl ?_
        refine zr_iadd (q := 55) dR_notarise_54 rfl ?_
        refine zr_iald (q := 56) (g := ρ 11) dR_notarise_55 at_input (by decide) ⟨by omega, by omega⟩ rfl ?_
        have g5 : 0 ≤ ρ 11 ((4 * t) + k) ∧ ρ 11 ((4 * t) + k) ≤ 79 := hw 11 ((4 * t) + k) (by decide)
        refine ev_iload_n 1 (q := 57) dR_notarise_56 rfl (by rfl) rfl ?_
        refine zr_iast (q := 58) dR_notarise_57 at_usedBy (by decide) ⟨by omega, by omega⟩ st_usedBy rfl ?_
        have hw6 : z_wf (z_up ρ 17 (ρ 11 ((4 * t) + k)) t) := z_wf_up hw (show (-1 : Int) ≤ t by omega) (show t ≤ (19 : Int) by omega)
        refine zr_iinc (q := 61) dR_notarise_58 (by rfl) (by decide) rfl rfl ?_
        dsimp only [List.set]
        refine ev_goto (t := 22) (q := 22) dR_notarise_61 rfl rfl ?_
        rw [show lR_notarise_22 ρ t (j + 1) k = lR_notarise_22 (z_up ρ 17 (ρ 11 ((4 * t) + k)) t) t j (k + 1) from by rw [lR_notarise_22, if_neg (fun z => z h4)]] at hk
        exact ih hw6  (k + 1)   (by omega) (by have e9 : (z_up ρ 17 (ρ 11 ((4 * t) + k)) t) 9 t = ρ 9 t := rfl; omega) hk
set_option maxRecDepth 100000 in
set_option maxHeartbeats 4000000 in
theorem wlR_notarise_22 {ρ : z_Sg} (hw : z_wf ρ) (t : Int)  (hp0 : 0 ≤ t ∧ t ≤ 19) : ∀ (j : Nat) (k : Int), 0 ≤ k → k + j = ρ 9 t → z_wf (lR_notarise_22 ρ t j k) := by
  intro j
  induction j generalizing ρ with
  | zero =>
    intro k  c0 c1
    rw [lR_notarise_22]
    have g1 : 0 ≤ ρ 9 t ∧ ρ 9 t ≤ 4 := hw 9 t (by decide)
    exact hw
  | succ j ihw =>
    intro k  c0 c1
    rw [lR_notarise_22]
    have g1 : 0 ≤ ρ 9 t ∧ ρ 9 t ≤ 4 := hw 9 t (by decide)
    have g3 : 0 ≤ ρ 8 t ∧ ρ 8 t ≤ 4 := hw 8 t (by decide)
    by_cases h4 : (ρ 8 t) ≠ 1
    · rw [if_pos h4]
      exact hw
    · rw [if_neg h4]
      have g5 : 0 ≤ ρ 11 ((4 * t) + k) ∧ ρ 11 ((4 * t) + k) ≤ 79 := hw 11 ((4 * t) + k) (by decide)
      have hw6 : z_wf (z_up ρ 17 (ρ 11 ((4 * t) + k)) t) := z_wf_up hw (show (-1 : Int) ≤ t by omega) (show t ≤ (19 : Int) by omega)
      exact ihw hw6  (k + 1)  (by omega) (by have e9 : (z_up ρ 17 (ρ 11 ((4 * t) + k)) t) 9 t = ρ 9 t := rfl; omega)
theorem kR_notarise_22 {ρ : z_Sg} (hw : z_wf ρ) (t : Int) (j : Nat) (k : Int) {c : Nat} (h : c ≠ 17) : lR_notarise_22 ρ t j k c = ρ c := by
  clear hw
  induction j generalizing ρ k with
  | zero => rfl
  | succ j ih =>
    rw [lR_notarise_22]
    split
    · rfl
    · rw [ih, z_up_n h]
def rR_notarise (ρ : z_Sg) (t : Int) : Int × z_Sg := if (ρ 8 t) ≠ 0 then (0, ((rR_send ρ 3 (ρ 2 t) (ρ 1 t) t (ρ 8 t))).2) else (0, ((rR_send (lR_notarise_22 (z_up ρ 8 t (rR_judge ρ t)) t ((z_up ρ 8 t (rR_judge ρ t)) 9 t).toNat 0) 3 (ρ 2 t) (ρ 1 t) t (rR_judge ρ t))).2)
set_option maxRecDepth 100000 in
set_option maxHeartbeats 4000000 in
theorem sR_notarise {κ ρ : z_Sg} {a : Int → Nat} {B : List va_E} (hw : z_wf ρ) (t : Int) {P : List Int} (hp0 : 0 ≤ t ∧ t ≤ 19) (he0 : zRm P ρ) (he1 : (ρ 8 t ≠ 0 → zcode 3 (ρ 2 t) (ρ 1 t) t (ρ 8 t) ∈ P)) (he2 : (ρ 8 t = 0 → zcode 3 (ρ 2 t) (ρ 1 t) t (rR_judge ρ t) ∈ P)) : z_Sp mR_notarise (7, 166) 0 0 [.ref 12, zi t] (zM κ a ρ B) (fun r M' => r = none ∧ M' = zM κ a (rR_notarise ρ t).2 B) := by
  refine z_Sp_of (L := [.ref 12, zi t, .float 0]) (by decide) rfl rfl rfl (Nat.le_of_ble_eq_true rfl) ?_
  refine ev_aload_n 0 (q := 1) dR_notarise_0 rfl (by rfl) rfl ?_
  refine ev_get (q := 4) dR_notarise_1 fR_32 atR (by rfl) rfl ?_
  refine ev_iload_n 1 (q := 5) dR_notarise_4 rfl (by rfl) rfl ?_
  refine zr_iald (q := 6) (g := ρ 8) dR_notarise_5 at_verdictOf (by decide) ⟨by omega, by omega⟩ rfl ?_
  have g1 : 0 ≤ ρ 8 t ∧ ρ 8 t ≤ 4 := hw 8 t (by decide)
  refine zr_if_ne (t := 64) (q := 9) dR_notarise_6 rfl rfl ⟨by omega, by omega⟩ (fun h2 => ?_) (fun h2 => ?_)
  · refine ev_aload_n 0 (q := 65) dR_notarise_64 rfl (by rfl) rfl ?_
    refine ev_iconst (v := iI 3) (q := 66) dR_notarise_65 rfl rfl ?_
    refine ev_aload_n 0 (q := 67) dR_notarise_66 rfl (by rfl) rfl ?_
    refine ev_get (q := 70) dR_notarise_67 fR_13 atR (by rfl) rfl ?_
    refine ev_iload_n 1 (q := 71) dR_notarise_70 rfl (by rfl) rfl ?_
    refine zr_iald (q := 72) (g := ρ 2) dR_notarise_71 at_notaryOf (by decide) ⟨by omega, by omega⟩ rfl ?_
    have g3 : 0 ≤ ρ 2 t ∧ ρ 2 t ≤ 5 := hw 2 t (by decide)
    refine ev_aload_n 0 (q := 73) dR_notarise_72 rfl (by rfl) rfl ?_
    refine ev_get (q := 76) dR_notarise_73 fR_7 atR (by rfl) rfl ?_
    refine ev_iload_n 1 (q := 77) dR_notarise_76 rfl (by rfl) rfl ?_
    refine zr_iald (q := 78) (g := ρ 1) dR_notarise_77 at_begunBy (by decide) ⟨by omega, by omega⟩ rfl ?_
    have g4 : 0 ≤ ρ 1 t ∧ ρ 1 t ≤ 3 := hw 1 t (by decide)
    refine ev_iload_n 1 (q := 79) dR_notarise_78 rfl (by rfl) rfl ?_
    refine ev_aload_n 0 (q := 80) dR_notarise_79 rfl (by rfl) rfl ?_
    refine ev_get (q := 83) dR_notarise_80 fR_32 atR (by rfl) rfl ?_
    refine ev_iload_n 1 (q := 84) dR_notarise_83 rfl (by rfl) rfl ?_
    refine zr_iald (q := 85) (g := ρ 8) dR_notarise_84 at_verdictOf (by decide) ⟨by omega, by omega⟩ rfl ?_
    have g5 : 0 ≤ ρ 8 t ∧ ρ 8 t ≤ 4 := hw 8 t (by decide)
    refine cv_V (As := [_, _, _, _, _]) (q := 88) dR_notarise_85 kR_146 atR rfl rfl (Nat.le_of_ble_eq_true rfl) rfl rfl rfl (by decide) (sR_send hw 3 (ρ 2 t) (ρ 1 t) t (ρ 8 t) ⟨by omega, by omega⟩ ⟨by omega, by omega⟩ ⟨by omega, by omega⟩ ⟨by omega, by omega⟩ ⟨by omega, by omega⟩ (zRm_room (ρ := ρ) he0 (by first | exact he1 (by omega) | exact he2 (by omega)) hw)) ?_
    have hw6 : z_wf ((rR_send ρ 3 (ρ 2 t) (ρ 1 t) t (ρ 8 t))).2 := wR_send hw 3 (ρ 2 t) (ρ 1 t) t (ρ 8 t) ⟨by omega, by omega⟩ ⟨by omega, by omega⟩ ⟨by omega, by omega⟩ ⟨by omega, by omega⟩ ⟨by omega, by omega⟩ (zRm_room (ρ := ρ) he0 (by first | exact he1 (by omega) | exact he2 (by omega)) hw)
    have hr7 : zRm P ((rR_send ρ 3 (ρ 2 t) (ρ 1 t) t (ρ 8 t))).2 := zRm_send (ρ := ρ) he0 hw (by first | exact he1 (by omega) | exact he2 (by omega))
    refine ev_pop (q := 89) dR_notarise_88 rfl rfl ?_
    exact ev_ret dR_notarise_89 rfl ⟨rfl, by rw [rR_notarise, if_pos h2]⟩
  · refine ev_aload_n 0 (q := 10) dR_notarise_9 rfl (by rfl) rfl ?_
    refine ev_get (q := 13) dR_notarise_10 fR_32 atR (by rfl) rfl ?_
    refine ev_iload_n 1 (q := 14) dR_notarise_13 rfl (by rfl) rfl ?_
    refine ev_aload_n 0 (q := 15) dR_notarise_14 rfl (by rfl) rfl ?_
    refine ev_iload_n 1 (q := 16) dR_notarise_15 rfl (by rfl) rfl ?_
    refine cv_V (As := [_]) (q := 19) dR_notarise_16 kR_178 atR rfl rfl (Nat.le_of_ble_eq_true rfl) rfl rfl rfl (by decide) (sR_judge hw t ⟨by omega, by omega⟩ ) ?_
    have g9 := bR_judge hw t ⟨by omega, by omega⟩ 
    refine zr_iast (q := 20) dR_notarise_19 at_verdictOf (by decide) ⟨by omega, by omega⟩ st_verdictOf rfl ?_
    have hw10 : z_wf (z_up ρ 8 t (rR_judge ρ t)) := z_wf_up hw (show (0 : Int) ≤ (rR_judge ρ t) by omega) (show (rR_judge ρ t) ≤ (4 : Int) by omega)
    refine ev_iconst (v := iI 0) (q := 21) dR_notarise_20 rfl rfl ?_
    refine ev_istore_n 2 (q := 22) dR_notarise_21 rfl (by decide) rfl rfl ?_
    dsimp only [List.set]
    have g11 : 0 ≤ (z_up ρ 8 t (rR_judge ρ t)) 9 t ∧ (z_up ρ 8 t (rR_judge ρ t)) 9 t ≤ 4 := hw10 9 t (by decide)
    refine eR_notarise_22 hw10 t hp0 ((z_up ρ 8 t (rR_judge ρ t)) 9 t).toNat 0   (by omega) (by omega) (fun y12 => ?_)
    have hw13 : z_wf (lR_notarise_22 (z_up ρ 8 t (rR_judge ρ t)) t ((z_up ρ 8 t (rR_judge ρ t)) 9 t).toNat 0) := wlR_notarise_22 hw10 t hp0 ((z_up ρ 8 t (rR_judge ρ t)) 9 t).toNat 0  (by omega) (by omega)
    have hr14 : zRm P (lR_notarise_22 (z_up ρ 8 t (rR_judge ρ t)) t ((z_up ρ 8 t (rR_judge ρ t)) 9 t).toNat 0) := zRm_of (ρ := (z_up ρ 8 t (rR_judge ρ t))) he0 (kR_notarise_22 hw10 t ((z_up ρ 8 t (rR_judge ρ t)) 9 t).toNat 0 (by decide)) (kR_notarise_22 hw10 t ((z_up ρ 8 t (rR_judge ρ t)) 9 t).toNat 0 (by decide))
    refine ev_aload_n 0 (q := 65) dR_notarise_64 rfl (by rfl) rfl ?_
    refine ev_iconst (v := iI 3) (q := 66) dR_notarise_65 rfl rfl ?_
    refine ev_aload_n 0 (q := 67) dR_notarise_66 rfl (by rfl) rfl ?_
    refine ev_get (q := 70) dR_notarise_67 fR_13 atR (by rfl) rfl ?_
    refine ev_iload_n 1 (q := 71) dR_notarise_70 rfl (by rfl) rfl ?_
    refine zr_iald (q := 72) (g := (lR_notarise_22 (z_up ρ 8 t (rR_judge ρ t)) t ((z_up ρ 8 t (rR_judge ρ t)) 9 t).toNat 0) 2) dR_notarise_71 at_notaryOf (by decide) ⟨by omega, by omega⟩ rfl ?_
    rw [show (lR_notarise_22 (z_up ρ 8 t (rR_judge ρ t)) t ((z_up ρ 8 t (rR_judge ρ t)) 9 t).toNat 0) 2 t = (ρ 2 t) from (congrFun (kR_notarise_22 hw10 t ((z_up ρ 8 t (rR_judge ρ t)) 9 t).toNat 0 (c := 2) (by decide)) t).trans rfl]
    have g15 : 0 ≤ ρ 2 t ∧ ρ 2 t ≤ 5 := hw 2 t (by decide)
    refine ev_aload_n 0 (q := 73) dR_notarise_72 rfl (by rfl) rfl ?_
    refine ev_get (q := 76) dR_notarise_73 fR_7 atR (by rfl) rfl ?_
    refine ev_iload_n 1 (q := 77) dR_notarise_76 rfl (by rfl) rfl ?_
    refine zr_iald (q := 78) (g := (lR_notarise_22 (z_up ρ 8 t (rR_judge ρ t)) t ((z_up ρ 8 t (rR_judge ρ t)) 9 t).toNat 0) 1) dR_notarise_77 at_begunBy (by decide) ⟨by omega, by omega⟩ rfl ?_
    rw [show (lR_notarise_22 (z_up ρ 8 t (rR_judge ρ t)) t ((z_up ρ 8 t (rR_judge ρ t)) 9 t).toNat 0) 1 t = (ρ 1 t) from (congrFun (kR_notarise_22 hw10 t ((z_up ρ 8 t (rR_judge ρ t)) 9 t).toNat 0 (c := 1) (by decide)) t).trans rfl]
    have g16 : 0 ≤ ρ 1 t ∧ ρ 1 t ≤ 3 := hw 1 t (by decide)
    refine ev_iload_n 1 (q := 79) dR_notarise_78 rfl (by rfl) rfl ?_
    refine ev_aload_n 0 (q := 80) dR_notarise_79 rfl (by rfl) rfl ?_
    refine ev_get (q := 83) dR_notarise_80 fR_32 atR (by rfl) rfl ?_
    refine ev_iload_n 1 (q := 84) dR_notarise_83 rfl (by rfl) rfl ?_
    refine zr_iald (q := 85) (g := (lR_notarise_22 (z_up ρ 8 t (rR_judge ρ t)) t ((z_up ρ 8 t (rR_judge ρ t)) 9 t).toNat 0) 8) dR_notarise_84 at_verdictOf (by decide) ⟨by omega, by omega⟩ rfl ?_
    rw [show (lR_notarise_22 (z_up ρ 8 t (rR_judge ρ t)) t ((z_up ρ 8 t (rR_judge ρ t)) 9 t).toNat 0) 8 t = (rR_judge ρ t) from (congrFun (kR_notarise_22 hw10 t ((z_up ρ 8 t (rR_judge ρ t)) 9 t).toNat 0 (c := 8) (by decide)) t).trans (by rw [z_up_s, zup_s])]
    refine cv_V (As := [_, _, _, _, _]) (q := 88) dR_notarise_85 kR_146 atR rfl rfl (Nat.le_of_ble_eq_true rfl) rfl rfl rfl (by decide) (sR_send hw13 3 (ρ 2 t) (ρ 1 t) t (rR_judge ρ t) ⟨by omega, by omega⟩ ⟨by omega, by omega⟩ ⟨by omega, by omega⟩ ⟨by omega, by omega⟩ ⟨by omega, by omega⟩ (zRm_room (ρ := (lR_notarise_22 (z_up ρ 8 t (rR_judge ρ t)) t ((z_up ρ 8 t (rR_judge ρ t)) 9 t).toNat 0)) hr14 (by first | exact he1 (by omega) | exact he2 (by omega)) hw13)) ?_
    have hw17 : z_wf ((rR_send (lR_notarise_22 (z_up ρ 8 t (rR_judge ρ t)) t ((z_up ρ 8 t (rR_judge ρ t)) 9 t).toNat 0) 3 (ρ 2 t) (ρ 1 t) t (rR_judge ρ t))).2 := wR_send hw13 3 (ρ 2 t) (ρ 1 t) t (rR_judge ρ t) ⟨by omega, by omega⟩ ⟨by omega, by omega⟩ ⟨by omega, by omega⟩ ⟨by omega, by omega⟩ ⟨by omega, by omega⟩ (zRm_room (ρ := (lR_notarise_22 (z_up ρ 8 t (rR_judge ρ t)) t ((z_up ρ 8 t (rR_judge ρ t)) 9 t).toNat 0)) hr14 (by first | exact he1 (by omega) | exact he2 (by omega)) hw13)
    have hr18 : zRm P ((rR_send (lR_notarise_22 (z_up ρ 8 t (rR_judge ρ t)) t ((z_up ρ 8 t (rR_judge ρ t)) 9 t).toNat 0) 3 (ρ 2 t) (ρ 1 t) t (rR_judge ρ t))).2 := zRm_send (ρ := (lR_notarise_22 (z_up ρ 8 t (rR_judge ρ t)) t ((z_up ρ 8 t (rR_judge ρ t)) 9 t).toNat 0)) hr14 hw13 (by first | exact he1 (by omega) | exact he2 (by omega))
    refine ev_pop (q := 89) dR_notarise_88 rfl rfl ?_
    exact ev_ret dR_notarise_89 rfl ⟨rfl, by rw [rR_notarise, if_neg (fun z => z h2)]⟩
set_option maxRecDepth 100000 in
set_option maxHeartbeats 4000000 in
theorem wR_notarise {ρ : z_Sg} (hw : z_wf ρ) (t : Int) {P : List Int} (hp0 : 0 ≤ t ∧ t ≤ 19) (he0 : zRm P ρ) (he1 : (ρ 8 t ≠ 0 → zcode 3 (ρ 2 t) (ρ 1 t) t (ρ 8 t) ∈ P)) (he2 : (ρ 8 t = 0 → zcode 3 (ρ 2 t) (ρ 1 t) t (rR_judge ρ t) ∈ P)) : z_wf (rR_notarise ρ t).2 := by
  rw [rR_notarise]
  have g1 : 0 ≤ ρ 8 t ∧ ρ 8 t ≤ 4 := hw 8 t (by decide)
  by_cases h2 : (ρ 8 t) ≠ 0
  · rw [if_pos h2]
    have g3 : 0 ≤ ρ 2 t ∧ ρ 2 t ≤ 5 := hw 2 t (by decide)
    have g4 : 0 ≤ ρ 1 t ∧ ρ 1 t ≤ 3 := hw 1 t (by decide)
    have g5 : 0 ≤ ρ 8 t ∧ ρ 8 t ≤ 4 := hw 8 t (by decide)
    have hw6 : z_wf ((rR_send ρ 3 (ρ 2 t) (ρ 1 t) t (ρ 8 t))).2 := wR_send hw 3 (ρ 2 t) (ρ 1 t) t (ρ 8 t) ⟨by omega, by omega⟩ ⟨by omega, by omega⟩ ⟨by omega, by omega⟩ ⟨by omega, by omega⟩ ⟨by omega, by omega⟩ (zRm_room (ρ := ρ) he0 (by first | exact he1 (by omega) | exact he2 (by omega)) hw)
    have hr7 : zRm P ((rR_send ρ 3 (ρ 2 t) (ρ 1 t) t (ρ 8 t))).2 := zRm_send (ρ := ρ) he0 hw (by first | exact he1 (by omega) | exact he2 (by omega))
    exact hw6
  · rw [if_neg h2]
    have g9 := bR_judge hw t ⟨by omega, by omega⟩ 
    have hw10 : z_wf (z_up ρ 8 t (rR_judge ρ t)) := z_wf_up hw (show (0 : Int) ≤ (rR_judge ρ t) by omega) (show (rR_judge ρ t) ≤ (4 : Int) by omega)
    have g11 : 0 ≤ (z_up ρ 8 t (rR_judge ρ t)) 9 t ∧ (z_up ρ 8 t (rR_judge ρ t)) 9 t ≤ 4 := hw10 9 t (by decide)
    have hw13 : z_wf (lR_notarise_22 (z_up ρ 8 t (rR_judge ρ t)) t ((z_up ρ 8 t (rR_judge ρ t)) 9 t).toNat 0) := wlR_notarise_22 hw10 t hp0 ((z_up ρ 8 t (rR_judge ρ t)) 9 t).toNat 0  (by omega) (by omega)
    have hr14 : zRm P (lR_notarise_22 (z_up ρ 8 t (rR_judge ρ t)) t ((z_up ρ 8 t (rR_judge ρ t)) 9 t).toNat 0) := zRm_of (ρ := (z_up ρ 8 t (rR_judge ρ t))) he0 (kR_notarise_22 hw10 t ((z_up ρ 8 t (rR_judge ρ t)) 9 t).toNat 0 (by decide)) (kR_notarise_22 hw10 t ((z_up ρ 8 t (rR_judge ρ t)) 9 t).toNat 0 (by decide))
    have g15 : 0 ≤ ρ 2 t ∧ ρ 2 t ≤ 5 := hw 2 t (by decide)
    have g16 : 0 ≤ ρ 1 t ∧ ρ 1 t ≤ 3 := hw 1 t (by decide)
    have hw17 : z_wf ((rR_send (lR_notarise_22 (z_up ρ 8 t (rR_judge ρ t)) t ((z_up ρ 8 t (rR_judge ρ t)) 9 t).toNat 0) 3 (ρ 2 t) (ρ 1 t) t (rR_judge ρ t))).2 := wR_send hw13 3 (ρ 2 t) (ρ 1 t) t (rR_judge ρ t) ⟨by omega, by omega⟩ ⟨by omega, by omega⟩ ⟨by omega, by omega⟩ ⟨by omega, by omega⟩ ⟨by omega, by omega⟩ (zRm_room (ρ := (lR_notarise_22 (z_up ρ 8 t (rR_judge ρ t)) t ((z_up ρ 8 t (rR_judge ρ t)) 9 t).toNat 0)) hr14 (by first | exact he1 (by omega) | exact he2 (by omega)) hw13)
    have hr18 : zRm P ((rR_send (lR_notarise_22 (z_up ρ 8 t (rR_judge ρ t)) t ((z_up ρ 8 t (rR_judge ρ t)) 9 t).toNat 0) 3 (ρ 2 t) (ρ 1 t) t (rR_judge ρ t))).2 := zRm_send (ρ := (lR_notarise_22 (z_up ρ 8 t (rR_judge ρ t)) t ((z_up ρ 8 t (rR_judge ρ t)) 9 t).toNat 0)) hr14 hw13 (by first | exact he1 (by omega) | exact he2 (by omega))
    exact hw17

def lR_propose_107 (ρ : z_Sg) (t ha : Int) (j : Nat) (k sn nd : Int) : Int × z_Sg := match j with
  | 0 => (sn, ρ)
  | j + 1 => if k = nd then lR_propose_107 ρ t ha j (k + 1) sn nd else if (rR_mustSign ρ t k) = 0 then lR_propose_107 ρ t ha j (k + 1) sn nd else lR_propose_107 ((rR_send ρ 0 nd k t 0)).2 t ha j (k + 1) (sn + ((rR_send ρ 0 nd k t 0)).1) nd
set_option maxRecDepth 100000 in
set_option maxHeartbeats 4000000 in
theorem eR_propose_107 {κ ρ : z_Sg} {a : Int → Nat} {B : List va_E} {Q : Option Value → List va_E → Prop} (hw : z_wf ρ) (t ha : Int) {P : List Int} (hp0 : z_rg t) (hp1 : 0 ≤ ha ∧ ha ≤ 1) : ∀ (j : Nat) (k sn nd : Int), 0 ≤ k → k + j = 4 → zRm P ρ → (0 ≤ nd ∧ nd ≤ 3) → (∀ n : Int, 0 ≤ n → n ≤ 3 → n ≠ nd → zcode 0 nd n t 0 ∈ P) → (0 ≤ t ∧ t ≤ 19) → (∀ (y5 y3 : Value), z_Ev mR_propose (5, 123) 0 0 150 [.ref 12, zi t, zi ha, y3, zi ((lR_propose_107 ρ t ha j k sn nd).1), y5] [] (zM κ a (lR_propose_107 ρ t ha j k sn nd).2 B) Q) → z_Ev mR_propose (5, 123) 0 0 107 [.ref 12, zi t, zi ha, zi nd, zi sn, zi k] [] (zM κ a ρ B) Q := by
  intro j
  induction j generalizing ρ with
  | zero =>
    intro k sn nd   c0 c1 c2 c3 c4 c5 hk
    refine ev_iload (q := 109) dR_propose_107 (by rfl) rfl ?_
    refine ev_iconst (v := iI 4) (q := 110) dR_propose_109 rfl rfl ?_
    refine zr_icmp_ge (t := 150) (q := 113) dR_propose_110 rfl rfl ⟨by omega, by omega⟩ ⟨by omega, by omega⟩ (fun h1 => ?_) (fun h1 => ?_)
    · exact hk _ _
    · exfalso
      omega
  | succ j ih =>
    intro k sn nd   c0 c1 c2 c3 c4 c5 hk
    refine ev_iload (q := 109) dR_propose_107 (by rfl) rfl ?_
    refine ev_iconst (v := iI 4) (q := 110) dR_propose_109 rfl rfl ?_
    refine zr_icmp_ge (t := 150) (q := 113) dR_propose_110 rfl rfl ⟨by omega, by omega⟩ ⟨by omega, by omega⟩ (fun h1 => ?_) (fun h1 => ?_)
    · exfalso
      omega
    · refine ev_iload (q := 115) dR_propose_113 (by rfl) rfl ?_
      refine ev_iload_n 3 (q := 116) dR_propose_115 rfl (by rfl) rfl ?_
      refine zr_icmp_eq (t := 144) (q := 119) dR_propose_116 rfl rfl ⟨by omega, by omega⟩ ⟨by omega, by omega⟩ (fun h2 => ?_) (fun h2 => ?_)
      · refine zr_iinc (q := 147) dR_propose_144 (by rfl) (by decide) rfl rfl ?_
        dsimp only [List.set]
        refine ev_goto (t := 107) (q := 107) dR_propose_147 rfl rfl ?_
        rw [show lR_propose_107 ρ t ha (j + 1) k sn nd = lR_propose_107 ρ t ha j (k + 1) sn nd from by rw [lR_propose_107, if_pos h2]] at hk
        exact ih hw  (k + 1) sn nd   (by omega) (by omega) c2 c3 c4 c5 hk
      · refine ev_aload_n 0 (q := 120) dR_propose_119 rfl (by rfl) rfl ?_
        refine ev_iload_n 1 (q := 121) dR_propose_120 rfl (by rfl) rfl ?_
        refine ev_iload (q := 123) dR_propose_121 (by rfl) rfl ?_
        refine cv_V (As := [_, _]) (q := 126) dR_propose_123 kR_130 atR rfl rfl (Nat.le_of_ble_eq_true rfl) rfl rfl rfl (by decide) (sR_mustSign hw t k ⟨by omega, by omega⟩ ⟨by omega, by omega⟩ ) ?_
        have g3 : (rR_mustSign ρ t k) = 0 ∨ (rR_mustSign ρ t k) = 1 := bR_mustSign _ _ _
        refine zr_if_eq (t := 144) (q := 129) dR_propose_126 rfl rfl ⟨by omega, by omega⟩ (fun h4 => ?_) (fun h4 => ?_)
        · refine zr_iinc (q := 147) dR_propose_144 (by rfl) (by decide) rfl rfl ?_
          dsimp only [List.set]
          refine ev_goto (t := 107) (q := 107) dR_propose_147 rfl rfl ?_
          rw [show lR_propose_107 ρ t ha (j + 1) k sn nd = lR_propose_107 ρ t ha j (k + 1) sn nd from by rw [lR_propose_107, if_neg h2, if_pos h4]] at hk
          exact ih hw  (k + 1) sn nd   (by omega) (by omega) c2 c3 c4 c5 hk
        · refine ev_iload (q := 131) dR_propose_129 (by rfl) rfl ?_
          refine ev_aload_n 0 (q := 132) dR_propose_131 rfl (by rfl) rfl ?_
          refine ev_iconst (v := iI 0) (q := 133) dR_propose_132 rfl rfl ?_
          refine ev_iload_n 3 (q := 134) dR_propose_133 rfl (by rfl) rfl ?_
          refine ev_iload (q := 136) dR_propose_134 (by rfl) rfl ?_
          refine ev_iload_n 1 (q := 137) dR_propose_136 rfl (by rfl) rfl ?_
          refine ev_iconst (v := iI 0) (q := 138) dR_propose_137 rfl rfl ?_
          refine cv_V (As := [_, _, _, _, _]) (q := 141) dR_propose_138 kR_146 atR rfl rfl (Nat.le_of_ble_eq_true rfl) rfl rfl rfl (by decide) (sR_send hw 0 nd k t 0 ⟨by omega, by omega⟩ ⟨by omega, by omega⟩ ⟨by omega, by omega⟩ ⟨by omega, by omega⟩ ⟨by omega, by omega⟩ (zRm_room (ρ := ρ) c2 (c4 k (by omega) (by omega) (by assumption)) hw)) ?_
          have hw5 : z_wf ((rR_send ρ 0 nd k t 0)).2 := wR_send hw 0 nd k t 0 ⟨by omega, by omega⟩ ⟨by omega, by omega⟩ ⟨by omega, by omega⟩ ⟨by omega, by omega⟩ ⟨by omega, by omega⟩ (zRm_room (ρ := ρ) c2 (c4 k (by omega) (by omega) (by assumption)) hw)
          have hr6 : zRm P ((rR_send ρ 0 nd k t 0)).2 := zRm_send (ρ := ρ) c2 hw (c4 k (by omega) (by omega) (by assumption))
          refine zr_iadd (q := 142) dR_propose_141 rfl ?_
          refine ev_istore (q := 144) dR_propose_142 (by decide) rfl rfl ?_
          dsimp only [List.set]
          refine zr_iinc (q := 147) dR_propose_144 (by rfl) (by decide) rfl rfl ?_
          dsimp only [List.set]
          refine ev_goto (t := 107) (q := 107) dR_propose_147 rfl rfl ?_
          rw [show lR_propose_107 ρ t ha (j + 1) k sn nd = lR_propose_107 ((rR_send ρ 0 nd k t 0)).2 t ha j (k + 1) (sn + ((rR_send ρ 0 nd k t 0)).1) nd from by rw [lR_propose_107, if_neg h2, if_neg h4]] at hk
          exact ih hw5  (k + 1) (sn + ((rR_send ρ 0 nd k t 0)).1) nd   (by omega) (by omega) hr6 c3 c4 c5 hk
set_option maxRecDepth 100000 in
set_option maxHeartbeats 4000000 in
theorem wlR_propose_107 {ρ : z_Sg} (hw : z_wf ρ) (t ha : Int) {P : List Int} (hp0 : z_rg t) (hp1 : 0 ≤ ha ∧ ha ≤ 1) : ∀ (j : Nat) (k sn nd : Int), 0 ≤ k → k + j = 4 → zRm P ρ → (0 ≤ nd ∧ nd ≤ 3) → (∀ n : Int, 0 ≤ n → n ≤ 3 → n ≠ nd → zcode 0 nd n t 0 ∈ P) → (0 ≤ t ∧ t ≤ 19) → z_wf (lR_propose_107 ρ t ha j k sn nd).2 := by
  intro j
  induction j generalizing ρ with
  | zero =>
    intro k sn nd  c0 c1 c2 c3 c4 c5
    rw [lR_propose_107]
    exact hw
  | succ j ihw =>
    intro k sn nd  c0 c1 c2 c3 c4 c5
    rw [lR_propose_107]
    by_cases h2 : k = nd
    · rw [if_pos h2]
      exact ihw hw  (k + 1) sn nd  (by omega) (by omega) c2 c3 c4 c5
    · rw [if_neg h2]
      have g3 : (rR_mustSign ρ t k) = 0 ∨ (rR_mustSign ρ t k) = 1 := bR_mustSign _ _ _
      by_cases h4 : (rR_mustSign ρ t k) = 0
      · rw [if_pos h4]
        exact ihw hw  (k + 1) sn nd  (by omega) (by omega) c2 c3 c4 c5
      · rw [if_neg h4]
        have hw5 : z_wf ((rR_send ρ 0 nd k t 0)).2 := wR_send hw 0 nd k t 0 ⟨by omega, by omega⟩ ⟨by omega, by omega⟩ ⟨by omega, by omega⟩ ⟨by omega, by omega⟩ ⟨by omega, by omega⟩ (zRm_room (ρ := ρ) c2 (c4 k (by omega) (by omega) (by assumption)) hw)
        have hr6 : zRm P ((rR_send ρ 0 nd k t 0)).2 := zRm_send (ρ := ρ) c2 hw (c4 k (by omega) (by omega) (by assumption))
        exact ihw hw5  (k + 1) (sn + ((rR_send ρ 0 nd k t 0)).1) nd  (by omega) (by omega) hr6 c3 c4 c5
def rR_propose (ρ : z_Sg) (t ha : Int) : Int × z_Sg := if (rR_isTx ρ t) ≠ 0 then if (ρ 5 t) = 0 then if ha ≠ 0 then if ha ≠ 0 then (((rR_send (z_up (z_up (z_up ρ 6 t ha) 7 t (zshl 1 (ρ 1 t))) 5 t 2) 2 (ρ 1 t) (ρ 2 t) t 0)).1, ((rR_send (z_up (z_up (z_up ρ 6 t ha) 7 t (zshl 1 (ρ 1 t))) 5 t 2) 2 (ρ 1 t) (ρ 2 t) t 0)).2) else if (rR_alone (z_up (z_up ρ 6 t ha) 7 t (zshl 1 (ρ 1 t))) t) = 0 then ((lR_propose_107 (z_up (z_up (z_up ρ 6 t ha) 7 t (zshl 1 (ρ 1 t))) 5 t 1) t ha 4 0 0 (ρ 1 t)).1, (lR_propose_107 (z_up (z_up (z_up ρ 6 t ha) 7 t (zshl 1 (ρ 1 t))) 5 t 1) t ha 4 0 0 (ρ 1 t)).2) else (((rR_send (z_up (z_up (z_up ρ 6 t ha) 7 t (zshl 1 (ρ 1 t))) 5 t 2) 2 (ρ 1 t) (ρ 2 t) t 0)).1, ((rR_send (z_up (z_up (z_up ρ 6 t ha) 7 t (zshl 1 (ρ 1 t))) 5 t 2) 2 (ρ 1 t) (ρ 2 t) t 0)).2) else if (rR_valid ρ t) ≠ 0 then if ha ≠ 0 then (((rR_send (z_up (z_up (z_up ρ 6 t ha) 7 t (zshl 1 (ρ 1 t))) 5 t 2) 2 (ρ 1 t) (ρ 2 t) t 0)).1, ((rR_send (z_up (z_up (z_up ρ 6 t ha) 7 t (zshl 1 (ρ 1 t))) 5 t 2) 2 (ρ 1 t) (ρ 2 t) t 0)).2) else if (rR_alone (z_up (z_up ρ 6 t ha) 7 t (zshl 1 (ρ 1 t))) t) = 0 then ((lR_propose_107 (z_up (z_up (z_up ρ 6 t ha) 7 t (zshl 1 (ρ 1 t))) 5 t 1) t ha 4 0 0 (ρ 1 t)).1, (lR_propose_107 (z_up (z_up (z_up ρ 6 t ha) 7 t (zshl 1 (ρ 1 t))) 5 t 1) t ha 4 0 0 (ρ 1 t)).2) else (((rR_send (z_up (z_up (z_up ρ 6 t ha) 7 t (zshl 1 (ρ 1 t))) 5 t 2) 2 (ρ 1 t) (ρ 2 t) t 0)).1, ((rR_send (z_up (z_up (z_up ρ 6 t ha) 7 t (zshl 1 (ρ 1 t))) 5 t 2) 2 (ρ 1 t) (ρ 2 t) t 0)).2) else ((-8), ρ) else ((-2), ρ) else ((-1), ρ)
set_option maxRecDepth 100000 in
set_option maxHeartbeats 4000000 in
theorem sR_propose {κ ρ : z_Sg} {a : Int → Nat} {B : List va_E} (hw : z_wf ρ) (t ha : Int) {P : List Int} (hp0 : z_rg t) (hp1 : 0 ≤ ha ∧ ha ≤ 1) (he0 : zRm P ρ) (he1 : (0 ≤ t → t < ρ 0 0 → zcode 2 (ρ 1 t) (ρ 2 t) t 0 ∈ P ∧ ∀ n : Int, 0 ≤ n → n ≤ 3 → n ≠ ρ 1 t → zcode 0 (ρ 1 t) n t 0 ∈ P)) : z_Sp mR_propose (5, 123) 0 0 [.ref 12, zi t, zi ha] (zM κ a ρ B) (fun r M' => r = some (zi (rR_propose ρ t ha).1) ∧ M' = zM κ a (rR_propose ρ t ha).2 B) := by
  refine z_Sp_of (L := [.ref 12, zi t, zi ha, .float 0, .float 0, .float 0]) (by decide) rfl rfl rfl (Nat.le_of_ble_eq_true rfl) ?_
  refine ev_aload_n 0 (q := 1) dR_propose_0 rfl (by rfl) rfl ?_
  refine ev_iload_n 1 (q := 2) dR_propose_1 rfl (by rfl) rfl ?_
  refine cv_V (As := [_]) (q := 5) dR_propose_2 kR_87 atR rfl rfl (Nat.le_of_ble_eq_true rfl) rfl rfl rfl (by decide) (sR_isTx hw t ⟨by omega, by omega⟩ ) ?_
  have g1 : (rR_isTx ρ t) = 0 ∨ (rR_isTx ρ t) = 1 := bR_isTx _ _
  refine zr_if_ne (t := 10) (q := 8) dR_propose_5 rfl rfl ⟨by omega, by omega⟩ (fun h2 => ?_) (fun h2 => ?_)
  · have f52 := tR_isTx hw h2
    refine ev_aload_n 0 (q := 11) dR_propose_10 rfl (by rfl) rfl ?_
    refine ev_get (q := 14) dR_propose_11 fR_22 atR (by rfl) rfl ?_
    refine ev_iload_n 1 (q := 15) dR_propose_14 rfl (by rfl) rfl ?_
    refine zr_iald (q := 16) (g := ρ 5) dR_propose_15 at_stageOf (by decide) ⟨by omega, by omega⟩ rfl ?_
    have g3 : 0 ≤ ρ 5 t ∧ ρ 5 t ≤ 9 := hw 5 t (by decide)
    refine zr_if_eq (t := 22) (q := 19) dR_propose_16 rfl rfl ⟨by omega, by omega⟩ (fun h4 => ?_) (fun h4 => ?_)
    · refine ev_iload_n 2 (q := 23) dR_propose_22 rfl (by rfl) rfl ?_
      refine zr_if_ne (t := 37) (q := 26) dR_propose_23 rfl rfl ⟨by omega, by omega⟩ (fun h5 => ?_) (fun h5 => ?_)
      · refine ev_aload_n 0 (q := 38) dR_propose_37 rfl (by rfl) rfl ?_
        refine ev_get (q := 41) dR_propose_38 fR_7 atR (by rfl) rfl ?_
        refine ev_iload_n 1 (q := 42) dR_propose_41 rfl (by rfl) rfl ?_
        refine zr_iald (q := 43) (g := ρ 1) dR_propose_42 at_begunBy (by decide) ⟨by omega, by omega⟩ rfl ?_
        have g6 : 0 ≤ ρ 1 t ∧ ρ 1 t ≤ 3 := hw 1 t (by decide)
        refine ev_istore_n 3 (q := 44) dR_propose_43 rfl (by decide) rfl rfl ?_
        dsimp only [List.set]
        refine ev_aload_n 0 (q := 45) dR_propose_44 rfl (by rfl) rfl ?_
        refine ev_get (q := 48) dR_propose_45 fR_25 atR (by rfl) rfl ?_
        refine ev_iload_n 1 (q := 49) dR_propose_48 rfl (by rfl) rfl ?_
        refine ev_iload_n 2 (q := 50) dR_propose_49 rfl (by rfl) rfl ?_
        refine zr_zast (q := 51) dR_propose_50 at_hasty (by decide) (by omega) ⟨by omega, by omega⟩ st_hasty rfl ?_
        have hw7 : z_wf (z_up ρ 6 t ha) := z_wf_up hw (show (0 : Int) ≤ ha by omega) (show ha ≤ (1 : Int) by omega)
        refine ev_aload_n 0 (q := 52) dR_propose_51 rfl (by rfl) rfl ?_
        refine ev_get (q := 55) dR_propose_52 fR_29 atR (by rfl) rfl ?_
        refine ev_iload_n 1 (q := 56) dR_propose_55 rfl (by rfl) rfl ?_
        refine ev_iconst (v := iI 1) (q := 57) dR_propose_56 rfl rfl ?_
        refine ev_iload_n 3 (q := 58) dR_propose_57 rfl (by rfl) rfl ?_
        refine zr_ishl (q := 59) dR_propose_58 rfl ?_
        have g8 : z_rg (zshl 1 (ρ 1 t)) := iI_rg _
        have g9 := zshl_1 (n := (ρ 1 t)) ⟨by omega, by omega⟩
        refine zr_iast (q := 60) dR_propose_59 at_signed (by decide) ⟨by omega, by omega⟩ st_signed rfl ?_
        have hw10 : z_wf (z_up (z_up ρ 6 t ha) 7 t (zshl 1 (ρ 1 t))) := z_wf_up hw7 (show (0 : Int) ≤ (zshl 1 (ρ 1 t)) by omega) (show (zshl 1 (ρ 1 t)) ≤ (15 : Int) by omega)
        refine ev_iload_n 2 (q := 61) dR_propose_60 rfl (by rfl) rfl ?_
        refine zr_if_ne (t := 72) (q := 64) dR_propose_61 rfl rfl ⟨by omega, by omega⟩ (fun h11 => ?_) (fun h11 => ?_)
        · refine ev_aload_n 0 (q := 73) dR_propose_72 rfl (by rfl) rfl ?_
          refine ev_get (q := 76) dR_propose_73 fR_22 atR (by rfl) rfl ?_
          refine ev_iload_n 1 (q := 77) dR_propose_76 rfl (by rfl) rfl ?_
          refine ev_iconst (v := iI 2) (q := 78) dR_propose_77 rfl rfl ?_
          refine zr_iast (q := 79) dR_propose_78 at_stageOf (by decide) ⟨by omega, by omega⟩ st_stageOf rfl ?_
          have hw12 : z_wf (z_up (z_up (z_up ρ 6 t ha) 7 t (zshl 1 (ρ 1 t))) 5 t 2) := z_wf_up hw10 (show (0 : Int) ≤ 2 by omega) (show 2 ≤ (9 : Int) by omega)
          refine ev_aload_n 0 (q := 80) dR_propose_79 rfl (by rfl) rfl ?_
          refine ev_iconst (v := iI 2) (q := 81) dR_propose_80 rfl rfl ?_
          refine ev_iload_n 3 (q := 82) dR_propose_81 rfl (by rfl) rfl ?_
          refine ev_aload_n 0 (q := 83) dR_propose_82 rfl (by rfl) rfl ?_
          refine ev_get (q := 86) dR_propose_83 fR_13 atR (by rfl) rfl ?_
          refine ev_iload_n 1 (q := 87) dR_propose_86 rfl (by rfl) rfl ?_
          refine zr_iald (q := 88) (g := ρ 2) dR_propose_87 at_notaryOf (by decide) ⟨by omega, by omega⟩ rfl ?_
          have g13 : 0 ≤ ρ 2 t ∧ ρ 2 t ≤ 5 := hw 2 t (by decide)
          refine ev_iload_n 1 (q := 89) dR_propose_88 rfl (by rfl) rfl ?_
          refine ev_iconst (v := iI 0) (q := 90) dR_propose_89 rfl rfl ?_
          refine cv_V (As := [_, _, _, _, _]) (q := 93) dR_propose_90 kR_146 atR rfl rfl (Nat.le_of_ble_eq_true rfl) rfl rfl rfl (by decide) (sR_send hw12 2 (ρ 1 t) (ρ 2 t) t 0 ⟨by omega, by omega⟩ ⟨by omega, by omega⟩ ⟨by omega, by omega⟩ ⟨by omega, by omega⟩ ⟨by omega, by omega⟩ (zRm_room (ρ := (z_up (z_up (z_up ρ 6 t ha) 7 t (zshl 1 (ρ 1 t))) 5 t 2)) he0 (he1 (by omega) (by omega)).1 hw12)) ?_
          have hw14 : z_wf ((rR_send (z_up (z_up (z_up ρ 6 t ha) 7 t (zshl 1 (ρ 1 t))) 5 t 2) 2 (ρ 1 t) (ρ 2 t) t 0)).2 := wR_send hw12 2 (ρ 1 t) (ρ 2 t) t 0 ⟨by omega, by omega⟩ ⟨by omega, by omega⟩ ⟨by omega, by omega⟩ ⟨by omega, by omega⟩ ⟨by omega, by omega⟩ (zRm_room (ρ := (z_up (z_up (z_up ρ 6 t ha) 7 t (zshl 1 (ρ 1 t))) 5 t 2)) he0 (he1 (by omega) (by omega)).1 hw12)
          have hr15 : zRm P ((rR_send (z_up (z_up (z_up ρ 6 t ha) 7 t (zshl 1 (ρ 1 t))) 5 t 2) 2 (ρ 1 t) (ρ 2 t) t 0)).2 := zRm_send (ρ := (z_up (z_up (z_up ρ 6 t ha) 7 t (zshl 1 (ρ 1 t))) 5 t 2)) he0 hw12 (he1 (by omega) (by omega)).1
          exact zr_iret dR_propose_93 rfl ⟨by rw [rR_propose, if_pos h2, if_pos h4, if_pos h5, if_pos h11], by rw [rR_propose, if_pos h2, if_pos h4, if_pos h5, if_pos h11]⟩
        · refine ev_aload_n 0 (q := 65) dR_propose_64 rfl (by rfl) rfl ?_
          refine ev_iload_n 1 (q := 66) dR_propose_65 rfl (by rfl) rfl ?_
          refine cv_V (As := [_]) (q := 69) dR_propose_66 kR_140 atR rfl rfl (Nat.le_of_ble_eq_true rfl) rfl rfl rfl (by decide) (sR_alone hw10 t ⟨by omega, by omega⟩ ) ?_
          have g17 : (rR_alone (z_up (z_up ρ 6 t ha) 7 t (zshl 1 (ρ 1 t))) t) = 0 ∨ (rR_alone (z_up (z_up ρ 6 t ha) 7 t (zshl 1 (ρ 1 t))) t) = 1 := bR_alone _ _
          refine zr_if_eq (t := 94) (q := 72) dR_propose_69 rfl rfl ⟨by omega, by omega⟩ (fun h18 => ?_) (fun h18 => ?_)
          · refine ev_aload_n 0 (q := 95) dR_propose_94 rfl (by rfl) rfl ?_
            refine ev_get (q := 98) dR_propose_95 fR_22 atR (by rfl) rfl ?_
            refine ev_iload_n 1 (q := 99) dR_propose_98 rfl (by rfl) rfl ?_
            refine ev_iconst (v := iI 1) (q := 100) dR_propose_99 rfl rfl ?_
            refine zr_iast (q := 101) dR_propose_100 at_stageOf (by decide) ⟨by omega, by omega⟩ st_stageOf rfl ?_
            have hw19 : z_wf (z_up (z_up (z_up ρ 6 t ha) 7 t (zshl 1 (ρ 1 t))) 5 t 1) := z_wf_up hw10 (show (0 : Int) ≤ 1 by omega) (show 1 ≤ (9 : Int) by omega)
            refine ev_iconst (v := iI 0) (q := 102) dR_propose_101 rfl rfl ?_
            refine ev_istore (q := 104) dR_propose_102 (by decide) rfl rfl ?_
            dsimp only [List.set]
            refine ev_iconst (v := iI 0) (q := 105) dR_propose_104 rfl rfl ?_
            refine ev_istore (q := 107) dR_propose_105 (by decide) rfl rfl ?_
            dsimp only [List.set]
            refine eR_propose_107 hw19 t ha hp0 hp1 4 0 0 (ρ 1 t)   (by omega) (by omega) he0 ⟨by omega, by omega⟩ (he1 (by omega) (by omega)).2 ⟨by omega, by omega⟩ (fun y20 y21 => ?_)
            have hw22 : z_wf (lR_propose_107 (z_up (z_up (z_up ρ 6 t ha) 7 t (zshl 1 (ρ 1 t))) 5 t 1) t ha 4 0 0 (ρ 1 t)).2 := wlR_propose_107 hw19 t ha hp0 hp1 4 0 0 (ρ 1 t)  (by omega) (by omega) he0 ⟨by omega, by omega⟩ (he1 (by omega) (by omega)).2 ⟨by omega, by omega⟩
            refine ev_iload (q := 152) dR_propose_150 (by rfl) rfl ?_
            exact zr_iret dR_propose_152 rfl ⟨by rw [rR_propose, if_pos h2, if_pos h4, if_pos h5, if_neg (fun z => z h11), if_pos h18], by rw [rR_propose, if_pos h2, if_pos h4, if_pos h5, if_neg (fun z => z h11), if_pos h18]⟩
          · refine ev_aload_n 0 (q := 73) dR_propose_72 rfl (by rfl) rfl ?_
            refine ev_get (q := 76) dR_propose_73 fR_22 atR (by rfl) rfl ?_
            refine ev_iload_n 1 (q := 77) dR_propose_76 rfl (by rfl) rfl ?_
            refine ev_iconst (v := iI 2) (q := 78) dR_propose_77 rfl rfl ?_
            refine zr_iast (q := 79) dR_propose_78 at_stageOf (by decide) ⟨by omega, by omega⟩ st_stageOf rfl ?_
            have hw23 : z_wf (z_up (z_up (z_up ρ 6 t ha) 7 t (zshl 1 (ρ 1 t))) 5 t 2) := z_wf_up hw10 (show (0 : Int) ≤ 2 by omega) (show 2 ≤ (9 : Int) by omega)
            refine ev_aload_n 0 (q := 80) dR_propose_79 rfl (by rfl) rfl ?_
            refine ev_iconst (v := iI 2) (q := 81) dR_propose_80 rfl rfl ?_
            refine ev_iload_n 3 (q := 82) dR_propose_81 rfl (by rfl) rfl ?_
            refine ev_aload_n 0 (q := 83) dR_propose_82 rfl (by rfl) rfl ?_
            refine ev_get (q := 86) dR_propose_83 fR_13 atR (by rfl) rfl ?_
            refine ev_iload_n 1 (q := 87) dR_propose_86 rfl (by rfl) rfl ?_
            refine zr_iald (q := 88) (g := ρ 2) dR_propose_87 at_notaryOf (by decide) ⟨by omega, by omega⟩ rfl ?_
            have g24 : 0 ≤ ρ 2 t ∧ ρ 2 t ≤ 5 := hw 2 t (by decide)
            refine ev_iload_n 1 (q := 89) dR_propose_88 rfl (by rfl) rfl ?_
            refine ev_iconst (v := iI 0) (q := 90) dR_propose_89 rfl rfl ?_
            refine cv_V (As := [_, _, _, _, _]) (q := 93) dR_propose_90 kR_146 atR rfl rfl (Nat.le_of_ble_eq_true rfl) rfl rfl rfl (by decide) (sR_send hw23 2 (ρ 1 t) (ρ 2 t) t 0 ⟨by omega, by omega⟩ ⟨by omega, by omega⟩ ⟨by omega, by omega⟩ ⟨by omega, by omega⟩ ⟨by omega, by omega⟩ (zRm_room (ρ := (z_up (z_up (z_up ρ 6 t ha) 7 t (zshl 1 (ρ 1 t))) 5 t 2)) he0 (he1 (by omega) (by omega)).1 hw23)) ?_
            have hw25 : z_wf ((rR_send (z_up (z_up (z_up ρ 6 t ha) 7 t (zshl 1 (ρ 1 t))) 5 t 2) 2 (ρ 1 t) (ρ 2 t) t 0)).2 := wR_send hw23 2 (ρ 1 t) (ρ 2 t) t 0 ⟨by omega, by omega⟩ ⟨by omega, by omega⟩ ⟨by omega, by omega⟩ ⟨by omega, by omega⟩ ⟨by omega, by omega⟩ (zRm_room (ρ := (z_up (z_up (z_up ρ 6 t ha) 7 t (zshl 1 (ρ 1 t))) 5 t 2)) he0 (he1 (by omega) (by omega)).1 hw23)
            have hr26 : zRm P ((rR_send (z_up (z_up (z_up ρ 6 t ha) 7 t (zshl 1 (ρ 1 t))) 5 t 2) 2 (ρ 1 t) (ρ 2 t) t 0)).2 := zRm_send (ρ := (z_up (z_up (z_up ρ 6 t ha) 7 t (zshl 1 (ρ 1 t))) 5 t 2)) he0 hw23 (he1 (by omega) (by omega)).1
            exact zr_iret dR_propose_93 rfl ⟨by rw [rR_propose, if_pos h2, if_pos h4, if_pos h5, if_neg (fun z => z h11), if_neg h18], by rw [rR_propose, if_pos h2, if_pos h4, if_pos h5, if_neg (fun z => z h11), if_neg h18]⟩
      · refine ev_aload_n 0 (q := 27) dR_propose_26 rfl (by rfl) rfl ?_
        refine ev_iload_n 1 (q := 28) dR_propose_27 rfl (by rfl) rfl ?_
        refine cv_V (As := [_]) (q := 31) dR_propose_28 kR_137 atR rfl rfl (Nat.le_of_ble_eq_true rfl) rfl rfl rfl (by decide) (sR_valid hw t ⟨by omega, by omega⟩ ) ?_
        have g28 : (rR_valid ρ t) = 0 ∨ (rR_valid ρ t) = 1 := bR_valid _ _
        refine zr_if_ne (t := 37) (q := 34) dR_propose_31 rfl rfl ⟨by omega, by omega⟩ (fun h29 => ?_) (fun h29 => ?_)
        · refine ev_aload_n 0 (q := 38) dR_propose_37 rfl (by rfl) rfl ?_
          refine ev_get (q := 41) dR_propose_38 fR_7 atR (by rfl) rfl ?_
          refine ev_iload_n 1 (q := 42) dR_propose_41 rfl (by rfl) rfl ?_
          refine zr_iald (q := 43) (g := ρ 1) dR_propose_42 at_begunBy (by decide) ⟨by omega, by omega⟩ rfl ?_
          have g30 : 0 ≤ ρ 1 t ∧ ρ 1 t ≤ 3 := hw 1 t (by decide)
          refine ev_istore_n 3 (q := 44) dR_propose_43 rfl (by decide) rfl rfl ?_
          dsimp only [List.set]
          refine ev_aload_n 0 (q := 45) dR_propose_44 rfl (by rfl) rfl ?_
          refine ev_get (q := 48) dR_propose_45 fR_25 atR (by rfl) rfl ?_
          refine ev_iload_n 1 (q := 49) dR_propose_48 rfl (by rfl) rfl ?_
          refine ev_iload_n 2 (q := 50) dR_propose_49 rfl (by rfl) rfl ?_
          refine zr_zast (q := 51) dR_propose_50 at_hasty (by decide) (by omega) ⟨by omega, by omega⟩ st_hasty rfl ?_
          have hw31 : z_wf (z_up ρ 6 t ha) := z_wf_up hw (show (0 : Int) ≤ ha by omega) (show ha ≤ (1 : Int) by omega)
          refine ev_aload_n 0 (q := 52) dR_propose_51 rfl (by rfl) rfl ?_
          refine ev_get (q := 55) dR_propose_52 fR_29 atR (by rfl) rfl ?_
          refine ev_iload_n 1 (q := 56) dR_propose_55 rfl (by rfl) rfl ?_
          refine ev_iconst (v := iI 1) (q := 57) dR_propose_56 rfl rfl ?_
          refine ev_iload_n 3 (q := 58) dR_propose_57 rfl (by rfl) rfl ?_
          refine zr_ishl (q := 59) dR_propose_58 rfl ?_
          have g32 : z_rg (zshl 1 (ρ 1 t)) := iI_rg _
          have g33 := zshl_1 (n := (ρ 1 t)) ⟨by omega, by omega⟩
          refine zr_iast (q := 60) dR_propose_59 at_signed (by decide) ⟨by omega, by omega⟩ st_signed rfl ?_
          have hw34 : z_wf (z_up (z_up ρ 6 t ha) 7 t (zshl 1 (ρ 1 t))) := z_wf_up hw31 (show (0 : Int) ≤ (zshl 1 (ρ 1 t)) by omega) (show (zshl 1 (ρ 1 t)) ≤ (15 : Int) by omega)
          refine ev_iload_n 2 (q := 61) dR_propose_60 rfl (by rfl) rfl ?_
          refine zr_if_ne (t := 72) (q := 64) dR_propose_61 rfl rfl ⟨by omega, by omega⟩ (fun h35 => ?_) (fun h35 => ?_)
          · refine ev_aload_n 0 (q := 73) dR_propose_72 rfl (by rfl) rfl ?_
            refine ev_get (q := 76) dR_propose_73 fR_22 atR (by rfl) rfl ?_
            refine ev_iload_n 1 (q := 77) dR_propose_76 rfl (by rfl) rfl ?_
            refine ev_iconst (v := iI 2) (q := 78) dR_propose_77 rfl rfl ?_
            refine zr_iast (q := 79) dR_propose_78 at_stageOf (by decide) ⟨by omega, by omega⟩ st_stageOf rfl ?_
            have hw36 : z_wf (z_up (z_up (z_up ρ 6 t ha) 7 t (zshl 1 (ρ 1 t))) 5 t 2) := z_wf_up hw34 (show (0 : Int) ≤ 2 by omega) (show 2 ≤ (9 : Int) by omega)
            refine ev_aload_n 0 (q := 80) dR_propose_79 rfl (by rfl) rfl ?_
            refine ev_iconst (v := iI 2) (q := 81) dR_propose_80 rfl rfl ?_
            refine ev_iload_n 3 (q := 82) dR_propose_81 rfl (by rfl) rfl ?_
            refine ev_aload_n 0 (q := 83) dR_propose_82 rfl (by rfl) rfl ?_
            refine ev_get (q := 86) dR_propose_83 fR_13 atR (by rfl) rfl ?_
            refine ev_iload_n 1 (q := 87) dR_propose_86 rfl (by rfl) rfl ?_
            refine zr_iald (q := 88) (g := ρ 2) dR_propose_87 at_notaryOf (by decide) ⟨by omega, by omega⟩ rfl ?_
            have g37 : 0 ≤ ρ 2 t ∧ ρ 2 t ≤ 5 := hw 2 t (by decide)
            refine ev_iload_n 1 (q := 89) dR_propose_88 rfl (by rfl) rfl ?_
            refine ev_iconst (v := iI 0) (q := 90) dR_propose_89 rfl rfl ?_
            refine cv_V (As := [_, _, _, _, _]) (q := 93) dR_propose_90 kR_146 atR rfl rfl (Nat.le_of_ble_eq_true rfl) rfl rfl rfl (by decide) (sR_send hw36 2 (ρ 1 t) (ρ 2 t) t 0 ⟨by omega, by omega⟩ ⟨by omega, by omega⟩ ⟨by omega, by omega⟩ ⟨by omega, by omega⟩ ⟨by omega, by omega⟩ (zRm_room (ρ := (z_up (z_up (z_up ρ 6 t ha) 7 t (zshl 1 (ρ 1 t))) 5 t 2)) he0 (he1 (by omega) (by omega)).1 hw36)) ?_
            have hw38 : z_wf ((rR_send (z_up (z_up (z_up ρ 6 t ha) 7 t (zshl 1 (ρ 1 t))) 5 t 2) 2 (ρ 1 t) (ρ 2 t) t 0)).2 := wR_send hw36 2 (ρ 1 t) (ρ 2 t) t 0 ⟨by omega, by omega⟩ ⟨by omega, by omega⟩ ⟨by omega, by omega⟩ ⟨by omega, by omega⟩ ⟨by omega, by omega⟩ (zRm_room (ρ := (z_up (z_up (z_up ρ 6 t ha) 7 t (zshl 1 (ρ 1 t))) 5 t 2)) he0 (he1 (by omega) (by omega)).1 hw36)
            have hr39 : zRm P ((rR_send (z_up (z_up (z_up ρ 6 t ha) 7 t (zshl 1 (ρ 1 t))) 5 t 2) 2 (ρ 1 t) (ρ 2 t) t 0)).2 := zRm_send (ρ := (z_up (z_up (z_up ρ 6 t ha) 7 t (zshl 1 (ρ 1 t))) 5 t 2)) he0 hw36 (he1 (by omega) (by omega)).1
            exact zr_iret dR_propose_93 rfl ⟨by rw [rR_propose, if_pos h2, if_pos h4, if_neg (fun z => z h5), if_pos h29, if_pos h35], by rw [rR_propose, if_pos h2, if_pos h4, if_neg (fun z => z h5), if_pos h29, if_pos h35]⟩
          · refine ev_aload_n 0 (q := 65) dR_propose_64 rfl (by rfl) rfl ?_
            refine ev_iload_n 1 (q := 66) dR_propose_65 rfl (by rfl) rfl ?_
            refine cv_V (As := [_]) (q := 69) dR_propose_66 kR_140 atR rfl rfl (Nat.le_of_ble_eq_true rfl) rfl rfl rfl (by decide) (sR_alone hw34 t ⟨by omega, by omega⟩ ) ?_
            have g41 : (rR_alone (z_up (z_up ρ 6 t ha) 7 t (zshl 1 (ρ 1 t))) t) = 0 ∨ (rR_alone (z_up (z_up ρ 6 t ha) 7 t (zshl 1 (ρ 1 t))) t) = 1 := bR_alone _ _
            refine zr_if_eq (t := 94) (q := 72) dR_propose_69 rfl rfl ⟨by omega, by omega⟩ (fun h42 => ?_) (fun h42 => ?_)
            · refine ev_aload_n 0 (q := 95) dR_propose_94 rfl (by rfl) rfl ?_
              refine ev_get (q := 98) dR_propose_95 fR_22 atR (by rfl) rfl ?_
              refine ev_iload_n 1 (q := 99) dR_propose_98 rfl (by rfl) rfl ?_
              refine ev_iconst (v := iI 1) (q := 100) dR_propose_99 rfl rfl ?_
              refine zr_iast (q := 101) dR_propose_100 at_stageOf (by decide) ⟨by omega, by omega⟩ st_stageOf rfl ?_
              have hw43 : z_wf (z_up (z_up (z_up ρ 6 t ha) 7 t (zshl 1 (ρ 1 t))) 5 t 1) := z_wf_up hw34 (show (0 : Int) ≤ 1 by omega) (show 1 ≤ (9 : Int) by omega)
              refine ev_iconst (v := iI 0) (q := 102) dR_propose_101 rfl rfl ?_
              refine ev_istore (q := 104) dR_propose_102 (by decide) rfl rfl ?_
              dsimp only [List.set]
              refine ev_iconst (v := iI 0) (q := 105) dR_propose_104 rfl rfl ?_
              refine ev_istore (q := 107) dR_propose_105 (by decide) rfl rfl ?_
              dsimp only [List.set]
              refine eR_propose_107 hw43 t ha hp0 hp1 4 0 0 (ρ 1 t)   (by omega) (by omega) he0 ⟨by omega, by omega⟩ (he1 (by omega) (by omega)).2 ⟨by omega, by omega⟩ (fun y44 y45 => ?_)
              have hw46 : z_wf (lR_propose_107 (z_up (z_up (z_up ρ 6 t ha) 7 t (zshl 1 (ρ 1 t))) 5 t 1) t ha 4 0 0 (ρ 1 t)).2 := wlR_propose_107 hw43 t ha hp0 hp1 4 0 0 (ρ 1 t)  (by omega) (by omega) he0 ⟨by omega, by omega⟩ (he1 (by omega) (by omega)).2 ⟨by omega, by omega⟩
              refine ev_iload (q := 152) dR_propose_150 (by rfl) rfl ?_
              exact zr_iret dR_propose_152 rfl ⟨by rw [rR_propose, if_pos h2, if_pos h4, if_neg (fun z => z h5), if_pos h29, if_neg (fun z => z h35), if_pos h42], by rw [rR_propose, if_pos h2, if_pos h4, if_neg (fun z => z h5), if_pos h29, if_neg (fun z => z h35), if_pos h42]⟩
            · refine ev_aload_n 0 (q := 73) dR_propose_72 rfl (by rfl) rfl ?_
              refine ev_get (q := 76) dR_propose_73 fR_22 atR (by rfl) rfl ?_
              refine ev_iload_n 1 (q := 77) dR_propose_76 rfl (by rfl) rfl ?_
              refine ev_iconst (v := iI 2) (q := 78) dR_propose_77 rfl rfl ?_
              refine zr_iast (q := 79) dR_propose_78 at_stageOf (by decide) ⟨by omega, by omega⟩ st_stageOf rfl ?_
              have hw47 : z_wf (z_up (z_up (z_up ρ 6 t ha) 7 t (zshl 1 (ρ 1 t))) 5 t 2) := z_wf_up hw34 (show (0 : Int) ≤ 2 by omega) (show 2 ≤ (9 : Int) by omega)
              refine ev_aload_n 0 (q := 80) dR_propose_79 rfl (by rfl) rfl ?_
              refine ev_iconst (v := iI 2) (q := 81) dR_propose_80 rfl rfl ?_
              refine ev_iload_n 3 (q := 82) dR_propose_81 rfl (by rfl) rfl ?_
              refine ev_aload_n 0 (q := 83) dR_propose_82 rfl (by rfl) rfl ?_
              refine ev_get (q := 86) dR_propose_83 fR_13 atR (by rfl) rfl ?_
              refine ev_iload_n 1 (q := 87) dR_propose_86 rfl (by rfl) rfl ?_
              refine zr_iald (q := 88) (g := ρ 2) dR_propose_87 at_notaryOf (by decide) ⟨by omega, by omega⟩ rfl ?_
              have g48 : 0 ≤ ρ 2 t ∧ ρ 2 t ≤ 5 := hw 2 t (by decide)
              refine ev_iload_n 1 (q := 89) dR_propose_88 rfl (by rfl) rfl ?_
              refine ev_iconst (v := iI 0) (q := 90) dR_propose_89 rfl rfl ?_
              refine cv_V (As := [_, _, _, _, _]) (q := 93) dR_propose_90 kR_146 atR rfl rfl (Nat.le_of_ble_eq_true rfl) rfl rfl rfl (by decide) (sR_send hw47 2 (ρ 1 t) (ρ 2 t) t 0 ⟨by omega, by omega⟩ ⟨by omega, by omega⟩ ⟨by omega, by omega⟩ ⟨by omega, by omega⟩ ⟨by omega, by omega⟩ (zRm_room (ρ := (z_up (z_up (z_up ρ 6 t ha) 7 t (zshl 1 (ρ 1 t))) 5 t 2)) he0 (he1 (by omega) (by omega)).1 hw47)) ?_
              have hw49 : z_wf ((rR_send (z_up (z_up (z_up ρ 6 t ha) 7 t (zshl 1 (ρ 1 t))) 5 t 2) 2 (ρ 1 t) (ρ 2 t) t 0)).2 := wR_send hw47 2 (ρ 1 t) (ρ 2 t) t 0 ⟨by omega, by omega⟩ ⟨by omega, by omega⟩ ⟨by omega, by omega⟩ ⟨by omega, by omega⟩ ⟨by omega, by omega⟩ (zRm_room (ρ := (z_up (z_up (z_up ρ 6 t ha) 7 t (zshl 1 (ρ 1 t))) 5 t 2)) he0 (he1 (by omega) (by omega)).1 hw47)
              have hr50 : zRm P ((rR_send (z_up (z_up (z_up ρ 6 t ha) 7 t (zshl 1 (ρ 1 t))) 5 t 2) 2 (ρ 1 t) (ρ 2 t) t 0)).2 := zRm_send (ρ := (z_up (z_up (z_up ρ 6 t ha) 7 t (zshl 1 (ρ 1 t))) 5 t 2)) he0 hw47 (he1 (by omega) (by omega)).1
              exact zr_iret dR_propose_93 rfl ⟨by rw [rR_propose, if_pos h2, if_pos h4, if_neg (fun z => z h5), if_pos h29, if_neg (fun z => z h35), if_neg h42], by rw [rR_propose, if_pos h2, if_pos h4, if_neg (fun z => z h5), if_pos h29, if_neg (fun z => z h35), if_neg h42]⟩
        · refine ev_bipush (v := iI (-8)) (q := 36) dR_propose_34 (by decide) rfl ?_
          exact zr_iret dR_propose_36 rfl ⟨by rw [rR_propose, if_pos h2, if_pos h4, if_neg (fun z => z h5), if_neg (fun z => z h29)], by rw [rR_propose, if_pos h2, if_pos h4, if_neg (fun z => z h5), if_neg (fun z => z h29)]⟩
    · refine ev_bipush (v := iI (-2)) (q := 21) dR_propose_19 (by decide) rfl ?_
      exact zr_iret dR_propose_21 rfl ⟨by rw [rR_propose, if_pos h2, if_neg h4], by rw [rR_propose, if_pos h2, if_neg h4]⟩
  · refine ev_iconst (v := iI (-1)) (q := 9) dR_propose_8 rfl rfl ?_
    exact zr_iret dR_propose_9 rfl ⟨by rw [rR_propose, if_neg (fun z => z h2)], by rw [rR_propose, if_neg (fun z => z h2)]⟩
set_option maxRecDepth 100000 in
set_option maxHeartbeats 4000000 in
theorem wR_propose {ρ : z_Sg} (hw : z_wf ρ) (t ha : Int) {P : List Int} (hp0 : z_rg t) (hp1 : 0 ≤ ha ∧ ha ≤ 1) (he0 : zRm P ρ) (he1 : (0 ≤ t → t < ρ 0 0 → zcode 2 (ρ 1 t) (ρ 2 t) t 0 ∈ P ∧ ∀ n : Int, 0 ≤ n → n ≤ 3 → n ≠ ρ 1 t → zcode 0 (ρ 1 t) n t 0 ∈ P)) : z_wf (rR_propose ρ t ha).2 := by
  rw [rR_propose]
  have g1 : (rR_isTx ρ t) = 0 ∨ (rR_isTx ρ t) = 1 := bR_isTx _ _
  by_cases h2 : (rR_isTx ρ t) ≠ 0
  · rw [if_pos h2]
    have f52 := tR_isTx hw h2
    have g3 : 0 ≤ ρ 5 t ∧ ρ 5 t ≤ 9 := hw 5 t (by decide)
    by_cases h4 : (ρ 5 t) = 0
    · rw [if_pos h4]
      by_cases h5 : ha ≠ 0
      · rw [if_pos h5]
        have g6 : 0 ≤ ρ 1 t ∧ ρ 1 t ≤ 3 := hw 1 t (by decide)
        have hw7 : z_wf (z_up ρ 6 t ha) := z_wf_up hw (show (0 : Int) ≤ ha by omega) (show ha ≤ (1 : Int) by omega)
        have g8 : z_rg (zshl 1 (ρ 1 t)) := iI_rg _
        have g9 := zshl_1 (n := (ρ 1 t)) ⟨by omega, by omega⟩
        have hw10 : z_wf (z_up (z_up ρ 6 t ha) 7 t (zshl 1 (ρ 1 t))) := z_wf_up hw7 (show (0 : Int) ≤ (zshl 1 (ρ 1 t)) by omega) (show (zshl 1 (ρ 1 t)) ≤ (15 : Int) by omega)
        by_cases h11 : ha ≠ 0
        · rw [if_pos h11]
          have hw12 : z_wf (z_up (z_up (z_up ρ 6 t ha) 7 t (zshl 1 (ρ 1 t))) 5 t 2) := z_wf_up hw10 (show (0 : Int) ≤ 2 by omega) (show 2 ≤ (9 : Int) by omega)
          have g13 : 0 ≤ ρ 2 t ∧ ρ 2 t ≤ 5 := hw 2 t (by decide)
          have hw14 : z_wf ((rR_send (z_up (z_up (z_up ρ 6 t ha) 7 t (zshl 1 (ρ 1 t))) 5 t 2) 2 (ρ 1 t) (ρ 2 t) t 0)).2 := wR_send hw12 2 (ρ 1 t) (ρ 2 t) t 0 ⟨by omega, by omega⟩ ⟨by omega, by omega⟩ ⟨by omega, by omega⟩ ⟨by omega, by omega⟩ ⟨by omega, by omega⟩ (zRm_room (ρ := (z_up (z_up (z_up ρ 6 t ha) 7 t (zshl 1 (ρ 1 t))) 5 t 2)) he0 (he1 (by omega) (by omega)).1 hw12)
          have hr15 : zRm P ((rR_send (z_up (z_up (z_up ρ 6 t ha) 7 t (zshl 1 (ρ 1 t))) 5 t 2) 2 (ρ 1 t) (ρ 2 t) t 0)).2 := zRm_send (ρ := (z_up (z_up (z_up ρ 6 t ha) 7 t (zshl 1 (ρ 1 t))) 5 t 2)) he0 hw12 (he1 (by omega) (by omega)).1
          exact hw14
        · rw [if_neg h11]
          have g17 : (rR_alone (z_up (z_up ρ 6 t ha) 7 t (zshl 1 (ρ 1 t))) t) = 0 ∨ (rR_alone (z_up (z_up ρ 6 t ha) 7 t (zshl 1 (ρ 1 t))) t) = 1 := bR_alone _ _
          by_cases h18 : (rR_alone (z_up (z_up ρ 6 t ha) 7 t (zshl 1 (ρ 1 t))) t) = 0
          · rw [if_pos h18]
            have hw19 : z_wf (z_up (z_up (z_up ρ 6 t ha) 7 t (zshl 1 (ρ 1 t))) 5 t 1) := z_wf_up hw10 (show (0 : Int) ≤ 1 by omega) (show 1 ≤ (9 : Int) by omega)
            have hw22 : z_wf (lR_propose_107 (z_up (z_up (z_up ρ 6 t ha) 7 t (zshl 1 (ρ 1 t))) 5 t 1) t ha 4 0 0 (ρ 1 t)).2 := wlR_propose_107 hw19 t ha hp0 hp1 4 0 0 (ρ 1 t)  (by omega) (by omega) he0 ⟨by omega, by omega⟩ (he1 (by omega) (by omega)).2 ⟨by omega, by omega⟩
            exact hw22
          · rw [if_neg h18]
            have hw23 : z_wf (z_up (z_up (z_up ρ 6 t ha) 7 t (zshl 1 (ρ 1 t))) 5 t 2) := z_wf_up hw10 (show (0 : Int) ≤ 2 by omega) (show 2 ≤ (9 : Int) by omega)
            have g24 : 0 ≤ ρ 2 t ∧ ρ 2 t ≤ 5 := hw 2 t (by decide)
            have hw25 : z_wf ((rR_send (z_up (z_up (z_up ρ 6 t ha) 7 t (zshl 1 (ρ 1 t))) 5 t 2) 2 (ρ 1 t) (ρ 2 t) t 0)).2 := wR_send hw23 2 (ρ 1 t) (ρ 2 t) t 0 ⟨by omega, by omega⟩ ⟨by omega, by omega⟩ ⟨by omega, by omega⟩ ⟨by omega, by omega⟩ ⟨by omega, by omega⟩ (zRm_room (ρ := (z_up (z_up (z_up ρ 6 t ha) 7 t (zshl 1 (ρ 1 t))) 5 t 2)) he0 (he1 (by omega) (by omega)).1 hw23)
            have hr26 : zRm P ((rR_send (z_up (z_up (z_up ρ 6 t ha) 7 t (zshl 1 (ρ 1 t))) 5 t 2) 2 (ρ 1 t) (ρ 2 t) t 0)).2 := zRm_send (ρ := (z_up (z_up (z_up ρ 6 t ha) 7 t (zshl 1 (ρ 1 t))) 5 t 2)) he0 hw23 (he1 (by omega) (by omega)).1
            exact hw25
      · rw [if_neg h5]
        have g28 : (rR_valid ρ t) = 0 ∨ (rR_valid ρ t) = 1 := bR_valid _ _
        by_cases h29 : (rR_valid ρ t) ≠ 0
        · rw [if_pos h29]
          have g30 : 0 ≤ ρ 1 t ∧ ρ 1 t ≤ 3 := hw 1 t (by decide)
          have hw31 : z_wf (z_up ρ 6 t ha) := z_wf_up hw (show (0 : Int) ≤ ha by omega) (show ha ≤ (1 : Int) by omega)
          have g32 : z_rg (zshl 1 (ρ 1 t)) := iI_rg _
          have g33 := zshl_1 (n := (ρ 1 t)) ⟨by omega, by omega⟩
          have hw34 : z_wf (z_up (z_up ρ 6 t ha) 7 t (zshl 1 (ρ 1 t))) := z_wf_up hw31 (show (0 : Int) ≤ (zshl 1 (ρ 1 t)) by omega) (show (zshl 1 (ρ 1 t)) ≤ (15 : Int) by omega)
          by_cases h35 : ha ≠ 0
          · rw [if_pos h35]
            have hw36 : z_wf (z_up (z_up (z_up ρ 6 t ha) 7 t (zshl 1 (ρ 1 t))) 5 t 2) := z_wf_up hw34 (show (0 : Int) ≤ 2 by omega) (show 2 ≤ (9 : Int) by omega)
            have g37 : 0 ≤ ρ 2 t ∧ ρ 2 t ≤ 5 := hw 2 t (by decide)
            have hw38 : z_wf ((rR_send (z_up (z_up (z_up ρ 6 t ha) 7 t (zshl 1 (ρ 1 t))) 5 t 2) 2 (ρ 1 t) (ρ 2 t) t 0)).2 := wR_send hw36 2 (ρ 1 t) (ρ 2 t) t 0 ⟨by omega, by omega⟩ ⟨by omega, by omega⟩ ⟨by omega, by omega⟩ ⟨by omega, by omega⟩ ⟨by omega, by omega⟩ (zRm_room (ρ := (z_up (z_up (z_up ρ 6 t ha) 7 t (zshl 1 (ρ 1 t))) 5 t 2)) he0 (he1 (by omega) (by omega)).1 hw36)
            have hr39 : zRm P ((rR_send (z_up (z_up (z_up ρ 6 t ha) 7 t (zshl 1 (ρ 1 t))) 5 t 2) 2 (ρ 1 t) (ρ 2 t) t 0)).2 := zRm_send (ρ := (z_up (z_up (z_up ρ 6 t ha) 7 t (zshl 1 (ρ 1 t))) 5 t 2)) he0 hw36 (he1 (by omega) (by omega)).1
            exact hw38
          · rw [if_neg h35]
            have g41 : (rR_alone (z_up (z_up ρ 6 t ha) 7 t (zshl 1 (ρ 1 t))) t) = 0 ∨ (rR_alone (z_up (z_up ρ 6 t ha) 7 t (zshl 1 (ρ 1 t))) t) = 1 := bR_alone _ _
            by_cases h42 : (rR_alone (z_up (z_up ρ 6 t ha) 7 t (zshl 1 (ρ 1 t))) t) = 0
            · rw [if_pos h42]
              have hw43 : z_wf (z_up (z_up (z_up ρ 6 t ha) 7 t (zshl 1 (ρ 1 t))) 5 t 1) := z_wf_up hw34 (show (0 : Int) ≤ 1 by omega) (show 1 ≤ (9 : Int) by omega)
              have hw46 : z_wf (lR_propose_107 (z_up (z_up (z_up ρ 6 t ha) 7 t (zshl 1 (ρ 1 t))) 5 t 1) t ha 4 0 0 (ρ 1 t)).2 := wlR_propose_107 hw43 t ha hp0 hp1 4 0 0 (ρ 1 t)  (by omega) (by omega) he0 ⟨by omega, by omega⟩ (he1 (by omega) (by omega)).2 ⟨by omega, by omega⟩
              exact hw46
            · rw [if_neg h42]
              have hw47 : z_wf (z_up (z_up (z_up ρ 6 t ha) 7 t (zshl 1 (ρ 1 t))) 5 t 2) := z_wf_up hw34 (show (0 : Int) ≤ 2 by omega) (show 2 ≤ (9 : Int) by omega)
              have g48 : 0 ≤ ρ 2 t ∧ ρ 2 t ≤ 5 := hw 2 t (by decide)
              have hw49 : z_wf ((rR_send (z_up (z_up (z_up ρ 6 t ha) 7 t (zshl 1 (ρ 1 t))) 5 t 2) 2 (ρ 1 t) (ρ 2 t) t 0)).2 := wR_send hw47 2 (ρ 1 t) (ρ 2 t) t 0 ⟨by omega, by omega⟩ ⟨by omega, by omega⟩ ⟨by omega, by omega⟩ ⟨by omega, by omega⟩ ⟨by omega, by omega⟩ (zRm_room (ρ := (z_up (z_up (z_up ρ 6 t ha) 7 t (zshl 1 (ρ 1 t))) 5 t 2)) he0 (he1 (by omega) (by omega)).1 hw47)
              have hr50 : zRm P ((rR_send (z_up (z_up (z_up ρ 6 t ha) 7 t (zshl 1 (ρ 1 t))) 5 t 2) 2 (ρ 1 t) (ρ 2 t) t 0)).2 := zRm_send (ρ := (z_up (z_up (z_up ρ 6 t ha) 7 t (zshl 1 (ρ 1 t))) 5 t 2)) he0 hw47 (he1 (by omega) (by omega)).1
              exact hw49
        · rw [if_neg h29]
          exact hw
    · rw [if_neg h4]
      exact hw
  · rw [if_neg h2]
    exact hw

def lR_hear_34 (ρ : z_Sg) (t co fa : Int) (j : Nat) (k : Int) : z_Sg := match j with
  | 0 => ρ
  | j + 1 => if co ≠ 1 then ρ else if (rR_told ρ t k) = 0 then lR_hear_34 ρ t co fa j (k + 1) else lR_hear_34 ((rR_send ρ 4 (ρ 1 t) k t 0)).2 t co fa j (k + 1)
set_option maxRecDepth 100000 in
set_option maxHeartbeats 4000000 in
theorem eR_hear_34 {κ ρ : z_Sg} {a : Int → Nat} {B : List va_E} {Q : Option Value → List va_E → Prop} (hw : z_wf ρ) (t co fa : Int) {P : List Int} (hp0 : 0 ≤ t ∧ t ≤ 19) (hp1 : 0 ≤ co ∧ co ≤ 4) (hp2 : 0 ≤ fa ∧ fa ≤ 1) : ∀ (j : Nat) (k : Int) (nd : Int) (x4 : Value), 0 ≤ k → k + j = 4 → zRm P ρ → ρ 1 t = nd → (∀ n : Int, 0 ≤ n → n ≤ 3 → n ≠ nd → zcode 4 nd n t 0 ∈ P) → (∀ (y5 : Value), z_Ev mR_hear (6, 144) 0 0 77 [.ref 12, zi t, zi co, zi fa, x4, y5] [] (zM κ a (lR_hear_34 ρ t co fa j k) B) Q) → z_Ev mR_hear (6, 144) 0 0 34 [.ref 12, zi t, zi co, zi fa, x4, zi k] [] (zM κ a ρ B) Q := by
  intro j
  induction j generalizing ρ with
  | zero =>
    intro k nd x4 c0 c1 c2 c3 c4 hk
    refine ev_iload (q := 36) dR_hear_34 (by rfl) rfl ?_
    refine ev_iconst (v := iI 4) (q := 37) dR_hear_36 rfl rfl ?_
    refine zr_icmp_ge (t := 77) (q := 40) dR_hear_37 rfl rfl ⟨by omega, by omega⟩ ⟨by omega, by omega⟩ (fun h1 => ?_) (fun h1 => ?_)
    · exact hk _
    · exfalso
      omega
  | succ j ih =>
    intro k nd x4 c0 c1 c2 c3 c4 hk
    refine ev_iload (q := 36) dR_hear_34 (by rfl) rfl ?_
    refine ev_iconst (v := iI 4) (q := 37) dR_hear_36 rfl rfl ?_
    refine zr_icmp_ge (t := 77) (q := 40) dR_hear_37 rfl rfl ⟨by omega, by omega⟩ ⟨by omega, by omega⟩ (fun h1 => ?_) (fun h1 => ?_)
    · exfalso
      omega
    · refine ev_iload_n 2 (q := 41) dR_hear_40 rfl (by rfl) rfl ?_
      refine ev_iconst (v := iI 1) (q := 42) dR_hear_41 rfl rfl ?_
      refine zr_icmp_ne (t := 77) (q := 45) dR_hear_42 rfl rfl ⟨by omega, by omega⟩ ⟨by omega, by omega⟩ (fun h2 => ?_) (fun h2 => ?_)
      · rw [show lR_hear_34 ρ t co fa (j + 1) k = ρ from by rw [lR_hear_34, if_pos h2]] at hk
        exact hk _
      · refine ev_aload_n 0 (q := 46) dR_hear_45 rfl (by rfl) rfl ?_
        refine ev_iload_n 1 (q := 47) dR_hear_46 rfl (by rfl) rfl ?_
        refine ev_iload (q := 49) dR_hear_47 (by rfl) rfl ?_
        refine cv_V (As := [_, _]) (q := 52) dR_hear_49 kR_181 atR rfl rfl (Nat.le_of_ble_eq_true rfl) rfl rfl rfl (by decide) (sR_told hw t k ⟨by omega, by omega⟩ ⟨by omega, by omega⟩ ) ?_
        have g3 : (rR_told ρ t k) = 0 ∨ (rR_told ρ t k) = 1 := bR_told _ _ _
        refine zr_if_eq (t := 71) (q := 55) dR_hear_52 rfl rfl ⟨by omega, by omega⟩ (fun h4 => ?_) (fun h4 => ?_)
        · refine zr_iinc (q := 74) dR_hear_71 (by rfl) (by decide) rfl rfl ?_
          dsimp only [List.set]
          refine ev_goto (t := 34) (q := 34) dR_hear_74 rfl rfl ?_
          rw [show lR_hear_34 ρ t co fa (j + 1) k = lR_hear_34 ρ t co fa j (k + 1) from by rw [lR_hear_34, if_neg (fun z => z h2), if_pos h4]] at hk
          exact ih hw  (k + 1) nd x4 (by omega) (by omega) c2 (by first | exact c3 | (rw [kR_send hw _ _ _ _ _ (by decide) (by decide)]; exact c3)) c4 hk
        · have f9 := tR_told hw h4
          refine ev_aload_n 0 (q := 56) dR_hear_55 rfl (by rfl) rfl ?_
          refine ev_iconst (v := iI 4) (q := 57) dR_hear_56 rfl rfl ?_
          refine ev_aload_n 0 (q := 58) dR_hear_57 rfl (by rfl) rfl ?_
          refine ev_get (q := 61) dR_hear_58 fR_7 atR (by rfl) rfl ?_
          refine ev_iload_n 1 (q := 62) dR_hear_61 rfl (by rfl) rfl ?_
          refine zr_iald (q := 63) (g := ρ 1) dR_hear_62 at_begunBy (by decide) ⟨by omega, by omega⟩ rfl ?_
          have g5 : 0 ≤ ρ 1 t ∧ ρ 1 t ≤ 3 := hw 1 t (by decide)
          refine ev_iload (q := 65) dR_hear_63 (by rfl) rfl ?_
          refine ev_iload_n 1 (q := 66) dR_hear_65 rfl (by rfl) rfl ?_
          refine ev_iconst (v := iI 0) (q := 67) dR_hear_66 rfl rfl ?_
          refine cv_V (As := [_, _, _, _, _]) (q := 70) dR_hear_67 kR_146 atR rfl rfl (Nat.le_of_ble_eq_true rfl) rfl rfl rfl (by decide) (sR_send hw 4 (ρ 1 t) k t 0 ⟨by omega, by omega⟩ ⟨by omega, by omega⟩ ⟨by omega, by omega⟩ ⟨by omega, by omega⟩ ⟨by omega, by omega⟩ (zRm_room (ρ := ρ) c2 (by rw [c3]; exact c4 k (by omega) (by omega) (by omega)) hw)) ?_
          have hw6 : z_wf ((rR_send ρ 4 (ρ 1 t) k t 0)).2 := wR_send hw 4 (ρ 1 t) k t 0 ⟨by omega, by omega⟩ ⟨by omega, by omega⟩ ⟨by omega, by omega⟩ ⟨by omega, by omega⟩ ⟨by omega, by omega⟩ (zRm_room (ρ := ρ) c2 (by rw [c3]; exact c4 k (by omega) (by omega) (by omega)) hw)
          have hr7 : zRm P ((rR_send ρ 4 (ρ 1 t) k t 0)).2 := zRm_send (ρ := ρ) c2 hw (by rw [c3]; exact c4 k (by omega) (by omega) (by omega))
          refine ev_pop (q := 71) dR_hear_70 rfl rfl ?_
          refine zr_iinc (q := 74) dR_hear_71 (by rfl) (by decide) rfl rfl ?_
          dsimp only [List.set]
          refine ev_goto (t := 34) (q := 34) dR_hear_74 rfl rfl ?_
          rw [show lR_hear_34 ρ t co fa (j + 1) k = lR_hear_34 ((rR_send ρ 4 (ρ 1 t) k t 0)).2 t co fa j (k + 1) from by rw [lR_hear_34, if_neg (fun z => z h2), if_neg h4]] at hk
          exact ih hw6  (k + 1) nd x4 (by omega) (by omega) hr7 (by first | exact c3 | (rw [kR_send hw _ _ _ _ _ (by decide) (by decide)]; exact c3)) c4 hk
set_option maxRecDepth 100000 in
set_option maxHeartbeats 4000000 in
theorem wlR_hear_34 {ρ : z_Sg} (hw : z_wf ρ) (t co fa : Int) {P : List Int} (hp0 : 0 ≤ t ∧ t ≤ 19) (hp1 : 0 ≤ co ∧ co ≤ 4) (hp2 : 0 ≤ fa ∧ fa ≤ 1) : ∀ (j : Nat) (k : Int) (nd : Int), 0 ≤ k → k + j = 4 → zRm P ρ → ρ 1 t = nd → (∀ n : Int, 0 ≤ n → n ≤ 3 → n ≠ nd → zcode 4 nd n t 0 ∈ P) → z_wf (lR_hear_34 ρ t co fa j k) := by
  intro j
  induction j generalizing ρ with
  | zero =>
    intro k nd c0 c1 c2 c3 c4
    rw [lR_hear_34]
    exact hw
  | succ j ihw =>
    intro k nd c0 c1 c2 c3 c4
    rw [lR_hear_34]
    by_cases h2 : co ≠ 1
    · rw [if_pos h2]
      exact hw
    · rw [if_neg h2]
      have g3 : (rR_told ρ t k) = 0 ∨ (rR_told ρ t k) = 1 := bR_told _ _ _
      by_cases h4 : (rR_told ρ t k) = 0
      · rw [if_pos h4]
        exact ihw hw  (k + 1) nd (by omega) (by omega) c2 (by first | exact c3 | (rw [kR_send hw _ _ _ _ _ (by decide) (by decide)]; exact c3)) c4
      · rw [if_neg h4]
        have f9 := tR_told hw h4
        have g5 : 0 ≤ ρ 1 t ∧ ρ 1 t ≤ 3 := hw 1 t (by decide)
        have hw6 : z_wf ((rR_send ρ 4 (ρ 1 t) k t 0)).2 := wR_send hw 4 (ρ 1 t) k t 0 ⟨by omega, by omega⟩ ⟨by omega, by omega⟩ ⟨by omega, by omega⟩ ⟨by omega, by omega⟩ ⟨by omega, by omega⟩ (zRm_room (ρ := ρ) c2 (by rw [c3]; exact c4 k (by omega) (by omega) (by omega)) hw)
        have hr7 : zRm P ((rR_send ρ 4 (ρ 1 t) k t 0)).2 := zRm_send (ρ := ρ) c2 hw (by rw [c3]; exact c4 k (by omega) (by omega) (by omega))
        exact ihw hw6  (k + 1) nd (by omega) (by omega) hr7 (by first | exact c3 | (rw [kR_send hw _ _ _ _ _ (by decide) (by decide)]; exact c3)) c4
def rR_hear (ρ : z_Sg) (t co fa : Int) : Int × z_Sg := if (ρ 5 t) ≠ 1 then if (ρ 5 t) = 2 then if fa = 0 then if co ≠ 1 then if co ≠ 1 then (2, (z_up (lR_hear_34 ρ t co fa 4 0) 5 t (3 + co))) else if (rR_sound ρ t) = 0 then (2, (z_up (lR_hear_34 ρ t co fa 4 0) 5 t (3 + co))) else (2, (z_up (z_up (lR_hear_34 ρ t co fa 4 0) 5 t (3 + co)) 18 ((20 * ((lR_hear_34 ρ t co fa 4 0) 1 t)) + t) 2)) else if (rR_sound ρ t) = 0 then if co ≠ 1 then (2, (z_up (lR_hear_34 ρ t co fa 4 0) 5 t 8)) else if (rR_sound ρ t) = 0 then (2, (z_up (lR_hear_34 ρ t co fa 4 0) 5 t 8)) else (2, (z_up (z_up (lR_hear_34 ρ t co fa 4 0) 5 t 8) 18 ((20 * ((lR_hear_34 ρ t co fa 4 0) 1 t)) + t) 2)) else if co ≠ 1 then (2, (z_up (lR_hear_34 ρ t co fa 4 0) 5 t 3)) else if (rR_sound ρ t) = 0 then (2, (z_up (lR_hear_34 ρ t co fa 4 0) 5 t 3)) else (2, (z_up (z_up (lR_hear_34 ρ t co fa 4 0) 5 t 3) 18 ((20 * ((lR_hear_34 ρ t co fa 4 0) 1 t)) + t) 2)) else (2, (lR_hear_34 ρ t co fa 4 0)) else (1, ρ) else (0, ρ)
set_option maxRecDepth 100000 in
set_option maxHeartbeats 4000000 in
theorem sR_hear {κ ρ : z_Sg} {a : Int → Nat} {B : List va_E} (hw : z_wf ρ) (t co fa : Int) {P : List Int} (hp0 : 0 ≤ t ∧ t ≤ 19) (hp1 : 0 ≤ co ∧ co ≤ 4) (hp2 : 0 ≤ fa ∧ fa ≤ 1) (he0 : zRm P ρ) (he1 : (∀ n : Int, 0 ≤ n → n ≤ 3 → n ≠ ρ 1 t → zcode 4 (ρ 1 t) n t 0 ∈ P)) : z_Sp mR_hear (6, 144) 0 0 [.ref 12, zi t, zi co, zi fa] (zM κ a ρ B) (fun r M' => r = some (zi (rR_hear ρ t co fa).1) ∧ M' = zM κ a (rR_hear ρ t co fa).2 B) := by
  refine z_Sp_of (L := [.ref 12, zi t, zi co, zi fa, .float 0, .float 0]) (by decide) rfl rfl rfl (Nat.le_of_ble_eq_true rfl) ?_
  refine ev_aload_n 0 (q := 1) dR_hear_0 rfl (by rfl) rfl ?_
  refine ev_get (q := 4) dR_hear_1 fR_22 atR (by rfl) rfl ?_
  refine ev_iload_n 1 (q := 5) dR_hear_4 rfl (by rfl) rfl ?_
  refine zr_iald (q := 6) (g := ρ 5) dR_hear_5 at_stageOf (by decide) ⟨by omega, by omega⟩ rfl ?_
  have g1 : 0 ≤ ρ 5 t ∧ ρ 5 t ≤ 9 := hw 5 t (by decide)
  refine ev_iconst (v := iI 1) (q := 7) dR_hear_6 rfl rfl ?_
  refine zr_icmp_ne (t := 12) (q := 10) dR_hear_7 rfl rfl ⟨by omega, by omega⟩ ⟨by omega, by omega⟩ (fun h2 => ?_) (fun h2 => ?_)
  · refine ev_aload_n 0 (q := 13) dR_hear_12 rfl (by rfl) rfl ?_
    refine ev_get (q := 16) dR_hear_13 fR_22 atR (by rfl) rfl ?_
    refine ev_iload_n 1 (q := 17) dR_hear_16 rfl (by rfl) rfl ?_
    refine zr_iald (q := 18) (g := ρ 5) dR_hear_17 at_stageOf (by decide) ⟨by omega, by omega⟩ rfl ?_
    have g3 : 0 ≤ ρ 5 t ∧ ρ 5 t ≤ 9 := hw 5 t (by decide)
    refine ev_iconst (v := iI 2) (q := 19) dR_hear_18 rfl rfl ?_
    refine zr_icmp_eq (t := 24) (q := 22) dR_hear_19 rfl rfl ⟨by omega, by omega⟩ ⟨by omega, by omega⟩ (fun h4 => ?_) (fun h4 => ?_)
    · refine ev_aload_n 0 (q := 25) dR_hear_24 rfl (by rfl) rfl ?_
      refine ev_iload_n 1 (q := 26) dR_hear_25 rfl (by rfl) rfl ?_
      refine cv_V (As := [_]) (q := 29) dR_hear_26 kR_175 atR rfl rfl (Nat.le_of_ble_eq_true rfl) rfl rfl rfl (by decide) (sR_sound hw t ⟨by omega, by omega⟩ ) ?_
      have g5 : (rR_sound ρ t) = 0 ∨ (rR_sound ρ t) = 1 := bR_sound _ _
      refine ev_istore (q := 31) dR_hear_29 (by decide) rfl rfl ?_
      dsimp only [List.set]
      refine ev_iconst (v := iI 0) (q := 32) dR_hear_31 rfl rfl ?_
      refine ev_istore (q := 34) dR_hear_32 (by decide) rfl rfl ?_
      dsimp only [List.set]
      refine eR_hear_34 hw t co fa hp0 hp1 hp2 4 0 (ρ 1 t) (zi (rR_sound ρ t)) (by omega) (by omega) he0 rfl he1 (fun y6 => ?_)
      have hw7 : z_wf (lR_hear_34 ρ t co fa 4 0) := wlR_hear_34 hw t co fa hp0 hp1 hp2 4 0 (ρ 1 t) (by omega) (by omega) he0 rfl he1
      refine ev_iload_n 3 (q := 78) dR_hear_77 rfl (by rfl) rfl ?_
      refine zr_if_eq (t := 83) (q := 81) dR_hear_78 rfl rfl ⟨by omega, by omega⟩ (fun h8 => ?_) (fun h8 => ?_)
      · refine ev_aload_n 0 (q := 84) dR_hear_83 rfl (by rfl) rfl ?_
        refine ev_get (q := 87) dR_hear_84 fR_22 atR (by rfl) rfl ?_
        refine ev_iload_n 1 (q := 88) dR_hear_87 rfl (by rfl) rfl ?_
        refine ev_iload_n 2 (q := 89) dR_hear_88 rfl (by rfl) rfl ?_
        refine ev_iconst (v := iI 1) (q := 90) dR_hear_89 rfl rfl ?_
        refine zr_icmp_ne (t := 107) (q := 93) dR_hear_90 rfl rfl ⟨by omega, by omega⟩ ⟨by omega, by omega⟩ (fun h9 => ?_) (fun h9 => ?_)
        · refine ev_iconst (v := iI 3) (q := 108) dR_hear_107 rfl rfl ?_
          refine ev_iload_n 2 (q := 109) dR_hear_108 rfl (by rfl) rfl ?_
          refine zr_iadd (q := 110) dR_hear_109 rfl ?_
          refine zr_iast (q := 111) dR_hear_110 at_stageOf (by decide) ⟨by omega, by omega⟩ st_stageOf rfl ?_
          have hw10 : z_wf (z_up (lR_hear_34 ρ t co fa 4 0) 5 t (3 + co)) := z_wf_up hw7 (show (0 : Int) ≤ (3 + co) by omega) (show (3 + co) ≤ (9 : Int) by omega)
          refine ev_iload_n 2 (q := 112) dR_hear_111 rfl (by rfl) rfl ?_
          refine ev_iconst (v := iI 1) (q := 113) dR_hear_112 rfl rfl ?_
          refine zr_icmp_ne (t := 138) (q := 116) dR_hear_113 rfl rfl ⟨by omega, by omega⟩ ⟨by omega, by omega⟩ (fun h11 => ?_) (fun h11 => ?_)
          · refine ev_iconst (v := iI 2) (q := 139) dR_hear_138 rfl rfl ?_
            exact zr_iret dR_hear_139 rfl ⟨by rw [rR_hear, if_pos h2, if_pos h4, if_pos h8, if_pos h9, if_pos h11], by rw [rR_hear, if_pos h2, if_pos h4, if_pos h8, if_pos h9, if_pos h11]⟩
          · refine ev_iload (q := 118) dR_hear_116 (by rfl) rfl ?_
            refine zr_if_eq (t := 138) (q := 121) dR_hear_118 rfl rfl ⟨by omega, by omega⟩ (fun h12 => ?_) (fun h12 => ?_)
            · refine ev_iconst (v := iI 2) (q := 139) dR_hear_138 rfl rfl ?_
              exact zr_iret dR_hear_139 rfl ⟨by rw [rR_hear, if_pos h2, if_pos h4, if_pos h8, if_pos h9, if_neg (fun z => z h11), if_pos h12], by rw [rR_hear, if_pos h2, if_pos h4, if_pos h8, if_pos h9, if_neg (fun z => z h11), if_pos h12]⟩
            · refine ev_aload_n 0 (q := 122) dR_hear_121 rfl (by rfl) rfl ?_
              refine ev_get (q := 125) dR_hear_122 fR_62 atR (by rfl) rfl ?_
              refine ev_bipush (v := iI 20) (q := 127) dR_hear_125 (by decide) rfl ?_
              refine ev_aload_n 0 (q := 128) dR_hear_127 rfl (by rfl) rfl ?_
              refine ev_get (q := 131) dR_hear_128 fR_7 atR (by rfl) rfl ?_
              refine ev_iload_n 1 (q := 132) dR_hear_131 rfl (by rfl) rfl ?_
              refine zr_iald (q := 133) (g := (lR_hear_34 ρ t co fa 4 0) 1) dR_hear_132 at_begunBy (by decide) ⟨by omega, by omega⟩ rfl ?_
              have g13 : 0 ≤ (lR_hear_34 ρ t co fa 4 0) 1 t ∧ (lR_hear_34 ρ t co fa 4 0) 1 t ≤ 3 := hw7 1 t (by decide)
              refine zr_imul (q := 134) dR_hear_133 rfl ?_
              refine ev_iload_n 1 (q := 135) dR_hear_134 rfl (by rfl) rfl ?_
              refine zr_iadd (q := 136) dR_hear_135 rfl ?_
              refine ev_iconst (v := iI 2) (q := 137) dR_hear_136 rfl rfl ?_
              refine zr_iast (q := 138) dR_hear_137 at_knows (by decide) ⟨by omega, by omega⟩ st_knows rfl ?_
              have hw14 : z_wf (z_up (z_up (lR_hear_34 ρ t co fa 4 0) 5 t (3 + co)) 18 ((20 * ((lR_hear_34 ρ t co fa 4 0) 1 t)) + t) 2) := z_wf_up hw10 (show (0 : Int) ≤ 2 by omega) (show 2 ≤ (2 : Int) by omega)
              refine ev_iconst (v := iI 2) (q := 139) dR_hear_138 rfl rfl ?_
              exact zr_iret dR_hear_139 rfl ⟨by rw [rR_hear, if_pos h2, if_pos h4, if_pos h8, if_pos h9, if_neg (fun z => z h11), if_neg h12], by rw [rR_hear, if_pos h2, if_pos h4, if_pos h8, if_pos h9, if_neg (fun z => z h11), if_neg h12]⟩
        · refine ev_iload (q := 95) dR_hear_93 (by rfl) rfl ?_
          refine zr_if_eq (t := 102) (q := 98) dR_hear_95 rfl rfl ⟨by omega, by omega⟩ (fun h15 => ?_) (fun h15 => ?_)
          · refine ev_bipush (v := iI 8) (q := 104) dR_hear_102 (by decide) rfl ?_
            refine ev_goto (t := 110) (q := 110) dR_hear_104 rfl rfl ?_
            refine zr_iast (q := 111) dR_hear_110 at_stageOf (by decide) ⟨by omega, by omega⟩ st_stageOf rfl ?_
            have hw16 : z_wf (z_up (lR_hear_34 ρ t co fa 4 0) 5 t 8) := z_wf_up hw7 (show (0 : Int) ≤ 8 by omega) (show 8 ≤ (9 : Int) by omega)
            refine ev_iload_n 2 (q := 112) dR_hear_111 rfl (by rfl) rfl ?_
            refine ev_iconst (v := iI 1) (q := 113) dR_hear_112 rfl rfl ?_
            refine zr_icmp_ne (t := 138) (q := 116) dR_hear_113 rfl rfl ⟨by omega, by omega⟩ ⟨by omega, by omega⟩ (fun h17 => ?_) (fun h17 => ?_)
            · refine ev_iconst (v := iI 2) (q := 139) dR_hear_138 rfl rfl ?_
              exact zr_iret dR_hear_139 rfl ⟨by rw [rR_hear, if_pos h2, if_pos h4, if_pos h8, if_neg (fun z => z h9), if_pos h15, if_pos h17], by rw [rR_hear, if_pos h2, if_pos h4, if_pos h8, if_neg (fun z => z h9), if_pos h15, if_pos h17]⟩
            · refine ev_iload (q := 118) dR_hear_116 (by rfl) rfl ?_
              refine zr_if_eq (t := 138) (q := 121) dR_hear_118 rfl rfl ⟨by omega, by omega⟩ (fun h18 => ?_) (fun h18 => ?_)
              · refine ev_iconst (v := iI 2) (q := 139) dR_hear_138 rfl rfl ?_
                exact zr_iret dR_hear_139 rfl ⟨by rw [rR_hear, if_pos h2, if_pos h4, if_pos h8, if_neg (fun z => z h9), if_pos h15, if_neg (fun z => z h17), if_pos h18], by rw [rR_hear, if_pos h2, if_pos h4, if_pos h8, if_neg (fun z => z h9), if_pos h15, if_neg (fun z => z h17), if_pos h18]⟩
              · refine ev_aload_n 0 (q := 122) dR_hear_121 rfl (by rfl) rfl ?_
                refine ev_get (q := 125) dR_hear_122 fR_62 atR (by rfl) rfl ?_
                refine ev_bipush (v := iI 20) (q := 127) dR_hear_125 (by decide) rfl ?_
                refine ev_aload_n 0 (q := 128) dR_hear_127 rfl (by rfl) rfl ?_
                refine ev_get (q := 131) dR_hear_128 fR_7 atR (by rfl) rfl ?_
                refine ev_iload_n 1 (q := 132) dR_hear_131 rfl (by rfl) rfl ?_
                refine zr_iald (q := 133) (g := (lR_hear_34 ρ t co fa 4 0) 1) dR_hear_132 at_begunBy (by decide) ⟨by omega, by omega⟩ rfl ?_
                have g19 : 0 ≤ (lR_hear_34 ρ t co fa 4 0) 1 t ∧ (lR_hear_34 ρ t co fa 4 0) 1 t ≤ 3 := hw7 1 t (by decide)
                refine zr_imul (q := 134) dR_hear_133 rfl ?_
                refine ev_iload_n 1 (q := 135) dR_hear_134 rfl (by rfl) rfl ?_
                refine zr_iadd (q := 136) dR_hear_135 rfl ?_
                refine ev_iconst (v := iI 2) (q := 137) dR_hear_136 rfl rfl ?_
                refine zr_iast (q := 138) dR_hear_137 at_knows (by decide) ⟨by omega, by omega⟩ st_knows rfl ?_
                have hw20 : z_wf (z_up (z_up (lR_hear_34 ρ t co fa 4 0) 5 t 8) 18 ((20 * ((lR_hear_34 ρ t co fa 4 0) 1 t)) + t) 2) := z_wf_up hw16 (show (0 : Int) ≤ 2 by omega) (show 2 ≤ (2 : Int) by omega)
                refine ev_iconst (v := iI 2) (q := 139) dR_hear_138 rfl rfl ?_
                exact zr_iret dR_hear_139 rfl ⟨by rw [rR_hear, if_pos h2, if_pos h4, if_pos h8, if_neg (fun z => z h9), if_pos h15, if_neg (fun z => z h17), if_neg h18], by rw [rR_hear, if_pos h2, if_pos h4, if_pos h8, if_neg (fun z => z h9), if_pos h15, if_neg (fun z => z h17), if_neg h18]⟩
          · refine ev_iconst (v := iI 3) (q := 99) dR_hear_98 rfl rfl ?_
            refine ev_goto (t := 110) (q := 110) dR_hear_99 rfl rfl ?_
            refine zr_iast (q := 111) dR_hear_110 at_stageOf (by decide) ⟨by omega, by omega⟩ st_stageOf rfl ?_
            have hw21 : z_wf (z_up (lR_hear_34 ρ t co fa 4 0) 5 t 3) := z_wf_up hw7 (show (0 : Int) ≤ 3 by omega) (show 3 ≤ (9 : Int) by omega)
            refine ev_iload_n 2 (q := 112) dR_hear_111 rfl (by rfl) rfl ?_
            refine ev_iconst (v := iI 1) (q := 113) dR_hear_112 rfl rfl ?_
            refine zr_icmp_ne (t := 138) (q := 116) dR_hear_113 rfl rfl ⟨by omega, by omega⟩ ⟨by omega, by omega⟩ (fun h22 => ?_) (fun h22 => ?_)
            · refine ev_iconst (v := iI 2) (q := 139) dR_hear_138 rfl rfl ?_
              exact zr_iret dR_hear_139 rfl ⟨by rw [rR_hear, if_pos h2, if_pos h4, if_pos h8, if_neg (fun z => z h9), if_neg h15, if_pos h22], by rw [rR_hear, if_pos h2, if_pos h4, if_pos h8, if_neg (fun z => z h9), if_neg h15, if_pos h22]⟩
            · refine ev_iload (q := 118) dR_hear_116 (by rfl) rfl ?_
              refine zr_if_eq (t := 138) (q := 121) dR_hear_118 rfl rfl ⟨by omega, by omega⟩ (fun h23 => ?_) (fun h23 => ?_)
              · refine ev_iconst (v := iI 2) (q := 139) dR_hear_138 rfl rfl ?_
                exact zr_iret dR_hear_139 rfl ⟨by rw [rR_hear, if_pos h2, if_pos h4, if_pos h8, if_neg (fun z => z h9), if_neg h15, if_neg (fun z => z h22), if_pos h23], by rw [rR_hear, if_pos h2, if_pos h4, if_pos h8, if_neg (fun z => z h9), if_neg h15, if_neg (fun z => z h22), if_pos h23]⟩
              · refine ev_aload_n 0 (q := 122) dR_hear_121 rfl (by rfl) rfl ?_
                refine ev_get (q := 125) dR_hear_122 fR_62 atR (by rfl) rfl ?_
                refine ev_bipush (v := iI 20) (q := 127) dR_hear_125 (by decide) rfl ?_
                refine ev_aload_n 0 (q := 128) dR_hear_127 rfl (by rfl) rfl ?_
                refine ev_get (q := 131) dR_hear_128 fR_7 atR (by rfl) rfl ?_
                refine ev_iload_n 1 (q := 132) dR_hear_131 rfl (by rfl) rfl ?_
                refine zr_iald (q := 133) (g := (lR_hear_34 ρ t co fa 4 0) 1) dR_hear_132 at_begunBy (by decide) ⟨by omega, by omega⟩ rfl ?_
                have g24 : 0 ≤ (lR_hear_34 ρ t co fa 4 0) 1 t ∧ (lR_hear_34 ρ t co fa 4 0) 1 t ≤ 3 := hw7 1 t (by decide)
                refine zr_imul (q := 134) dR_hear_133 rfl ?_
                refine ev_iload_n 1 (q := 135) dR_hear_134 rfl (by rfl) rfl ?_
                refine zr_iadd (q := 136) dR_hear_135 rfl ?_
                refine ev_iconst (v := iI 2) (q := 137) dR_hear_136 rfl rfl ?_
                refine zr_iast (q := 138) dR_hear_137 at_knows (by decide) ⟨by omega, by omega⟩ st_knows rfl ?_
                have hw25 : z_wf (z_up (z_up (lR_hear_34 ρ t co fa 4 0) 5 t 3) 18 ((20 * ((lR_hear_34 ρ t co fa 4 0) 1 t)) + t) 2) := z_wf_up hw21 (show (0 : Int) ≤ 2 by omega) (show 2 ≤ (2 : Int) by omega)
                refine ev_iconst (v := iI 2) (q := 139) dR_hear_138 rfl rfl ?_
                exact zr_iret dR_hear_139 rfl ⟨by rw [rR_hear, if_pos h2, if_pos h4, if_pos h8, if_neg (fun z => z h9), if_neg h15, if_neg (fun z => z h22), if_neg h23], by rw [rR_hear, if_pos h2, if_pos h4, if_pos h8, if_neg (fun z => z h9), if_neg h15, if_neg (fun z => z h22), if_neg h23]⟩
      · refine ev_iconst (v := iI 2) (q := 82) dR_hear_81 rfl rfl ?_
        exact zr_iret dR_hear_82 rfl ⟨by rw [rR_hear, if_pos h2, if_pos h4, if_neg h8], by rw [rR_hear, if_pos h2, if_pos h4, if_neg h8]⟩
    · refine ev_iconst (v := iI 1) (q := 23) dR_hear_22 rfl rfl ?_
      exact zr_iret dR_hear_23 rfl ⟨by rw [rR_hear, if_pos h2, if_neg h4], by rw [rR_hear, if_pos h2, if_neg h4]⟩
  · refine ev_iconst (v := iI 0) (q := 11) dR_hear_10 rfl rfl ?_
    exact zr_iret dR_hear_11 rfl ⟨by rw [rR_hear, if_neg (fun z => z h2)], by rw [rR_hear, if_neg (fun z => z h2)]⟩
set_option maxRecDepth 100000 in
set_option maxHeartbeats 4000000 in
theorem wR_hear {ρ : z_Sg} (hw : z_wf ρ) (t co fa : Int) {P : List Int} (hp0 : 0 ≤ t ∧ t ≤ 19) (hp1 : 0 ≤ co ∧ co ≤ 4) (hp2 : 0 ≤ fa ∧ fa ≤ 1) (he0 : zRm P ρ) (he1 : (∀ n : Int, 0 ≤ n → n ≤ 3 → n ≠ ρ 1 t → zcode 4 (ρ 1 t) n t 0 ∈ P)) : z_wf (rR_hear ρ t co fa).2 := by
  rw [rR_hear]
  have g1 : 0 ≤ ρ 5 t ∧ ρ 5 t ≤ 9 := hw 5 t (by decide)
  by_cases h2 : (ρ 5 t) ≠ 1
  · rw [if_pos h2]
    have g3 : 0 ≤ ρ 5 t ∧ ρ 5 t ≤ 9 := hw 5 t (by decide)
    by_cases h4 : (ρ 5 t) = 2
    · rw [if_pos h4]
      have g5 : (rR_sound ρ t) = 0 ∨ (rR_sound ρ t) = 1 := bR_sound _ _
      have hw7 : z_wf (lR_hear_34 ρ t co fa 4 0) := wlR_hear_34 hw t co fa hp0 hp1 hp2 4 0 (ρ 1 t) (by omega) (by omega) he0 rfl he1
      by_cases h8 : fa = 0
      · rw [if_pos h8]
        by_cases h9 : co ≠ 1
        · rw [if_pos h9]
          have hw10 : z_wf (z_up (lR_hear_34 ρ t co fa 4 0) 5 t (3 + co)) := z_wf_up hw7 (show (0 : Int) ≤ (3 + co) by omega) (show (3 + co) ≤ (9 : Int) by omega)
          by_cases h11 : co ≠ 1
          · rw [if_pos h11]
            exact hw10
          · rw [if_neg h11]
            by_cases h12 : (rR_sound ρ t) = 0
            · rw [if_pos h12]
              exact hw10
            · rw [if_neg h12]
              have g13 : 0 ≤ (lR_hear_34 ρ t co fa 4 0) 1 t ∧ (lR_hear_34 ρ t co fa 4 0) 1 t ≤ 3 := hw7 1 t (by decide)
              have hw14 : z_wf (z_up (z_up (lR_hear_34 ρ t co fa 4 0) 5 t (3 + co)) 18 ((20 * ((lR_hear_34 ρ t co fa 4 0) 1 t)) + t) 2) := z_wf_up hw10 (show (0 : Int) ≤ 2 by omega) (show 2 ≤ (2 : Int) by omega)
              exact hw14
        · rw [if_neg h9]
          by_cases h15 : (rR_sound ρ t) = 0
          · rw [if_pos h15]
            have hw16 : z_wf (z_up (lR_hear_34 ρ t co fa 4 0) 5 t 8) := z_wf_up hw7 (show (0 : Int) ≤ 8 by omega) (show 8 ≤ (9 : Int) by omega)
            by_cases h17 : co ≠ 1
            · rw [if_pos h17]
              exact hw16
            · rw [if_neg h17]
              by_cases h18 : (rR_sound ρ t) = 0
              · rw [if_pos h18]
                exact hw16
              · rw [if_neg h18]
                have g19 : 0 ≤ (lR_hear_34 ρ t co fa 4 0) 1 t ∧ (lR_hear_34 ρ t co fa 4 0) 1 t ≤ 3 := hw7 1 t (by decide)
                have hw20 : z_wf (z_up (z_up (lR_hear_34 ρ t co fa 4 0) 5 t 8) 18 ((20 * ((lR_hear_34 ρ t co fa 4 0) 1 t)) + t) 2) := z_wf_up hw16 (show (0 : Int) ≤ 2 by omega) (show 2 ≤ (2 : Int) by omega)
                exact hw20
          · rw [if_neg h15]
            have hw21 : z_wf (z_up (lR_hear_34 ρ t co fa 4 0) 5 t 3) := z_wf_up hw7 (show (0 : Int) ≤ 3 by omega) (show 3 ≤ (9 : Int) by omega)
            by_cases h22 : co ≠ 1
            · rw [if_pos h22]
              exact hw21
            · rw [if_neg h22]
              by_cases h23 : (rR_sound ρ t) = 0
              · rw [if_pos h23]
                exact hw21
              · rw [if_neg h23]
                have g24 : 0 ≤ (lR_hear_34 ρ t co fa 4 0) 1 t ∧ (lR_hear_34 ρ t co fa 4 0) 1 t ≤ 3 := hw7 1 t (by decide)
                have hw25 : z_wf (z_up (z_up (lR_hear_34 ρ t co fa 4 0) 5 t 3) 18 ((20 * ((lR_hear_34 ρ t co fa 4 0) 1 t)) + t) 2) := z_wf_up hw21 (show (0 : Int) ≤ 2 by omega) (show 2 ≤ (2 : Int) by omega)
                exact hw25
      · rw [if_neg h8]
        exact hw7
    · rw [if_neg h4]
      exact hw
  · rw [if_neg h2]
    exact hw
