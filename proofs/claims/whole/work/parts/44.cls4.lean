def lT_concerned_11 (γ : z_Sg) (t : Int) (j : Nat) (k se n : Int) : Int × Int := match j with
  | 0 => (se, n)
  | j + 1 => if (cS_concerns γ (γ 33 (4 * (2 * t + 1) + k)) n) = 0 then lT_concerned_11 γ t j (k + 1) se n else lT_concerned_11 γ t j (k + 1) (zor se (cH_bit γ n)) n
set_option maxRecDepth 100000 in
set_option maxHeartbeats 4000000 in
theorem eT_concerned_11 {g : z_Gl} {γ ρ : z_Sg} {Q : Option Value → List va_E → Prop} (hc : zC g γ) (t : Int) (hp0 : 0 ≤ t ∧ t < γ 0 0) : ∀ (j : Nat) (k se n : Int), 0 ≤ k → k + j = γ 32 (2 * t + 1) → (0 ≤ n ∧ n ≤ 3) → (0 ≤ se ∧ se ≤ 15) → (∀ (y3 : Value), z_Ev mT_concerned (2, 42) 0 0 51 [.ref (g.1 t), zi ((lT_concerned_11 γ t j k se n).1), zi ((lT_concerned_11 γ t j k se n).2), y3] [] (zH g γ ρ) Q) → z_Ev mT_concerned (2, 42) 0 0 11 [.ref (g.1 t), zi se, zi n, zi k] [] (zH g γ ρ) Q := by
  intro j
  induction j with
  | zero =>
    intro k se n   c0 c1 c2 c3 hk
    refine ev_iload_n 3 (q := 12) dT_concerned_11 rfl (by rfl) rfl ?_
    refine ev_aload_n 0 (q := 13) dT_concerned_12 rfl (by rfl) rfl ?_
    refine ev_get (q := 16) dT_concerned_13 fT_34 (at_T hc.2.1 hp0) (by rfl) rfl ?_
    refine ev_get (q := 19) (v := zi (γ 32 (2 * t + 1))) dT_concerned_16 fT_56 (at_L hc.2.1 (zl1 hp0)) rfl rfl ?_
    have g1 : 0 ≤ γ 32 (2 * t + 1) ∧ γ 32 (2 * t + 1) ≤ 4 := hc.1 32 (2 * t + 1) (by decide)
    refine zr_icmp_ge (t := 51) (q := 22) dT_concerned_19 rfl rfl ⟨by omega, by omega⟩ ⟨by omega, by omega⟩ (fun h2 => ?_) (fun h2 => ?_)
    · exact hk _
    · exfalso
      omega
  | succ j ih =>
    intro k se n   c0 c1 c2 c3 hk
    refine ev_iload_n 3 (q := 12) dT_concerned_11 rfl (by rfl) rfl ?_
    refine ev_aload_n 0 (q := 13) dT_concerned_12 rfl (by rfl) rfl ?_
    refine ev_get (q := 16) dT_concerned_13 fT_34 (at_T hc.2.1 hp0) (by rfl) rfl ?_
    refine ev_get (q := 19) (v := zi (γ 32 (2 * t + 1))) dT_concerned_16 fT_56 (at_L hc.2.1 (zl1 hp0)) rfl rfl ?_
    have g1 : 0 ≤ γ 32 (2 * t + 1) ∧ γ 32 (2 * t + 1) ≤ 4 := hc.1 32 (2 * t + 1) (by decide)
    refine zr_icmp_ge (t := 51) (q := 22) dT_concerned_19 rfl rfl ⟨by omega, by omega⟩ ⟨by omega, by omega⟩ (fun h2 => ?_) (fun h2 => ?_)
    · exfalso
      omega
    · refine ev_aload_n 0 (q := 23) dT_concerned_22 rfl (by rfl) rfl ?_
      refine ev_get (q := 26) dT_concerned_23 fT_34 (at_T hc.2.1 hp0) (by rfl) rfl ?_
      refine ev_get (q := 29) dT_concerned_26 fT_93 (at_L hc.2.1 (zl1 hp0)) (by rfl) rfl ?_
      refine ev_iload_n 3 (q := 30) dT_concerned_29 rfl (by rfl) rfl ?_
      refine zr_aald (q := 31) dT_concerned_30 (fun _ => ⟨_, rfl⟩) (at_E hc.2.1 (zl1 hp0)) (by decide) ⟨by omega, by omega⟩ (if_pos ⟨by omega, by omega⟩) rfl ?_
      have s3 : zEx γ (γ 33 (4 * (2 * t + 1) + k)) := hc.2.2.1 (2 * t + 1) k (zl1 hp0).1 (zl1 hp0).2 (by omega) (by omega)
      have g4 : 0 ≤ γ 33 (4 * (2 * t + 1) + k) ∧ γ 33 (4 * (2 * t + 1) + k) ≤ 79 := hc.1 33 _ (by decide)
      refine ev_iload_n 2 (q := 32) dT_concerned_31 rfl (by rfl) rfl ?_
      refine cv_V (As := [_]) (q := 35) dT_concerned_32 kT_144 (at_S hc.2.1 s3) rfl rfl (Nat.le_of_ble_eq_true rfl) rfl rfl rfl (by decide) (sS_concerns hc (γ 33 (4 * (2 * t + 1) + k)) n s3 ⟨by omega, by omega⟩ ) ?_
      have g5 : (cS_concerns γ (γ 33 (4 * (2 * t + 1) + k)) n) = 0 ∨ (cS_concerns γ (γ 33 (4 * (2 * t + 1) + k)) n) = 1 := bS_concerns _ _ _
      refine zr_if_eq (t := 45) (q := 38) dT_concerned_35 rfl rfl ⟨by omega, by omega⟩ (fun h6 => ?_) (fun h6 => ?_)
      · refine zr_iinc (q := 48) dT_concerned_45 (by rfl) (by decide) rfl rfl ?_
        dsimp only [List.set]
        refine ev_goto (t := 11) (q := 11) dT_concerned_48 rfl rfl ?_
        rw [show lT_concerned_11 γ t (j + 1) k se n = lT_concerned_11 γ t j (k + 1) se n from by rw [lT_concerned_11, if_pos h6]] at hk
        exact ih   (k + 1) se n   (by omega) (by omega) c2 (by omega) hk
      · refine ev_iload_n 1 (q := 39) dT_concerned_38 rfl (by rfl) rfl ?_
        refine ev_iload_n 2 (q := 40) dT_concerned_39 rfl (by rfl) rfl ?_
        refine cv_N (As := [_]) (q := 43) dT_concerned_40 kT_46 rfl (Nat.le_of_ble_eq_true rfl) rfl rfl rfl (by decide) (sH_bit hc n ⟨by omega, by omega⟩ ) ?_
        have g7 := bH_bit γ (p := n) ⟨by omega, by omega⟩
        refine zr_ior (q := 44) dT_concerned_43 rfl ?_
        have g8 : z_rg (zor se (cH_bit γ n)) := iI_rg _
        have g9 := zor_15 (a := se) (b := (cH_bit γ n)) ⟨by omega, by omega⟩ ⟨by omega, by omega⟩
        refine ev_istore_n 1 (q := 45) dT_concerned_44 rfl (by decide) rfl rfl ?_
        dsimp only [List.set]
        refine zr_iinc (q := 48) dT_concerned_45 (by rfl) (by decide) rfl rfl ?_
        dsimp only [List.set]
        refine ev_goto (t := 11) (q := 11) dT_concerned_48 rfl rfl ?_
        rw [show lT_concerned_11 γ t (j + 1) k se n = lT_concerned_11 γ t j (k + 1) (zor se (cH_bit γ n)) n from by rw [lT_concerned_11, if_neg h6]] at hk
        exact ih   (k + 1) (zor se (cH_bit γ n)) n   (by omega) (by omega) c2 (by omega) hk
theorem fT_concerned_11 {g : z_Gl} {γ : z_Sg} (hc : zC g γ) (t : Int) (ht : 0 ≤ t ∧ t < γ 0 0) : ∀ (j : Nat) (k se n : Int), 0 ≤ k → k + j = γ 32 (2 * t + 1) → (0 ≤ n ∧ n ≤ 3) → (0 ≤ se ∧ se ≤ 15) → (0 ≤ (lT_concerned_11 γ t j k se n).1 ∧ (lT_concerned_11 γ t j k se n).1 ≤ 15) ∧ (lT_concerned_11 γ t j k se n).2 = n := by
  intro j
  induction j with
  | zero => intro k se n h0 h1 h2 h3; exact ⟨h3, rfl⟩
  | succ j ih =>
    intro k se n h0 h1 h2 h3
    have gb := bH_bit γ (p := n) ⟨by omega, by omega⟩
    rw [lT_concerned_11]
    split
    · exact ih _ _ _ (by omega) (by omega) h2 h3
    · exact ih _ _ _ (by omega) (by omega) h2 (zor_15 h3 ⟨by omega, by omega⟩)
def lT_concerned_4 (γ : z_Sg) (t : Int) (j : Nat) (k se : Int) : Int := match j with
  | 0 => (se)
  | j + 1 => lT_concerned_4 γ t j ((lT_concerned_11 γ t (γ 32 (2 * t + 1)).toNat 0 se k).2 + 1) ((lT_concerned_11 γ t (γ 32 (2 * t + 1)).toNat 0 se k).1)
set_option maxRecDepth 100000 in
set_option maxHeartbeats 4000000 in
theorem eT_concerned_4 {g : z_Gl} {γ ρ : z_Sg} {Q : Option Value → List va_E → Prop} (hc : zC g γ) (t : Int) (hp0 : 0 ≤ t ∧ t < γ 0 0) : ∀ (j : Nat) (k se : Int) (x3 : Value), 0 ≤ k → k + j = 4 → (0 ≤ se ∧ se ≤ 15) → (∀ (y2 y3 : Value), z_Ev mT_concerned (2, 42) 0 0 57 [.ref (g.1 t), zi (lT_concerned_4 γ t j k se), y2, y3] [] (zH g γ ρ) Q) → z_Ev mT_concerned (2, 42) 0 0 4 [.ref (g.1 t), zi se, zi k, x3] [] (zH g γ ρ) Q := by
  intro j
  induction j with
  | zero =>
    intro k se  x3 c0 c1 c2 hk
    refine ev_iload_n 2 (q := 5) dT_concerned_4 rfl (by rfl) rfl ?_
    refine ev_iconst (v := iI 4) (q := 6) dT_concerned_5 rfl rfl ?_
    refine zr_icmp_ge (t := 57) (q := 9) dT_concerned_6 rfl rfl ⟨by omega, by omega⟩ ⟨by omega, by omega⟩ (fun h1 => ?_) (fun h1 => ?_)
    · exact hk _ _
    · exfalso
      omega
  | succ j ih =>
    intro k se  x3 c0 c1 c2 hk
    refine ev_iload_n 2 (q := 5) dT_concerned_4 rfl (by rfl) rfl ?_
    refine ev_iconst (v := iI 4) (q := 6) dT_concerned_5 rfl rfl ?_
    refine zr_icmp_ge (t := 57) (q := 9) dT_concerned_6 rfl rfl ⟨by omega, by omega⟩ ⟨by omega, by omega⟩ (fun h1 => ?_) (fun h1 => ?_)
    · exfalso
      omega
    · refine ev_iconst (v := iI 0) (q := 10) dT_concerned_9 rfl rfl ?_
      refine ev_istore_n 3 (q := 11) dT_concerned_10 rfl (by decide) rfl rfl ?_
      dsimp only [List.set]
      have g2 : 0 ≤ γ 32 (2 * t + 1) ∧ γ 32 (2 * t + 1) ≤ 4 := hc.1 32 (2 * t + 1) (by decide)
      refine eT_concerned_11 hc t hp0 (γ 32 (2 * t + 1)).toNat 0 se k   (by omega) (by omega) ⟨by omega, by omega⟩ (by omega) (fun y3 => ?_)
      have u5 := fT_concerned_11 hc t hp0 (γ 32 (2 * t + 1)).toNat 0 se k (by omega) (by omega) ⟨by omega, by omega⟩ ⟨by omega, by omega⟩
      refine zr_iinc (q := 54) dT_concerned_51 (by rfl) (by decide) rfl rfl ?_
      dsimp only [List.set]
      refine ev_goto (t := 4) (q := 4) dT_concerned_54 rfl rfl ?_
      rw [show lT_concerned_4 γ t (j + 1) k se = lT_concerned_4 γ t j ((lT_concerned_11 γ t (γ 32 (2 * t + 1)).toNat 0 se k).2 + 1) ((lT_concerned_11 γ t (γ 32 (2 * t + 1)).toNat 0 se k).1) from by rw [lT_concerned_4]] at hk
      exact ih   ((lT_concerned_11 γ t (γ 32 (2 * t + 1)).toNat 0 se k).2 + 1) ((lT_concerned_11 γ t (γ 32 (2 * t + 1)).toNat 0 se k).1)  y3 (by omega) (by omega) (by omega) hk
def cT_concerned (γ : z_Sg) (t : Int) : Int := (lT_concerned_4 γ t 4 0 0)
set_option maxRecDepth 100000 in
set_option maxHeartbeats 4000000 in
theorem sT_concerned {g : z_Gl} {γ ρ : z_Sg} (hc : zC g γ) (t : Int) (hp0 : 0 ≤ t ∧ t < γ 0 0) : z_Sp mT_concerned (2, 42) 0 0 [.ref (g.1 t)] (zH g γ ρ) (fun r M' => r = some (zi (cT_concerned γ t)) ∧ M' = zH g γ ρ) := by
  refine z_Sp_of (L := [.ref (g.1 t), .float 0, .float 0, .float 0]) (by decide) rfl rfl rfl (Nat.le_of_ble_eq_true rfl) ?_
  refine ev_iconst (v := iI 0) (q := 1) dT_concerned_0 rfl rfl ?_
  refine ev_istore_n 1 (q := 2) dT_concerned_1 rfl (by decide) rfl rfl ?_
  dsimp only [List.set]
  refine ev_iconst (v := iI 0) (q := 3) dT_concerned_2 rfl rfl ?_
  refine ev_istore_n 2 (q := 4) dT_concerned_3 rfl (by decide) rfl rfl ?_
  dsimp only [List.set]
  refine eT_concerned_4 hc t hp0 4 0 0  (.float 0) (by omega) (by omega) (by omega) (fun y1 y2 => ?_)
  refine ev_iload_n 1 (q := 58) dT_concerned_57 rfl (by rfl) rfl ?_
  exact zr_iret dT_concerned_58 rfl ⟨by rw [cT_concerned], rfl⟩

theorem bT_concerned {g : z_Gl} {γ : z_Sg} (hc : zC g γ) (t : Int) (ht : 0 ≤ t ∧ t < γ 0 0) : 0 ≤ cT_concerned γ t ∧ cT_concerned γ t ≤ 15 := by
  have gl : 0 ≤ γ 32 (2 * t + 1) ∧ γ 32 (2 * t + 1) ≤ 4 := hc.1 32 _ (by decide)
  have key : ∀ (j : Nat) (k se : Int), 0 ≤ k → k + j = 4 → (0 ≤ se ∧ se ≤ 15) → 0 ≤ lT_concerned_4 γ t j k se ∧ lT_concerned_4 γ t j k se ≤ 15 := by
    intro j
    induction j with
    | zero => intro k se h0 h1 h2; exact h2
    | succ j ih =>
      intro k se h0 h1 h2
      have f := fT_concerned_11 hc t ht (γ 32 (2 * t + 1)).toNat 0 se k (by omega) (by omega) ⟨by omega, by omega⟩ h2
      rw [lT_concerned_4]
      exact ih _ _ (by omega) (by omega) f.1
  exact key _ _ _ (by omega) (by omega) ⟨by omega, by omega⟩

def cT_decide (γ : z_Sg) (t n ag : Int) : Int × z_Sg := if (cH_has γ (γ 29 t) n) = 0 then if ag = 0 then (0, (z_up γ 29 t (zor (γ 29 t) (cH_bit γ n)))) else (0, (z_up (z_up γ 29 t (zor (γ 29 t) (cH_bit γ n))) 30 t (zor (γ 30 t) (cH_bit (z_up γ 29 t (zor (γ 29 t) (cH_bit γ n))) n)))) else (0, γ)
set_option maxRecDepth 100000 in
set_option maxHeartbeats 4000000 in
theorem sT_decide {g : z_Gl} {γ ρ : z_Sg} (hc : zC g γ) (t n ag : Int) (hp0 : 0 ≤ t ∧ t < γ 0 0) (hp1 : 0 ≤ n ∧ n ≤ 3) (hp2 : 0 ≤ ag ∧ ag ≤ 1) : z_Sp mT_decide (2, 41) 0 0 [.ref (g.1 t), zi n, zi ag] (zH g γ ρ) (fun r M' => r = none ∧ M' = zH g (cT_decide γ t n ag).2 ρ) := by
  refine z_Sp_of (L := [.ref (g.1 t), zi n, zi ag]) (by decide) rfl rfl rfl (Nat.le_of_ble_eq_true rfl) ?_
  refine ev_aload_n 0 (q := 1) dT_decide_0 rfl (by rfl) rfl ?_
  refine ev_get (q := 4) (v := zi (γ 29 t)) dT_decide_1 fT_62 (at_T hc.2.1 hp0) rfl rfl ?_
  have g1 : 0 ≤ γ 29 t ∧ γ 29 t ≤ 15 := hc.1 29 t (by decide)
  refine ev_iload_n 1 (q := 5) dT_decide_4 rfl (by rfl) rfl ?_
  refine cv_N (As := [_, _]) (q := 8) dT_decide_5 kT_65 rfl (Nat.le_of_ble_eq_true rfl) rfl rfl rfl (by decide) (sH_has hc (γ 29 t) n ⟨by omega, by omega⟩ ⟨by omega, by omega⟩ ) ?_
  have g2 : (cH_has γ (γ 29 t) n) = 0 ∨ (cH_has γ (γ 29 t) n) = 1 := bH_has _ _ _
  refine zr_if_eq (t := 12) (q := 11) dT_decide_8 rfl rfl ⟨by omega, by omega⟩ (fun h3 => ?_) (fun h3 => ?_)
  · refine ev_aload_n 0 (q := 13) dT_decide_12 rfl (by rfl) rfl ?_
    refine ev_dup (q := 14) dT_decide_13 rfl rfl ?_
    refine ev_get (q := 17) (v := zi (γ 29 t)) dT_decide_14 fT_62 (at_T hc.2.1 hp0) rfl rfl ?_
    have g4 : 0 ≤ γ 29 t ∧ γ 29 t ≤ 15 := hc.1 29 t (by decide)
    refine ev_iload_n 1 (q := 18) dT_decide_17 rfl (by rfl) rfl ?_
    refine cv_N (As := [_]) (q := 21) dT_decide_18 kT_46 rfl (Nat.le_of_ble_eq_true rfl) rfl rfl rfl (by decide) (sH_bit hc n ⟨by omega, by omega⟩ ) ?_
    have g5 := bH_bit γ (p := n) ⟨by omega, by omega⟩
    refine zr_ior (q := 22) dT_decide_21 rfl ?_
    have g6 : z_rg (zor (γ 29 t) (cH_bit γ n)) := iI_rg _
    have g7 := zor_15 (a := (γ 29 t)) (b := (cH_bit γ n)) ⟨by omega, by omega⟩ ⟨by omega, by omega⟩
    refine zr_puti (q := 25) dT_decide_22 gT_62 (at_T hc.2.1 hp0) (Nat.le_of_ble_eq_true rfl) rfl (ct_decided hc.2.1 hp0) rfl ?_
    have hc8 : zC g (z_up γ 29 t (zor (γ 29 t) (cH_bit γ n))) := zC_up hc (by decide) (by decide) (by decide) (show (0 : Int) ≤ (zor (γ 29 t) (cH_bit γ n)) by omega) (show (zor (γ 29 t) (cH_bit γ n)) ≤ (15 : Int) by omega)
    refine ev_iload_n 2 (q := 26) dT_decide_25 rfl (by rfl) rfl ?_
    refine zr_if_eq (t := 42) (q := 29) dT_decide_26 rfl rfl ⟨by omega, by omega⟩ (fun h9 => ?_) (fun h9 => ?_)
    · exact ev_ret dT_decide_42 rfl ⟨rfl, by rw [cT_decide, if_pos h3, if_pos h9]⟩
    · refine ev_aload_n 0 (q := 30) dT_decide_29 rfl (by rfl) rfl ?_
      refine ev_dup (q := 31) dT_decide_30 rfl rfl ?_
      refine ev_get (q := 34) (v := zi (γ 30 t)) dT_decide_31 fT_69 (at_T hc8.2.1 hp0) rfl rfl ?_
      have g10 : 0 ≤ γ 30 t ∧ γ 30 t ≤ 15 := hc.1 30 t (by decide)
      refine ev_iload_n 1 (q := 35) dT_decide_34 rfl (by rfl) rfl ?_
      refine cv_N (As := [_]) (q := 38) dT_decide_35 kT_46 rfl (Nat.le_of_ble_eq_true rfl) rfl rfl rfl (by decide) (sH_bit hc8 n ⟨by omega, by omega⟩ ) ?_
      have g11 := bH_bit (z_up γ 29 t (zor (γ 29 t) (cH_bit γ n))) (p := n) ⟨by omega, by omega⟩
      refine zr_ior (q := 39) dT_decide_38 rfl ?_
      have g12 : z_rg (zor (γ 30 t) (cH_bit (z_up γ 29 t (zor (γ 29 t) (cH_bit γ n))) n)) := iI_rg _
      have g13 := zor_15 (a := (γ 30 t)) (b := (cH_bit (z_up γ 29 t (zor (γ 29 t) (cH_bit γ n))) n)) ⟨by omega, by omega⟩ ⟨by omega, by omega⟩
      refine zr_puti (q := 42) dT_decide_39 gT_69 (at_T hc8.2.1 hp0) (Nat.le_of_ble_eq_true rfl) rfl (ct_agreed hc8.2.1 hp0) rfl ?_
      have hc14 : zC g (z_up (z_up γ 29 t (zor (γ 29 t) (cH_bit γ n))) 30 t (zor (γ 30 t) (cH_bit (z_up γ 29 t (zor (γ 29 t) (cH_bit γ n))) n))) := zC_up hc8 (by decide) (by decide) (by decide) (show (0 : Int) ≤ (zor (γ 30 t) (cH_bit (z_up γ 29 t (zor (γ 29 t) (cH_bit γ n))) n)) by omega) (show (zor (γ 30 t) (cH_bit (z_up γ 29 t (zor (γ 29 t) (cH_bit γ n))) n)) ≤ (15 : Int) by omega)
      exact ev_ret dT_decide_42 rfl ⟨rfl, by rw [cT_decide, if_pos h3, if_neg h9]⟩
  · exact ev_ret dT_decide_11 rfl ⟨rfl, by rw [cT_decide, if_neg h3]⟩
set_option maxRecDepth 100000 in
set_option maxHeartbeats 4000000 in
theorem wT_decide {g : z_Gl} {γ : z_Sg} (hc : zC g γ) (t n ag : Int) (hp0 : 0 ≤ t ∧ t < γ 0 0) (hp1 : 0 ≤ n ∧ n ≤ 3) (hp2 : 0 ≤ ag ∧ ag ≤ 1) : zC g (cT_decide γ t n ag).2 := by
  rw [cT_decide]
  have g1 : 0 ≤ γ 29 t ∧ γ 29 t ≤ 15 := hc.1 29 t (by decide)
  have g2 : (cH_has γ (γ 29 t) n) = 0 ∨ (cH_has γ (γ 29 t) n) = 1 := bH_has _ _ _
  by_cases h3 : (cH_has γ (γ 29 t) n) = 0
  · rw [if_pos h3]
    have g4 : 0 ≤ γ 29 t ∧ γ 29 t ≤ 15 := hc.1 29 t (by decide)
    have g5 := bH_bit γ (p := n) ⟨by omega, by omega⟩
    have g6 : z_rg (zor (γ 29 t) (cH_bit γ n)) := iI_rg _
    have g7 := zor_15 (a := (γ 29 t)) (b := (cH_bit γ n)) ⟨by omega, by omega⟩ ⟨by omega, by omega⟩
    have hc8 : zC g (z_up γ 29 t (zor (γ 29 t) (cH_bit γ n))) := zC_up hc (by decide) (by decide) (by decide) (show (0 : Int) ≤ (zor (γ 29 t) (cH_bit γ n)) by omega) (show (zor (γ 29 t) (cH_bit γ n)) ≤ (15 : Int) by omega)
    by_cases h9 : ag = 0
    · rw [if_pos h9]
      exact hc8
    · rw [if_neg h9]
      have g10 : 0 ≤ γ 30 t ∧ γ 30 t ≤ 15 := hc.1 30 t (by decide)
      have g11 := bH_bit (z_up γ 29 t (zor (γ 29 t) (cH_bit γ n))) (p := n) ⟨by omega, by omega⟩
      have g12 : z_rg (zor (γ 30 t) (cH_bit (z_up γ 29 t (zor (γ 29 t) (cH_bit γ n))) n)) := iI_rg _
      have g13 := zor_15 (a := (γ 30 t)) (b := (cH_bit (z_up γ 29 t (zor (γ 29 t) (cH_bit γ n))) n)) ⟨by omega, by omega⟩ ⟨by omega, by omega⟩
      have hc14 : zC g (z_up (z_up γ 29 t (zor (γ 29 t) (cH_bit γ n))) 30 t (zor (γ 30 t) (cH_bit (z_up γ 29 t (zor (γ 29 t) (cH_bit γ n))) n))) := zC_up hc8 (by decide) (by decide) (by decide) (show (0 : Int) ≤ (zor (γ 30 t) (cH_bit (z_up γ 29 t (zor (γ 29 t) (cH_bit γ n))) n)) by omega) (show (zor (γ 30 t) (cH_bit (z_up γ 29 t (zor (γ 29 t) (cH_bit γ n))) n)) ≤ (15 : Int) by omega)
      exact hc14
  · rw [if_neg h3]
    exact hc

def cT_seal (γ : z_Sg) (t ha : Int) : Int × z_Sg := if (cT_isValid (z_up (z_up γ 28 t (cH_bit γ (γ 20 t))) 26 t (cT_needs (z_up γ 28 t (cH_bit γ (γ 20 t))) t)) t) = 0 then (0, (z_up (z_up (z_up γ 28 t (cH_bit γ (γ 20 t))) 26 t (cT_needs (z_up γ 28 t (cH_bit γ (γ 20 t))) t)) 27 t 0)) else if ha = 0 then (0, (z_up (z_up (z_up γ 28 t (cH_bit γ (γ 20 t))) 26 t (cT_needs (z_up γ 28 t (cH_bit γ (γ 20 t))) t)) 27 t 1)) else if (cT_needsNobodyElse (z_up (z_up γ 28 t (cH_bit γ (γ 20 t))) 26 t (cT_needs (z_up γ 28 t (cH_bit γ (γ 20 t))) t)) t) = 0 then (0, (z_up (z_up (z_up γ 28 t (cH_bit γ (γ 20 t))) 26 t (cT_needs (z_up γ 28 t (cH_bit γ (γ 20 t))) t)) 27 t 0)) else (0, (z_up (z_up (z_up γ 28 t (cH_bit γ (γ 20 t))) 26 t (cT_needs (z_up γ 28 t (cH_bit γ (γ 20 t))) t)) 27 t 1))
set_option maxRecDepth 100000 in
set_option maxHeartbeats 4000000 in
theorem sT_seal {g : z_Gl} {γ ρ : z_Sg} (hc : zC g γ) (t ha : Int) (hp0 : 0 ≤ t ∧ t < γ 0 0) (hp1 : 0 ≤ ha ∧ ha ≤ 1) : z_Sp mT_seal (5, 113) 0 0 [.ref (g.1 t), zi ha] (zH g γ ρ) (fun r M' => r = none ∧ M' = zH g (cT_seal γ t ha).2 ρ) := by
  refine z_Sp_of (L := [.ref (g.1 t), zi ha]) (by decide) rfl rfl rfl (Nat.le_of_ble_eq_true rfl) ?_
  refine ev_aload_n 0 (q := 1) dT_seal_0 rfl (by rfl) rfl ?_
  refine ev_aload_n 0 (q := 2) dT_seal_1 rfl (by rfl) rfl ?_
  refine ev_get (q := 5) (v := zi (γ 20 t)) dT_seal_2 fT_15 (at_T hc.2.1 hp0) rfl rfl ?_
  have g1 : 0 ≤ γ 20 t ∧ γ 20 t ≤ 3 := hc.1 20 t (by decide)
  refine cv_N (As := [_]) (q := 8) dT_seal_5 kT_46 rfl (Nat.le_of_ble_eq_true rfl) rfl rfl rfl (by decide) (sH_bit hc (γ 20 t) ⟨by omega, by omega⟩ ) ?_
  have g2 := bH_bit γ (p := (γ 20 t)) ⟨by omega, by omega⟩
  refine zr_puti (q := 11) dT_seal_8 gT_72 (at_T hc.2.1 hp0) (Nat.le_of_ble_eq_true rfl) rfl (ct_signed hc.2.1 hp0) rfl ?_
  have hc3 : zC g (z_up γ 28 t (cH_bit γ (γ 20 t))) := zC_up hc (by decide) (by decide) (by decide) (show (0 : Int) ≤ (cH_bit γ (γ 20 t)) by omega) (show (cH_bit γ (γ 20 t)) ≤ (15 : Int) by omega)
  refine ev_aload_n 0 (q := 12) dT_seal_11 rfl (by rfl) rfl ?_
  refine ev_aload_n 0 (q := 13) dT_seal_12 rfl (by rfl) rfl ?_
  refine cv_V (As := []) (q := 16) dT_seal_13 kT_75 (at_T hc3.2.1 hp0) rfl rfl (Nat.le_of_ble_eq_true rfl) rfl rfl rfl (by decide) (sT_needs hc3 t hp0 ) ?_
  have g4 := bT_needs hc3 t hp0 
  refine zr_puti (q := 19) dT_seal_16 gT_79 (at_T hc3.2.1 hp0) (Nat.le_of_ble_eq_true rfl) rfl (ct_needed hc3.2.1 hp0) rfl ?_
  have hc5 : zC g (z_up (z_up γ 28 t (cH_bit γ (γ 20 t))) 26 t (cT_needs (z_up γ 28 t (cH_bit γ (γ 20 t))) t)) := zC_up hc3 (by decide) (by decide) (by decide) (show (0 : Int) ≤ (cT_needs (z_up γ 28 t (cH_bit γ (γ 20 t))) t) by omega) (show (cT_needs (z_up γ 28 t (cH_bit γ (γ 20 t))) t) ≤ (15 : Int) by omega)
  refine ev_aload_n 0 (q := 20) dT_seal_19 rfl (by rfl) rfl ?_
  refine ev_aload_n 0 (q := 21) dT_seal_20 rfl (by rfl) rfl ?_
  refine cv_V (As := []) (q := 24) dT_seal_21 kT_82 (at_T hc5.2.1 hp0) rfl rfl (Nat.le_of_ble_eq_true rfl) rfl rfl rfl (by decide) (sT_isValid hc5 t hp0 ) ?_
  have g6 : (cT_isValid (z_up (z_up γ 28 t (cH_bit γ (γ 20 t))) 26 t (cT_needs (z_up γ 28 t (cH_bit γ (γ 20 t))) t)) t) = 0 ∨ (cT_isValid (z_up (z_up γ 28 t (cH_bit γ (γ 20 t))) 26 t (cT_needs (z_up γ 28 t (cH_bit γ (γ 20 t))) t)) t) = 1 := bT_isValid _ _
  refine zr_if_eq (t := 42) (q := 27) dT_seal_24 rfl rfl ⟨by omega, by omega⟩ (fun h7 => ?_) (fun h7 => ?_)
  · refine ev_iconst (v := iI 0) (q := 43) dT_seal_42 rfl rfl ?_
    refine ev_put (q := 46) dT_seal_43 gT_89 (at_T hc5.2.1 hp0) (zr_bool (by omega)) (Nat.le_of_ble_eq_true rfl) rfl (ct_sound hc5.2.1 hp0) rfl ?_
    have hc8 : zC g (z_up (z_up (z_up γ 28 t (cH_bit γ (γ 20 t))) 26 t (cT_needs (z_up γ 28 t (cH_bit γ (γ 20 t))) t)) 27 t 0) := zC_up hc5 (by decide) (by decide) (by decide) (show (0 : Int) ≤ 0 by omega) (show 0 ≤ (1 : Int) by omega)
    exact ev_ret dT_seal_46 rfl ⟨rfl, by rw [cT_seal, if_pos h7]⟩
  · refine ev_iload_n 1 (q := 28) dT_seal_27 rfl (by rfl) rfl ?_
    refine zr_if_eq (t := 38) (q := 31) dT_seal_28 rfl rfl ⟨by omega, by omega⟩ (fun h9 => ?_) (fun h9 => ?_)
    · refine ev_iconst (v := iI 1) (q := 39) dT_seal_38 rfl rfl ?_
      refine ev_goto (t := 43) (q := 43) dT_seal_39 rfl rfl ?_
      refine ev_put (q := 46) dT_seal_43 gT_89 (at_T hc5.2.1 hp0) (zr_bool (by omega)) (Nat.le_of_ble_eq_true rfl) rfl (ct_sound hc5.2.1 hp0) rfl ?_
      have hc10 : zC g (z_up (z_up (z_up γ 28 t (cH_bit γ (γ 20 t))) 26 t (cT_needs (z_up γ 28 t (cH_bit γ (γ 20 t))) t)) 27 t 1) := zC_up hc5 (by decide) (by decide) (by decide) (show (0 : Int) ≤ 1 by omega) (show 1 ≤ (1 : Int) by omega)
      exact ev_ret dT_seal_46 rfl ⟨rfl, by rw [cT_seal, if_neg h7, if_pos h9]⟩
    · refine ev_aload_n 0 (q := 32) dT_seal_31 rfl (by rfl) rfl ?_
      refine cv_V (As := []) (q := 35) dT_seal_32 kT_86 (at_T hc5.2.1 hp0) rfl rfl (Nat.le_of_ble_eq_true rfl) rfl rfl rfl (by decide) (sT_needsNobodyElse hc5 t hp0 ) ?_
      have g11 : (cT_needsNobodyElse (z_up (z_up γ 28 t (cH_bit γ (γ 20 t))) 26 t (cT_needs (z_up γ 28 t (cH_bit γ (γ 20 t))) t)) t) = 0 ∨ (cT_needsNobodyElse (z_up (z_up γ 28 t (cH_bit γ (γ 20 t))) 26 t (cT_needs (z_up γ 28 t (cH_bit γ (γ 20 t))) t)) t) = 1 := bT_needsNobodyElse _ _
      refine zr_if_eq (t := 42) (q := 38) dT_seal_35 rfl rfl ⟨by omega, by omega⟩ (fun h12 => ?_) (fun h12 => ?_)
      · refine ev_iconst (v := iI 0) (q := 43) dT_seal_42 rfl rfl ?_
        refine ev_put (q := 46) dT_seal_43 gT_89 (at_T hc5.2.1 hp0) (zr_bool (by omega)) (Nat.le_of_ble_eq_true rfl) rfl (ct_sound hc5.2.1 hp0) rfl ?_
        have hc13 : zC g (z_up (z_up (z_up γ 28 t (cH_bit γ (γ 20 t))) 26 t (cT_needs (z_up γ 28 t (cH_bit γ (γ 20 t))) t)) 27 t 0) := zC_up hc5 (by decide) (by decide) (by decide) (show (0 : Int) ≤ 0 by omega) (show 0 ≤ (1 : Int) by omega)
        exact ev_ret dT_seal_46 rfl ⟨rfl, by rw [cT_seal, if_neg h7, if_neg h9, if_pos h12]⟩
      · refine ev_iconst (v := iI 1) (q := 39) dT_seal_38 rfl rfl ?_
        refine ev_goto (t := 43) (q := 43) dT_seal_39 rfl rfl ?_
        refine ev_put (q := 46) dT_seal_43 gT_89 (at_T hc5.2.1 hp0) (zr_bool (by omega)) (Nat.le_of_ble_eq_true rfl) rfl (ct_sound hc5.2.1 hp0) rfl ?_
        have hc14 : zC g (z_up (z_up (z_up γ 28 t (cH_bit γ (γ 20 t))) 26 t (cT_needs (z_up γ 28 t (cH_bit γ (γ 20 t))) t)) 27 t 1) := zC_up hc5 (by decide) (by decide) (by decide) (show (0 : Int) ≤ 1 by omega) (show 1 ≤ (1 : Int) by omega)
        exact ev_ret dT_seal_46 rfl ⟨rfl, by rw [cT_seal, if_neg h7, if_neg h9, if_neg h12]⟩
set_option maxRecDepth 100000 in
set_option maxHeartbeats 4000000 in
theorem wT_seal {g : z_Gl} {γ : z_Sg} (hc : zC g γ) (t ha : Int) (hp0 : 0 ≤ t ∧ t < γ 0 0) (hp1 : 0 ≤ ha ∧ ha ≤ 1) : zC g (cT_seal γ t ha).2 := by
  rw [cT_seal]
  have g1 : 0 ≤ γ 20 t ∧ γ 20 t ≤ 3 := hc.1 20 t (by decide)
  have g2 := bH_bit γ (p := (γ 20 t)) ⟨by omega, by omega⟩
  have hc3 : zC g (z_up γ 28 t (cH_bit γ (γ 20 t))) := zC_up hc (by decide) (by decide) (by decide) (show (0 : Int) ≤ (cH_bit γ (γ 20 t)) by omega) (show (cH_bit γ (γ 20 t)) ≤ (15 : Int) by omega)
  have g4 := bT_needs hc3 t hp0 
  have hc5 : zC g (z_up (z_up γ 28 t (cH_bit γ (γ 20 t))) 26 t (cT_needs (z_up γ 28 t (cH_bit γ (γ 20 t))) t)) := zC_up hc3 (by decide) (by decide) (by decide) (show (0 : Int) ≤ (cT_needs (z_up γ 28 t (cH_bit γ (γ 20 t))) t) by omega) (show (cT_needs (z_up γ 28 t (cH_bit γ (γ 20 t))) t) ≤ (15 : Int) by omega)
  have g6 : (cT_isValid (z_up (z_up γ 28 t (cH_bit γ (γ 20 t))) 26 t (cT_needs (z_up γ 28 t (cH_bit γ (γ 20 t))) t)) t) = 0 ∨ (cT_isValid (z_up (z_up γ 28 t (cH_bit γ (γ 20 t))) 26 t (cT_needs (z_up γ 28 t (cH_bit γ (γ 20 t))) t)) t) = 1 := bT_isValid _ _
  by_cases h7 : (cT_isValid (z_up (z_up γ 28 t (cH_bit γ (γ 20 t))) 26 t (cT_needs (z_up γ 28 t (cH_bit γ (γ 20 t))) t)) t) = 0
  · rw [if_pos h7]
    have hc8 : zC g (z_up (z_up (z_up γ 28 t (cH_bit γ (γ 20 t))) 26 t (cT_needs (z_up γ 28 t (cH_bit γ (γ 20 t))) t)) 27 t 0) := zC_up hc5 (by decide) (by decide) (by decide) (show (0 : Int) ≤ 0 by omega) (show 0 ≤ (1 : Int) by omega)
    exact hc8
  · rw [if_neg h7]
    by_cases h9 : ha = 0
    · rw [if_pos h9]
      have hc10 : zC g (z_up (z_up (z_up γ 28 t (cH_bit γ (γ 20 t))) 26 t (cT_needs (z_up γ 28 t (cH_bit γ (γ 20 t))) t)) 27 t 1) := zC_up hc5 (by decide) (by decide) (by decide) (show (0 : Int) ≤ 1 by omega) (show 1 ≤ (1 : Int) by omega)
      exact hc10
    · rw [if_neg h9]
      have g11 : (cT_needsNobodyElse (z_up (z_up γ 28 t (cH_bit γ (γ 20 t))) 26 t (cT_needs (z_up γ 28 t (cH_bit γ (γ 20 t))) t)) t) = 0 ∨ (cT_needsNobodyElse (z_up (z_up γ 28 t (cH_bit γ (γ 20 t))) 26 t (cT_needs (z_up γ 28 t (cH_bit γ (γ 20 t))) t)) t) = 1 := bT_needsNobodyElse _ _
      by_cases h12 : (cT_needsNobodyElse (z_up (z_up γ 28 t (cH_bit γ (γ 20 t))) 26 t (cT_needs (z_up γ 28 t (cH_bit γ (γ 20 t))) t)) t) = 0
      · rw [if_pos h12]
        have hc13 : zC g (z_up (z_up (z_up γ 28 t (cH_bit γ (γ 20 t))) 26 t (cT_needs (z_up γ 28 t (cH_bit γ (γ 20 t))) t)) 27 t 0) := zC_up hc5 (by decide) (by decide) (by decide) (show (0 : Int) ≤ 0 by omega) (show 0 ≤ (1 : Int) by omega)
        exact hc13
      · rw [if_neg h12]
        have hc14 : zC g (z_up (z_up (z_up γ 28 t (cH_bit γ (γ 20 t))) 26 t (cT_needs (z_up γ 28 t (cH_bit γ (γ 20 t))) t)) 27 t 1) := zC_up hc5 (by decide) (by decide) (by decide) (show (0 : Int) ≤ 1 by omega) (show 1 ≤ (1 : Int) by omega)
        exact hc14

def cJI_bitCount (γ : z_Sg) (x : Int) : Int := (zand (((zand (((zand (x - (zand (zushr x 1) 1431655765)) 858993459) + (zand (zushr (x - (zand (zushr x 1) 1431655765)) 2) 858993459)) + (zushr ((zand (x - (zand (zushr x 1) 1431655765)) 858993459) + (zand (zushr (x - (zand (zushr x 1) 1431655765)) 2) 858993459)) 4)) 252645135) + (zushr (zand (((zand (x - (zand (zushr x 1) 1431655765)) 858993459) + (zand (zushr (x - (zand (zushr x 1) 1431655765)) 2) 858993459)) + (zushr ((zand (x - (zand (zushr x 1) 1431655765)) 858993459) + (zand (zushr (x - (zand (zushr x 1) 1431655765)) 2) 858993459)) 4)) 252645135) 8)) + (zushr ((zand (((zand (x - (zand (zushr x 1) 1431655765)) 858993459) + (zand (zushr (x - (zand (zushr x 1) 1431655765)) 2) 858993459)) + (zushr ((zand (x - (zand (zushr x 1) 1431655765)) 858993459) + (zand (zushr (x - (zand (zushr x 1) 1431655765)) 2) 858993459)) 4)) 252645135) + (zushr (zand (((zand (x - (zand (zushr x 1) 1431655765)) 858993459) + (zand (zushr (x - (zand (zushr x 1) 1431655765)) 2) 858993459)) + (zushr ((zand (x - (zand (zushr x 1) 1431655765)) 858993459) + (zand (zushr (x - (zand (zushr x 1) 1431655765)) 2) 858993459)) 4)) 252645135) 8)) 16)) 63)
set_option maxRecDepth 100000 in
set_option maxHeartbeats 4000000 in
theorem sJI_bitCount {g : z_Gl} {γ ρ : z_Sg} (hc : zC g γ) (x : Int) (hp0 : z_rg x) : z_Sp mJI_bitCount (0, 0) 0 0 [zi x] (zH g γ ρ) (fun r M' => r = some (zi (cJI_bitCount γ x)) ∧ M' = zH g γ ρ) := by
  refine z_Sp_of (L := [zi x]) (by decide) rfl rfl rfl (Nat.le_of_ble_eq_true rfl) ?_
  refine ev_iload_n 0 (q := 1) dJI_bitCount_0 rfl (by rfl) rfl ?_
  refine ev_iload_n 0 (q := 2) dJI_bitCount_1 rfl (by rfl) rfl ?_
  refine ev_iconst (v := iI 1) (q := 3) dJI_bitCount_2 rfl rfl ?_
  refine zr_iushr (q := 4) dJI_bitCount_3 rfl ?_
  have g1 : z_rg (zushr x 1) := iI_rg _
  refine ev_ldc_w (v := iI 1431655765) (q := 7) dJI_bitCount_4 wkJI_265 rfl ?_
  refine zr_iand (q := 8) dJI_bitCount_7 rfl ?_
  have g2 : z_rg (zand (zushr x 1) 1431655765) := iI_rg _
  refine zr_isub (q := 9) dJI_bitCount_8 rfl ?_
  refine ev_istore_n 0 (q := 10) dJI_bitCount_9 rfl (by decide) rfl rfl ?_
  dsimp only [List.set]
  refine ev_iload_n 0 (q := 11) dJI_bitCount_10 rfl (by rfl) rfl ?_
  refine ev_ldc_w (v := iI 858993459) (q := 14) dJI_bitCount_11 wkJI_266 rfl ?_
  refine zr_iand (q := 15) dJI_bitCount_14 rfl ?_
  have g3 : z_rg (zand (x - (zand (zushr x 1) 1431655765)) 858993459) := iI_rg _
  refine ev_iload_n 0 (q := 16) dJI_bitCount_15 rfl (by rfl) rfl ?_
  refine ev_iconst (v := iI 2) (q := 17) dJI_bitCount_16 rfl rfl ?_
  refine zr_iushr (q := 18) dJI_bitCount_17 rfl ?_
  have g4 : z_rg (zushr (x - (zand (zushr x 1) 1431655765)) 2) := iI_rg _
  refine ev_ldc_w (v := iI 858993459) (q := 21) dJI_bitCount_18 wkJI_266 rfl ?_
  refine zr_iand (q := 22) dJI_bitCount_21 rfl ?_
  have g5 : z_rg (zand (zushr (x - (zand (zushr x 1) 1431655765)) 2) 858993459) := iI_rg _
  refine zr_iadd (q := 23) dJI_bitCount_22 rfl ?_
  refine ev_istore_n 0 (q := 24) dJI_bitCount_23 rfl (by decide) rfl rfl ?_
  dsimp only [List.set]
  refine ev_iload_n 0 (q := 25) dJI_bitCount_24 rfl (by rfl) rfl ?_
  refine ev_iload_n 0 (q := 26) dJI_bitCount_25 rfl (by rfl) rfl ?_
  refine ev_iconst (v := iI 4) (q := 27) dJI_bitCount_26 rfl rfl ?_
  refine zr_iushr (q := 28) dJI_bitCount_27 rfl ?_
  have g6 : z_rg (zushr ((zand (x - (zand (zushr x 1) 1431655765)) 858993459) + (zand (zushr (x - (zand (zushr x 1) 1431655765)) 2) 858993459)) 4) := iI_rg _
  refine zr_iadd (q := 29) dJI_bitCount_28 rfl ?_
  refine ev_ldc_w (v := iI 252645135) (q := 32) dJI_bitCount_29 wkJI_267 rfl ?_
  refine zr_iand (q := 33) dJI_bitCount_32 rfl ?_
  have g7 : z_rg (zand (((zand (x - (zand (zushr x 1) 1431655765)) 858993459) + (zand (zushr (x - (zand (zushr x 1) 1431655765)) 2) 858993459)) + (zushr ((zand (x - (zand (zushr x 1) 1431655765)) 858993459) + (zand (zushr (x - (zand (zushr x 1) 1431655765)) 2) 858993459)) 4)) 252645135) := iI_rg _
  refine ev_istore_n 0 (q := 34) dJI_bitCount_33 rfl (by decide) rfl rfl ?_
  dsimp only [List.set]
  refine ev_iload_n 0 (q := 35) dJI_bitCount_34 rfl (by rfl) rfl ?_
  refine ev_iload_n 0 (q := 36) dJI_bitCount_35 rfl (by rfl) rfl ?_
  refine ev_bipush (v := iI 8) (q := 38) dJI_bitCount_36 (by decide) rfl ?_
  refine zr_iushr (q := 39) dJI_bitCount_38 rfl ?_
  have g8 : z_rg (zushr (zand (((zand (x - (zand (zushr x 1) 1431655765)) 858993459) + (zand (zushr (x - (zand (zushr x 1) 1431655765)) 2) 858993459)) + (zushr ((zand (x - (zand (zushr x 1) 1431655765)) 858993459) + (zand (zushr (x - (zand (zushr x 1) 1431655765)) 2) 858993459)) 4)) 252645135) 8) := iI_rg _
  refine zr_iadd (q := 40) dJI_bitCount_39 rfl ?_
  refine ev_istore_n 0 (q := 41) dJI_bitCount_40 rfl (by decide) rfl rfl ?_
  dsimp only [List.set]
  refine ev_iload_n 0 (q := 42) dJI_bitCount_41 rfl (by rfl) rfl ?_
  refine ev_iload_n 0 (q := 43) dJI_bitCount_42 rfl (by rfl) rfl ?_
  refine ev_bipush (v := iI 16) (q := 45) dJI_bitCount_43 (by decide) rfl ?_
  refine zr_iushr (q := 46) dJI_bitCount_45 rfl ?_
  have g9 : z_rg (zushr ((zand (((zand (x - (zand (zushr x 1) 1431655765)) 858993459) + (zand (zushr (x - (zand (zushr x 1) 1431655765)) 2) 858993459)) + (zushr ((zand (x - (zand (zushr x 1) 1431655765)) 858993459) + (zand (zushr (x - (zand (zushr x 1) 1431655765)) 2) 858993459)) 4)) 252645135) + (zushr (zand (((zand (x - (zand (zushr x 1) 1431655765)) 858993459) + (zand (zushr (x - (zand (zushr x 1) 1431655765)) 2) 858993459)) + (zushr ((zand (x - (zand (zushr x 1) 1431655765)) 858993459) + (zand (zushr (x - (zand (zushr x 1) 1431655765)) 2) 858993459)) 4)) 252645135) 8)) 16) := iI_rg _
  refine zr_iadd (q := 47) dJI_bitCount_46 rfl ?_
  refine ev_istore_n 0 (q := 48) dJI_bitCount_47 rfl (by decide) rfl rfl ?_
  dsimp only [List.set]
  refine ev_iload_n 0 (q := 49) dJI_bitCount_48 rfl (by rfl) rfl ?_
  refine ev_bipush (v := iI 63) (q := 51) dJI_bitCount_49 (by decide) rfl ?_
  refine zr_iand (q := 52) dJI_bitCount_51 rfl ?_
  have g10 : z_rg (zand (((zand (((zand (x - (zand (zushr x 1) 1431655765)) 858993459) + (zand (zushr (x - (zand (zushr x 1) 1431655765)) 2) 858993459)) + (zushr ((zand (x - (zand (zushr x 1) 1431655765)) 858993459) + (zand (zushr (x - (zand (zushr x 1) 1431655765)) 2) 858993459)) 4)) 252645135) + (zushr (zand (((zand (x - (zand (zushr x 1) 1431655765)) 858993459) + (zand (zushr (x - (zand (zushr x 1) 1431655765)) 2) 858993459)) + (zushr ((zand (x - (zand (zushr x 1) 1431655765)) 858993459) + (zand (zushr (x - (zand (zushr x 1) 1431655765)) 2) 858993459)) 4)) 252645135) 8)) + (zushr ((zand (((zand (x - (zand (zushr x 1) 1431655765)) 858993459) + (zand (zushr (x - (zand (zushr x 1) 1431655765)) 2) 858993459)) + (zushr ((zand (x - (zand (zushr x 1) 1431655765)) 858993459) + (zand (zushr (x - (zand (zushr x 1) 1431655765)) 2) 858993459)) 4)) 252645135) + (zushr (zand (((zand (x - (zand (zushr x 1) 1431655765)) 858993459) + (zand (zushr (x - (zand (zushr x 1) 1431655765)) 2) 858993459)) + (zushr ((zand (x - (zand (zushr x 1) 1431655765)) 858993459) + (zand (zushr (x - (zand (zushr x 1) 1431655765)) 2) 858993459)) 4)) 252645135) 8)) 16)) 63) := iI_rg _
  exact zr_iret dJI_bitCount_52 rfl ⟨by rw [cJI_bitCount], rfl⟩

def cN_enter (γ : z_Sg) (n t : Int) : Int × z_Sg := (0, (z_up (z_up γ 2 n (zor (γ 2 n) (cH_bit γ t))) 3 n (zor (γ 3 n) (cH_bit (z_up γ 2 n (zor (γ 2 n) (cH_bit γ t))) t))))
set_option maxRecDepth 100000 in
set_option maxHeartbeats 4000000 in
theorem sN_enter {g : z_Gl} {γ ρ : z_Sg} (hc : zC g γ) (n t : Int) (hp0 : 0 ≤ n ∧ n ≤ 3) (hp1 : 0 ≤ t ∧ t ≤ 19) : z_Sp mN_enter (1, 20) 0 0 [.ref (3 + (n).toNat), zi t] (zH g γ ρ) (fun r M' => r = none ∧ M' = zH g (cN_enter γ n t).2 ρ) := by
  refine z_Sp_of (L := [.ref (3 + (n).toNat), zi t]) (by decide) rfl rfl rfl (Nat.le_of_ble_eq_true rfl) ?_
  refine ev_aload_n 0 (q := 1) dN_enter_0 rfl (by rfl) rfl ?_
  refine ev_dup (q := 2) dN_enter_1 rfl rfl ?_
  refine ev_get (q := 5) (v := zi (γ 2 n)) dN_enter_2 fN_22 (at_N hp0) rfl rfl ?_
  have g1 : 0 ≤ γ 2 n ∧ γ 2 n ≤ 1048575 := hc.1 2 n (by decide)
  refine ev_iload_n 1 (q := 6) dN_enter_5 rfl (by rfl) rfl ?_
  refine cv_N (As := [_]) (q := 9) dN_enter_6 kN_9 rfl (Nat.le_of_ble_eq_true rfl) rfl rfl rfl (by decide) (sH_bit hc t ⟨by omega, by omega⟩ ) ?_
  have g2 := bH_bit γ (p := t) ⟨by omega, by omega⟩
  refine zr_ior (q := 10) dN_enter_9 rfl ?_
  have g3 : z_rg (zor (γ 2 n) (cH_bit γ t)) := iI_rg _
  have g4 := zor_20 (a := (γ 2 n)) (b := (cH_bit γ t)) ⟨by omega, by omega⟩ ⟨by omega, by omega⟩
  refine zr_puti (q := 13) dN_enter_10 gN_22 (at_N hp0) (Nat.le_of_ble_eq_true rfl) rfl (ct_known hp0) rfl ?_
  have hc5 : zC g (z_up γ 2 n (zor (γ 2 n) (cH_bit γ t))) := zC_up hc (by decide) (by decide) (by decide) (show (0 : Int) ≤ (zor (γ 2 n) (cH_bit γ t)) by omega) (show (zor (γ 2 n) (cH_bit γ t)) ≤ (1048575 : Int) by omega)
  refine ev_aload_n 0 (q := 14) dN_enter_13 rfl (by rfl) rfl ?_
  refine ev_dup (q := 15) dN_enter_14 rfl rfl ?_
  refine ev_get (q := 18) (v := zi (γ 3 n)) dN_enter_15 fN_30 (at_N hp0) rfl rfl ?_
  have g6 : 0 ≤ γ 3 n ∧ γ 3 n ≤ 1048575 := hc.1 3 n (by decide)
  refine ev_iload_n 1 (q := 19) dN_enter_18 rfl (by rfl) rfl ?_
  refine cv_N (As := [_]) (q := 22) dN_enter_19 kN_9 rfl (Nat.le_of_ble_eq_true rfl) rfl rfl rfl (by decide) (sH_bit hc5 t ⟨by omega, by omega⟩ ) ?_
  have g7 := bH_bit (z_up γ 2 n (zor (γ 2 n) (cH_bit γ t))) (p := t) ⟨by omega, by omega⟩
  refine zr_ior (q := 23) dN_enter_22 rfl ?_
  have g8 : z_rg (zor (γ 3 n) (cH_bit (z_up γ 2 n (zor (γ 2 n) (cH_bit γ t))) t)) := iI_rg _
  have g9 := zor_20 (a := (γ 3 n)) (b := (cH_bit (z_up γ 2 n (zor (γ 2 n) (cH_bit γ t))) t)) ⟨by omega, by omega⟩ ⟨by omega, by omega⟩
  refine zr_puti (q := 26) dN_enter_23 gN_30 (at_N hp0) (Nat.le_of_ble_eq_true rfl) rfl (ct_recorded hp0) rfl ?_
  have hc10 : zC g (z_up (z_up γ 2 n (zor (γ 2 n) (cH_bit γ t))) 3 n (zor (γ 3 n) (cH_bit (z_up γ 2 n (zor (γ 2 n) (cH_bit γ t))) t))) := zC_up hc5 (by decide) (by decide) (by decide) (show (0 : Int) ≤ (zor (γ 3 n) (cH_bit (z_up γ 2 n (zor (γ 2 n) (cH_bit γ t))) t)) by omega) (show (zor (γ 3 n) (cH_bit (z_up γ 2 n (zor (γ 2 n) (cH_bit γ t))) t)) ≤ (1048575 : Int) by omega)
  exact ev_ret dN_enter_26 rfl ⟨rfl, by rw [cN_enter]⟩
set_option maxRecDepth 100000 in
set_option maxHeartbeats 4000000 in
theorem wN_enter {g : z_Gl} {γ : z_Sg} (hc : zC g γ) (n t : Int) (hp0 : 0 ≤ n ∧ n ≤ 3) (hp1 : 0 ≤ t ∧ t ≤ 19) : zC g (cN_enter γ n t).2 := by
  rw [cN_enter]
  have g1 : 0 ≤ γ 2 n ∧ γ 2 n ≤ 1048575 := hc.1 2 n (by decide)
  have g2 := bH_bit γ (p := t) ⟨by omega, by omega⟩
  have g3 : z_rg (zor (γ 2 n) (cH_bit γ t)) := iI_rg _
  have g4 := zor_20 (a := (γ 2 n)) (b := (cH_bit γ t)) ⟨by omega, by omega⟩ ⟨by omega, by omega⟩
  have hc5 : zC g (z_up γ 2 n (zor (γ 2 n) (cH_bit γ t))) := zC_up hc (by decide) (by decide) (by decide) (show (0 : Int) ≤ (zor (γ 2 n) (cH_bit γ t)) by omega) (show (zor (γ 2 n) (cH_bit γ t)) ≤ (1048575 : Int) by omega)
  have g6 : 0 ≤ γ 3 n ∧ γ 3 n ≤ 1048575 := hc.1 3 n (by decide)
  have g7 := bH_bit (z_up γ 2 n (zor (γ 2 n) (cH_bit γ t))) (p := t) ⟨by omega, by omega⟩
  have g8 : z_rg (zor (γ 3 n) (cH_bit (z_up γ 2 n (zor (γ 2 n) (cH_bit γ t))) t)) := iI_rg _
  have g9 := zor_20 (a := (γ 3 n)) (b := (cH_bit (z_up γ 2 n (zor (γ 2 n) (cH_bit γ t))) t)) ⟨by omega, by omega⟩ ⟨by omega, by omega⟩
  have hc10 : zC g (z_up (z_up γ 2 n (zor (γ 2 n) (cH_bit γ t))) 3 n (zor (γ 3 n) (cH_bit (z_up γ 2 n (zor (γ 2 n) (cH_bit γ t))) t))) := zC_up hc5 (by decide) (by decide) (by decide) (show (0 : Int) ≤ (zor (γ 3 n) (cH_bit (z_up γ 2 n (zor (γ 2 n) (cH_bit γ t))) t)) by omega) (show (zor (γ 3 n) (cH_bit (z_up γ 2 n (zor (γ 2 n) (cH_bit γ t))) t)) ≤ (1048575 : Int) by omega)
  exact hc10

def cN_fetch (γ : z_Sg) (n an : Int) : Int × z_Sg := (0, (z_up (z_up γ 4 n ((γ 4 n) + (cJI_bitCount γ (zand an (zxor (γ 2 n) (-1)))))) 2 n (zor (γ 2 n) an)))
set_option maxRecDepth 100000 in
set_option maxHeartbeats 4000000 in
theorem sN_fetch {g : z_Gl} {γ ρ : z_Sg} (hc : zC g γ) (n an : Int) (hp0 : 0 ≤ n ∧ n ≤ 3) (hp1 : 0 ≤ an ∧ an ≤ 1048575) : z_Sp mN_fetch (1, 20) 0 0 [.ref (3 + (n).toNat), zi an] (zH g γ ρ) (fun r M' => r = none ∧ M' = zH g (cN_fetch γ n an).2 ρ) := by
  refine z_Sp_of (L := [.ref (3 + (n).toNat), zi an]) (by decide) rfl rfl rfl (Nat.le_of_ble_eq_true rfl) ?_
  refine ev_aload_n 0 (q := 1) dN_fetch_0 rfl (by rfl) rfl ?_
  refine ev_dup (q := 2) dN_fetch_1 rfl rfl ?_
  refine ev_get (q := 5) (v := zi (γ 4 n)) dN_fetch_2 fN_19 (at_N hp0) rfl rfl ?_
  refine ev_iload_n 1 (q := 6) dN_fetch_5 rfl (by rfl) rfl ?_
  refine ev_aload_n 0 (q := 7) dN_fetch_6 rfl (by rfl) rfl ?_
  refine ev_get (q := 10) (v := zi (γ 2 n)) dN_fetch_7 fN_22 (at_N hp0) rfl rfl ?_
  have g1 : 0 ≤ γ 2 n ∧ γ 2 n ≤ 1048575 := hc.1 2 n (by decide)
  refine ev_iconst (v := iI (-1)) (q := 11) dN_fetch_10 rfl rfl ?_
  refine zr_ixor (q := 12) dN_fetch_11 rfl ?_
  have g2 : z_rg (zxor (γ 2 n) (-1)) := iI_rg _
  refine zr_iand (q := 13) dN_fetch_12 rfl ?_
  have g3 : z_rg (zand an (zxor (γ 2 n) (-1))) := iI_rg _
  refine cv_S (As := [_]) (q := 16) dN_fetch_13 kN_25 rfl (Nat.le_of_ble_eq_true rfl) rfl rfl rfl (by decide) (sJI_bitCount hc (zand an (zxor (γ 2 n) (-1))) ⟨by omega, by omega⟩ ) ?_
  refine zr_iadd (q := 17) dN_fetch_16 rfl ?_
  refine zr_puti (q := 20) dN_fetch_17 gN_19 (at_N hp0) (Nat.le_of_ble_eq_true rfl) rfl (ct_fetchedCount hp0) rfl ?_
  have hc5 : zC g (z_up γ 4 n ((γ 4 n) + (cJI_bitCount γ (zand an (zxor (γ 2 n) (-1)))))) := zC_up4 hc
  refine ev_aload_n 0 (q := 21) dN_fetch_20 rfl (by rfl) rfl ?_
  refine ev_dup (q := 22) dN_fetch_21 rfl rfl ?_
  refine ev_get (q := 25) (v := zi (γ 2 n)) dN_fetch_22 fN_22 (at_N hp0) rfl rfl ?_
  have g6 : 0 ≤ γ 2 n ∧ γ 2 n ≤ 1048575 := hc.1 2 n (by decide)
  refine ev_iload_n 1 (q := 26) dN_fetch_25 rfl (by rfl) rfl ?_
  refine zr_ior (q := 27) dN_fetch_26 rfl ?_
  have g7 : z_rg (zor (γ 2 n) an) := iI_rg _
  have g8 := zor_20 (a := (γ 2 n)) (b := an) ⟨by omega, by omega⟩ ⟨by omega, by omega⟩
  refine zr_puti (q := 30) dN_fetch_27 gN_22 (at_N hp0) (Nat.le_of_ble_eq_true rfl) rfl (ct_known hp0) rfl ?_
  have hc9 : zC g (z_up (z_up γ 4 n ((γ 4 n) + (cJI_bitCount γ (zand an (zxor (γ 2 n) (-1)))))) 2 n (zor (γ 2 n) an)) := zC_up hc5 (by decide) (by decide) (by decide) (show (0 : Int) ≤ (zor (γ 2 n) an) by omega) (show (zor (γ 2 n) an) ≤ (1048575 : Int) by omega)
  exact ev_ret dN_fetch_30 rfl ⟨rfl, by rw [cN_fetch]⟩
set_option maxRecDepth 100000 in
set_option maxHeartbeats 4000000 in
theorem wN_fetch {g : z_Gl} {γ : z_Sg} (hc : zC g γ) (n an : Int) (hp0 : 0 ≤ n ∧ n ≤ 3) (hp1 : 0 ≤ an ∧ an ≤ 1048575) : zC g (cN_fetch γ n an).2 := by
  rw [cN_fetch]
  have g1 : 0 ≤ γ 2 n ∧ γ 2 n ≤ 1048575 := hc.1 2 n (by decide)
  have g2 : z_rg (zxor (γ 2 n) (-1)) := iI_rg _
  have g3 : z_rg (zand an (zxor (γ 2 n) (-1))) := iI_rg _
  have hc5 : zC g (z_up γ 4 n ((γ 4 n) + (cJI_bitCount γ (zand an (zxor (γ 2 n) (-1)))))) := zC_up4 hc
  have g6 : 0 ≤ γ 2 n ∧ γ 2 n ≤ 1048575 := hc.1 2 n (by decide)
  have g7 : z_rg (zor (γ 2 n) an) := iI_rg _
  have g8 := zor_20 (a := (γ 2 n)) (b := an) ⟨by omega, by omega⟩ ⟨by omega, by omega⟩
  have hc9 : zC g (z_up (z_up γ 4 n ((γ 4 n) + (cJI_bitCount γ (zand an (zxor (γ 2 n) (-1)))))) 2 n (zor (γ 2 n) an)) := zC_up hc5 (by decide) (by decide) (by decide) (show (0 : Int) ≤ (zor (γ 2 n) an) by omega) (show (zor (γ 2 n) an) ≤ (1048575 : Int) by omega)
  exact hc9

def cB_holdsPlace (γ : z_Sg) (k : Int) : Int := if k < 0 then 0 else if (γ 6 0) ≤ k then 0 else 1
theorem bB_holdsPlace (γ : z_Sg) (k : Int) : cB_holdsPlace γ k = 0 ∨ cB_holdsPlace γ k = 1 := by
  unfold cB_holdsPlace
  repeat' split
  all_goals first | exact Or.inl rfl | exact Or.inr rfl
set_option maxRecDepth 100000 in
set_option maxHeartbeats 4000000 in
theorem sB_holdsPlace {g : z_Gl} {γ ρ : z_Sg} (hc : zC g γ) (k : Int) (hp0 : z_rg k) : z_Sp mB_holdsPlace (0, 0) 0 0 [.ref (7), zi k] (zH g γ ρ) (fun r M' => r = some (zi (cB_holdsPlace γ k)) ∧ M' = zH g γ ρ) := by
  refine z_Sp_of (L := [.ref (7), zi k]) (by decide) rfl rfl rfl (Nat.le_of_ble_eq_true rfl) ?_
  refine ev_iload_n 1 (q := 1) dB_holdsPlace_0 rfl (by rfl) rfl ?_
  refine zr_if_lt (t := 16) (q := 4) dB_holdsPlace_1 rfl rfl ⟨by omega, by omega⟩ (fun h1 => ?_) (fun h1 => ?_)
  · refine ev_iconst (v := iI 0) (q := 17) dB_holdsPlace_16 rfl rfl ?_
    exact zr_zret dB_holdsPlace_17 rfl (by omega) ⟨by rw [cB_holdsPlace, if_pos h1], rfl⟩
  · refine ev_iload_n 1 (q := 5) dB_holdsPlace_4 rfl (by rfl) rfl ?_
    refine ev_aload_n 0 (q := 6) dB_holdsPlace_5 rfl (by rfl) rfl ?_
    refine ev_get (q := 9) (v := zi (γ 6 0)) dB_holdsPlace_6 fB_15 at_B rfl rfl ?_
    have g2 : 0 ≤ γ 6 0 ∧ γ 6 0 ≤ 220 := hc.1 6 0 (by decide)
    refine zr_icmp_ge (t := 16) (q := 12) dB_holdsPlace_9 rfl rfl ⟨by omega, by omega⟩ ⟨by omega, by omega⟩ (fun h3 => ?_) (fun h3 => ?_)
    · refine ev_iconst (v := iI 0) (q := 17) dB_holdsPlace_16 rfl rfl ?_
      exact zr_zret dB_holdsPlace_17 rfl (by omega) ⟨by rw [cB_holdsPlace, if_neg (Int.not_lt.mpr h1), if_pos h3], rfl⟩
    · refine ev_iconst (v := iI 1) (q := 13) dB_holdsPlace_12 rfl rfl ?_
      refine ev_goto (t := 17) (q := 17) dB_holdsPlace_13 rfl rfl ?_
      exact zr_zret dB_holdsPlace_17 rfl (by omega) ⟨by rw [cB_holdsPlace, if_neg (Int.not_lt.mpr h1), if_neg (Int.not_le.mpr h3)], rfl⟩

def lB_isWaiting_2 (γ : z_Sg) (m : Int) : Nat → Int → Int
  | 0, k => 0
  | j + 1, k => if (γ 7 k) ≠ m then lB_isWaiting_2 γ m j (k + 1) else 1
theorem blB_isWaiting_2 (γ : z_Sg) (m : Int) : ∀ (j : Nat) (k : Int), lB_isWaiting_2 γ m j k = 0 ∨ lB_isWaiting_2 γ m j k = 1 := by
  intro j
  induction j with
  | zero =>
    intro k
    rw [lB_isWaiting_2]
    repeat' split
    all_goals first | exact Or.inl rfl | exact Or.inr rfl
  | succ j ih =>
    intro k
    rw [lB_isWaiting_2]
    repeat' split
    all_goals first | exact Or.inl rfl | exact Or.inr rfl | exact ih _
set_option maxRecDepth 100000 in
set_option maxHeartbeats 4000000 in
theorem eB_isWaiting_2 {g : z_Gl} {γ ρ : z_Sg} (hc : zC g γ) (m : Int) (hp0 : z_rg m) : ∀ (j : Nat) (k : Int), 0 ≤ k → k + j = γ 6 0 → z_Ev mB_isWaiting (0, 0) 0 0 2 [.ref (7), zi m, zi k] [] (zH g γ ρ) (fun r M' => r = some (zi (lB_isWaiting_2 γ m j k)) ∧ M' = zH g γ ρ) := by
  intro j
  induction j with
  | zero =>
    intro k  c0 c1
    refine ev_iload_n 2 (q := 3) dB_isWaiting_2 rfl (by rfl) rfl ?_
    refine ev_aload_n 0 (q := 4) dB_isWaiting_3 rfl (by rfl) rfl ?_
    refine ev_get (q := 7) (v := zi (γ 6 0)) dB_isWaiting_4 fB_15 at_B rfl rfl ?_
    have g1 : 0 ≤ γ 6 0 ∧ γ 6 0 ≤ 220 := hc.1 6 0 (by decide)
    refine zr_icmp_ge (t := 28) (q := 10) dB_isWaiting_7 rfl rfl ⟨by omega, by omega⟩ ⟨by omega, by omega⟩ (fun h2 => ?_) (fun h2 => ?_)
    · refine ev_iconst (v := iI 0) (q := 29) dB_isWaiting_28 rfl rfl ?_
      exact zr_zret dB_isWaiting_29 rfl (by omega) ⟨by rw [lB_isWaiting_2], rfl⟩
    · exfalso
      omega
  | succ j ih =>
    intro k  c0 c1
    refine ev_iload_n 2 (q := 3) dB_isWaiting_2 rfl (by rfl) rfl ?_
    refine ev_aload_n 0 (q := 4) dB_isWaiting_3 rfl (by rfl) rfl ?_
    refine ev_get (q := 7) (v := zi (γ 6 0)) dB_isWaiting_4 fB_15 at_B rfl rfl ?_
    have g1 : 0 ≤ γ 6 0 ∧ γ 6 0 ≤ 220 := hc.1 6 0 (by decide)
    refine zr_icmp_ge (t := 28) (q := 10) dB_isWaiting_7 rfl rfl ⟨by omega, by omega⟩ ⟨by omega, by omega⟩ (fun h2 => ?_) (fun h2 => ?_)
    · exfalso
      omega
    · refine ev_aload_n 0 (q := 11) dB_isWaiting_10 rfl (by rfl) rfl ?_
      refine ev_get (q := 14) dB_isWaiting_11 fB_9 at_B (by rfl) rfl ?_
      refine ev_iload_n 2 (q := 15) dB_isWaiting_14 rfl (by rfl) rfl ?_
      refine zr_iald (q := 16) (g := γ 7) dB_isWaiting_15 at_codes (by decide) ⟨by omega, by omega⟩ rfl ?_
      have g3 : 0 ≤ γ 7 k ∧ γ 7 k ≤ 131071 := hc.1 7 k (by decide)
      refine ev_iload_n 1 (q := 17) dB_isWaiting_16 rfl (by rfl) rfl ?_
      refine zr_icmp_ne (t := 22) (q := 20) dB_isWaiting_17 rfl rfl ⟨by omega, by omega⟩ ⟨by omega, by omega⟩ (fun h4 => ?_) (fun h4 => ?_)
      · refine zr_iinc (q := 25) dB_isWaiting_22 (by rfl) (by decide) rfl rfl ?_
        dsimp only [List.set]
        refine ev_goto (t := 2) (q := 2) dB_isWaiting_25 rfl rfl ?_
        rw [show lB_isWaiting_2 γ m (j + 1) k = lB_isWaiting_2 γ m j (k + 1) from by rw [lB_isWaiting_2, if_pos h4]]
        exact ih (k + 1)  (by omega) (by omega)
      · refine ev_iconst (v := iI 1) (q := 21) dB_isWaiting_20 rfl rfl ?_
        exact zr_zret dB_isWaiting_21 rfl (by omega) ⟨by rw [lB_isWaiting_2, if_neg (fun z => z h4)], rfl⟩
def cB_isWaiting (γ : z_Sg) (m : Int) : Int := lB_isWaiting_2 γ m (γ 6 0).toNat 0
theorem bB_isWaiting (γ : z_Sg) (m : Int) : cB_isWaiting γ m = 0 ∨ cB_isWaiting γ m = 1 := by
  unfold cB_isWaiting
  repeat' split
  all_goals first | exact Or.inl rfl | exact Or.inr rfl | exact blB_isWaiting_2 _ _ _ _
set_option maxRecDepth 100000 in
set_option maxHeartbeats 4000000 in
theorem sB_isWaiting {g : z_Gl} {γ ρ : z_Sg} (hc : zC g γ) (m : Int) (hp0 : z_rg m) : z_Sp mB_isWaiting (0, 0) 0 0 [.ref (7), zi m] (zH g γ ρ) (fun r M' => r = some (zi (cB_isWaiting γ m)) ∧ M' = zH g γ ρ) := by
  refine z_Sp_of (L := [.ref (7), zi m, .float 0]) (by decide) rfl rfl rfl (Nat.le_of_ble_eq_true rfl) ?_
  refine ev_iconst (v := iI 0) (q := 1) dB_isWaiting_0 rfl rfl ?_
  refine ev_istore_n 2 (q := 2) dB_isWaiting_1 rfl (by decide) rfl rfl ?_
  dsimp only [List.set]
  have g1 : 0 ≤ γ 6 0 ∧ γ 6 0 ≤ 220 := hc.1 6 0 (by decide)
  rw [show cB_isWaiting γ m = lB_isWaiting_2 γ m (γ 6 0).toNat 0 from by rw [cB_isWaiting]]
  exact eB_isWaiting_2 hc m hp0 (γ 6 0).toNat 0  (by omega) (by omega)

def cB_post (γ : z_Sg) (m : Int) : Int × z_Sg := if 220 ≤ (γ 6 0) then (0, γ) else if (cB_isWaiting γ m) = 0 then (1, (z_up (z_up γ 7 (γ 6 0) m) 6 0 ((γ 6 0) + 1))) else (0, γ)
set_option maxRecDepth 100000 in
set_option maxHeartbeats 4000000 in
theorem sB_post {g : z_Gl} {γ ρ : z_Sg} (hc : zC g γ) (m : Int) (hp0 : 0 ≤ m ∧ m ≤ 131071) : z_Sp mB_post (1, 22) 0 0 [.ref (7), zi m] (zH g γ ρ) (fun r M' => r = some (zi (cB_post γ m).1) ∧ M' = zH g (cB_post γ m).2 ρ) := by
  refine z_Sp_of (L := [.ref (7), zi m]) (by decide) rfl rfl rfl (Nat.le_of_ble_eq_true rfl) ?_
  refine ev_aload_n 0 (q := 1) dB_post_0 rfl (by rfl) rfl ?_
  refine ev_get (q := 4) (v := zi (γ 6 0)) dB_post_1 fB_15 at_B rfl rfl ?_
  have g1 : 0 ≤ γ 6 0 ∧ γ 6 0 ≤ 220 := hc.1 6 0 (by decide)
  refine ev_sipush (v := iI 220) (q := 7) dB_post_4 (by decide) rfl ?_
  refine zr_icmp_ge (t := 18) (q := 10) dB_post_7 rfl rfl ⟨by omega, by omega⟩ ⟨by omega, by omega⟩ (fun h2 => ?_) (fun h2 => ?_)
  · refine ev_iconst (v := iI 0) (q := 19) dB_post_18 rfl rfl ?_
    exact zr_zret dB_post_19 rfl (by omega) ⟨by rw [cB_post, if_pos h2], by rw [cB_post, if_pos h2]⟩
  · refine ev_aload_n 0 (q := 11) dB_post_10 rfl (by rfl) rfl ?_
    refine ev_iload_n 1 (q := 12) dB_post_11 rfl (by rfl) rfl ?_
    refine cv_V (As := [_]) (q := 15) dB_post_12 kB_19 at_B rfl rfl (Nat.le_of_ble_eq_true rfl) rfl rfl rfl (by decide) (sB_isWaiting hc m ⟨by omega, by omega⟩ ) ?_
    have g3 : (cB_isWaiting γ m) = 0 ∨ (cB_isWaiting γ m) = 1 := bB_isWaiting _ _
    refine zr_if_eq (t := 20) (q := 18) dB_post_15 rfl rfl ⟨by omega, by omega⟩ (fun h4 => ?_) (fun h4 => ?_)
    · refine ev_aload_n 0 (q := 21) dB_post_20 rfl (by rfl) rfl ?_
      refine ev_get (q := 24) dB_post_21 fB_9 at_B (by rfl) rfl ?_
      refine ev_aload_n 0 (q := 25) dB_post_24 rfl (by rfl) rfl ?_
      refine ev_get (q := 28) (v := zi (γ 6 0)) dB_post_25 fB_15 at_B rfl rfl ?_
      have g5 : 0 ≤ γ 6 0 ∧ γ 6 0 ≤ 220 := hc.1 6 0 (by decide)
      refine ev_iload_n 1 (q := 29) dB_post_28 rfl (by rfl) rfl ?_
      refine zr_iast (q := 30) dB_post_29 at_codes (by decide) ⟨by omega, by omega⟩ ct_codes rfl ?_
      have hc6 : zC g (z_up γ 7 (γ 6 0) m) := zC_up hc (by decide) (by decide) (by decide) (show (0 : Int) ≤ m by omega) (show m ≤ (131071 : Int) by omega)
      refine ev_aload_n 0 (q := 31) dB_post_30 rfl (by rfl) rfl ?_
      refine ev_dup (q := 32) dB_post_31 rfl rfl ?_
      refine ev_get (q := 35) (v := zi (γ 6 0)) dB_post_32 fB_15 at_B rfl rfl ?_
      have g7 : 0 ≤ γ 6 0 ∧ γ 6 0 ≤ 220 := hc.1 6 0 (by decide)
      refine ev_iconst (v := iI 1) (q := 36) dB_post_35 rfl rfl ?_
      refine zr_iadd (q := 37) dB_post_36 rfl ?_
      refine zr_puti (q := 40) dB_post_37 gB_15 at_B (Nat.le_of_ble_eq_true rfl) rfl ct_count rfl ?_
      have hc8 : zC g (z_up (z_up γ 7 (γ 6 0) m) 6 0 ((γ 6 0) + 1)) := zC_up hc6 (by decide) (by decide) (by decide) (show (0 : Int) ≤ ((γ 6 0) + 1) by omega) (show ((γ 6 0) + 1) ≤ (220 : Int) by omega)
      refine ev_iconst (v := iI 1) (q := 41) dB_post_40 rfl rfl ?_
      exact zr_zret dB_post_41 rfl (by omega) ⟨by rw [cB_post, if_neg (Int.not_le.mpr h2), if_pos h4], by rw [cB_post, if_neg (Int.not_le.mpr h2), if_pos h4]⟩
    · refine ev_iconst (v := iI 0) (q := 19) dB_post_18 rfl rfl ?_
      exact zr_zret dB_post_19 rfl (by omega) ⟨by rw [cB_post, if_neg (Int.not_le.mpr h2), if_neg h4], by rw [cB_post, if_neg (Int.not_le.mpr h2), if_neg h4]⟩
set_option maxRecDepth 100000 in
set_option maxHeartbeats 4000000 in
theorem wB_post {g : z_Gl} {γ : z_Sg} (hc : zC g γ) (m : Int) (hp0 : 0 ≤ m ∧ m ≤ 131071) : zC g (cB_post γ m).2 := by
  rw [cB_post]
  have g1 : 0 ≤ γ 6 0 ∧ γ 6 0 ≤ 220 := hc.1 6 0 (by decide)
  by_cases h2 : 220 ≤ (γ 6 0)
  · rw [if_pos h2]
    exact hc
  · rw [if_neg h2]
    have g3 : (cB_isWaiting γ m) = 0 ∨ (cB_isWaiting γ m) = 1 := bB_isWaiting _ _
    by_cases h4 : (cB_isWaiting γ m) = 0
    · rw [if_pos h4]
      have g5 : 0 ≤ γ 6 0 ∧ γ 6 0 ≤ 220 := hc.1 6 0 (by decide)
      have hc6 : zC g (z_up γ 7 (γ 6 0) m) := zC_up hc (by decide) (by decide) (by decide) (show (0 : Int) ≤ m by omega) (show m ≤ (131071 : Int) by omega)
      have g7 : 0 ≤ γ 6 0 ∧ γ 6 0 ≤ 220 := hc.1 6 0 (by decide)
      have hc8 : zC g (z_up (z_up γ 7 (γ 6 0) m) 6 0 ((γ 6 0) + 1)) := zC_up hc6 (by decide) (by decide) (by decide) (show (0 : Int) ≤ ((γ 6 0) + 1) by omega) (show ((γ 6 0) + 1) ≤ (220 : Int) by omega)
      exact hc8
    · rw [if_neg h4]
      exact hc

theorem tB_holdsPlace {g : z_Gl} {γ : z_Sg} (hc : zC g γ) {k : Int} (h : cB_holdsPlace γ k ≠ 0) : 0 ≤ k ∧ k < γ 6 0 ∧ k ≤ 219 := by
  have g6 : 0 ≤ γ 6 0 ∧ γ 6 0 ≤ 220 := hc.1 6 0 (by decide)
  unfold cB_holdsPlace at h
  split at h
  · exact absurd rfl h
  · split at h
    · exact absurd rfl h
    · exact ⟨by omega, by omega, by omega⟩

def lB_removeAt_13 (γ : z_Sg) (k : Int) (j : Nat) (q : Int) : z_Sg := match j with
  | 0 => γ
  | j + 1 => lB_removeAt_13 (z_up γ 7 (q - 1) (γ 7 q)) k j (q + 1)
set_option maxRecDepth 100000 in
set_option maxHeartbeats 4000000 in
theorem eB_removeAt_13 {g : z_Gl} {γ ρ : z_Sg} {Q : Option Value → List va_E → Prop} (hc : zC g γ) (k : Int) (hp0 : z_rg k) : ∀ (j : Nat) (q : Int), 1 ≤ q → q + j = γ 6 0 → (∀ (y2 : Value), z_Ev mB_removeAt (1, 21) 0 0 41 [.ref (7), zi k, y2] [] (zH g (lB_removeAt_13 γ k j q) ρ) Q) → z_Ev mB_removeAt (1, 21) 0 0 13 [.ref (7), zi k, zi q] [] (zH g γ ρ) Q := by
  intro j
  induction j generalizing γ with
  | zero =>
    intro q   c0 c1 hk
    refine ev_iload_n 2 (q := 14) dB_removeAt_13 rfl (by rfl) rfl ?_
    refine ev_aload_n 0 (q := 15) dB_removeAt_14 rfl (by rfl) rfl ?_
    refine ev_get (q := 18) (v := zi (γ 6 0)) dB_removeAt_15 fB_15 at_B rfl rfl ?_
    have g1 : 0 ≤ γ 6 0 ∧ γ 6 0 ≤ 220 := hc.1 6 0 (by decide)
    refine zr_icmp_ge (t := 41) (q := 21) dB_removeAt_18 rfl rfl ⟨by omega, by omega⟩ ⟨by omega, by omega⟩ (fun h2 => ?_) (fun h2 => ?_)
    · exact hk _
    · exfalso
      omega
  | succ j ih =>
    intro q   c0 c1 hk
    refine ev_iload_n 2 (q := 14) dB_removeAt_13 rfl (by rfl) rfl ?_
    refine ev_aload_n 0 (q := 15) dB_removeAt_14 rfl (by rfl) rfl ?_
    refine ev_get (q := 18) (v := zi (γ 6 0)) dB_removeAt_15 fB_15 at_B rfl rfl ?_
    have g1 : 0 ≤ γ 6 0 ∧ γ 6 0 ≤ 220 := hc.1 6 0 (by decide)
    refine zr_icmp_ge (t := 41) (q := 21) dB_removeAt_18 rfl rfl ⟨by omega, by omega⟩ ⟨by omega, by omega⟩ (fun h2 => ?_) (fun h2 => ?_)
    · exfalso
      omega
    · refine ev_aload_n 0 (q := 22) dB_removeAt_21 rfl (by rfl) rfl ?_
      refine ev_get (q := 25) dB_removeAt_22 fB_9 at_B (by rfl) rfl ?_
      refine ev_iload_n 2 (q := 26) dB_removeAt_25 rfl (by rfl) rfl ?_
      refine ev_iconst (v := iI 1) (q := 27) dB_removeAt_26 rfl rfl ?_
      refine zr_isub (q := 28) dB_removeAt_27 rfl ?_
      refine ev_aload_n 0 (q := 29) dB_removeAt_28 rfl (by rfl) rfl ?_
      refine ev_get (q := 32) dB_removeAt_29 fB_9 at_B (by rfl) rfl ?_
      refine ev_iload_n 2 (q := 33) dB_removeAt_32 rfl (by rfl) rfl ?_
      refine zr_iald (q := 34) (g := γ 7) dB_removeAt_33 at_codes (by decide) ⟨by omega, by omega⟩ rfl ?_
      have g3 : 0 ≤ γ 7 q ∧ γ 7 q ≤ 131071 := hc.1 7 q (by decide)
      refine zr_iast (q := 35) dB_removeAt_34 at_codes (by decide) ⟨by omega, by omega⟩ ct_codes rfl ?_
      have hc4 : zC g (z_up γ 7 (q - 1) (γ 7 q)) := zC_up hc (by decide) (by decide) (by decide) (show (0 : Int) ≤ (γ 7 q) by omega) (show (γ 7 q) ≤ (131071 : Int) by omega)
      refine zr_iinc (q := 38) dB_removeAt_35 (by rfl) (by decide) rfl rfl ?_
      dsimp only [List.set]
      refine ev_goto (t := 13) (q := 13) dB_removeAt_38 rfl rfl ?_
      rw [show lB_removeAt_13 γ k (j + 1) q = lB_removeAt_13 (z_up γ 7 (q - 1) (γ 7 q)) k j (q + 1) from by rw [lB_removeAt_13]] at hk
      exact ih hc4   (q + 1)   (by omega) (by have e9 : (z_up γ 7 (q - 1) (γ 7 q)) 6 0 = γ 6 0 := rfl; omega) hk
set_option maxRecDepth 100000 in
set_option maxHeartbeats 4000000 in
theorem wlB_removeAt_13 {g : z_Gl} {γ : z_Sg} (hc : zC g γ) (k : Int) (hp0 : z_rg k) : ∀ (j : Nat) (q : Int), 1 ≤ q → q + j = γ 6 0 → zC g (lB_removeAt_13 γ k j q) := by
  intro j
  induction j generalizing γ with
  | zero =>
    intro q  c0 c1
    rw [lB_removeAt_13]
    have g1 : 0 ≤ γ 6 0 ∧ γ 6 0 ≤ 220 := hc.1 6 0 (by decide)
    exact hc
  | succ j ihw =>
    intro q  c0 c1
    rw [lB_removeAt_13]
    have g1 : 0 ≤ γ 6 0 ∧ γ 6 0 ≤ 220 := hc.1 6 0 (by decide)
    have g3 : 0 ≤ γ 7 q ∧ γ 7 q ≤ 131071 := hc.1 7 q (by decide)
    have hc4 : zC g (z_up γ 7 (q - 1) (γ 7 q)) := zC_up hc (by decide) (by decide) (by decide) (show (0 : Int) ≤ (γ 7 q) by omega) (show (γ 7 q) ≤ (131071 : Int) by omega)
    exact ihw hc4   (q + 1)  (by omega) (by have e9 : (z_up γ 7 (q - 1) (γ 7 q)) 6 0 = γ 6 0 := rfl; omega)
theorem kB_removeAt_13 {γ : z_Sg} (k : Int) (j : Nat) (q : Int) {c : Nat} (h : c ≠ 7) : lB_removeAt_13 γ k j q c = γ c := by
  induction j generalizing γ q with
  | zero => rfl
  | succ j ih => rw [lB_removeAt_13, ih, z_up_n h]
def cB_removeAt (γ : z_Sg) (k : Int) : Int × z_Sg := if (cB_holdsPlace γ k) ≠ 0 then (0, (z_up (lB_removeAt_13 γ k (γ 6 0 - (k + 1)).toNat (k + 1)) 6 0 ((γ 6 0) - 1))) else (0, γ)
set_option maxRecDepth 100000 in
set_option maxHeartbeats 4000000 in
theorem sB_removeAt {g : z_Gl} {γ ρ : z_Sg} (hc : zC g γ) (k : Int) (hp0 : z_rg k) : z_Sp mB_removeAt (1, 21) 0 0 [.ref (7), zi k] (zH g γ ρ) (fun r M' => r = none ∧ M' = zH g (cB_removeAt γ k).2 ρ) := by
  refine z_Sp_of (L := [.ref (7), zi k, .float 0]) (by decide) rfl rfl rfl (Nat.le_of_ble_eq_true rfl) ?_
  refine ev_aload_n 0 (q := 1) dB_removeAt_0 rfl (by rfl) rfl ?_
  refine ev_iload_n 1 (q := 2) dB_removeAt_1 rfl (by rfl) rfl ?_
  refine cv_V (As := [_]) (q := 5) dB_removeAt_2 kB_23 at_B rfl rfl (Nat.le_of_ble_eq_true rfl) rfl rfl rfl (by decide) (sB_holdsPlace hc k ⟨by omega, by omega⟩ ) ?_
  have g1 : (cB_holdsPlace γ k) = 0 ∨ (cB_holdsPlace γ k) = 1 := bB_holdsPlace _ _
  refine zr_if_ne (t := 9) (q := 8) dB_removeAt_5 rfl rfl ⟨by omega, by omega⟩ (fun h2 => ?_) (fun h2 => ?_)
  · have f8 := tB_holdsPlace hc h2
    refine ev_iload_n 1 (q := 10) dB_removeAt_9 rfl (by rfl) rfl ?_
    refine ev_iconst (v := iI 1) (q := 11) dB_removeAt_10 rfl rfl ?_
    refine zr_iadd (q := 12) dB_removeAt_11 rfl ?_
    refine ev_istore_n 2 (q := 13) dB_removeAt_12 rfl (by decide) rfl rfl ?_
    dsimp only [List.set]
    have g3 : 0 ≤ γ 6 0 ∧ γ 6 0 ≤ 220 := hc.1 6 0 (by decide)
    refine eB_removeAt_13 hc k hp0 (γ 6 0 - (k + 1)).toNat (k + 1)   (by omega) (by omega) (fun y4 => ?_)
    have hw5 : zC g (lB_removeAt_13 γ k (γ 6 0 - (k + 1)).toNat (k + 1)) := wlB_removeAt_13 hc k hp0 (γ 6 0 - (k + 1)).toNat (k + 1)  (by omega) (by omega)
    refine ev_aload_n 0 (q := 42) dB_removeAt_41 rfl (by rfl) rfl ?_
    refine ev_dup (q := 43) dB_removeAt_42 rfl rfl ?_
    refine ev_get (q := 46) (v := zi ((lB_removeAt_13 γ k (γ 6 0 - (k + 1)).toNat (k + 1)) 6 0)) dB_removeAt_43 fB_15 at_B rfl rfl ?_
    rw [show (lB_removeAt_13 γ k (γ 6 0 - (k + 1)).toNat (k + 1)) 6 0 = (γ 6 0) from (congrFun (kB_removeAt_13 (γ := γ) k (γ 6 0 - (k + 1)).toNat (k + 1) (c := 6) (by decide)) 0).trans rfl]
    have g6 : 0 ≤ γ 6 0 ∧ γ 6 0 ≤ 220 := hc.1 6 0 (by decide)
    refine ev_iconst (v := iI 1) (q := 47) dB_removeAt_46 rfl rfl ?_
    refine zr_isub (q := 48) dB_removeAt_47 rfl ?_
    refine zr_puti (q := 51) dB_removeAt_48 gB_15 at_B (Nat.le_of_ble_eq_true rfl) rfl ct_count rfl ?_
    have hc7 : zC g (z_up (lB_removeAt_13 γ k (γ 6 0 - (k + 1)).toNat (k + 1)) 6 0 ((γ 6 0) - 1)) := zC_up hw5 (by decide) (by decide) (by decide) (show (0 : Int) ≤ ((γ 6 0) - 1) by omega) (show ((γ 6 0) - 1) ≤ (220 : Int) by omega)
    exact ev_ret dB_removeAt_51 rfl ⟨rfl, by rw [cB_removeAt, if_pos h2]⟩
  · exact ev_ret dB_removeAt_8 rfl ⟨rfl, by rw [cB_removeAt, if_neg (fun z => z h2)]⟩
set_option maxRecDepth 100000 in
set_option maxHeartbeats 4000000 in
theorem wB_removeAt {g : z_Gl} {γ : z_Sg} (hc : zC g γ) (k : Int) (hp0 : z_rg k) : zC g (cB_removeAt γ k).2 := by
  rw [cB_removeAt]
  have g1 : (cB_holdsPlace γ k) = 0 ∨ (cB_holdsPlace γ k) = 1 := bB_holdsPlace _ _
  by_cases h2 : (cB_holdsPlace γ k) ≠ 0
  · rw [if_pos h2]
    have f8 := tB_holdsPlace hc h2
    have g3 : 0 ≤ γ 6 0 ∧ γ 6 0 ≤ 220 := hc.1 6 0 (by decide)
    have hw5 : zC g (lB_removeAt_13 γ k (γ 6 0 - (k + 1)).toNat (k + 1)) := wlB_removeAt_13 hc k hp0 (γ 6 0 - (k + 1)).toNat (k + 1)  (by omega) (by omega)
    have g6 : 0 ≤ γ 6 0 ∧ γ 6 0 ≤ 220 := hc.1 6 0 (by decide)
    have hc7 : zC g (z_up (lB_removeAt_13 γ k (γ 6 0 - (k + 1)).toNat (k + 1)) 6 0 ((γ 6 0) - 1)) := zC_up hw5 (by decide) (by decide) (by decide) (show (0 : Int) ≤ ((γ 6 0) - 1) by omega) (show ((γ 6 0) - 1) ≤ (220 : Int) by omega)
    exact hc7
  · rw [if_neg h2]
    exact hc

theorem zEx_fr {γ γ' : z_Sg} {s : Int} (h : zEx γ s) (h0 : γ' 0 = γ 0) (h2 : γ' 32 = γ 32) : zEx γ' s := by
  unfold zEx at h ⊢
  rw [h0, h2]
  exact h
theorem ztx_fr {γ γ' : z_Sg} {t : Int} (h : 0 ≤ t ∧ t < γ 0 0) (h0 : γ' 0 = γ 0) : 0 ≤ t ∧ t < γ' 0 0 := by
  rw [h0]
  exact h
theorem zli_fr {γ γ' : z_Sg} {t : Int} (h : 0 ≤ t ∧ t < 2 * γ 0 0) (h0 : γ' 0 = γ 0) : 0 ≤ t ∧ t < 2 * γ' 0 0 := by
  rw [h0]
  exact h

theorem kT_decide {γ : z_Sg} (t n ag : Int) {c : Nat} (h0 : c ≠ 29) (h1 : c ≠ 30) : (cT_decide γ t n ag).2 c = γ c := by
  unfold cT_decide
  repeat' split
  all_goals first | rfl | (simp only [z_up_n h0, z_up_n h1])

theorem kT_seal {γ : z_Sg} (t ha : Int) {c : Nat} (h0 : c ≠ 28) (h1 : c ≠ 26) (h2 : c ≠ 27) : (cT_seal γ t ha).2 c = γ c := by
  unfold cT_seal
  repeat' split
  all_goals first | rfl | (simp only [z_up_n h0, z_up_n h1, z_up_n h2])

theorem kN_enter {γ : z_Sg} (n t : Int) {c : Nat} (h0 : c ≠ 2) (h1 : c ≠ 3) : (cN_enter γ n t).2 c = γ c := by
  unfold cN_enter
  repeat' split
  all_goals first | rfl | (simp only [z_up_n h0, z_up_n h1])

theorem kN_fetch {γ : z_Sg} (n an : Int) {c : Nat} (h0 : c ≠ 4) (h1 : c ≠ 2) : (cN_fetch γ n an).2 c = γ c := by
  unfold cN_fetch
  repeat' split
  all_goals first | rfl | (simp only [z_up_n h0, z_up_n h1])

theorem kB_post {γ : z_Sg} (m : Int) {c : Nat} (h0 : c ≠ 7) (h1 : c ≠ 6) : (cB_post γ m).2 c = γ c := by
  unfold cB_post
  repeat' split
  all_goals first | rfl | (simp only [z_up_n h0, z_up_n h1])

theorem kB_removeAt {γ : z_Sg} (k : Int) {c : Nat} (h0 : c ≠ 7) (h1 : c ≠ 6) : (cB_removeAt γ k).2 c = γ c := by
  unfold cB_removeAt
  repeat' split
  all_goals first | rfl | (simp only [z_up_n h0, z_up_n h1, kB_removeAt_13 _ _ _ h0])
