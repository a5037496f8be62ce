theorem zEx_of {g : z_Gl} {γ : z_Sg} (hc : zC g γ) {u o : Int} (h : 0 ≤ u ∧ u < γ 0 0 ∧ 0 ≤ o ∧ o < γ 32 (2 * u + 1)) : zEx γ (4 * u + o) := by
  have gl : 0 ≤ γ 32 (2 * u + 1) ∧ γ 32 (2 * u + 1) ≤ 4 := hc.1 32 _ (by decide)
  have e1 : (4 * u + o) / 4 = u := by omega
  have e2 : (4 * u + o) % 4 = o := by omega
  unfold zEx
  rw [e1, e2]
  exact ⟨by omega, h.2.1, h.2.2.2⟩

set_option maxRecDepth 100000 in
set_option maxHeartbeats 4000000 in
theorem sH_find_s {g : z_Gl} {γ ρ : z_Sg} (hc : zC g γ) (t : Int) (h0 : 0 ≤ t ∧ t < γ 0 0) : z_Sp mH_find (0, 0) 0 0 [.ref (0), zi t] (zH g γ ρ) (fun r M' => r = some (.ref (g.1 t)) ∧ M' = zH g γ ρ) := by
  refine z_Sp_of (L := [.ref (0), zi t]) (by decide) rfl rfl rfl (Nat.le_of_ble_eq_true rfl) ?_
  have g0 : 0 ≤ γ 0 0 ∧ γ 0 0 ≤ 20 := hc.1 0 0 (by decide)
  refine ev_iload_n 1 (q := 1) dH_find_0 rfl (by rfl) rfl ?_
  refine zr_if_lt (t := 21) (q := 4) dH_find_1 rfl rfl ⟨by omega, by omega⟩ (fun h1 => ?_) (fun h1 => ?_)
  · exfalso
    omega
  · refine ev_iload_n 1 (q := 5) dH_find_4 rfl (by rfl) rfl ?_
    refine ev_aload_n 0 (q := 6) dH_find_5 rfl (by rfl) rfl ?_
    refine ev_get (q := 9) (v := zi (γ 0 0)) dH_find_6 fH_53 at_H rfl rfl ?_
    have g2 : 0 ≤ γ 0 0 ∧ γ 0 0 ≤ 20 := hc.1 0 0 (by decide)
    refine zr_icmp_ge (t := 21) (q := 12) dH_find_9 rfl rfl ⟨by omega, by omega⟩ ⟨by omega, by omega⟩ (fun h3 => ?_) (fun h3 => ?_)
    · exfalso
      omega
    · refine ev_aload_n 0 (q := 13) dH_find_12 rfl (by rfl) rfl ?_
      refine ev_get (q := 16) dH_find_13 fH_11 at_H (by rfl) rfl ?_
      refine ev_iload_n 1 (q := 17) dH_find_16 rfl (by rfl) rfl ?_
      refine zr_aald (q := 18) dH_find_17 (fun _ => ⟨_, rfl⟩) at_txs (by decide) ⟨by omega, by omega⟩ (if_pos ⟨by omega, by omega⟩) rfl ?_
      have t4 : 0 ≤ t ∧ t < γ 0 0 := ⟨by omega, by omega⟩
      refine ev_goto (t := 22) (q := 22) dH_find_18 rfl rfl ?_
      exact ev_aret dH_find_22 rfl ⟨rfl, rfl⟩

set_option maxRecDepth 100000 in
set_option maxHeartbeats 4000000 in
theorem sH_find_n {g : z_Gl} {γ ρ : z_Sg} (hc : zC g γ) (t : Int) (hp0 : z_rg t) (h0 : ¬ (0 ≤ t ∧ t < γ 0 0)) : z_Sp mH_find (0, 0) 0 0 [.ref (0), zi t] (zH g γ ρ) (fun r M' => r = some .null ∧ M' = zH g γ ρ) := by
  refine z_Sp_of (L := [.ref (0), zi t]) (by decide) rfl rfl rfl (Nat.le_of_ble_eq_true rfl) ?_
  refine ev_iload_n 1 (q := 1) dH_find_0 rfl (by rfl) rfl ?_
  refine zr_if_lt (t := 21) (q := 4) dH_find_1 rfl rfl ⟨by omega, by omega⟩ (fun h1 => ?_) (fun h1 => ?_)
  · refine ev_null (q := 22) dH_find_21 rfl ?_
    exact ev_aretN dH_find_22 rfl ⟨rfl, rfl⟩
  · refine ev_iload_n 1 (q := 5) dH_find_4 rfl (by rfl) rfl ?_
    refine ev_aload_n 0 (q := 6) dH_find_5 rfl (by rfl) rfl ?_
    refine ev_get (q := 9) (v := zi (γ 0 0)) dH_find_6 fH_53 at_H rfl rfl ?_
    have g2 : 0 ≤ γ 0 0 ∧ γ 0 0 ≤ 20 := hc.1 0 0 (by decide)
    refine zr_icmp_ge (t := 21) (q := 12) dH_find_9 rfl rfl ⟨by omega, by omega⟩ ⟨by omega, by omega⟩ (fun h3 => ?_) (fun h3 => ?_)
    · refine ev_null (q := 22) dH_find_21 rfl ?_
      exact ev_aretN dH_find_22 rfl ⟨rfl, rfl⟩
    · exfalso
      omega

set_option maxRecDepth 100000 in
set_option maxHeartbeats 4000000 in
theorem sH_findState_s {g : z_Gl} {γ ρ : z_Sg} (hc : zC g γ) (u o : Int) (h0 : 0 ≤ u ∧ u < γ 0 0 ∧ 0 ≤ o ∧ o < γ 32 (2 * u + 1)) : z_Sp mH_findState (1, 21) 0 0 [.ref (0), zi u, zi o] (zH g γ ρ) (fun r M' => r = some (.ref (g.2.2.1 (4 * u + o))) ∧ M' = zH g γ ρ) := by
  refine z_Sp_of (L := [.ref (0), zi u, zi o, .float 0]) (by decide) rfl rfl rfl (Nat.le_of_ble_eq_true rfl) ?_
  have g0 : 0 ≤ γ 0 0 ∧ γ 0 0 ≤ 20 := hc.1 0 0 (by decide)
  have g1 : 0 ≤ γ 32 (2 * u + 1) ∧ γ 32 (2 * u + 1) ≤ 4 := hc.1 32 _ (by decide)
  refine ev_aload_n 0 (q := 1) dH_findState_0 rfl (by rfl) rfl ?_
  refine ev_iload_n 1 (q := 2) dH_findState_1 rfl (by rfl) rfl ?_
  by_cases h1 : 0 ≤ u ∧ u < (γ 0 0)
  · refine cv_V (As := [_]) (q := 5) dH_findState_2 kH_60 at_H rfl rfl (Nat.le_of_ble_eq_true rfl) rfl rfl rfl (by decide) (sH_find_s hc u h1) ?_
    refine ev_astore_n 3 (q := 6) dH_findState_5 rfl (by decide) rfl rfl ?_
    dsimp only [List.set]
    refine ev_aload_n 3 (q := 7) dH_findState_6 rfl (by rfl) rfl ?_
    refine ev_ifnull (q := 10) dH_findState_7 rfl ?_
    refine ev_iload_n 2 (q := 11) dH_findState_10 rfl (by rfl) rfl ?_
    refine zr_if_lt (t := 25) (q := 14) dH_findState_11 rfl rfl ⟨by omega, by omega⟩ (fun h2 => ?_) (fun h2 => ?_)
    · exfalso
      omega
    · refine ev_iload_n 2 (q := 15) dH_findState_14 rfl (by rfl) rfl ?_
      refine ev_aload_n 3 (q := 16) dH_findState_15 rfl (by rfl) rfl ?_
      refine ev_get (q := 19) dH_findState_16 fH_112 (at_T hc.2.1 h1) (by rfl) rfl ?_
      refine ev_get (q := 22) (v := zi (γ 32 (2 * u + 1))) dH_findState_19 fH_299 (at_L hc.2.1 (zl1 h1)) rfl rfl ?_
      have g3 : 0 ≤ γ 32 (2 * u + 1) ∧ γ 32 (2 * u + 1) ≤ 4 := hc.1 32 (2 * u + 1) (by decide)
      refine zr_icmp_lt (t := 27) (q := 25) dH_findState_22 rfl rfl ⟨by omega, by omega⟩ ⟨by omega, by omega⟩ (fun h4 => ?_) (fun h4 => ?_)
      · refine ev_aload_n 3 (q := 28) dH_findState_27 rfl (by rfl) rfl ?_
        refine ev_get (q := 31) dH_findState_28 fH_112 (at_T hc.2.1 h1) (by rfl) rfl ?_
        refine ev_get (q := 34) dH_findState_31 fH_300 (at_L hc.2.1 (zl1 h1)) (by rfl) rfl ?_
        refine ev_iload_n 2 (q := 35) dH_findState_34 rfl (by rfl) rfl ?_
        refine zr_aald (q := 36) dH_findState_35 (fun _ => ⟨_, rfl⟩) (at_E hc.2.1 (zl1 h1)) (by decide) ⟨by omega, by omega⟩ (if_pos ⟨by omega, by omega⟩) rfl ?_
        have s5 : zEx γ (γ 33 (4 * (2 * u + 1) + o)) := hc.2.2.1 (2 * u + 1) o (zl1 h1).1 (zl1 h1).2 (by omega) (by omega)
        have g6 : 0 ≤ γ 33 (4 * (2 * u + 1) + o) ∧ γ 33 (4 * (2 * u + 1) + o) ≤ 79 := hc.1 33 _ (by decide)
        exact ev_aret dH_findState_36 rfl ⟨by rw [hc.2.2.2 u o (by omega) (by omega) (by omega) (by omega)], rfl⟩
      · exfalso
        omega
  · exfalso
    omega

set_option maxRecDepth 100000 in
set_option maxHeartbeats 4000000 in
theorem sH_findState_n {g : z_Gl} {γ ρ : z_Sg} (hc : zC g γ) (u o : Int) (hp0 : z_rg u) (hp1 : z_rg o) (h0 : ¬ (0 ≤ u ∧ u < γ 0 0 ∧ 0 ≤ o ∧ o < γ 32 (2 * u + 1))) : z_Sp mH_findState (1, 21) 0 0 [.ref (0), zi u, zi o] (zH g γ ρ) (fun r M' => r = some .null ∧ M' = zH g γ ρ) := by
  refine z_Sp_of (L := [.ref (0), zi u, zi o, .float 0]) (by decide) rfl rfl rfl (Nat.le_of_ble_eq_true rfl) ?_
  have g0 : 0 ≤ γ 0 0 ∧ γ 0 0 ≤ 20 := hc.1 0 0 (by decide)
  refine ev_aload_n 0 (q := 1) dH_findState_0 rfl (by rfl) rfl ?_
  refine ev_iload_n 1 (q := 2) dH_findState_1 rfl (by rfl) rfl ?_
  by_cases h1 : 0 ≤ u ∧ u < (γ 0 0)
  · refine cv_V (As := [_]) (q := 5) dH_findState_2 kH_60 at_H rfl rfl (Nat.le_of_ble_eq_true rfl) rfl rfl rfl (by decide) (sH_find_s hc u  h1) ?_
    refine ev_astore_n 3 (q := 6) dH_findState_5 rfl (by decide) rfl rfl ?_
    dsimp only [List.set]
    refine ev_aload_n 3 (q := 7) dH_findState_6 rfl (by rfl) rfl ?_
    refine ev_ifnull (q := 10) dH_findState_7 rfl ?_
    refine ev_iload_n 2 (q := 11) dH_findState_10 rfl (by rfl) rfl ?_
    refine zr_if_lt (t := 25) (q := 14) dH_findState_11 rfl rfl ⟨by omega, by omega⟩ (fun h2 => ?_) (fun h2 => ?_)
    · refine ev_null (q := 26) dH_findState_25 rfl ?_
      exact ev_aretN dH_findState_26 rfl ⟨rfl, rfl⟩
    · refine ev_iload_n 2 (q := 15) dH_findState_14 rfl (by rfl) rfl ?_
      refine ev_aload_n 3 (q := 16) dH_findState_15 rfl (by rfl) rfl ?_
      refine ev_get (q := 19) dH_findState_16 fH_112 (at_T hc.2.1 h1) (by rfl) rfl ?_
      refine ev_get (q := 22) (v := zi (γ 32 (2 * u + 1))) dH_findState_19 fH_299 (at_L hc.2.1 (zl1 h1)) rfl rfl ?_
      have g3 : 0 ≤ γ 32 (2 * u + 1) ∧ γ 32 (2 * u + 1) ≤ 4 := hc.1 32 (2 * u + 1) (by decide)
      refine zr_icmp_lt (t := 27) (q := 25) dH_findState_22 rfl rfl ⟨by omega, by omega⟩ ⟨by omega, by omega⟩ (fun h4 => ?_) (fun h4 => ?_)
      · exfalso
        omega
      · refine ev_null (q := 26) dH_findState_25 rfl ?_
        exact ev_aretN dH_findState_26 rfl ⟨rfl, rfl⟩
  · refine cv_V (As := [_]) (q := 5) dH_findState_2 kH_60 at_H rfl rfl (Nat.le_of_ble_eq_true rfl) rfl rfl rfl (by decide) (sH_find_n hc u ⟨by omega, by omega⟩ h1) ?_
    refine ev_astore_nN 3 (q := 6) dH_findState_5 rfl (by decide) rfl rfl ?_
    dsimp only [List.set]
    refine ev_aload_nN 3 (q := 7) dH_findState_6 rfl (by rfl) rfl ?_
    refine ev_ifnullN (t := 25) (q := 25) dH_findState_7 rfl rfl ?_
    refine ev_null (q := 26) dH_findState_25 rfl ?_
    exact ev_aretN dH_findState_26 rfl ⟨rfl, rfl⟩

set_option maxRecDepth 100000 in
set_option maxHeartbeats 4000000 in
theorem sH_stateNumbered_s {g : z_Gl} {γ ρ : z_Sg} (hc : zC g γ) (n : Int) (h0 : 0 ≤ n ∧ n / 4 < γ 0 0 ∧ n % 4 < γ 32 (2 * (n / 4) + 1)) : z_Sp mH_stateNumbered (2, 44) 0 0 [.ref (0), zi n] (zH g γ ρ) (fun r M' => r = some (.ref (g.2.2.1 n)) ∧ M' = zH g γ ρ) := by
  refine z_Sp_of (L := [.ref (0), zi n]) (by decide) rfl rfl rfl (Nat.le_of_ble_eq_true rfl) ?_
  have g0 : 0 ≤ γ 0 0 ∧ γ 0 0 ≤ 20 := hc.1 0 0 (by decide)
  refine ev_aload_n 0 (q := 1) dH_stateNumbered_0 rfl (by rfl) rfl ?_
  refine ev_iload_n 1 (q := 2) dH_stateNumbered_1 rfl (by rfl) rfl ?_
  refine ev_iconst (v := iI 4) (q := 3) dH_stateNumbered_2 rfl rfl ?_
  refine zr_idiv (q := 4) dH_stateNumbered_3 ⟨by omega, by omega⟩ ⟨by omega, by omega⟩ rfl ?_
  refine ev_iload_n 1 (q := 5) dH_stateNumbered_4 rfl (by rfl) rfl ?_
  refine ev_iconst (v := iI 4) (q := 6) dH_stateNumbered_5 rfl rfl ?_
  refine zr_irem (q := 7) dH_stateNumbered_6 ⟨by omega, by omega⟩ ⟨by omega, by omega⟩ rfl ?_
  by_cases h1 : 0 ≤ (n / 4) ∧ (n / 4) < (γ 0 0) ∧ 0 ≤ (n % 4) ∧ (n % 4) < γ 32 (2 * (n / 4) + 1)
  · refine cv_V (As := [_, _]) (q := 10) dH_stateNumbered_7 kH_64 at_H rfl rfl (Nat.le_of_ble_eq_true rfl) rfl rfl rfl (by decide) (sH_findState_s hc (n / 4) (n % 4) h1) ?_
    exact ev_aret dH_stateNumbered_10 rfl ⟨by rw [show 4 * (n / 4) + n % 4 = n by omega], rfl⟩
  · exfalso
    omega

set_option maxRecDepth 100000 in
set_option maxHeartbeats 4000000 in
theorem sH_stateNumbered_n {g : z_Gl} {γ ρ : z_Sg} (hc : zC g γ) (n : Int) (hp0 : 0 ≤ n ∧ n ≤ 79) (h0 : ¬ (0 ≤ n ∧ n / 4 < γ 0 0 ∧ n % 4 < γ 32 (2 * (n / 4) + 1))) : z_Sp mH_stateNumbered (2, 44) 0 0 [.ref (0), zi n] (zH g γ ρ) (fun r M' => r = some .null ∧ M' = zH g γ ρ) := by
  refine z_Sp_of (L := [.ref (0), zi n]) (by decide) rfl rfl rfl (Nat.le_of_ble_eq_true rfl) ?_
  have g0 : 0 ≤ γ 0 0 ∧ γ 0 0 ≤ 20 := hc.1 0 0 (by decide)
  refine ev_aload_n 0 (q := 1) dH_stateNumbered_0 rfl (by rfl) rfl ?_
  refine ev_iload_n 1 (q := 2) dH_stateNumbered_1 rfl (by rfl) rfl ?_
  refine ev_iconst (v := iI 4) (q := 3) dH_stateNumbered_2 rfl rfl ?_
  refine zr_idiv (q := 4) dH_stateNumbered_3 ⟨by omega, by omega⟩ ⟨by omega, by omega⟩ rfl ?_
  refine ev_iload_n 1 (q := 5) dH_stateNumbered_4 rfl (by rfl) rfl ?_
  refine ev_iconst (v := iI 4) (q := 6) dH_stateNumbered_5 rfl rfl ?_
  refine zr_irem (q := 7) dH_stateNumbered_6 ⟨by omega, by omega⟩ ⟨by omega, by omega⟩ rfl ?_
  by_cases h1 : 0 ≤ (n / 4) ∧ (n / 4) < (γ 0 0) ∧ 0 ≤ (n % 4) ∧ (n % 4) < γ 32 (2 * (n / 4) + 1)
  · exfalso
    omega
  · refine cv_V (As := [_, _]) (q := 10) dH_stateNumbered_7 kH_64 at_H rfl rfl (Nat.le_of_ble_eq_true rfl) rfl rfl rfl (by decide) (sH_findState_n hc (n / 4) (n % 4) ⟨by omega, by omega⟩ ⟨by omega, by omega⟩ h1) ?_
    exact ev_aretN dH_stateNumbered_10 rfl ⟨rfl, rfl⟩

def cH_stateNumbersEnd (γ : z_Sg)  : Int := ((γ 0 0) * 4)
set_option maxRecDepth 100000 in
set_option maxHeartbeats 4000000 in
theorem sH_stateNumbersEnd {g : z_Gl} {γ ρ : z_Sg} (hc : zC g γ)   : z_Sp mH_stateNumbersEnd (0, 0) 0 0 [.ref (0)] (zH g γ ρ) (fun r M' => r = some (zi (cH_stateNumbersEnd γ)) ∧ M' = zH g γ ρ) := by
  refine z_Sp_of (L := [.ref (0)]) (by decide) rfl rfl rfl (Nat.le_of_ble_eq_true rfl) ?_
  refine ev_aload_n 0 (q := 1) dH_stateNumbersEnd_0 rfl (by rfl) rfl ?_
  refine ev_get (q := 4) (v := zi (γ 0 0)) dH_stateNumbersEnd_1 fH_53 at_H rfl rfl ?_
  have g1 : 0 ≤ γ 0 0 ∧ γ 0 0 ≤ 20 := hc.1 0 0 (by decide)
  refine ev_iconst (v := iI 4) (q := 5) dH_stateNumbersEnd_4 rfl rfl ?_
  refine zr_imul (q := 6) dH_stateNumbersEnd_5 rfl ?_
  exact zr_iret dH_stateNumbersEnd_6 rfl ⟨by rw [cH_stateNumbersEnd], rfl⟩

theorem bH_stateNumbersEnd (γ : z_Sg) : cH_stateNumbersEnd γ = γ 0 0 * 4 := rfl

def lH_isKnownInput_2 (γ : z_Sg) (s n : Int) : Nat → Int → Int
  | 0, k => 0
  | j + 1, k => if (cH_has γ (γ 2 n) k) = 0 then lH_isKnownInput_2 γ s n j (k + 1) else if (cL_holds γ (2 * k) s) = 0 then lH_isKnownInput_2 γ s n j (k + 1) else 1
theorem blH_isKnownInput_2 (γ : z_Sg) (s n : Int) : ∀ (j : Nat) (k : Int), lH_isKnownInput_2 γ s n j k = 0 ∨ lH_isKnownInput_2 γ s n j k = 1 := by
  intro j
  induction j with
  | zero =>
    intro k
    rw [lH_isKnownInput_2]
    repeat' split
    all_goals first | exact Or.inl rfl | exact Or.inr rfl
  | succ j ih =>
    intro k
    rw [lH_isKnownInput_2]
    repeat' split
    all_goals first | exact Or.inl rfl | exact Or.inr rfl | exact ih _
set_option maxRecDepth 100000 in
set_option maxHeartbeats 4000000 in
theorem eH_isKnownInput_2 {g : z_Gl} {γ ρ : z_Sg} (hc : zC g γ) (s n : Int) (hp0 : zEx γ s) (hp1 : 0 ≤ n ∧ n ≤ 3) : ∀ (j : Nat) (k : Int), 0 ≤ k → k + j = γ 0 0 → z_Ev mH_isKnownInput (2, 41) 0 0 2 [.ref (0), .ref (g.2.2.1 s), zi n, zi k] [] (zH g γ ρ) (fun r M' => r = some (zi (lH_isKnownInput_2 γ s n j k)) ∧ M' = zH g γ ρ) := by
  intro j
  induction j with
  | zero =>
    intro k  c0 c1
    refine ev_iload_n 3 (q := 3) dH_isKnownInput_2 rfl (by rfl) rfl ?_
    refine ev_aload_n 0 (q := 4) dH_isKnownInput_3 rfl (by rfl) rfl ?_
    refine ev_get (q := 7) (v := zi (γ 0 0)) dH_isKnownInput_4 fH_53 at_H rfl rfl ?_
    have g1 : 0 ≤ γ 0 0 ∧ γ 0 0 ≤ 20 := hc.1 0 0 (by decide)
    refine zr_icmp_ge (t := 53) (q := 10) dH_isKnownInput_7 rfl rfl ⟨by omega, by omega⟩ ⟨by omega, by omega⟩ (fun h2 => ?_) (fun h2 => ?_)
    · refine ev_iconst (v := iI 0) (q := 54) dH_isKnownInput_53 rfl rfl ?_
      exact zr_zret dH_isKnownInput_54 rfl (by omega) ⟨by rw [lH_isKnownInput_2], rfl⟩
    · exfalso
      omega
  | succ j ih =>
    intro k  c0 c1
    have hs79 := zEx_79 hc hp0
    refine ev_iload_n 3 (q := 3) dH_isKnownInput_2 rfl (by rfl) rfl ?_
    refine ev_aload_n 0 (q := 4) dH_isKnownInput_3 rfl (by rfl) rfl ?_
    refine ev_get (q := 7) (v := zi (γ 0 0)) dH_isKnownInput_4 fH_53 at_H rfl rfl ?_
    have g1 : 0 ≤ γ 0 0 ∧ γ 0 0 ≤ 20 := hc.1 0 0 (by decide)
    refine zr_icmp_ge (t := 53) (q := 10) dH_isKnownInput_7 rfl rfl ⟨by omega, by omega⟩ ⟨by omega, by omega⟩ (fun h2 => ?_) (fun h2 => ?_)
    · exfalso
      omega
    · refine ev_aload_n 0 (q := 11) dH_isKnownInput_10 rfl (by rfl) rfl ?_
      refine ev_get (q := 14) dH_isKnownInput_11 fH_17 at_H (by rfl) rfl ?_
      refine ev_iload_n 2 (q := 15) dH_isKnownInput_14 rfl (by rfl) rfl ?_
      refine zr_aald (q := 16) dH_isKnownInput_15 (fun _ => ⟨_, rfl⟩) at_nodes (by decide) ⟨by omega, by omega⟩ (if_pos ⟨by omega, by omega⟩) rfl ?_
      refine ev_get (q := 19) (v := zi (γ 2 n)) dH_isKnownInput_16 fH_74 (at_N ⟨by omega, by omega⟩) rfl rfl ?_
      have g3 : 0 ≤ γ 2 n ∧ γ 2 n ≤ 1048575 := hc.1 2 n (by decide)
      refine ev_iload_n 3 (q := 20) dH_isKnownInput_19 rfl (by rfl) rfl ?_
      refine cv_S (As := [_, _]) (q := 23) dH_isKnownInput_20 kH_77 rfl (Nat.le_of_ble_eq_true rfl) rfl rfl rfl (by decide) (sH_has hc (γ 2 n) k ⟨by omega, by omega⟩ ⟨by omega, by omega⟩ ) ?_
      have g4 : (cH_has γ (γ 2 n) k) = 0 ∨ (cH_has γ (γ 2 n) k) = 1 := bH_has _ _ _
      refine zr_if_eq (t := 47) (q := 26) dH_isKnownInput_23 rfl rfl ⟨by omega, by omega⟩ (fun h5 => ?_) (fun h5 => ?_)
      · refine zr_iinc (q := 50) dH_isKnownInput_47 (by rfl) (by decide) rfl rfl ?_
        dsimp only [List.set]
        refine ev_goto (t := 2) (q := 2) dH_isKnownInput_50 rfl rfl ?_
        rw [show lH_isKnownInput_2 γ s n (j + 1) k = lH_isKnownInput_2 γ s n j (k + 1) from by rw [lH_isKnownInput_2, if_pos h5]]
        exact ih (k + 1)  (by omega) (by omega)
      · refine ev_aload_n 0 (q := 27) dH_isKnownInput_26 rfl (by rfl) rfl ?_
        refine ev_get (q := 30) dH_isKnownInput_27 fH_11 at_H (by rfl) rfl ?_
        refine ev_iload_n 3 (q := 31) dH_isKnownInput_30 rfl (by rfl) rfl ?_
        refine zr_aald (q := 32) dH_isKnownInput_31 (fun _ => ⟨_, rfl⟩) at_txs (by decide) ⟨by omega, by omega⟩ (if_pos ⟨by omega, by omega⟩) rfl ?_
        have t6 : 0 ≤ k ∧ k < γ 0 0 := ⟨by omega, by omega⟩
        refine ev_get (q := 35) dH_isKnownInput_32 fH_84 (at_T hc.2.1 t6) (by rfl) rfl ?_
        refine ev_aload_n 1 (q := 36) dH_isKnownInput_35 rfl (by rfl) rfl ?_
        refine ev_get (q := 39) dH_isKnownInput_36 fH_88 (at_S hc.2.1 hp0) (by rfl) rfl ?_
        refine cv_V (As := [_]) (q := 42) dH_isKnownInput_39 kH_93 (at_L hc.2.1 (zl0 t6)) rfl rfl (Nat.le_of_ble_eq_true rfl) rfl rfl rfl (by decide) (sL_holds hc (2 * k) s (zl0 t6) ⟨by omega, by omega⟩ ) ?_
        have g7 : (cL_holds γ (2 * k) s) = 0 ∨ (cL_holds γ (2 * k) s) = 1 := bL_holds _ _ _
        refine zr_if_eq (t := 47) (q := 45) dH_isKnownInput_42 rfl rfl ⟨by omega, by omega⟩ (fun h8 => ?_) (fun h8 => ?_)
        · refine zr_iinc (q := 50) dH_isKnownInput_47 (by rfl) (by decide) rfl rfl ?_
          dsimp only [List.set]
          refine ev_goto (t := 2) (q := 2) dH_isKnownInput_50 rfl rfl ?_
          rw [show lH_isKnownInput_2 γ s n (j + 1) k = lH_isKnownInput_2 γ s n j (k + 1) from by rw [lH_isKnownInput_2, if_neg h5, if_pos h8]]
          exact ih (k + 1)  (by omega) (by omega)
        · refine ev_iconst (v := iI 1) (q := 46) dH_isKnownInput_45 rfl rfl ?_
          exact zr_zret dH_isKnownInput_46 rfl (by omega) ⟨by rw [lH_isKnownInput_2, if_neg h5, if_neg h8], rfl⟩
def cH_isKnownInput (γ : z_Sg) (s n : Int) : Int := lH_isKnownInput_2 γ s n (γ 0 0).toNat 0
theorem bH_isKnownInput (γ : z_Sg) (s n : Int) : cH_isKnownInput γ s n = 0 ∨ cH_isKnownInput γ s n = 1 := by
  unfold cH_isKnownInput
  repeat' split
  all_goals first | exact Or.inl rfl | exact Or.inr rfl | exact blH_isKnownInput_2 _ _ _ _ _
set_option maxRecDepth 100000 in
set_option maxHeartbeats 4000000 in
theorem sH_isKnownInput {g : z_Gl} {γ ρ : z_Sg} (hc : zC g γ) (s n : Int) (hp0 : zEx γ s) (hp1 : 0 ≤ n ∧ n ≤ 3) : z_Sp mH_isKnownInput (2, 41) 0 0 [.ref (0), .ref (g.2.2.1 s), zi n] (zH g γ ρ) (fun r M' => r = some (zi (cH_isKnownInput γ s n)) ∧ M' = zH g γ ρ) := by
  refine z_Sp_of (L := [.ref (0), .ref (g.2.2.1 s), zi n, .float 0]) (by decide) rfl rfl rfl (Nat.le_of_ble_eq_true rfl) ?_
  refine ev_iconst (v := iI 0) (q := 1) dH_isKnownInput_0 rfl rfl ?_
  refine ev_istore_n 3 (q := 2) dH_isKnownInput_1 rfl (by decide) rfl rfl ?_
  dsimp only [List.set]
  have g1 : 0 ≤ γ 0 0 ∧ γ 0 0 ≤ 20 := hc.1 0 0 (by decide)
  rw [show cH_isKnownInput γ s n = lH_isKnownInput_2 γ s n (γ 0 0).toNat 0 from by rw [cH_isKnownInput]]
  exact eH_isKnownInput_2 hc s n hp0 hp1 (γ 0 0).toNat 0  (by omega) (by omega)

def lH_isHeld_2 (γ : z_Sg) (s n : Int) : Nat → Int → Int
  | 0, k => 0
  | j + 1, k => if (γ 20 k) ≠ n then lH_isHeld_2 γ s n j (k + 1) else if (cT_isOpen γ k) = 0 then lH_isHeld_2 γ s n j (k + 1) else if (cL_holds γ (2 * k) s) = 0 then lH_isHeld_2 γ s n j (k + 1) else 1
theorem blH_isHeld_2 (γ : z_Sg) (s n : Int) : ∀ (j : Nat) (k : Int), lH_isHeld_2 γ s n j k = 0 ∨ lH_isHeld_2 γ s n j k = 1 := by
  intro j
  induction j with
  | zero =>
    intro k
    rw [lH_isHeld_2]
    repeat' split
    all_goals first | exact Or.inl rfl | exact Or.inr rfl
  | succ j ih =>
    intro k
    rw [lH_isHeld_2]
    repeat' split
    all_goals first | exact Or.inl rfl | exact Or.inr rfl | exact ih _
set_option maxRecDepth 100000 in
set_option maxHeartbeats 4000000 in
theorem eH_isHeld_2 {g : z_Gl} {γ ρ : z_Sg} (hc : zC g γ) (s n : Int) (hp0 : zEx γ s) (hp1 : 0 ≤ n ∧ n ≤ 3) : ∀ (j : Nat) (k : Int) (x4 : Value), 0 ≤ k → k + j = γ 0 0 → z_Ev mH_isHeld (1, 22) 0 0 2 [.ref (0), .ref (g.2.2.1 s), zi n, zi k, x4] [] (zH g γ ρ) (fun r M' => r = some (zi (lH_isHeld_2 γ s n j k)) ∧ M' = zH g γ ρ) := by
  intro j
  induction j with
  | zero =>
    intro k x4 c0 c1
    refine ev_iload_n 3 (q := 3) dH_isHeld_2 rfl (by rfl) rfl ?_
    refine ev_aload_n 0 (q := 4) dH_isHeld_3 rfl (by rfl) rfl ?_
    refine ev_get (q := 7) (v := zi (γ 0 0)) dH_isHeld_4 fH_53 at_H rfl rfl ?_
    have g1 : 0 ≤ γ 0 0 ∧ γ 0 0 ≤ 20 := hc.1 0 0 (by decide)
    refine zr_icmp_ge (t := 58) (q := 10) dH_isHeld_7 rfl rfl ⟨by omega, by omega⟩ ⟨by omega, by omega⟩ (fun h2 => ?_) (fun h2 => ?_)
    · refine ev_iconst (v := iI 0) (q := 59) dH_isHeld_58 rfl rfl ?_
      exact zr_zret dH_isHeld_59 rfl (by omega) ⟨by rw [lH_isHeld_2], rfl⟩
    · exfalso
      omega
  | succ j ih =>
    intro k x4 c0 c1
    have hs79 := zEx_79 hc hp0
    refine ev_iload_n 3 (q := 3) dH_isHeld_2 rfl (by rfl) rfl ?_
    refine ev_aload_n 0 (q := 4) dH_isHeld_3 rfl (by rfl) rfl ?_
    refine ev_get (q := 7) (v := zi (γ 0 0)) dH_isHeld_4 fH_53 at_H rfl rfl ?_
    have g1 : 0 ≤ γ 0 0 ∧ γ 0 0 ≤ 20 := hc.1 0 0 (by decide)
    refine zr_icmp_ge (t := 58) (q := 10) dH_isHeld_7 rfl rfl ⟨by omega, by omega⟩ ⟨by omega, by omega⟩ (fun h2 => ?_) (fun h2 => ?_)
    · exfalso
      omega
    · refine ev_aload_n 0 (q := 11) dH_isHeld_10 rfl (by rfl) rfl ?_
      refine ev_get (q := 14) dH_isHeld_11 fH_11 at_H (by rfl) rfl ?_
      refine ev_iload_n 3 (q := 15) dH_isHeld_14 rfl (by rfl) rfl ?_
      refine zr_aald (q := 16) dH_isHeld_15 (fun _ => ⟨_, rfl⟩) at_txs (by decide) ⟨by omega, by omega⟩ (if_pos ⟨by omega, by omega⟩) rfl ?_
      have t3 : 0 ≤ k ∧ k < γ 0 0 := ⟨by omega, by omega⟩
      refine ev_astore (q := 18) dH_isHeld_16 (by decide) rfl rfl ?_
      dsimp only [List.set]
      refine ev_aload (q := 20) dH_isHeld_18 (by rfl) rfl ?_
      refine ev_get (q := 23) (v := zi (γ 20 k)) dH_isHeld_20 fH_71 (at_T hc.2.1 t3) rfl rfl ?_
      have g4 : 0 ≤ γ 20 k ∧ γ 20 k ≤ 3 := hc.1 20 k (by decide)
      refine ev_iload_n 2 (q := 24) dH_isHeld_23 rfl (by rfl) rfl ?_
      refine zr_icmp_ne (t := 52) (q := 27) dH_isHeld_24 rfl rfl ⟨by omega, by omega⟩ ⟨by omega, by omega⟩ (fun h5 => ?_) (fun h5 => ?_)
      · refine zr_iinc (q := 55) dH_isHeld_52 (by rfl) (by decide) rfl rfl ?_
        dsimp only [List.set]
        refine ev_goto (t := 2) (q := 2) dH_isHeld_55 rfl rfl ?_
        rw [show lH_isHeld_2 γ s n (j + 1) k = lH_isHeld_2 γ s n j (k + 1) from by rw [lH_isHeld_2, if_pos h5]]
        exact ih (k + 1) (.ref (g.1 k)) (by omega) (by omega)
      · refine ev_aload (q := 29) dH_isHeld_27 (by rfl) rfl ?_
        refine cv_V (As := []) (q := 32) dH_isHeld_29 kH_320 (at_T hc.2.1 t3) rfl rfl (Nat.le_of_ble_eq_true rfl) rfl rfl rfl (by decide) (sT_isOpen hc k t3 ) ?_
        have g6 : (cT_isOpen γ k) = 0 ∨ (cT_isOpen γ k) = 1 := bT_isOpen _ _
        refine zr_if_eq (t := 52) (q := 35) dH_isHeld_32 rfl rfl ⟨by omega, by omega⟩ (fun h7 => ?_) (fun h7 => ?_)
        · refine zr_iinc (q := 55) dH_isHeld_52 (by rfl) (by decide) rfl rfl ?_
          dsimp only [List.set]
          refine ev_goto (t := 2) (q := 2) dH_isHeld_55 rfl rfl ?_
          rw [show lH_isHeld_2 γ s n (j + 1) k = lH_isHeld_2 γ s n j (k + 1) from by rw [lH_isHeld_2, if_neg (fun z => z h5), if_pos h7]]
          exact ih (k + 1) (.ref (g.1 k)) (by omega) (by omega)
        · refine ev_aload (q := 37) dH_isHeld_35 (by rfl) rfl ?_
          refine ev_get (q := 40) dH_isHeld_37 fH_84 (at_T hc.2.1 t3) (by rfl) rfl ?_
          refine ev_aload_n 1 (q := 41) dH_isHeld_40 rfl (by rfl) rfl ?_
          refine ev_get (q := 44) dH_isHeld_41 fH_88 (at_S hc.2.1 hp0) (by rfl) rfl ?_
          refine cv_V (As := [_]) (q := 47) dH_isHeld_44 kH_93 (at_L hc.2.1 (zl0 t3)) rfl rfl (Nat.le_of_ble_eq_true rfl) rfl rfl rfl (by decide) (sL_holds hc (2 * k) s (zl0 t3) ⟨by omega, by omega⟩ ) ?_
          have g8 : (cL_holds γ (2 * k) s) = 0 ∨ (cL_holds γ (2 * k) s) = 1 := bL_holds _ _ _
          refine zr_if_eq (t := 52) (q := 50) dH_isHeld_47 rfl rfl ⟨by omega, by omega⟩ (fun h9 => ?_) (fun h9 => ?_)
          · refine zr_iinc (q := 55) dH_isHeld_52 (by rfl) (by decide) rfl rfl ?_
            dsimp only [List.set]
            refine ev_goto (t := 2) (q := 2) dH_isHeld_55 rfl rfl ?_
            rw [show lH_isHeld_2 γ s n (j + 1) k = lH_isHeld_2 γ s n j (k + 1) from by rw [lH_isHeld_2, if_neg (fun z => z h5), if_neg h7, if_pos h9]]
            exact ih (k + 1) (.ref (g.1 k)) (by omega) (by omega)
          · refine ev_iconst (v := iI 1) (q := 51) dH_isHeld_50 rfl rfl ?_
            exact zr_zret dH_isHeld_51 rfl (by omega) ⟨by rw [lH_isHeld_2, if_neg (fun z => z h5), if_neg h7, if_neg h9], rfl⟩
def cH_isHeld (γ : z_Sg) (s n : Int) : Int := lH_isHeld_2 γ s n (γ 0 0).toNat 0
theorem bH_isHeld (γ : z_Sg) (s n : Int) : cH_isHeld γ s n = 0 ∨ cH_isHeld γ s n = 1 := by
  unfold cH_isHeld
  repeat' split
  all_goals first | exact Or.inl rfl | exact Or.inr rfl | exact blH_isHeld_2 _ _ _ _ _
set_option maxRecDepth 100000 in
set_option maxHeartbeats 4000000 in
theorem sH_isHeld {g : z_Gl} {γ ρ : z_Sg} (hc : zC g γ) (s n : Int) (hp0 : zEx γ s) (hp1 : 0 ≤ n ∧ n ≤ 3) : z_Sp mH_isHeld (1, 22) 0 0 [.ref (0), .ref (g.2.2.1 s), zi n] (zH g γ ρ) (fun r M' => r = some (zi (cH_isHeld γ s n)) ∧ M' = zH g γ ρ) := by
  refine z_Sp_of (L := [.ref (0), .ref (g.2.2.1 s), zi n, .float 0, .float 0]) (by decide) rfl rfl rfl (Nat.le_of_ble_eq_true rfl) ?_
  refine ev_iconst (v := iI 0) (q := 1) dH_isHeld_0 rfl rfl ?_
  refine ev_istore_n 3 (q := 2) dH_isHeld_1 rfl (by decide) rfl rfl ?_
  dsimp only [List.set]
  have g1 : 0 ≤ γ 0 0 ∧ γ 0 0 ≤ 20 := hc.1 0 0 (by decide)
  rw [show cH_isHeld γ s n = lH_isHeld_2 γ s n (γ 0 0).toNat 0 from by rw [cH_isHeld]]
  exact eH_isHeld_2 hc s n hp0 hp1 (γ 0 0).toNat 0 (.float 0) (by omega) (by omega)

def cH_isInVault (γ : z_Sg) (s n : Int) : Int := if (cH_has γ (γ 3 n) (cS_source γ s)) = 0 then 0 else if (cS_concerns γ s n) = 0 then 0 else if (cH_isKnownInput γ s n) ≠ 0 then 0 else 1
theorem bH_isInVault (γ : z_Sg) (s n : Int) : cH_isInVault γ s n = 0 ∨ cH_isInVault γ s n = 1 := by
  unfold cH_isInVault
  repeat' split
  all_goals first | exact Or.inl rfl | exact Or.inr rfl
set_option maxRecDepth 100000 in
set_option maxHeartbeats 4000000 in
theorem sH_isInVault {g : z_Gl} {γ ρ : z_Sg} (hc : zC g γ) (s n : Int) (hp0 : zEx γ s) (hp1 : 0 ≤ n ∧ n ≤ 3) : z_Sp mH_isInVault (3, 64) 0 0 [.ref (0), .ref (g.2.2.1 s), zi n] (zH g γ ρ) (fun r M' => r = some (zi (cH_isInVault γ s n)) ∧ M' = zH g γ ρ) := by
  refine z_Sp_of (L := [.ref (0), .ref (g.2.2.1 s), zi n]) (by decide) rfl rfl rfl (Nat.le_of_ble_eq_true rfl) ?_
  have hs79 := zEx_79 hc hp0
  refine ev_aload_n 0 (q := 1) dH_isInVault_0 rfl (by rfl) rfl ?_
  refine ev_get (q := 4) dH_isInVault_1 fH_17 at_H (by rfl) rfl ?_
  refine ev_iload_n 2 (q := 5) dH_isInVault_4 rfl (by rfl) rfl ?_
  refine zr_aald (q := 6) dH_isInVault_5 (fun _ => ⟨_, rfl⟩) at_nodes (by decide) ⟨by omega, by omega⟩ (if_pos ⟨by omega, by omega⟩) rfl ?_
  refine ev_get (q := 9) (v := zi (γ 3 n)) dH_isInVault_6 fH_199 (at_N ⟨by omega, by omega⟩) rfl rfl ?_
  have g1 : 0 ≤ γ 3 n ∧ γ 3 n ≤ 1048575 := hc.1 3 n (by decide)
  refine ev_aload_n 1 (q := 10) dH_isInVault_9 rfl (by rfl) rfl ?_
  refine cv_V (As := []) (q := 13) dH_isInVault_10 kH_311 (at_S hc.2.1 hp0) rfl rfl (Nat.le_of_ble_eq_true rfl) rfl rfl rfl (by decide) (sS_source hc s hp0 ) ?_
  have g2 := bS_source hc s hp0 
  refine cv_S (As := [_, _]) (q := 16) dH_isInVault_13 kH_77 rfl (Nat.le_of_ble_eq_true rfl) rfl rfl rfl (by decide) (sH_has hc (γ 3 n) (cS_source γ s) ⟨by omega, by omega⟩ ⟨by omega, by omega⟩ ) ?_
  have g3 : (cH_has γ (γ 3 n) (cS_source γ s)) = 0 ∨ (cH_has γ (γ 3 n) (cS_source γ s)) = 1 := bH_has _ _ _
  refine zr_if_eq (t := 40) (q := 19) dH_isInVault_16 rfl rfl ⟨by omega, by omega⟩ (fun h4 => ?_) (fun h4 => ?_)
  · refine ev_iconst (v := iI 0) (q := 41) dH_isInVault_40 rfl rfl ?_
    exact zr_zret dH_isInVault_41 rfl (by omega) ⟨by rw [cH_isInVault, if_pos h4], rfl⟩
  · refine ev_aload_n 1 (q := 20) dH_isInVault_19 rfl (by rfl) rfl ?_
    refine ev_iload_n 2 (q := 21) dH_isInVault_20 rfl (by rfl) rfl ?_
    refine cv_V (As := [_]) (q := 24) dH_isInVault_21 kH_314 (at_S hc.2.1 hp0) rfl rfl (Nat.le_of_ble_eq_true rfl) rfl rfl rfl (by decide) (sS_concerns hc s n hp0 ⟨by omega, by omega⟩ ) ?_
    have g5 : (cS_concerns γ s n) = 0 ∨ (cS_concerns γ s n) = 1 := bS_concerns _ _ _
    refine zr_if_eq (t := 40) (q := 27) dH_isInVault_24 rfl rfl ⟨by omega, by omega⟩ (fun h6 => ?_) (fun h6 => ?_)
    · refine ev_iconst (v := iI 0) (q := 41) dH_isInVault_40 rfl rfl ?_
      exact zr_zret dH_isInVault_41 rfl (by omega) ⟨by rw [cH_isInVault, if_neg h4, if_pos h6], rfl⟩
    · refine ev_aload_n 0 (q := 28) dH_isInVault_27 rfl (by rfl) rfl ?_
      refine ev_aload_n 1 (q := 29) dH_isInVault_28 rfl (by rfl) rfl ?_
      refine ev_iload_n 2 (q := 30) dH_isInVault_29 rfl (by rfl) rfl ?_
      refine cv_V (As := [_, _]) (q := 33) dH_isInVault_30 kH_317 at_H rfl rfl (Nat.le_of_ble_eq_true rfl) rfl rfl rfl (by decide) (sH_isKnownInput hc s n hp0 ⟨by omega, by omega⟩ ) ?_
      have g7 : (cH_isKnownInput γ s n) = 0 ∨ (cH_isKnownInput γ s n) = 1 := bH_isKnownInput _ _ _
      refine zr_if_ne (t := 40) (q := 36) dH_isInVault_33 rfl rfl ⟨by omega, by omega⟩ (fun h8 => ?_) (fun h8 => ?_)
      · refine ev_iconst (v := iI 0) (q := 41) dH_isInVault_40 rfl rfl ?_
        exact zr_zret dH_isInVault_41 rfl (by omega) ⟨by rw [cH_isInVault, if_neg h4, if_neg h6, if_pos h8], rfl⟩
      · refine ev_iconst (v := iI 1) (q := 37) dH_isInVault_36 rfl rfl ?_
        refine ev_goto (t := 41) (q := 41) dH_isInVault_37 rfl rfl ?_
        exact zr_zret dH_isInVault_41 rfl (by omega) ⟨by rw [cH_isInVault, if_neg h4, if_neg h6, if_neg (fun z => z h8)], rfl⟩

def cH_isCoin (γ : z_Sg) (s iss t : Int) : Int := if (cS_isCashIssuedBy γ s iss) = 0 then 0 else if (cS_isBound γ s) ≠ 0 then 0 else if (γ 21 (cS_source γ s)) ≠ (γ 21 t) then 0 else if (cH_isInVault γ s (γ 20 t)) = 0 then 0 else if (cH_isHeld γ s (γ 20 t)) ≠ 0 then 0 else 1
theorem bH_isCoin (γ : z_Sg) (s iss t : Int) : cH_isCoin γ s iss t = 0 ∨ cH_isCoin γ s iss t = 1 := by
  unfold cH_isCoin
  repeat' split
  all_goals first | exact Or.inl rfl | exact Or.inr rfl
set_option maxRecDepth 100000 in
set_option maxHeartbeats 4000000 in
theorem sH_isCoin {g : z_Gl} {γ ρ : z_Sg} (hc : zC g γ) (s iss t : Int) (hp0 : zEx γ s) (hp1 : z_rg iss) (hp2 : 0 ≤ t ∧ t < γ 0 0) : z_Sp mH_isCoin (4, 86) 0 0 [.ref (0), .ref (g.2.2.1 s), zi iss, .ref (g.1 t)] (zH g γ ρ) (fun r M' => r = some (zi (cH_isCoin γ s iss t)) ∧ M' = zH g γ ρ) := by
  refine z_Sp_of (L := [.ref (0), .ref (g.2.2.1 s), zi iss, .ref (g.1 t)]) (by decide) rfl rfl rfl (Nat.le_of_ble_eq_true rfl) ?_
  have hs79 := zEx_79 hc hp0
  refine ev_aload_n 1 (q := 1) dH_isCoin_0 rfl (by rfl) rfl ?_
  refine ev_iload_n 2 (q := 2) dH_isCoin_1 rfl (by rfl) rfl ?_
  refine cv_V (As := [_]) (q := 5) dH_isCoin_2 kH_206 (at_S hc.2.1 hp0) rfl rfl (Nat.le_of_ble_eq_true rfl) rfl rfl rfl (by decide) (sS_isCashIssuedBy hc s iss hp0 ⟨by omega, by omega⟩ ) ?_
  have g1 : (cS_isCashIssuedBy γ s iss) = 0 ∨ (cS_isCashIssuedBy γ s iss) = 1 := bS_isCashIssuedBy _ _ _
  refine zr_if_eq (t := 62) (q := 8) dH_isCoin_5 rfl rfl ⟨by omega, by omega⟩ (fun h2 => ?_) (fun h2 => ?_)
  · refine ev_iconst (v := iI 0) (q := 63) dH_isCoin_62 rfl rfl ?_
    exact zr_zret dH_isCoin_63 rfl (by omega) ⟨by rw [cH_isCoin, if_pos h2], rfl⟩
  · refine ev_aload_n 1 (q := 9) dH_isCoin_8 rfl (by rfl) rfl ?_
    refine cv_V (As := []) (q := 12) dH_isCoin_9 kH_323 (at_S hc.2.1 hp0) rfl rfl (Nat.le_of_ble_eq_true rfl) rfl rfl rfl (by decide) (sS_isBound hc s hp0 ) ?_
    have g3 : (cS_isBound γ s) = 0 ∨ (cS_isBound γ s) = 1 := bS_isBound _ _
    refine zr_if_ne (t := 62) (q := 15) dH_isCoin_12 rfl rfl ⟨by omega, by omega⟩ (fun h4 => ?_) (fun h4 => ?_)
    · refine ev_iconst (v := iI 0) (q := 63) dH_isCoin_62 rfl rfl ?_
      exact zr_zret dH_isCoin_63 rfl (by omega) ⟨by rw [cH_isCoin, if_neg h2, if_pos h4], rfl⟩
    · refine ev_aload_n 0 (q := 16) dH_isCoin_15 rfl (by rfl) rfl ?_
      refine ev_get (q := 19) dH_isCoin_16 fH_11 at_H (by rfl) rfl ?_
      refine ev_aload_n 1 (q := 20) dH_isCoin_19 rfl (by rfl) rfl ?_
      refine cv_V (As := []) (q := 23) dH_isCoin_20 kH_311 (at_S hc.2.1 hp0) rfl rfl (Nat.le_of_ble_eq_true rfl) rfl rfl rfl (by decide) (sS_source hc s hp0 ) ?_
      have g5 := bS_source hc s hp0 
      refine zr_aald (q := 24) dH_isCoin_23 (fun _ => ⟨_, rfl⟩) at_txs (by decide) ⟨by omega, by omega⟩ (if_pos ⟨by omega, by omega⟩) rfl ?_
      have t6 : 0 ≤ (cS_source γ s) ∧ (cS_source γ s) < γ 0 0 := ⟨by omega, by omega⟩
      refine ev_get (q := 27) (v := zi (γ 21 (cS_source γ s))) dH_isCoin_24 fH_81 (at_T hc.2.1 t6) rfl rfl ?_
      have g7 : 0 ≤ γ 21 (cS_source γ s) ∧ γ 21 (cS_source γ s) ≤ 5 := hc.1 21 (cS_source γ s) (by decide)
      refine ev_aload_n 3 (q := 28) dH_isCoin_27 rfl (by rfl) rfl ?_
      refine ev_get (q := 31) (v := zi (γ 21 t)) dH_isCoin_28 fH_81 (at_T hc.2.1 hp2) rfl rfl ?_
      have g8 : 0 ≤ γ 21 t ∧ γ 21 t ≤ 5 := hc.1 21 t (by decide)
      refine zr_icmp_ne (t := 62) (q := 34) dH_isCoin_31 rfl rfl ⟨by omega, by omega⟩ ⟨by omega, by omega⟩ (fun h9 => ?_) (fun h9 => ?_)
      · refine ev_iconst (v := iI 0) (q := 63) dH_isCoin_62 rfl rfl ?_
        exact zr_zret dH_isCoin_63 rfl (by omega) ⟨by rw [cH_isCoin, if_neg h2, if_neg (fun z => z h4), if_pos h9], rfl⟩
      · refine ev_aload_n 0 (q := 35) dH_isCoin_34 rfl (by rfl) rfl ?_
        refine ev_aload_n 1 (q := 36) dH_isCoin_35 rfl (by rfl) rfl ?_
        refine ev_aload_n 3 (q := 37) dH_isCoin_36 rfl (by rfl) rfl ?_
        refine ev_get (q := 40) (v := zi (γ 20 t)) dH_isCoin_37 fH_71 (at_T hc.2.1 hp2) rfl rfl ?_
        have g10 : 0 ≤ γ 20 t ∧ γ 20 t ≤ 3 := hc.1 20 t (by decide)
        refine cv_V (As := [_, _]) (q := 43) dH_isCoin_40 kH_202 at_H rfl rfl (Nat.le_of_ble_eq_true rfl) rfl rfl rfl (by decide) (sH_isInVault hc s (γ 20 t) hp0 ⟨by omega, by omega⟩ ) ?_
        have g11 : (cH_isInVault γ s (γ 20 t)) = 0 ∨ (cH_isInVault γ s (γ 20 t)) = 1 := bH_isInVault _ _ _
        refine zr_if_eq (t := 62) (q := 46) dH_isCoin_43 rfl rfl ⟨by omega, by omega⟩ (fun h12 => ?_) (fun h12 => ?_)
        · refine ev_iconst (v := iI 0) (q := 63) dH_isCoin_62 rfl rfl ?_
          exact zr_zret dH_isCoin_63 rfl (by omega) ⟨by rw [cH_isCoin, if_neg h2, if_neg (fun z => z h4), if_neg (fun z => z h9), if_pos h12], rfl⟩
        · refine ev_aload_n 0 (q := 47) dH_isCoin_46 rfl (by rfl) rfl ?_
          refine ev_aload_n 1 (q := 48) dH_isCoin_47 rfl (by rfl) rfl ?_
          refine ev_aload_n 3 (q := 49) dH_isCoin_48 rfl (by rfl) rfl ?_
          refine ev_get (q := 52) (v := zi (γ 20 t)) dH_isCoin_49 fH_71 (at_T hc.2.1 hp2) rfl rfl ?_
          have g13 : 0 ≤ γ 20 t ∧ γ 20 t ≤ 3 := hc.1 20 t (by decide)
          refine cv_V (As := [_, _]) (q := 55) dH_isCoin_52 kH_326 at_H rfl rfl (Nat.le_of_ble_eq_true rfl) rfl rfl rfl (by decide) (sH_isHeld hc s (γ 20 t) hp0 ⟨by omega, by omega⟩ ) ?_
          have g14 : (cH_isHeld γ s (γ 20 t)) = 0 ∨ (cH_isHeld γ s (γ 20 t)) = 1 := bH_isHeld _ _ _
          refine zr_if_ne (t := 62) (q := 58) dH_isCoin_55 rfl rfl ⟨by omega, by omega⟩ (fun h15 => ?_) (fun h15 => ?_)
          · refine ev_iconst (v := iI 0) (q := 63) dH_isCoin_62 rfl rfl ?_
            exact zr_zret dH_isCoin_63 rfl (by omega) ⟨by rw [cH_isCoin, if_neg h2, if_neg (fun z => z h4), if_neg (fun z => z h9), if_neg h12, if_pos h15], rfl⟩
          · refine ev_iconst (v := iI 1) (q := 59) dH_isCoin_58 rfl rfl ?_
            refine ev_goto (t := 63) (q := 63) dH_isCoin_59 rfl rfl ?_
            exact zr_zret dH_isCoin_63 rfl (by omega) ⟨by rw [cH_isCoin, if_neg h2, if_neg (fun z => z h4), if_neg (fun z => z h9), if_neg h12, if_neg (fun z => z h15)], rfl⟩

def cH_stage (γ : z_Sg) (t : Int) : Int := if 0 ≤ t ∧ t < (γ 0 0) then (γ 25 t) else (-1)
set_option maxRecDepth 100000 in
set_option maxHeartbeats 4000000 in
theorem sH_stage {g : z_Gl} {γ ρ : z_Sg} (hc : zC g γ) (t : Int) (hp0 : z_rg t) : z_Sp mH_stage (1, 21) 0 0 [.ref (0), zi t] (zH g γ ρ) (fun r M' => r = some (zi (cH_stage γ t)) ∧ M' = zH g γ ρ) := by
  refine z_Sp_of (L := [.ref (0), zi t, .float 0]) (by decide) rfl rfl rfl (Nat.le_of_ble_eq_true rfl) ?_
  have g0 : 0 ≤ γ 0 0 ∧ γ 0 0 ≤ 20 := hc.1 0 0 (by decide)
  refine ev_aload_n 0 (q := 1) dH_stage_0 rfl (by rfl) rfl ?_
  refine ev_iload_n 1 (q := 2) dH_stage_1 rfl (by rfl) rfl ?_
  by_cases h1 : 0 ≤ t ∧ t < (γ 0 0)
  · refine cv_V (As := [_]) (q := 5) dH_stage_2 kH_60 at_H rfl rfl (Nat.le_of_ble_eq_true rfl) rfl rfl rfl (by decide) (sH_find_s hc t  h1) ?_
    refine ev_astore_n 2 (q := 6) dH_stage_5 rfl (by decide) rfl rfl ?_
    dsimp only [List.set]
    refine ev_aload_n 2 (q := 7) dH_stage_6 rfl (by rfl) rfl ?_
    refine ev_ifnonnull (t := 14) (q := 14) dH_stage_7 rfl rfl ?_
    refine ev_aload_n 2 (q := 15) dH_stage_14 rfl (by rfl) rfl ?_
    refine ev_get (q := 18) (v := zi (γ 25 t)) dH_stage_15 fH_68 (at_T hc.2.1 h1) rfl rfl ?_
    have g2 : 0 ≤ γ 25 t ∧ γ 25 t ≤ 9 := hc.1 25 t (by decide)
    exact zr_iret dH_stage_18 rfl ⟨by rw [cH_stage, if_pos h1], rfl⟩
  · refine cv_V (As := [_]) (q := 5) dH_stage_2 kH_60 at_H rfl rfl (Nat.le_of_ble_eq_true rfl) rfl rfl rfl (by decide) (sH_find_n hc t ⟨by omega, by omega⟩ h1) ?_
    refine ev_astore_nN 2 (q := 6) dH_stage_5 rfl (by decide) rfl rfl ?_
    dsimp only [List.set]
    refine ev_aload_nN 2 (q := 7) dH_stage_6 rfl (by rfl) rfl ?_
    refine ev_ifnonnullN (q := 10) dH_stage_7 rfl ?_
    refine ev_iconst (v := iI (-1)) (q := 11) dH_stage_10 rfl rfl ?_
    refine ev_goto (t := 18) (q := 18) dH_stage_11 rfl rfl ?_
    exact zr_iret dH_stage_18 rfl ⟨by rw [cH_stage, if_neg h1], rfl⟩

def cH_verdict (γ : z_Sg) (t : Int) : Int := if 0 ≤ t ∧ t < (γ 0 0) then (γ 31 t) else (-1)
set_option maxRecDepth 100000 in
set_option maxHeartbeats 4000000 in
theorem sH_verdict {g : z_Gl} {γ ρ : z_Sg} (hc : zC g γ) (t : Int) (hp0 : z_rg t) : z_Sp mH_verdict (1, 21) 0 0 [.ref (0), zi t] (zH g γ ρ) (fun r M' => r = some (zi (cH_verdict γ t)) ∧ M' = zH g γ ρ) := by
  refine z_Sp_of (L := [.ref (0), zi t, .float 0]) (by decide) rfl rfl rfl (Nat.le_of_ble_eq_true rfl) ?_
  have g0 : 0 ≤ γ 0 0 ∧ γ 0 0 ≤ 20 := hc.1 0 0 (by decide)
  refine ev_aload_n 0 (q := 1) dH_verdict_0 rfl (by rfl) rfl ?_
  refine ev_iload_n 1 (q := 2) dH_verdict_1 rfl (by rfl) rfl ?_
  by_cases h1 : 0 ≤ t ∧ t < (γ 0 0)
  · refine cv_V (As := [_]) (q := 5) dH_verdict_2 kH_60 at_H rfl rfl (Nat.le_of_ble_eq_true rfl) rfl rfl rfl (by decide) (sH_find_s hc t  h1) ?_
    refine ev_astore_n 2 (q := 6) dH_verdict_5 rfl (by decide) rfl rfl ?_
    dsimp only [List.set]
    refine ev_aload_n 2 (q := 7) dH_verdict_6 rfl (by rfl) rfl ?_
    refine ev_ifnonnull (t := 14) (q := 14) dH_verdict_7 rfl rfl ?_
    refine ev_aload_n 2 (q := 15) dH_verdict_14 rfl (by rfl) rfl ?_
    refine ev_get (q := 18) (v := zi (γ 31 t)) dH_verdict_15 fH_196 (at_T hc.2.1 h1) rfl rfl ?_
    have g2 : 0 ≤ γ 31 t ∧ γ 31 t ≤ 4 := hc.1 31 t (by decide)
    exact zr_iret dH_verdict_18 rfl ⟨by rw [cH_verdict, if_pos h1], rfl⟩
  · refine cv_V (As := [_]) (q := 5) dH_verdict_2 kH_60 at_H rfl rfl (Nat.le_of_ble_eq_true rfl) rfl rfl rfl (by decide) (sH_find_n hc t ⟨by omega, by omega⟩ h1) ?_
    refine ev_astore_nN 2 (q := 6) dH_verdict_5 rfl (by decide) rfl rfl ?_
    dsimp only [List.set]
    refine ev_aload_nN 2 (q := 7) dH_verdict_6 rfl (by rfl) rfl ?_
    refine ev_ifnonnullN (q := 10) dH_verdict_7 rfl ?_
    refine ev_iconst (v := iI (-1)) (q := 11) dH_verdict_10 rfl rfl ?_
    refine ev_goto (t := 18) (q := 18) dH_verdict_11 rfl rfl ?_
    exact zr_iret dH_verdict_18 rfl ⟨by rw [cH_verdict, if_neg h1], rfl⟩

def cH_signatures (γ : z_Sg) (t nd : Int) : Int := if 0 ≤ t ∧ t < (γ 0 0) then if nd = 0 then (γ 28 t) else (cT_needs γ t) else (-1)
set_option maxRecDepth 100000 in
set_option maxHeartbeats 4000000 in
theorem sH_signatures {g : z_Gl} {γ ρ : z_Sg} (hc : zC g γ) (t nd : Int) (hp0 : z_rg t) (hp1 : 0 ≤ nd ∧ nd ≤ 1) : z_Sp mH_signatures (5, 113) 0 0 [.ref (0), zi t, zi nd] (zH g γ ρ) (fun r M' => r = some (zi (cH_signatures γ t nd)) ∧ M' = zH g γ ρ) := by
  refine z_Sp_of (L := [.ref (0), zi t, zi nd, .float 0]) (by decide) rfl rfl rfl (Nat.le_of_ble_eq_true rfl) ?_
  have g0 : 0 ≤ γ 0 0 ∧ γ 0 0 ≤ 20 := hc.1 0 0 (by decide)
  refine ev_aload_n 0 (q := 1) dH_signatures_0 rfl (by rfl) rfl ?_
  refine ev_iload_n 1 (q := 2) dH_signatures_1 rfl (by rfl) rfl ?_
  by_cases h1 : 0 ≤ t ∧ t < (γ 0 0)
  · refine cv_V (As := [_]) (q := 5) dH_signatures_2 kH_60 at_H rfl rfl (Nat.le_of_ble_eq_true rfl) rfl rfl rfl (by decide) (sH_find_s hc t  h1) ?_
    refine ev_astore_n 3 (q := 6) dH_signatures_5 rfl (by decide) rfl rfl ?_
    dsimp only [List.set]
    refine ev_aload_n 3 (q := 7) dH_signatures_6 rfl (by rfl) rfl ?_
    refine ev_ifnonnull (t := 12) (q := 12) dH_signatures_7 rfl rfl ?_
    refine ev_iload_n 2 (q := 13) dH_signatures_12 rfl (by rfl) rfl ?_
    refine zr_if_eq (t := 23) (q := 16) dH_signatures_13 rfl rfl ⟨by omega, by omega⟩ (fun h2 => ?_) (fun h2 => ?_)
    · refine ev_aload_n 3 (q := 24) dH_signatures_23 rfl (by rfl) rfl ?_
      refine ev_get (q := 27) (v := zi (γ 28 t)) dH_signatures_24 fH_193 (at_T hc.2.1 h1) rfl rfl ?_
      have g3 : 0 ≤ γ 28 t ∧ γ 28 t ≤ 15 := hc.1 28 t (by decide)
      exact zr_iret dH_signatures_27 rfl ⟨by rw [cH_signatures, if_pos h1, if_pos h2], rfl⟩
    · refine ev_aload_n 3 (q := 17) dH_signatures_16 rfl (by rfl) rfl ?_
      refine cv_V (As := []) (q := 20) dH_signatures_17 kH_190 (at_T hc.2.1 h1) rfl rfl (Nat.le_of_ble_eq_true rfl) rfl rfl rfl (by decide) (sT_needs hc t h1 ) ?_
      have g4 := bT_needs hc t h1 
      refine ev_goto (t := 27) (q := 27) dH_signatures_20 rfl rfl ?_
      exact zr_iret dH_signatures_27 rfl ⟨by rw [cH_signatures, if_pos h1, if_neg h2], rfl⟩
  · refine cv_V (As := [_]) (q := 5) dH_signatures_2 kH_60 at_H rfl rfl (Nat.le_of_ble_eq_true rfl) rfl rfl rfl (by decide) (sH_find_n hc t ⟨by omega, by omega⟩ h1) ?_
    refine ev_astore_nN 3 (q := 6) dH_signatures_5 rfl (by decide) rfl rfl ?_
    dsimp only [List.set]
    refine ev_aload_nN 3 (q := 7) dH_signatures_6 rfl (by rfl) rfl ?_
    refine ev_ifnonnullN (q := 10) dH_signatures_7 rfl ?_
    refine ev_iconst (v := iI (-1)) (q := 11) dH_signatures_10 rfl rfl ?_
    exact zr_iret dH_signatures_11 rfl ⟨by rw [cH_signatures, if_neg h1], rfl⟩

def cH_spender (γ : z_Sg) (u o : Int) : Int := if 0 ≤ u ∧ u < (γ 0 0) ∧ 0 ≤ o ∧ o < γ 32 (2 * u + 1) then (γ 8 (4 * u + o)) else (-1)
set_option maxRecDepth 100000 in
set_option maxHeartbeats 4000000 in
theorem sH_spender {g : z_Gl} {γ ρ : z_Sg} (hc : zC g γ) (u o : Int) (hp0 : z_rg u) (hp1 : z_rg o) : z_Sp mH_spender (2, 44) 0 0 [.ref (0), zi u, zi o] (zH g γ ρ) (fun r M' => r = some (zi (cH_spender γ u o)) ∧ M' = zH g γ ρ) := by
  refine z_Sp_of (L := [.ref (0), zi u, zi o, .float 0]) (by decide) rfl rfl rfl (Nat.le_of_ble_eq_true rfl) ?_
  have g0 : 0 ≤ γ 0 0 ∧ γ 0 0 ≤ 20 := hc.1 0 0 (by decide)
  refine ev_aload_n 0 (q := 1) dH_spender_0 rfl (by rfl) rfl ?_
  refine ev_iload_n 1 (q := 2) dH_spender_1 rfl (by rfl) rfl ?_
  refine ev_iload_n 2 (q := 3) dH_spender_2 rfl (by rfl) rfl ?_
  by_cases h1 : 0 ≤ u ∧ u < (γ 0 0) ∧ 0 ≤ o ∧ o < γ 32 (2 * u + 1)
  · refine cv_V (As := [_, _]) (q := 6) dH_spender_3 kH_64 at_H rfl rfl (Nat.le_of_ble_eq_true rfl) rfl rfl rfl (by decide) (sH_findState_s hc u o  h1) ?_
    have g3 : 0 ≤ γ 32 (2 * u + 1) ∧ γ 32 (2 * u + 1) ≤ 4 := hc.1 32 _ (by decide)
    refine ev_astore_n 3 (q := 7) dH_spender_6 rfl (by decide) rfl rfl ?_
    dsimp only [List.set]
    refine ev_aload_n 3 (q := 8) dH_spender_7 rfl (by rfl) rfl ?_
    refine ev_ifnonnull (t := 15) (q := 15) dH_spender_8 rfl rfl ?_
    refine ev_aload_n 0 (q := 16) dH_spender_15 rfl (by rfl) rfl ?_
    refine ev_get (q := 19) dH_spender_16 fH_29 at_H (by rfl) rfl ?_
    refine ev_aload_n 3 (q := 20) dH_spender_19 rfl (by rfl) rfl ?_
    refine ev_get (q := 23) dH_spender_20 fH_88 (at_S hc.2.1 (zEx_of hc h1)) (by rfl) rfl ?_
    refine zr_iald (q := 24) (g := γ 8) dH_spender_23 at_spenders (by decide) ⟨by omega, by omega⟩ rfl ?_
    have g2 : -1 ≤ γ 8 (4 * u + o) ∧ γ 8 (4 * u + o) ≤ 19 := hc.1 8 (4 * u + o) (by decide)
    exact zr_iret dH_spender_24 rfl ⟨by rw [cH_spender, if_pos h1], rfl⟩
  · refine cv_V (As := [_, _]) (q := 6) dH_spender_3 kH_64 at_H rfl rfl (Nat.le_of_ble_eq_true rfl) rfl rfl rfl (by decide) (sH_findState_n hc u o ⟨by omega, by omega⟩ ⟨by omega, by omega⟩ h1) ?_
    refine ev_astore_nN 3 (q := 7) dH_spender_6 rfl (by decide) rfl rfl ?_
    dsimp only [List.set]
    refine ev_aload_nN 3 (q := 8) dH_spender_7 rfl (by rfl) rfl ?_
    refine ev_ifnonnullN (q := 11) dH_spender_8 rfl ?_
    refine ev_iconst (v := iI (-1)) (q := 12) dH_spender_11 rfl rfl ?_
    refine ev_goto (t := 24) (q := 24) dH_spender_12 rfl rfl ?_
    exact zr_iret dH_spender_24 rfl ⟨by rw [cH_spender, if_neg h1], rfl⟩

def cH_standing (γ : z_Sg) (n t : Int) : Int := if (cH_isNode γ n) = 0 then (-1) else if 0 ≤ t ∧ t < (γ 0 0) then if (cH_has γ (γ 3 n) t) = 0 then if (cH_has γ (γ 2 n) t) = 0 then 0 else 1 else 2 else (-1)
set_option maxRecDepth 100000 in
set_option maxHeartbeats 4000000 in
theorem sH_standing {g : z_Gl} {γ ρ : z_Sg} (hc : zC g γ) (n t : Int) (hp0 : z_rg n) (hp1 : z_rg t) : z_Sp mH_standing (2, 41) 0 0 [.ref (0), zi n, zi t] (zH g γ ρ) (fun r M' => r = some (zi (cH_standing γ n t)) ∧ M' = zH g γ ρ) := by
  refine z_Sp_of (L := [.ref (0), zi n, zi t]) (by decide) rfl rfl rfl (Nat.le_of_ble_eq_true rfl) ?_
  have g0 : 0 ≤ γ 0 0 ∧ γ 0 0 ≤ 20 := hc.1 0 0 (by decide)
  refine ev_iload_n 1 (q := 1) dH_standing_0 rfl (by rfl) rfl ?_
  refine cv_S (As := [_]) (q := 4) dH_standing_1 kH_45 rfl (Nat.le_of_ble_eq_true rfl) rfl rfl rfl (by decide) (sH_isNode hc n ⟨by omega, by omega⟩ ) ?_
  have g1 : (cH_isNode γ n) = 0 ∨ (cH_isNode γ n) = 1 := bH_isNode _ _
  refine zr_if_eq (t := 15) (q := 7) dH_standing_4 rfl rfl ⟨by omega, by omega⟩ (fun h2 => ?_) (fun h2 => ?_)
  · refine ev_iconst (v := iI (-1)) (q := 16) dH_standing_15 rfl rfl ?_
    exact zr_iret dH_standing_16 rfl ⟨by rw [cH_standing, if_pos h2], rfl⟩
  · have f10 := tH_isNode hc h2
    refine ev_aload_n 0 (q := 8) dH_standing_7 rfl (by rfl) rfl ?_
    refine ev_iload_n 2 (q := 9) dH_standing_8 rfl (by rfl) rfl ?_
    by_cases h3 : 0 ≤ t ∧ t < (γ 0 0)
    · refine cv_V (As := [_]) (q := 12) dH_standing_9 kH_60 at_H rfl rfl (Nat.le_of_ble_eq_true rfl) rfl rfl rfl (by decide) (sH_find_s hc t  h3) ?_
      refine ev_ifnonnull (t := 17) (q := 17) dH_standing_12 rfl rfl ?_
      refine ev_aload_n 0 (q := 18) dH_standing_17 rfl (by rfl) rfl ?_
      refine ev_get (q := 21) dH_standing_18 fH_17 at_H (by rfl) rfl ?_
      refine ev_iload_n 1 (q := 22) dH_standing_21 rfl (by rfl) rfl ?_
      refine zr_aald (q := 23) dH_standing_22 (fun _ => ⟨_, rfl⟩) at_nodes (by decide) ⟨by omega, by omega⟩ (if_pos ⟨by omega, by omega⟩) rfl ?_
      refine ev_get (q := 26) (v := zi (γ 3 n)) dH_standing_23 fH_199 (at_N ⟨by omega, by omega⟩) rfl rfl ?_
      have g4 : 0 ≤ γ 3 n ∧ γ 3 n ≤ 1048575 := hc.1 3 n (by decide)
      refine ev_iload_n 2 (q := 27) dH_standing_26 rfl (by rfl) rfl ?_
      refine cv_S (As := [_, _]) (q := 30) dH_standing_27 kH_77 rfl (Nat.le_of_ble_eq_true rfl) rfl rfl rfl (by decide) (sH_has hc (γ 3 n) t ⟨by omega, by omega⟩ ⟨by omega, by omega⟩ ) ?_
      have g5 : (cH_has γ (γ 3 n) t) = 0 ∨ (cH_has γ (γ 3 n) t) = 1 := bH_has _ _ _
      refine zr_if_eq (t := 35) (q := 33) dH_standing_30 rfl rfl ⟨by omega, by omega⟩ (fun h6 => ?_) (fun h6 => ?_)
      · refine ev_aload_n 0 (q := 36) dH_standing_35 rfl (by rfl) rfl ?_
        refine ev_get (q := 39) dH_standing_36 fH_17 at_H (by rfl) rfl ?_
        refine ev_iload_n 1 (q := 40) dH_standing_39 rfl (by rfl) rfl ?_
        refine zr_aald (q := 41) dH_standing_40 (fun _ => ⟨_, rfl⟩) at_nodes (by decide) ⟨by omega, by omega⟩ (if_pos ⟨by omega, by omega⟩) rfl ?_
        refine ev_get (q := 44) (v := zi (γ 2 n)) dH_standing_41 fH_74 (at_N ⟨by omega, by omega⟩) rfl rfl ?_
        have g7 : 0 ≤ γ 2 n ∧ γ 2 n ≤ 1048575 := hc.1 2 n (by decide)
        refine ev_iload_n 2 (q := 45) dH_standing_44 rfl (by rfl) rfl ?_
        refine cv_S (As := [_, _]) (q := 48) dH_standing_45 kH_77 rfl (Nat.le_of_ble_eq_true rfl) rfl rfl rfl (by decide) (sH_has hc (γ 2 n) t ⟨by omega, by omega⟩ ⟨by omega, by omega⟩ ) ?_
        have g8 : (cH_has γ (γ 2 n) t) = 0 ∨ (cH_has γ (γ 2 n) t) = 1 := bH_has _ _ _
        refine zr_if_eq (t := 55) (q := 51) dH_standing_48 rfl rfl ⟨by omega, by omega⟩ (fun h9 => ?_) (fun h9 => ?_)
        · refine ev_iconst (v := iI 0) (q := 56) dH_standing_55 rfl rfl ?_
          exact zr_iret dH_standing_56 rfl ⟨by rw [cH_standing, if_neg h2, if_pos h3, if_pos h6, if_pos h9], rfl⟩
        · refine ev_iconst (v := iI 1) (q := 52) dH_standing_51 rfl rfl ?_
          refine ev_goto (t := 56) (q := 56) dH_standing_52 rfl rfl ?_
          exact zr_iret dH_standing_56 rfl ⟨by rw [cH_standing, if_neg h2, if_pos h3, if_pos h6, if_neg h9], rfl⟩
      · refine ev_iconst (v := iI 2) (q := 34) dH_standing_33 rfl rfl ?_
        exact zr_iret dH_standing_34 rfl ⟨by rw [cH_standing, if_neg h2, if_pos h3, if_neg h6], rfl⟩
    · refine cv_V (As := [_]) (q := 12) dH_standing_9 kH_60 at_H rfl rfl (Nat.le_of_ble_eq_true rfl) rfl rfl rfl (by decide) (sH_find_n hc t ⟨by omega, by omega⟩ h3) ?_
      refine ev_ifnonnullN (q := 15) dH_standing_12 rfl ?_
      refine ev_iconst (v := iI (-1)) (q := 16) dH_standing_15 rfl rfl ?_
      exact zr_iret dH_standing_16 rfl ⟨by rw [cH_standing, if_neg h2, if_neg h3], rfl⟩

def cH_fetched (γ : z_Sg) (n : Int) : Int := if (cH_isNode γ n) = 0 then (-1) else (γ 4 n)
set_option maxRecDepth 100000 in
set_option maxHeartbeats 4000000 in
theorem sH_fetched {g : z_Gl} {γ ρ : z_Sg} (hc : zC g γ) (n : Int) (hp0 : z_rg n) : z_Sp mH_fetched (1, 20) 0 0 [.ref (0), zi n] (zH g γ ρ) (fun r M' => r = some (zi (cH_fetched γ n)) ∧ M' = zH g γ ρ) := by
  refine z_Sp_of (L := [.ref (0), zi n]) (by decide) rfl rfl rfl (Nat.le_of_ble_eq_true rfl) ?_
  have g0 : 0 ≤ γ 0 0 ∧ γ 0 0 ≤ 20 := hc.1 0 0 (by decide)
  refine ev_iload_n 1 (q := 1) dH_fetched_0 rfl (by rfl) rfl ?_
  refine cv_S (As := [_]) (q := 4) dH_fetched_1 kH_45 rfl (Nat.le_of_ble_eq_true rfl) rfl rfl rfl (by decide) (sH_isNode hc n ⟨by omega, by omega⟩ ) ?_
  have g1 : (cH_isNode γ n) = 0 ∨ (cH_isNode γ n) = 1 := bH_isNode _ _
  refine zr_if_eq (t := 19) (q := 7) dH_fetched_4 rfl rfl ⟨by omega, by omega⟩ (fun h2 => ?_) (fun h2 => ?_)
  · refine ev_iconst (v := iI (-1)) (q := 20) dH_fetched_19 rfl rfl ?_
    exact zr_iret dH_fetched_20 rfl ⟨by rw [cH_fetched, if_pos h2], rfl⟩
  · have f3 := tH_isNode hc h2
    refine ev_aload_n 0 (q := 8) dH_fetched_7 rfl (by rfl) rfl ?_
    refine ev_get (q := 11) dH_fetched_8 fH_17 at_H (by rfl) rfl ?_
    refine ev_iload_n 1 (q := 12) dH_fetched_11 rfl (by rfl) rfl ?_
    refine zr_aald (q := 13) dH_fetched_12 (fun _ => ⟨_, rfl⟩) at_nodes (by decide) ⟨by omega, by omega⟩ (if_pos ⟨by omega, by omega⟩) rfl ?_
    refine ev_get (q := 16) (v := zi (γ 4 n)) dH_fetched_13 fH_209 (at_N ⟨by omega, by omega⟩) rfl rfl ?_
    refine ev_goto (t := 20) (q := 20) dH_fetched_16 rfl rfl ?_
    exact zr_iret dH_fetched_20 rfl ⟨by rw [cH_fetched, if_neg h2], rfl⟩

def cH_message (γ : z_Sg) (k : Int) : Int := if k ≠ (-1) then if (cB_holdsPlace γ k) = 0 then (-1) else (γ 7 k) else (γ 6 0)
set_option maxRecDepth 100000 in
set_option maxHeartbeats 4000000 in
theorem sH_message {g : z_Gl} {γ ρ : z_Sg} (hc : zC g γ) (k : Int) (hp0 : z_rg k) : z_Sp mH_message (1, 21) 0 0 [.ref (0), zi k] (zH g γ ρ) (fun r M' => r = some (zi (cH_message γ k)) ∧ M' = zH g γ ρ) := by
  refine z_Sp_of (L := [.ref (0), zi k]) (by decide) rfl rfl rfl (Nat.le_of_ble_eq_true rfl) ?_
  have g0 : 0 ≤ γ 0 0 ∧ γ 0 0 ≤ 20 := hc.1 0 0 (by decide)
  refine ev_iload_n 1 (q := 1) dH_message_0 rfl (by rfl) rfl ?_
  refine ev_iconst (v := iI (-1)) (q := 2) dH_message_1 rfl rfl ?_
  refine zr_icmp_ne (t := 13) (q := 5) dH_message_2 rfl rfl ⟨by omega, by omega⟩ ⟨by omega, by omega⟩ (fun h1 => ?_) (fun h1 => ?_)
  · refine ev_aload_n 0 (q := 14) dH_message_13 rfl (by rfl) rfl ?_
    refine ev_get (q := 17) dH_message_14 fH_25 at_H (by rfl) rfl ?_
    refine ev_iload_n 1 (q := 18) dH_message_17 rfl (by rfl) rfl ?_
    refine cv_V (As := [_]) (q := 21) dH_message_18 kH_163 at_B rfl rfl (Nat.le_of_ble_eq_true rfl) rfl rfl rfl (by decide) (sB_holdsPlace hc k ⟨by omega, by omega⟩ ) ?_
    have g2 : (cB_holdsPlace γ k) = 0 ∨ (cB_holdsPlace γ k) = 1 := bB_holdsPlace _ _
    refine zr_if_eq (t := 36) (q := 24) dH_message_21 rfl rfl ⟨by omega, by omega⟩ (fun h3 => ?_) (fun h3 => ?_)
    · refine ev_iconst (v := iI (-1)) (q := 37) dH_message_36 rfl rfl ?_
      exact zr_iret dH_message_37 rfl ⟨by rw [cH_message, if_pos h1, if_pos h3], rfl⟩
    · have f5 := tB_holdsPlace hc h3
      refine ev_aload_n 0 (q := 25) dH_message_24 rfl (by rfl) rfl ?_
      refine ev_get (q := 28) dH_message_25 fH_25 at_H (by rfl) rfl ?_
      refine ev_get (q := 31) dH_message_28 fH_166 at_B (by rfl) rfl ?_
      refine ev_iload_n 1 (q := 32) dH_message_31 rfl (by rfl) rfl ?_
      refine zr_iald (q := 33) (g := γ 7) dH_message_32 at_codes (by decide) ⟨by omega, by omega⟩ rfl ?_
      have g4 : 0 ≤ γ 7 k ∧ γ 7 k ≤ 131071 := hc.1 7 k (by decide)
      refine ev_goto (t := 37) (q := 37) dH_message_33 rfl rfl ?_
      exact zr_iret dH_message_37 rfl ⟨by rw [cH_message, if_pos h1, if_neg h3], rfl⟩
  · refine ev_aload_n 0 (q := 6) dH_message_5 rfl (by rfl) rfl ?_
    refine ev_get (q := 9) dH_message_6 fH_25 at_H (by rfl) rfl ?_
    refine ev_get (q := 12) (v := zi (γ 6 0)) dH_message_9 fH_177 at_B rfl rfl ?_
    have g6 : 0 ≤ γ 6 0 ∧ γ 6 0 ≤ 220 := hc.1 6 0 (by decide)
    exact zr_iret dH_message_12 rfl ⟨by rw [cH_message, if_neg (fun z => z h1)], rfl⟩

def lH_vault_19 (γ : z_Sg) (n p : Int) : Nat → Int → Int → Int
  | 0, k, pl => if p ≠ (-1) then (-1) else pl
  | j + 1, k, pl => if 0 ≤ k ∧ k / 4 < (γ 0 0) ∧ k % 4 < γ 32 (2 * (k / 4) + 1) then if (cH_isInVault γ k n) = 0 then lH_vault_19 γ n p j (k + 1) pl else if pl ≠ p then lH_vault_19 γ n p j (k + 1) (pl + 1) else k else lH_vault_19 γ n p j (k + 1) pl
set_option maxRecDepth 100000 in
set_option maxHeartbeats 4000000 in
theorem eH_vault_19 {g : z_Gl} {γ ρ : z_Sg} (hc : zC g γ) (n p : Int) (hp0 : z_rg n) (hp1 : z_rg p) : ∀ (j : Nat) (k pl : Int) (x5 : Value), 0 ≤ k → k + j = γ 0 0 * 4 → (0 ≤ n ∧ n ≤ 3) → (0 ≤ pl ∧ pl ≤ k) → z_Ev mH_vault (4, 86) 0 0 19 [.ref (0), zi n, zi p, zi pl, zi k, x5] [] (zH g γ ρ) (fun r M' => r = some (zi (lH_vault_19 γ n p j k pl)) ∧ M' = zH g γ ρ) := by
  intro j
  induction j with
  | zero =>
    intro k pl x5 c0 c1 c2 c3
    have g0 : 0 ≤ γ 0 0 ∧ γ 0 0 ≤ 20 := hc.1 0 0 (by decide)
    refine ev_iload (q := 21) dH_vault_19 (by rfl) rfl ?_
    refine ev_aload_n 0 (q := 22) dH_vault_21 rfl (by rfl) rfl ?_
    refine cv_V (As := []) (q := 25) dH_vault_22 kH_122 at_H rfl rfl (Nat.le_of_ble_eq_true rfl) rfl rfl rfl (by decide) (sH_stateNumbersEnd hc   ) ?_
    have g1 := bH_stateNumbersEnd γ
    refine zr_icmp_ge (t := 68) (q := 28) dH_vault_25 rfl rfl ⟨by omega, by omega⟩ ⟨by omega, by omega⟩ (fun h2 => ?_) (fun h2 => ?_)
    · refine ev_iload_n 2 (q := 69) dH_vault_68 rfl (by rfl) rfl ?_
      refine ev_iconst (v := iI (-1)) (q := 70) dH_vault_69 rfl rfl ?_
      refine zr_icmp_ne (t := 77) (q := 73) dH_vault_70 rfl rfl ⟨by omega, by omega⟩ ⟨by omega, by omega⟩ (fun h3 => ?_) (fun h3 => ?_)
      · refine ev_iconst (v := iI (-1)) (q := 78) dH_vault_77 rfl rfl ?_
        exact zr_iret dH_vault_78 rfl ⟨by rw [lH_vault_19, if_pos h3], rfl⟩
      · refine ev_iload_n 3 (q := 74) dH_vault_73 rfl (by rfl) rfl ?_
        refine ev_goto (t := 78) (q := 78) dH_vault_74 rfl rfl ?_
        exact zr_iret dH_vault_78 rfl ⟨by rw [lH_vault_19, if_neg (fun z => z h3)], rfl⟩
    · exfalso
      omega
  | succ j ih =>
    intro k pl x5 c0 c1 c2 c3
    have g0 : 0 ≤ γ 0 0 ∧ γ 0 0 ≤ 20 := hc.1 0 0 (by decide)
    refine ev_iload (q := 21) dH_vault_19 (by rfl) rfl ?_
    refine ev_aload_n 0 (q := 22) dH_vault_21 rfl (by rfl) rfl ?_
    refine cv_V (As := []) (q := 25) dH_vault_22 kH_122 at_H rfl rfl (Nat.le_of_ble_eq_true rfl) rfl rfl rfl (by decide) (sH_stateNumbersEnd hc   ) ?_
    have g1 := bH_stateNumbersEnd γ
    refine zr_icmp_ge (t := 68) (q := 28) dH_vault_25 rfl rfl ⟨by omega, by omega⟩ ⟨by omega, by omega⟩ (fun h2 => ?_) (fun h2 => ?_)
    · exfalso
      omega
    · refine ev_aload_n 0 (q := 29) dH_vault_28 rfl (by rfl) rfl ?_
      refine ev_iload (q := 31) dH_vault_29 (by rfl) rfl ?_
      by_cases h3 : 0 ≤ k ∧ k / 4 < (γ 0 0) ∧ k % 4 < γ 32 (2 * (k / 4) + 1)
      · refine cv_V (As := [_]) (q := 34) dH_vault_31 kH_126 at_H rfl rfl (Nat.le_of_ble_eq_true rfl) rfl rfl rfl (by decide) (sH_stateNumbered_s hc k  h3) ?_
        refine ev_astore (q := 36) dH_vault_34 (by decide) rfl rfl ?_
        dsimp only [List.set]
        refine ev_aload (q := 38) dH_vault_36 (by rfl) rfl ?_
        refine ev_ifnull (q := 41) dH_vault_38 rfl ?_
        refine ev_aload_n 0 (q := 42) dH_vault_41 rfl (by rfl) rfl ?_
        refine ev_aload (q := 44) dH_vault_42 (by rfl) rfl ?_
        refine ev_iload_n 1 (q := 45) dH_vault_44 rfl (by rfl) rfl ?_
        refine cv_V (As := [_, _]) (q := 48) dH_vault_45 kH_202 at_H rfl rfl (Nat.le_of_ble_eq_true rfl) rfl rfl rfl (by decide) (sH_isInVault hc k n h3 ⟨by omega, by omega⟩ ) ?_
        have g4 : (cH_isInVault γ k n) = 0 ∨ (cH_isInVault γ k n) = 1 := bH_isInVault _ _ _
        refine zr_if_eq (t := 62) (q := 51) dH_vault_48 rfl rfl ⟨by omega, by omega⟩ (fun h5 => ?_) (fun h5 => ?_)
        · refine zr_iinc (q := 65) dH_vault_62 (by rfl) (by decide) rfl rfl ?_
          dsimp only [List.set]
          refine ev_goto (t := 19) (q := 19) dH_vault_65 rfl rfl ?_
          rw [show lH_vault_19 γ n p (j + 1) k pl = lH_vault_19 γ n p j (k + 1) pl from by rw [lH_vault_19, if_pos h3, if_pos h5]]
          exact ih (k + 1) pl (.ref (g.2.2.1 k)) (by omega) (by omega) (by omega) (by omega)
        · refine ev_iload_n 3 (q := 52) dH_vault_51 rfl (by rfl) rfl ?_
          refine ev_iload_n 2 (q := 53) dH_vault_52 rfl (by rfl) rfl ?_
          refine zr_icmp_ne (t := 59) (q := 56) dH_vault_53 rfl rfl ⟨by omega, by omega⟩ ⟨by omega, by omega⟩ (fun h6 => ?_) (fun h6 => ?_)
          · refine zr_iinc (q := 62) dH_vault_59 (by rfl) (by decide) rfl rfl ?_
            dsimp only [List.set]
            refine zr_iinc (q := 65) dH_vault_62 (by rfl) (by decide) rfl rfl ?_
            dsimp only [List.set]
            refine ev_goto (t := 19) (q := 19) dH_vault_65 rfl rfl ?_
            rw [show lH_vault_19 γ n p (j + 1) k pl = lH_vault_19 γ n p j (k + 1) (pl + 1) from by rw [lH_vault_19, if_pos h3, if_neg h5, if_pos h6]]
            exact ih (k + 1) (pl + 1) (.ref (g.2.2.1 k)) (by omega) (by omega) (by omega) (by omega)
          · refine ev_iload (q := 58) dH_vault_56 (by rfl) rfl ?_
            exact zr_iret dH_vault_58 rfl ⟨by rw [lH_vault_19, if_pos h3, if_neg h5, if_neg (fun z => z h6)], rfl⟩
      · refine cv_V (As := [_]) (q := 34) dH_vault_31 kH_126 at_H rfl rfl (Nat.le_of_ble_eq_true rfl) rfl rfl rfl (by decide) (sH_stateNumbered_n hc k ⟨by omega, by omega⟩ h3) ?_
        refine ev_astoreN (q := 36) dH_vault_34 (by decide) rfl rfl ?_
        dsimp only [List.set]
        refine ev_aloadN (q := 38) dH_vault_36 (by rfl) rfl ?_
        refine ev_ifnullN (t := 62) (q := 62) dH_vault_38 rfl rfl ?_
        refine zr_iinc (q := 65) dH_vault_62 (by rfl) (by decide) rfl rfl ?_
        dsimp only [List.set]
        refine ev_goto (t := 19) (q := 19) dH_vault_65 rfl rfl ?_
        rw [show lH_vault_19 γ n p (j + 1) k pl = lH_vault_19 γ n p j (k + 1) pl from by rw [lH_vault_19, if_neg h3]]
        exact ih (k + 1) pl (.null) (by omega) (by omega) (by omega) (by omega)
def cH_vault (γ : z_Sg) (n p : Int) : Int := if (cH_isNode γ n) = 0 then (-1) else if (-1) ≤ p then lH_vault_19 γ n p (γ 0 0 * 4).toNat 0 0 else (-1)
set_option maxRecDepth 100000 in
set_option maxHeartbeats 4000000 in
theorem sH_vault {g : z_Gl} {γ ρ : z_Sg} (hc : zC g γ) (n p : Int) (hp0 : z_rg n) (hp1 : z_rg p) : z_Sp mH_vault (4, 86) 0 0 [.ref (0), zi n, zi p] (zH g γ ρ) (fun r M' => r = some (zi (cH_vault γ n p)) ∧ M' = zH g γ ρ) := by
  refine z_Sp_of (L := [.ref (0), zi n, zi p, .float 0, .float 0, .float 0]) (by decide) rfl rfl rfl (Nat.le_of_ble_eq_true rfl) ?_
  have g0 : 0 ≤ γ 0 0 ∧ γ 0 0 ≤ 20 := hc.1 0 0 (by decide)
  refine ev_iload_n 1 (q := 1) dH_vault_0 rfl (by rfl) rfl ?_
  refine cv_S (As := [_]) (q := 4) dH_vault_1 kH_45 rfl (Nat.le_of_ble_eq_true rfl) rfl rfl rfl (by decide) (sH_isNode hc n ⟨by omega, by omega⟩ ) ?_
  have g1 : (cH_isNode γ n) = 0 ∨ (cH_isNode γ n) = 1 := bH_isNode _ _
  refine zr_if_eq (t := 12) (q := 7) dH_vault_4 rfl rfl ⟨by omega, by omega⟩ (fun h2 => ?_) (fun h2 => ?_)
  · refine ev_iconst (v := iI (-1)) (q := 13) dH_vault_12 rfl rfl ?_
    exact zr_iret dH_vault_13 rfl ⟨by rw [cH_vault, if_pos h2], rfl⟩
  · have f4 := tH_isNode hc h2
    refine ev_iload_n 2 (q := 8) dH_vault_7 rfl (by rfl) rfl ?_
    refine ev_iconst (v := iI (-1)) (q := 9) dH_vault_8 rfl rfl ?_
    refine zr_icmp_ge (t := 14) (q := 12) dH_vault_9 rfl rfl ⟨by omega, by omega⟩ ⟨by omega, by omega⟩ (fun h3 => ?_) (fun h3 => ?_)
    · refine ev_iconst (v := iI 0) (q := 15) dH_vault_14 rfl rfl ?_
      refine ev_istore_n 3 (q := 16) dH_vault_15 rfl (by decide) rfl rfl ?_
      dsimp only [List.set]
      refine ev_iconst (v := iI 0) (q := 17) dH_vault_16 rfl rfl ?_
      refine ev_istore (q := 19) dH_vault_17 (by decide) rfl rfl ?_
      dsimp only [List.set]
      rw [show cH_vault γ n p = lH_vault_19 γ n p (γ 0 0 * 4).toNat 0 0 from by rw [cH_vault, if_neg h2, if_pos h3]]
      exact eH_vault_19 hc n p hp0 hp1 (γ 0 0 * 4).toNat 0 0 (.float 0) (by omega) (by omega) (by omega) (by omega)
    · refine ev_iconst (v := iI (-1)) (q := 13) dH_vault_12 rfl rfl ?_
      exact zr_iret dH_vault_13 rfl ⟨by rw [cH_vault, if_neg h2, if_neg (Int.not_le.mpr h3)], rfl⟩

def lH_balance_21 (γ : z_Sg) (n iss : Int) : Nat → Int → Int → Int
  | 0, k, sm => sm
  | j + 1, k, sm => if 0 ≤ k ∧ k / 4 < (γ 0 0) ∧ k % 4 < γ 32 (2 * (k / 4) + 1) then if (cS_isCashIssuedBy γ k iss) = 0 then lH_balance_21 γ n iss j (k + 1) sm else if (cH_isInVault γ k n) = 0 then lH_balance_21 γ n iss j (k + 1) sm else lH_balance_21 γ n iss j (k + 1) (sm + (γ 37 k)) else lH_balance_21 γ n iss j (k + 1) sm
set_option maxRecDepth 100000 in
set_option maxHeartbeats 4000000 in
theorem eH_balance_21 {g : z_Gl} {γ ρ : z_Sg} (hc : zC g γ) (n iss : Int) (hp0 : z_rg n) (hp1 : z_rg iss) : ∀ (j : Nat) (k sm : Int) (x5 : Value), 0 ≤ k → k + j = γ 0 0 * 4 → (0 ≤ n ∧ n ≤ 3) → z_Ev mH_balance (4, 86) 0 0 21 [.ref (0), zi n, zi iss, zi sm, zi k, x5] [] (zH g γ ρ) (fun r M' => r = some (zi (lH_balance_21 γ n iss j k sm)) ∧ M' = zH g γ ρ) := by
  intro j
  induction j with
  | zero =>
    intro k sm x5 c0 c1 c2
    have g0 : 0 ≤ γ 0 0 ∧ γ 0 0 ≤ 20 := hc.1 0 0 (by decide)
    refine ev_iload (q := 23) dH_balance_21 (by rfl) rfl ?_
    refine ev_aload_n 0 (q := 24) dH_balance_23 rfl (by rfl) rfl ?_
    refine cv_V (As := []) (q := 27) dH_balance_24 kH_122 at_H rfl rfl (Nat.le_of_ble_eq_true rfl) rfl rfl rfl (by decide) (sH_stateNumbersEnd hc   ) ?_
    have g1 := bH_stateNumbersEnd γ
    refine zr_icmp_ge (t := 76) (q := 30) dH_balance_27 rfl rfl ⟨by omega, by omega⟩ ⟨by omega, by omega⟩ (fun h2 => ?_) (fun h2 => ?_)
    · refine ev_iload_n 3 (q := 77) dH_balance_76 rfl (by rfl) rfl ?_
      exact zr_iret dH_balance_77 rfl ⟨by rw [lH_balance_21], rfl⟩
    · exfalso
      omega
  | succ j ih =>
    intro k sm x5 c0 c1 c2
    have g0 : 0 ≤ γ 0 0 ∧ γ 0 0 ≤ 20 := hc.1 0 0 (by decide)
    refine ev_iload (q := 23) dH_balance_21 (by rfl) rfl ?_
    refine ev_aload_n 0 (q := 24) dH_balance_23 rfl (by rfl) rfl ?_
    refine cv_V (As := []) (q := 27) dH_balance_24 kH_122 at_H rfl rfl (Nat.le_of_ble_eq_true rfl) rfl rfl rfl (by decide) (sH_stateNumbersEnd hc   ) ?_
    have g1 := bH_stateNumbersEnd γ
    refine zr_icmp_ge (t := 76) (q := 30) dH_balance_27 rfl rfl ⟨by omega, by omega⟩ ⟨by omega, by omega⟩ (fun h2 => ?_) (fun h2 => ?_)
    · exfalso
      omega
    · refine ev_aload_n 0 (q := 31) dH_balance_30 rfl (by rfl) rfl ?_
      refine ev_iload (q := 33) dH_balance_31 (by rfl) rfl ?_
      by_cases h3 : 0 ≤ k ∧ k / 4 < (γ 0 0) ∧ k % 4 < γ 32 (2 * (k / 4) + 1)
      · refine cv_V (As := [_]) (q := 36) dH_balance_33 kH_126 at_H rfl rfl (Nat.le_of_ble_eq_true rfl) rfl rfl rfl (by decide) (sH_stateNumbered_s hc k  h3) ?_
        refine ev_astore (q := 38) dH_balance_36 (by decide) rfl rfl ?_
        dsimp only [List.set]
        refine ev_aload (q := 40) dH_balance_38 (by rfl) rfl ?_
        refine ev_ifnull (q := 43) dH_balance_40 rfl ?_
        refine ev_aload (q := 45) dH_balance_43 (by rfl) rfl ?_
        refine ev_iload_n 2 (q := 46) dH_balance_45 rfl (by rfl) rfl ?_
        refine cv_V (As := [_]) (q := 49) dH_balance_46 kH_206 (at_S hc.2.1 h3) rfl rfl (Nat.le_of_ble_eq_true rfl) rfl rfl rfl (by decide) (sS_isCashIssuedBy hc k iss h3 ⟨by omega, by omega⟩ ) ?_
        have g4 : (cS_isCashIssuedBy γ k iss) = 0 ∨ (cS_isCashIssuedBy γ k iss) = 1 := bS_isCashIssuedBy _ _ _
        refine zr_if_eq (t := 70) (q := 52) dH_balance_49 rfl rfl ⟨by omega, by omega⟩ (fun h5 => ?_) (fun h5 => ?_)
        · refine zr_iinc (q := 73) dH_balance_70 (by rfl) (by decide) rfl rfl ?_
          dsimp only [List.set]
          refine ev_goto (t := 21) (q := 21) dH_balance_73 rfl rfl ?_
          rw [show lH_balance_21 γ n iss (j + 1) k sm = lH_balance_21 γ n iss j (k + 1) sm from by rw [lH_balance_21, if_pos h3, if_pos h5]]
          exact ih (k + 1) sm (.ref (g.2.2.1 k)) (by omega) (by omega) (by omega)
        · refine ev_aload_n 0 (q := 53) dH_balance_52 rfl (by rfl) rfl ?_
          refine ev_aload (q := 55) dH_balance_53 (by rfl) rfl ?_
          refine ev_iload_n 1 (q := 56) dH_balance_55 rfl (by rfl) rfl ?_
          refine cv_V (As := [_, _]) (q := 59) dH_balance_56 kH_202 at_H rfl rfl (Nat.le_of_ble_eq_true rfl) rfl rfl rfl (by decide) (sH_isInVault hc k n h3 ⟨by omega, by omega⟩ ) ?_
          have g6 : (cH_isInVault γ k n) = 0 ∨ (cH_isInVault γ k n) = 1 := bH_isInVault _ _ _
          refine zr_if_eq (t := 70) (q := 62) dH_balance_59 rfl rfl ⟨by omega, by omega⟩ (fun h7 => ?_) (fun h7 => ?_)
          · refine zr_iinc (q := 73) dH_balance_70 (by rfl) (by decide) rfl rfl ?_
            dsimp only [List.set]
            refine ev_goto (t := 21) (q := 21) dH_balance_73 rfl rfl ?_
            rw [show lH_balance_21 γ n iss (j + 1) k sm = lH_balance_21 γ n iss j (k + 1) sm from by rw [lH_balance_21, if_pos h3, if_neg h5, if_pos h7]]
            exact ih (k + 1) sm (.ref (g.2.2.1 k)) (by omega) (by omega) (by omega)
          · refine ev_iload_n 3 (q := 63) dH_balance_62 rfl (by rfl) rfl ?_
            refine ev_aload (q := 65) dH_balance_63 (by rfl) rfl ?_
            refine ev_get (q := 68) (v := zi (γ 37 k)) dH_balance_65 fH_134 (at_S hc.2.1 h3) rfl rfl ?_
            have g8 : 0 ≤ γ 37 k ∧ γ 37 k ≤ 1000 := hc.1 37 k (by decide)
            refine zr_iadd (q := 69) dH_balance_68 rfl ?_
            refine ev_istore_n 3 (q := 70) dH_balance_69 rfl (by decide) rfl rfl ?_
            dsimp only [List.set]
            refine zr_iinc (q := 73) dH_balance_70 (by rfl) (by decide) rfl rfl ?_
            dsimp only [List.set]
            refine ev_goto (t := 21) (q := 21) dH_balance_73 rfl rfl ?_
            rw [show lH_balance_21 γ n iss (j + 1) k sm = lH_balance_21 γ n iss j (k + 1) (sm + (γ 37 k)) from by rw [lH_balance_21, if_pos h3, if_neg h5, if_neg h7]]
            exact ih (k + 1) (sm + (γ 37 k)) (.ref (g.2.2.1 k)) (by omega) (by omega) (by omega)
      · refine cv_V (As := [_]) (q := 36) dH_balance_33 kH_126 at_H rfl rfl (Nat.le_of_ble_eq_true rfl) rfl rfl rfl (by decide) (sH_stateNumbered_n hc k ⟨by omega, by omega⟩ h3) ?_
        refine ev_astoreN (q := 38) dH_balance_36 (by decide) rfl rfl ?_
        dsimp only [List.set]
        refine ev_aloadN (q := 40) dH_balance_38 (by rfl) rfl ?_
        refine ev_ifnullN (t := 70) (q := 70) dH_balance_40 rfl rfl ?_
        refine zr_iinc (q := 73) dH_balance_70 (by rfl) (by decide) rfl rfl ?_
        dsimp only [List.set]
        refine ev_goto (t := 21) (q := 21) dH_balance_73 rfl rfl ?_
        rw [show lH_balance_21 γ n iss (j + 1) k sm = lH_balance_21 γ n iss j (k + 1) sm from by rw [lH_balance_21, if_neg h3]]
        exact ih (k + 1) sm (.null) (by omega) (by omega) (by omega)
def cH_balance (γ : z_Sg) (n iss : Int) : Int := if (cH_isNode γ n) = 0 then (-1) else if (cH_isNode γ iss) ≠ 0 then lH_balance_21 γ n iss (γ 0 0 * 4).toNat 0 0 else (-1)
set_option maxRecDepth 100000 in
set_option maxHeartbeats 4000000 in
theorem sH_balance {g : z_Gl} {γ ρ : z_Sg} (hc : zC g γ) (n iss : Int) (hp0 : z_rg n) (hp1 : z_rg iss) : z_Sp mH_balance (4, 86) 0 0 [.ref (0), zi n, zi iss] (zH g γ ρ) (fun r M' => r = some (zi (cH_balance γ n iss)) ∧ M' = zH g γ ρ) := by
  refine z_Sp_of (L := [.ref (0), zi n, zi iss, .float 0, .float 0, .float 0]) (by decide) rfl rfl rfl (Nat.le_of_ble_eq_true rfl) ?_
  have g0 : 0 ≤ γ 0 0 ∧ γ 0 0 ≤ 20 := hc.1 0 0 (by decide)
  refine ev_iload_n 1 (q := 1) dH_balance_0 rfl (by rfl) rfl ?_
  refine cv_S (As := [_]) (q := 4) dH_balance_1 kH_45 rfl (Nat.le_of_ble_eq_true rfl) rfl rfl rfl (by decide) (sH_isNode hc n ⟨by omega, by omega⟩ ) ?_
  have g1 : (cH_isNode γ n) = 0 ∨ (cH_isNode γ n) = 1 := bH_isNode _ _
  refine zr_if_eq (t := 14) (q := 7) dH_balance_4 rfl rfl ⟨by omega, by omega⟩ (fun h2 => ?_) (fun h2 => ?_)
  · refine ev_iconst (v := iI (-1)) (q := 15) dH_balance_14 rfl rfl ?_
    exact zr_iret dH_balance_15 rfl ⟨by rw [cH_balance, if_pos h2], rfl⟩
  · have f6 := tH_isNode hc h2
    refine ev_iload_n 2 (q := 8) dH_balance_7 rfl (by rfl) rfl ?_
    refine cv_S (As := [_]) (q := 11) dH_balance_8 kH_45 rfl (Nat.le_of_ble_eq_true rfl) rfl rfl rfl (by decide) (sH_isNode hc iss ⟨by omega, by omega⟩ ) ?_
    have g3 : (cH_isNode γ iss) = 0 ∨ (cH_isNode γ iss) = 1 := bH_isNode _ _
    refine zr_if_ne (t := 16) (q := 14) dH_balance_11 rfl rfl ⟨by omega, by omega⟩ (fun h4 => ?_) (fun h4 => ?_)
    · have f5 := tH_isNode hc h4
      refine ev_iconst (v := iI 0) (q := 17) dH_balance_16 rfl rfl ?_
      refine ev_istore_n 3 (q := 18) dH_balance_17 rfl (by decide) rfl rfl ?_
      dsimp only [List.set]
      refine ev_iconst (v := iI 0) (q := 19) dH_balance_18 rfl rfl ?_
      refine ev_istore (q := 21) dH_balance_19 (by decide) rfl rfl ?_
      dsimp only [List.set]
      rw [show cH_balance γ n iss = lH_balance_21 γ n iss (γ 0 0 * 4).toNat 0 0 from by rw [cH_balance, if_neg h2, if_pos h4]]
      exact eH_balance_21 hc n iss hp0 hp1 (γ 0 0 * 4).toNat 0 0 (.float 0) (by omega) (by omega) (by omega)
    · refine ev_iconst (v := iI (-1)) (q := 15) dH_balance_14 rfl rfl ?_
      exact zr_iret dH_balance_15 rfl ⟨by rw [cH_balance, if_neg h2, if_neg (fun z => z h4)], rfl⟩

def cH_tick (γ : z_Sg) (n : Int) : Int × z_Sg := if n < 0 then ((γ 1 0), γ) else if 1000 < n then ((γ 1 0), γ) else (((γ 1 0) + n), (z_up γ 1 0 ((γ 1 0) + n)))
set_option maxRecDepth 100000 in
set_option maxHeartbeats 4000000 in
theorem sH_tick {g : z_Gl} {γ ρ : z_Sg} (hc : zC g γ) (n : Int) (hp0 : z_rg n) (he0 : γ 1 0 ≤ 999000) : z_Sp mH_tick (0, 0) 0 0 [.ref (0), zi n] (zH g γ ρ) (fun r M' => r = some (zi (cH_tick γ n).1) ∧ M' = zH g (cH_tick γ n).2 ρ) := by
  refine z_Sp_of (L := [.ref (0), zi n]) (by decide) rfl rfl rfl (Nat.le_of_ble_eq_true rfl) ?_
  refine ev_iload_n 1 (q := 1) dH_tick_0 rfl (by rfl) rfl ?_
  refine zr_if_lt (t := 21) (q := 4) dH_tick_1 rfl rfl ⟨by omega, by omega⟩ (fun h1 => ?_) (fun h1 => ?_)
  · refine ev_aload_n 0 (q := 22) dH_tick_21 rfl (by rfl) rfl ?_
    refine ev_get (q := 25) (v := zi (γ 1 0)) dH_tick_22 fH_180 at_H rfl rfl ?_
    have g2 : 0 ≤ γ 1 0 ∧ γ 1 0 ≤ 1000000 := hc.1 1 0 (by decide)
    exact zr_iret dH_tick_25 rfl ⟨by rw [cH_tick, if_pos h1], by rw [cH_tick, if_pos h1]⟩
  · refine ev_iload_n 1 (q := 5) dH_tick_4 rfl (by rfl) rfl ?_
    refine ev_sipush (v := iI 1000) (q := 8) dH_tick_5 (by decide) rfl ?_
    refine zr_icmp_gt (t := 21) (q := 11) dH_tick_8 rfl rfl ⟨by omega, by omega⟩ ⟨by omega, by omega⟩ (fun h3 => ?_) (fun h3 => ?_)
    · refine ev_aload_n 0 (q := 22) dH_tick_21 rfl (by rfl) rfl ?_
      refine ev_get (q := 25) (v := zi (γ 1 0)) dH_tick_22 fH_180 at_H rfl rfl ?_
      have g4 : 0 ≤ γ 1 0 ∧ γ 1 0 ≤ 1000000 := hc.1 1 0 (by decide)
      exact zr_iret dH_tick_25 rfl ⟨by rw [cH_tick, if_neg (Int.not_lt.mpr h1), if_pos h3], by rw [cH_tick, if_neg (Int.not_lt.mpr h1), if_pos h3]⟩
    · refine ev_aload_n 0 (q := 12) dH_tick_11 rfl (by rfl) rfl ?_
      refine ev_dup (q := 13) dH_tick_12 rfl rfl ?_
      refine ev_get (q := 16) (v := zi (γ 1 0)) dH_tick_13 fH_180 at_H rfl rfl ?_
      have g5 : 0 ≤ γ 1 0 ∧ γ 1 0 ≤ 1000000 := hc.1 1 0 (by decide)
      refine ev_iload_n 1 (q := 17) dH_tick_16 rfl (by rfl) rfl ?_
      refine zr_iadd (q := 18) dH_tick_17 rfl ?_
      refine zr_puti (q := 21) dH_tick_18 gH_180 at_H (Nat.le_of_ble_eq_true rfl) rfl ct_clock rfl ?_
      have hc6 : zC g (z_up γ 1 0 ((γ 1 0) + n)) := zC_up hc (by decide) (by decide) (by decide) (show (0 : Int) ≤ ((γ 1 0) + n) by omega) (show ((γ 1 0) + n) ≤ (1000000 : Int) by omega)
      refine ev_aload_n 0 (q := 22) dH_tick_21 rfl (by rfl) rfl ?_
      refine ev_get (q := 25) (v := zi ((z_up γ 1 0 ((γ 1 0) + n)) 1 0)) dH_tick_22 fH_180 at_H rfl rfl ?_
      rw [show (z_up γ 1 0 ((γ 1 0) + n)) 1 0 = ((γ 1 0) + n) from by rw [z_up_s, zup_s]]
      exact zr_iret dH_tick_25 rfl ⟨by rw [cH_tick, if_neg (Int.not_lt.mpr h1), if_neg (Int.not_lt.mpr h3)], by rw [cH_tick, if_neg (Int.not_lt.mpr h1), if_neg (Int.not_lt.mpr h3)]⟩
set_option maxRecDepth 100000 in
set_option maxHeartbeats 4000000 in
theorem wH_tick {g : z_Gl} {γ : z_Sg} (hc : zC g γ) (n : Int) (hp0 : z_rg n) (he0 : γ 1 0 ≤ 999000) : zC g (cH_tick γ n).2 := by
  rw [cH_tick]
  by_cases h1 : n < 0
  · rw [if_pos h1]
    have g2 : 0 ≤ γ 1 0 ∧ γ 1 0 ≤ 1000000 := hc.1 1 0 (by decide)
    exact hc
  · rw [if_neg h1]
    by_cases h3 : 1000 < n
    · rw [if_pos h3]
      have g4 : 0 ≤ γ 1 0 ∧ γ 1 0 ≤ 1000000 := hc.1 1 0 (by decide)
      exact hc
    · rw [if_neg h3]
      have g5 : 0 ≤ γ 1 0 ∧ γ 1 0 ≤ 1000000 := hc.1 1 0 (by decide)
      have hc6 : zC g (z_up γ 1 0 ((γ 1 0) + n)) := zC_up hc (by decide) (by decide) (by decide) (show (0 : Int) ≤ ((γ 1 0) + n) by omega) (show ((γ 1 0) + n) ≤ (1000000 : Int) by omega)
      exact hc6

def cH_drop (γ : z_Sg) (t : Int) : Int × z_Sg := if 0 ≤ t ∧ t < (γ 0 0) then if (γ 25 t) = 0 then (1, (z_up γ 25 t 9)) else (0, γ) else (0, γ)
set_option maxRecDepth 100000 in
set_option maxHeartbeats 4000000 in
theorem sH_drop {g : z_Gl} {γ ρ : z_Sg} (hc : zC g γ) (t : Int) (hp0 : z_rg t) : z_Sp mH_drop (1, 21) 0 0 [.ref (0), zi t] (zH g γ ρ) (fun r M' => r = some (zi (cH_drop γ t).1) ∧ M' = zH g (cH_drop γ t).2 ρ) := by
  refine z_Sp_of (L := [.ref (0), zi t, .float 0]) (by decide) rfl rfl rfl (Nat.le_of_ble_eq_true rfl) ?_
  have g0 : 0 ≤ γ 0 0 ∧ γ 0 0 ≤ 20 := hc.1 0 0 (by decide)
  refine ev_aload_n 0 (q := 1) dH_drop_0 rfl (by rfl) rfl ?_
  refine ev_iload_n 1 (q := 2) dH_drop_1 rfl (by rfl) rfl ?_
  by_cases h1 : 0 ≤ t ∧ t < (γ 0 0)
  · refine cv_V (As := [_]) (q := 5) dH_drop_2 kH_60 at_H rfl rfl (Nat.le_of_ble_eq_true rfl) rfl rfl rfl (by decide) (sH_find_s hc t  h1) ?_
    refine ev_astore_n 2 (q := 6) dH_drop_5 rfl (by decide) rfl rfl ?_
    dsimp only [List.set]
    refine ev_aload_n 2 (q := 7) dH_drop_6 rfl (by rfl) rfl ?_
    refine ev_ifnull (q := 10) dH_drop_7 rfl ?_
    refine ev_aload_n 2 (q := 11) dH_drop_10 rfl (by rfl) rfl ?_
    refine ev_get (q := 14) (v := zi (γ 25 t)) dH_drop_11 fH_68 (at_T hc.2.1 h1) rfl rfl ?_
    have g2 : 0 ≤ γ 25 t ∧ γ 25 t ≤ 9 := hc.1 25 t (by decide)
    refine zr_if_eq (t := 19) (q := 17) dH_drop_14 rfl rfl ⟨by omega, by omega⟩ (fun h3 => ?_) (fun h3 => ?_)
    · refine ev_aload_n 2 (q := 20) dH_drop_19 rfl (by rfl) rfl ?_
      refine ev_bipush (v := iI 9) (q := 22) dH_drop_20 (by decide) rfl ?_
      refine zr_puti (q := 25) dH_drop_22 gH_68 (at_T hc.2.1 h1) (Nat.le_of_ble_eq_true rfl) rfl (ct_stage hc.2.1 h1) rfl ?_
      have hc4 : zC g (z_up γ 25 t 9) := zC_up hc (by decide) (by decide) (by decide) (show (0 : Int) ≤ 9 by omega) (show 9 ≤ (9 : Int) by omega)
      refine ev_iconst (v := iI 1) (q := 26) dH_drop_25 rfl rfl ?_
      exact zr_zret dH_drop_26 rfl (by omega) ⟨by rw [cH_drop, if_pos h1, if_pos h3], by rw [cH_drop, if_pos h1, if_pos h3]⟩
    · refine ev_iconst (v := iI 0) (q := 18) dH_drop_17 rfl rfl ?_
      exact zr_zret dH_drop_18 rfl (by omega) ⟨by rw [cH_drop, if_pos h1, if_neg h3], by rw [cH_drop, if_pos h1, if_neg h3]⟩
  · refine cv_V (As := [_]) (q := 5) dH_drop_2 kH_60 at_H rfl rfl (Nat.le_of_ble_eq_true rfl) rfl rfl rfl (by decide) (sH_find_n hc t ⟨by omega, by omega⟩ h1) ?_
    refine ev_astore_nN 2 (q := 6) dH_drop_5 rfl (by decide) rfl rfl ?_
    dsimp only [List.set]
    refine ev_aload_nN 2 (q := 7) dH_drop_6 rfl (by rfl) rfl ?_
    refine ev_ifnullN (t := 17) (q := 17) dH_drop_7 rfl rfl ?_
    refine ev_iconst (v := iI 0) (q := 18) dH_drop_17 rfl rfl ?_
    exact zr_zret dH_drop_18 rfl (by omega) ⟨by rw [cH_drop, if_neg h1], by rw [cH_drop, if_neg h1]⟩
set_option maxRecDepth 100000 in
set_option maxHeartbeats 4000000 in
theorem wH_drop {g : z_Gl} {γ : z_Sg} (hc : zC g γ) (t : Int) (hp0 : z_rg t) : zC g (cH_drop γ t).2 := by
  rw [cH_drop]
  by_cases h1 : 0 ≤ t ∧ t < (γ 0 0)
  · rw [if_pos h1]
    have g2 : 0 ≤ γ 25 t ∧ γ 25 t ≤ 9 := hc.1 25 t (by decide)
    by_cases h3 : (γ 25 t) = 0
    · rw [if_pos h3]
      have hc4 : zC g (z_up γ 25 t 9) := zC_up hc (by decide) (by decide) (by decide) (show (0 : Int) ≤ 9 by omega) (show 9 ≤ (9 : Int) by omega)
      exact hc4
    · rw [if_neg h3]
      exact hc
  · rw [if_neg h1]
    exact hc

def cH_bind (γ : z_Sg) (t o p : Int) : Int × z_Sg := if 0 ≤ t ∧ t < (γ 0 0) then if 0 ≤ t ∧ t < (γ 0 0) ∧ 0 ≤ o ∧ o < γ 32 (2 * t + 1) then if p = o then ((-1), γ) else if p = (-1) then if (γ 25 t) = 0 then (0, (z_up γ 38 (4 * t + o) p)) else ((-2), γ) else if 0 ≤ t ∧ t < (γ 0 0) ∧ 0 ≤ p ∧ p < γ 32 (2 * t + 1) then if (γ 25 t) = 0 then (0, (z_up γ 38 (4 * t + o) p)) else ((-2), γ) else ((-1), γ) else ((-1), γ) else if 0 ≤ t ∧ t < (γ 0 0) ∧ 0 ≤ o ∧ o < γ 32 (2 * t + 1) then ((-1), γ) else ((-1), γ)
set_option maxRecDepth 100000 in
set_option maxHeartbeats 4000000 in
theorem sH_bind {g : z_Gl} {γ ρ : z_Sg} (hc : zC g γ) (t o p : Int) (hp0 : z_rg t) (hp1 : z_rg o) (hp2 : z_rg p) : z_Sp mH_bind (2, 44) 0 0 [.ref (0), zi t, zi o, zi p] (zH g γ ρ) (fun r M' => r = some (zi (cH_bind γ t o p).1) ∧ M' = zH g (cH_bind γ t o p).2 ρ) := by
  refine z_Sp_of (L := [.ref (0), zi t, zi o, zi p, .float 0, .float 0]) (by decide) rfl rfl rfl (Nat.le_of_ble_eq_true rfl) ?_
  have g0 : 0 ≤ γ 0 0 ∧ γ 0 0 ≤ 20 := hc.1 0 0 (by decide)
  refine ev_aload_n 0 (q := 1) dH_bind_0 rfl (by rfl) rfl ?_
  refine ev_iload_n 1 (q := 2) dH_bind_1 rfl (by rfl) rfl ?_
  by_cases h1 : 0 ≤ t ∧ t < (γ 0 0)
  · refine cv_V (As := [_]) (q := 5) dH_bind_2 kH_60 at_H rfl rfl (Nat.le_of_ble_eq_true rfl) rfl rfl rfl (by decide) (sH_find_s hc t  h1) ?_
    refine ev_astore (q := 7) dH_bind_5 (by decide) rfl rfl ?_
    dsimp only [List.set]
    refine ev_aload_n 0 (q := 8) dH_bind_7 rfl (by rfl) rfl ?_
    refine ev_iload_n 1 (q := 9) dH_bind_8 rfl (by rfl) rfl ?_
    refine ev_iload_n 2 (q := 10) dH_bind_9 rfl (by rfl) rfl ?_
    by_cases h2 : 0 ≤ t ∧ t < (γ 0 0) ∧ 0 ≤ o ∧ o < γ 32 (2 * t + 1)
    · refine cv_V (As := [_, _]) (q := 13) dH_bind_10 kH_64 at_H rfl rfl (Nat.le_of_ble_eq_true rfl) rfl rfl rfl (by decide) (sH_findState_s hc t o  h2) ?_
      have g13 : 0 ≤ γ 32 (2 * t + 1) ∧ γ 32 (2 * t + 1) ≤ 4 := hc.1 32 _ (by decide)
      refine ev_astore (q := 15) dH_bind_13 (by decide) rfl rfl ?_
      dsimp only [List.set]
      refine ev_aload (q := 17) dH_bind_15 (by rfl) rfl ?_
      refine ev_ifnull (q := 20) dH_bind_17 rfl ?_
      refine ev_aload (q := 22) dH_bind_20 (by rfl) rfl ?_
      refine ev_ifnull (q := 25) dH_bind_22 rfl ?_
      refine ev_iload_n 3 (q := 26) dH_bind_25 rfl (by rfl) rfl ?_
      refine ev_iload_n 2 (q := 27) dH_bind_26 rfl (by rfl) rfl ?_
      refine zr_icmp_eq (t := 44) (q := 30) dH_bind_27 rfl rfl ⟨by omega, by omega⟩ ⟨by omega, by omega⟩ (fun h3 => ?_) (fun h3 => ?_)
      · refine ev_iconst (v := iI (-1)) (q := 45) dH_bind_44 rfl rfl ?_
        exact zr_iret dH_bind_45 rfl ⟨by rw [cH_bind, if_pos h1, if_pos h2, if_pos h3], by rw [cH_bind, if_pos h1, if_pos h2, if_pos h3]⟩
      · refine ev_iload_n 3 (q := 31) dH_bind_30 rfl (by rfl) rfl ?_
        refine ev_iconst (v := iI (-1)) (q := 32) dH_bind_31 rfl rfl ?_
        refine zr_icmp_eq (t := 46) (q := 35) dH_bind_32 rfl rfl ⟨by omega, by omega⟩ ⟨by omega, by omega⟩ (fun h4 => ?_) (fun h4 => ?_)
        · refine ev_aload (q := 48) dH_bind_46 (by rfl) rfl ?_
          refine ev_get (q := 51) (v := zi (γ 25 t)) dH_bind_48 fH_68 (at_T hc.2.1 h1) rfl rfl ?_
          have g5 : 0 ≤ γ 25 t ∧ γ 25 t ≤ 9 := hc.1 25 t (by decide)
          refine zr_if_eq (t := 57) (q := 54) dH_bind_51 rfl rfl ⟨by omega, by omega⟩ (fun h6 => ?_) (fun h6 => ?_)
          · refine ev_aload (q := 59) dH_bind_57 (by rfl) rfl ?_
            refine ev_iload_n 3 (q := 60) dH_bind_59 rfl (by rfl) rfl ?_
            refine zr_puti (q := 63) dH_bind_60 gH_119 (at_S hc.2.1 (zEx_of hc h2)) (Nat.le_of_ble_eq_true rfl) rfl (ct_boundTo hc.2.1 (zEx_of hc h2)) rfl ?_
            have hc7 : zC g (z_up γ 38 (4 * t + o) p) := zC_up hc (by decide) (by decide) (by decide) (show (-1 : Int) ≤ p by omega) (show p ≤ (3 : Int) by omega)
            refine ev_iconst (v := iI 0) (q := 64) dH_bind_63 rfl rfl ?_
            exact zr_iret dH_bind_64 rfl ⟨by rw [cH_bind, if_pos h1, if_pos h2, if_neg h3, if_pos h4, if_pos h6], by rw [cH_bind, if_pos h1, if_pos h2, if_neg h3, if_pos h4, if_pos h6]⟩
          · refine ev_bipush (v := iI (-2)) (q := 56) dH_bind_54 (by decide) rfl ?_
            exact zr_iret dH_bind_56 rfl ⟨by rw [cH_bind, if_pos h1, if_pos h2, if_neg h3, if_pos h4, if_neg h6], by rw [cH_bind, if_pos h1, if_pos h2, if_neg h3, if_pos h4, if_neg h6]⟩
        · refine ev_aload_n 0 (q := 36) dH_bind_35 rfl (by rfl) rfl ?_
          refine ev_iload_n 1 (q := 37) dH_bind_36 rfl (by rfl) rfl ?_
          refine ev_iload_n 3 (q := 38) dH_bind_37 rfl (by rfl) rfl ?_
          by_cases h8 : 0 ≤ t ∧ t < (γ 0 0) ∧ 0 ≤ p ∧ p < γ 32 (2 * t + 1)
          · refine cv_V (As := [_, _]) (q := 41) dH_bind_38 kH_64 at_H rfl rfl (Nat.le_of_ble_eq_true rfl) rfl rfl rfl (by decide) (sH_findState_s hc t p  h8) ?_
            have g12 : 0 ≤ γ 32 (2 * t + 1) ∧ γ 32 (2 * t + 1) ≤ 4 := hc.1 32 _ (by decide)
            refine ev_ifnonnull (t := 46) (q := 46) dH_bind_41 rfl rfl ?_
            refine ev_aload (q := 48) dH_bind_46 (by rfl) rfl ?_
            refine ev_get (q := 51) (v := zi (γ 25 t)) dH_bind_48 fH_68 (at_T hc.2.1 h1) rfl rfl ?_
            have g9 : 0 ≤ γ 25 t ∧ γ 25 t ≤ 9 := hc.1 25 t (by decide)
            refine zr_if_eq (t := 57) (q := 54) dH_bind_51 rfl rfl ⟨by omega, by omega⟩ (fun h10 => ?_) (fun h10 => ?_)
            · refine ev_aload (q := 59) dH_bind_57 (by rfl) rfl ?_
              refine ev_iload_n 3 (q := 60) dH_bind_59 rfl (by rfl) rfl ?_
              refine zr_puti (q := 63) dH_bind_60 gH_119 (at_S hc.2.1 (zEx_of hc h2)) (Nat.le_of_ble_eq_true rfl) rfl (ct_boundTo hc.2.1 (zEx_of hc h2)) rfl ?_
              have hc11 : zC g (z_up γ 38 (4 * t + o) p) := zC_up hc (by decide) (by decide) (by decide) (show (-1 : Int) ≤ p by omega) (show p ≤ (3 : Int) by omega)
              refine ev_iconst (v := iI 0) (q := 64) dH_bind_63 rfl rfl ?_
              exact zr_iret dH_bind_64 rfl ⟨by rw [cH_bind, if_pos h1, if_pos h2, if_neg h3, if_neg h4, if_pos h8, if_pos h10], by rw [cH_bind, if_pos h1, if_pos h2, if_neg h3, if_neg h4, if_pos h8, if_pos h10]⟩
            · refine ev_bipush (v := iI (-2)) (q := 56) dH_bind_54 (by decide) rfl ?_
              exact zr_iret dH_bind_56 rfl ⟨by rw [cH_bind, if_pos h1, if_pos h2, if_neg h3, if_neg h4, if_pos h8, if_neg h10], by rw [cH_bind, if_pos h1, if_pos h2, if_neg h3, if_neg h4, if_pos h8, if_neg h10]⟩
          · refine cv_V (As := [_, _]) (q := 41) dH_bind_38 kH_64 at_H rfl rfl (Nat.le_of_ble_eq_true rfl) rfl rfl rfl (by decide) (sH_findState_n hc t p ⟨by omega, by omega⟩ ⟨by omega, by omega⟩ h8) ?_
            refine ev_ifnonnullN (q := 44) dH_bind_41 rfl ?_
            refine ev_iconst (v := iI (-1)) (q := 45) dH_bind_44 rfl rfl ?_
            exact zr_iret dH_bind_45 rfl ⟨by rw [cH_bind, if_pos h1, if_pos h2, if_neg h3, if_neg h4, if_neg h8], by rw [cH_bind, if_pos h1, if_pos h2, if_neg h3, if_neg h4, if_neg h8]⟩
    · refine cv_V (As := [_, _]) (q := 13) dH_bind_10 kH_64 at_H rfl rfl (Nat.le_of_ble_eq_true rfl) rfl rfl rfl (by decide) (sH_findState_n hc t o ⟨by omega, by omega⟩ ⟨by omega, by omega⟩ h2) ?_
      refine ev_astoreN (q := 15) dH_bind_13 (by decide) rfl rfl ?_
      dsimp only [List.set]
      refine ev_aload (q := 17) dH_bind_15 (by rfl) rfl ?_
      refine ev_ifnull (q := 20) dH_bind_17 rfl ?_
      refine ev_aloadN (q := 22) dH_bind_20 (by rfl) rfl ?_
      refine ev_ifnullN (t := 44) (q := 44) dH_bind_22 rfl rfl ?_
      refine ev_iconst (v := iI (-1)) (q := 45) dH_bind_44 rfl rfl ?_
      exact zr_iret dH_bind_45 rfl ⟨by rw [cH_bind, if_pos h1, if_neg h2], by rw [cH_bind, if_pos h1, if_neg h2]⟩
  · refine cv_V (As := [_]) (q := 5) dH_bind_2 kH_60 at_H rfl rfl (Nat.le_of_ble_eq_true rfl) rfl rfl rfl (by decide) (sH_find_n hc t ⟨by omega, by omega⟩ h1) ?_
    refine ev_astoreN (q := 7) dH_bind_5 (by decide) rfl rfl ?_
    dsimp only [List.set]
    refine ev_aload_n 0 (q := 8) dH_bind_7 rfl (by rfl) rfl ?_
    refine ev_iload_n 1 (q := 9) dH_bind_8 rfl (by rfl) rfl ?_
    refine ev_iload_n 2 (q := 10) dH_bind_9 rfl (by rfl) rfl ?_
    by_cases h14 : 0 ≤ t ∧ t < (γ 0 0) ∧ 0 ≤ o ∧ o < γ 32 (2 * t + 1)
    · refine cv_V (As := [_, _]) (q := 13) dH_bind_10 kH_64 at_H rfl rfl (Nat.le_of_ble_eq_true rfl) rfl rfl rfl (by decide) (sH_findState_s hc t o  h14) ?_
      have g15 : 0 ≤ γ 32 (2 * t + 1) ∧ γ 32 (2 * t + 1) ≤ 4 := hc.1 32 _ (by decide)
      refine ev_astore (q := 15) dH_bind_13 (by decide) rfl rfl ?_
      dsimp only [List.set]
      refine ev_aloadN (q := 17) dH_bind_15 (by rfl) rfl ?_
      refine ev_ifnullN (t := 44) (q := 44) dH_bind_17 rfl rfl ?_
      refine ev_iconst (v := iI (-1)) (q := 45) dH_bind_44 rfl rfl ?_
      exact zr_iret dH_bind_45 rfl ⟨by rw [cH_bind, if_neg h1, if_pos h14], by rw [cH_bind, if_neg h1, if_pos h14]⟩
    · refine cv_V (As := [_, _]) (q := 13) dH_bind_10 kH_64 at_H rfl rfl (Nat.le_of_ble_eq_true rfl) rfl rfl rfl (by decide) (sH_findState_n hc t o ⟨by omega, by omega⟩ ⟨by omega, by omega⟩ h14) ?_
      refine ev_astoreN (q := 15) dH_bind_13 (by decide) rfl rfl ?_
      dsimp only [List.set]
      refine ev_aloadN (q := 17) dH_bind_15 (by rfl) rfl ?_
      refine ev_ifnullN (t := 44) (q := 44) dH_bind_17 rfl rfl ?_
      refine ev_iconst (v := iI (-1)) (q := 45) dH_bind_44 rfl rfl ?_
      exact zr_iret dH_bind_45 rfl ⟨by rw [cH_bind, if_neg h1, if_neg h14], by rw [cH_bind, if_neg h1, if_neg h14]⟩
set_option maxRecDepth 100000 in
set_option maxHeartbeats 4000000 in
theorem wH_bind {g : z_Gl} {γ : z_Sg} (hc : zC g γ) (t o p : Int) (hp0 : z_rg t) (hp1 : z_rg o) (hp2 : z_rg p) : zC g (cH_bind γ t o p).2 := by
  rw [cH_bind]
  by_cases h1 : 0 ≤ t ∧ t < (γ 0 0)
  · rw [if_pos h1]
    by_cases h2 : 0 ≤ t ∧ t < (γ 0 0) ∧ 0 ≤ o ∧ o < γ 32 (2 * t + 1)
    · rw [if_pos h2]
      have g13 : 0 ≤ γ 32 (2 * t + 1) ∧ γ 32 (2 * t + 1) ≤ 4 := hc.1 32 _ (by decide)
      by_cases h3 : p = o
      · rw [if_pos h3]
        exact hc
      · rw [if_neg h3]
        by_cases h4 : p = (-1)
        · rw [if_pos h4]
          have g5 : 0 ≤ γ 25 t ∧ γ 25 t ≤ 9 := hc.1 25 t (by decide)
          by_cases h6 : (γ 25 t) = 0
          · rw [if_pos h6]
            have hc7 : zC g (z_up γ 38 (4 * t + o) p) := zC_up hc (by decide) (by decide) (by decide) (show (-1 : Int) ≤ p by omega) (show p ≤ (3 : Int) by omega)
            exact hc7
          · rw [if_neg h6]
            exact hc
        · rw [if_neg h4]
          by_cases h8 : 0 ≤ t ∧ t < (γ 0 0) ∧ 0 ≤ p ∧ p < γ 32 (2 * t + 1)
          · rw [if_pos h8]
            have g12 : 0 ≤ γ 32 (2 * t + 1) ∧ γ 32 (2 * t + 1) ≤ 4 := hc.1 32 _ (by decide)
            have g9 : 0 ≤ γ 25 t ∧ γ 25 t ≤ 9 := hc.1 25 t (by decide)
            by_cases h10 : (γ 25 t) = 0
            · rw [if_pos h10]
              have hc11 : zC g (z_up γ 38 (4 * t + o) p) := zC_up hc (by decide) (by decide) (by decide) (show (-1 : Int) ≤ p by omega) (show p ≤ (3 : Int) by omega)
              exact hc11
            · rw [if_neg h10]
              exact hc
          · rw [if_neg h8]
            exact hc
    · rw [if_neg h2]
      exact hc
  · rw [if_neg h1]
    by_cases h14 : 0 ≤ t ∧ t < (γ 0 0) ∧ 0 ≤ o ∧ o < γ 32 (2 * t + 1)
    · rw [if_pos h14]
      have g15 : 0 ≤ γ 32 (2 * t + 1) ∧ γ 32 (2 * t + 1) ≤ 4 := hc.1 32 _ (by decide)
      exact hc
    · rw [if_neg h14]
      exact hc
