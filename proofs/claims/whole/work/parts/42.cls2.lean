theorem zEx_79 {g : z_Gl} {γ : z_Sg} (hc : zC g γ) {s : Int} (hs : zEx γ s) : 0 ≤ s ∧ s ≤ 79 := by
  have g0 : 0 ≤ γ 0 0 ∧ γ 0 0 ≤ 20 := hc.1 0 0 (by decide)
  exact ⟨hs.1, by have := hs.2.1; omega⟩

def cS_source (γ : z_Sg) (s : Int) : Int := (s / 4)
set_option maxRecDepth 100000 in
set_option maxHeartbeats 4000000 in
theorem sS_source {g : z_Gl} {γ ρ : z_Sg} (hc : zC g γ) (s : Int) (hp0 : zEx γ s) : z_Sp mS_source (0, 0) 0 0 [.ref (g.2.2.1 s)] (zH g γ ρ) (fun r M' => r = some (zi (cS_source γ s)) ∧ M' = zH g γ ρ) := by
  refine z_Sp_of (L := [.ref (g.2.2.1 s)]) (by decide) rfl rfl rfl (Nat.le_of_ble_eq_true rfl) ?_
  have hs79 := zEx_79 hc hp0
  refine ev_aload_n 0 (q := 1) dS_source_0 rfl (by rfl) rfl ?_
  refine ev_get (q := 4) dS_source_1 fS_9 (at_S hc.2.1 hp0) (by rfl) rfl ?_
  refine ev_iconst (v := iI 4) (q := 5) dS_source_4 rfl rfl ?_
  refine zr_idiv (q := 6) dS_source_5 ⟨by omega, by omega⟩ ⟨by omega, by omega⟩ rfl ?_
  exact zr_iret dS_source_6 rfl ⟨by rw [cS_source], rfl⟩

def cS_isBound (γ : z_Sg) (s : Int) : Int := if (γ 38 s) = (-1) then 0 else 1
theorem bS_isBound (γ : z_Sg) (s : Int) : cS_isBound γ s = 0 ∨ cS_isBound γ s = 1 := by
  unfold cS_isBound
  repeat' split
  all_goals first | exact Or.inl rfl | exact Or.inr rfl
set_option maxRecDepth 100000 in
set_option maxHeartbeats 4000000 in
theorem sS_isBound {g : z_Gl} {γ ρ : z_Sg} (hc : zC g γ) (s : Int) (hp0 : zEx γ s) : z_Sp mS_isBound (0, 0) 0 0 [.ref (g.2.2.1 s)] (zH g γ ρ) (fun r M' => r = some (zi (cS_isBound γ s)) ∧ M' = zH g γ ρ) := by
  refine z_Sp_of (L := [.ref (g.2.2.1 s)]) (by decide) rfl rfl rfl (Nat.le_of_ble_eq_true rfl) ?_
  have hs79 := zEx_79 hc hp0
  refine ev_aload_n 0 (q := 1) dS_isBound_0 rfl (by rfl) rfl ?_
  refine ev_get (q := 4) (v := zi (γ 38 s)) dS_isBound_1 fS_27 (at_S hc.2.1 hp0) rfl rfl ?_
  have g1 : -1 ≤ γ 38 s ∧ γ 38 s ≤ 3 := hc.1 38 s (by decide)
  refine ev_iconst (v := iI (-1)) (q := 5) dS_isBound_4 rfl rfl ?_
  refine zr_icmp_eq (t := 12) (q := 8) dS_isBound_5 rfl rfl ⟨by omega, by omega⟩ ⟨by omega, by omega⟩ (fun h2 => ?_) (fun h2 => ?_)
  · refine ev_iconst (v := iI 0) (q := 13) dS_isBound_12 rfl rfl ?_
    exact zr_zret dS_isBound_13 rfl (by omega) ⟨by rw [cS_isBound, if_pos h2], rfl⟩
  · refine ev_iconst (v := iI 1) (q := 9) dS_isBound_8 rfl rfl ?_
    refine ev_goto (t := 13) (q := 13) dS_isBound_9 rfl rfl ?_
    exact zr_zret dS_isBound_13 rfl (by omega) ⟨by rw [cS_isBound, if_neg h2], rfl⟩

def cS_isCashIssuedBy (γ : z_Sg) (s n : Int) : Int := if (γ 34 s) ≠ 0 then 0 else if (γ 35 s) ≠ n then 0 else 1
theorem bS_isCashIssuedBy (γ : z_Sg) (s n : Int) : cS_isCashIssuedBy γ s n = 0 ∨ cS_isCashIssuedBy γ s n = 1 := by
  unfold cS_isCashIssuedBy
  repeat' split
  all_goals first | exact Or.inl rfl | exact Or.inr rfl
set_option maxRecDepth 100000 in
set_option maxHeartbeats 4000000 in
theorem sS_isCashIssuedBy {g : z_Gl} {γ ρ : z_Sg} (hc : zC g γ) (s n : Int) (hp0 : zEx γ s) (hp1 : z_rg n) : z_Sp mS_isCashIssuedBy (0, 0) 0 0 [.ref (g.2.2.1 s), zi n] (zH g γ ρ) (fun r M' => r = some (zi (cS_isCashIssuedBy γ s n)) ∧ M' = zH g γ ρ) := by
  refine z_Sp_of (L := [.ref (g.2.2.1 s), zi n]) (by decide) rfl rfl rfl (Nat.le_of_ble_eq_true rfl) ?_
  have hs79 := zEx_79 hc hp0
  refine ev_aload_n 0 (q := 1) dS_isCashIssuedBy_0 rfl (by rfl) rfl ?_
  refine ev_get (q := 4) (v := zi (γ 34 s)) dS_isCashIssuedBy_1 fS_15 (at_S hc.2.1 hp0) rfl rfl ?_
  have g1 : 0 ≤ γ 34 s ∧ γ 34 s ≤ 2 := hc.1 34 s (by decide)
  refine zr_if_ne (t := 19) (q := 7) dS_isCashIssuedBy_4 rfl rfl ⟨by omega, by omega⟩ (fun h2 => ?_) (fun h2 => ?_)
  · refine ev_iconst (v := iI 0) (q := 20) dS_isCashIssuedBy_19 rfl rfl ?_
    exact zr_zret dS_isCashIssuedBy_20 rfl (by omega) ⟨by rw [cS_isCashIssuedBy, if_pos h2], rfl⟩
  · refine ev_aload_n 0 (q := 8) dS_isCashIssuedBy_7 rfl (by rfl) rfl ?_
    refine ev_get (q := 11) (v := zi (γ 35 s)) dS_isCashIssuedBy_8 fS_18 (at_S hc.2.1 hp0) rfl rfl ?_
    have g3 : 0 ≤ γ 35 s ∧ γ 35 s ≤ 3 := hc.1 35 s (by decide)
    refine ev_iload_n 1 (q := 12) dS_isCashIssuedBy_11 rfl (by rfl) rfl ?_
    refine zr_icmp_ne (t := 19) (q := 15) dS_isCashIssuedBy_12 rfl rfl ⟨by omega, by omega⟩ ⟨by omega, by omega⟩ (fun h4 => ?_) (fun h4 => ?_)
    · refine ev_iconst (v := iI 0) (q := 20) dS_isCashIssuedBy_19 rfl rfl ?_
      exact zr_zret dS_isCashIssuedBy_20 rfl (by omega) ⟨by rw [cS_isCashIssuedBy, if_neg (fun z => z h2), if_pos h4], rfl⟩
    · refine ev_iconst (v := iI 1) (q := 16) dS_isCashIssuedBy_15 rfl rfl ?_
      refine ev_goto (t := 20) (q := 20) dS_isCashIssuedBy_16 rfl rfl ?_
      exact zr_zret dS_isCashIssuedBy_20 rfl (by omega) ⟨by rw [cS_isCashIssuedBy, if_neg (fun z => z h2), if_neg (fun z => z h4)], rfl⟩

def cS_isCashOwnedBy (γ : z_Sg) (s n : Int) : Int := if (γ 34 s) ≠ 0 then 0 else if (γ 36 s) ≠ n then 0 else 1
theorem bS_isCashOwnedBy (γ : z_Sg) (s n : Int) : cS_isCashOwnedBy γ s n = 0 ∨ cS_isCashOwnedBy γ s n = 1 := by
  unfold cS_isCashOwnedBy
  repeat' split
  all_goals first | exact Or.inl rfl | exact Or.inr rfl
set_option maxRecDepth 100000 in
set_option maxHeartbeats 4000000 in
theorem sS_isCashOwnedBy {g : z_Gl} {γ ρ : z_Sg} (hc : zC g γ) (s n : Int) (hp0 : zEx γ s) (hp1 : z_rg n) : z_Sp mS_isCashOwnedBy (0, 0) 0 0 [.ref (g.2.2.1 s), zi n] (zH g γ ρ) (fun r M' => r = some (zi (cS_isCashOwnedBy γ s n)) ∧ M' = zH g γ ρ) := by
  refine z_Sp_of (L := [.ref (g.2.2.1 s), zi n]) (by decide) rfl rfl rfl (Nat.le_of_ble_eq_true rfl) ?_
  have hs79 := zEx_79 hc hp0
  refine ev_aload_n 0 (q := 1) dS_isCashOwnedBy_0 rfl (by rfl) rfl ?_
  refine ev_get (q := 4) (v := zi (γ 34 s)) dS_isCashOwnedBy_1 fS_15 (at_S hc.2.1 hp0) rfl rfl ?_
  have g1 : 0 ≤ γ 34 s ∧ γ 34 s ≤ 2 := hc.1 34 s (by decide)
  refine zr_if_ne (t := 19) (q := 7) dS_isCashOwnedBy_4 rfl rfl ⟨by omega, by omega⟩ (fun h2 => ?_) (fun h2 => ?_)
  · refine ev_iconst (v := iI 0) (q := 20) dS_isCashOwnedBy_19 rfl rfl ?_
    exact zr_zret dS_isCashOwnedBy_20 rfl (by omega) ⟨by rw [cS_isCashOwnedBy, if_pos h2], rfl⟩
  · refine ev_aload_n 0 (q := 8) dS_isCashOwnedBy_7 rfl (by rfl) rfl ?_
    refine ev_get (q := 11) (v := zi (γ 36 s)) dS_isCashOwnedBy_8 fS_21 (at_S hc.2.1 hp0) rfl rfl ?_
    have g3 : 0 ≤ γ 36 s ∧ γ 36 s ≤ 3 := hc.1 36 s (by decide)
    refine ev_iload_n 1 (q := 12) dS_isCashOwnedBy_11 rfl (by rfl) rfl ?_
    refine zr_icmp_ne (t := 19) (q := 15) dS_isCashOwnedBy_12 rfl rfl ⟨by omega, by omega⟩ ⟨by omega, by omega⟩ (fun h4 => ?_) (fun h4 => ?_)
    · refine ev_iconst (v := iI 0) (q := 20) dS_isCashOwnedBy_19 rfl rfl ?_
      exact zr_zret dS_isCashOwnedBy_20 rfl (by omega) ⟨by rw [cS_isCashOwnedBy, if_neg (fun z => z h2), if_pos h4], rfl⟩
    · refine ev_iconst (v := iI 1) (q := 16) dS_isCashOwnedBy_15 rfl rfl ?_
      refine ev_goto (t := 20) (q := 20) dS_isCashOwnedBy_16 rfl rfl ?_
      exact zr_zret dS_isCashOwnedBy_20 rfl (by omega) ⟨by rw [cS_isCashOwnedBy, if_neg (fun z => z h2), if_neg (fun z => z h4)], rfl⟩

def cS_isDebtOf (γ : z_Sg) (s x y : Int) : Int := if (γ 34 s) ≠ 1 then 0 else if (γ 35 s) ≠ x then 0 else if (γ 36 s) ≠ y then 0 else 1
theorem bS_isDebtOf (γ : z_Sg) (s x y : Int) : cS_isDebtOf γ s x y = 0 ∨ cS_isDebtOf γ s x y = 1 := by
  unfold cS_isDebtOf
  repeat' split
  all_goals first | exact Or.inl rfl | exact Or.inr rfl
set_option maxRecDepth 100000 in
set_option maxHeartbeats 4000000 in
theorem sS_isDebtOf {g : z_Gl} {γ ρ : z_Sg} (hc : zC g γ) (s x y : Int) (hp0 : zEx γ s) (hp1 : z_rg x) (hp2 : z_rg y) : z_Sp mS_isDebtOf (0, 0) 0 0 [.ref (g.2.2.1 s), zi x, zi y] (zH g γ ρ) (fun r M' => r = some (zi (cS_isDebtOf γ s x y)) ∧ M' = zH g γ ρ) := by
  refine z_Sp_of (L := [.ref (g.2.2.1 s), zi x, zi y]) (by decide) rfl rfl rfl (Nat.le_of_ble_eq_true rfl) ?_
  have hs79 := zEx_79 hc hp0
  refine ev_aload_n 0 (q := 1) dS_isDebtOf_0 rfl (by rfl) rfl ?_
  refine ev_get (q := 4) (v := zi (γ 34 s)) dS_isDebtOf_1 fS_15 (at_S hc.2.1 hp0) rfl rfl ?_
  have g1 : 0 ≤ γ 34 s ∧ γ 34 s ≤ 2 := hc.1 34 s (by decide)
  refine ev_iconst (v := iI 1) (q := 5) dS_isDebtOf_4 rfl rfl ?_
  refine zr_icmp_ne (t := 28) (q := 8) dS_isDebtOf_5 rfl rfl ⟨by omega, by omega⟩ ⟨by omega, by omega⟩ (fun h2 => ?_) (fun h2 => ?_)
  · refine ev_iconst (v := iI 0) (q := 29) dS_isDebtOf_28 rfl rfl ?_
    exact zr_zret dS_isDebtOf_29 rfl (by omega) ⟨by rw [cS_isDebtOf, if_pos h2], rfl⟩
  · refine ev_aload_n 0 (q := 9) dS_isDebtOf_8 rfl (by rfl) rfl ?_
    refine ev_get (q := 12) (v := zi (γ 35 s)) dS_isDebtOf_9 fS_18 (at_S hc.2.1 hp0) rfl rfl ?_
    have g3 : 0 ≤ γ 35 s ∧ γ 35 s ≤ 3 := hc.1 35 s (by decide)
    refine ev_iload_n 1 (q := 13) dS_isDebtOf_12 rfl (by rfl) rfl ?_
    refine zr_icmp_ne (t := 28) (q := 16) dS_isDebtOf_13 rfl rfl ⟨by omega, by omega⟩ ⟨by omega, by omega⟩ (fun h4 => ?_) (fun h4 => ?_)
    · refine ev_iconst (v := iI 0) (q := 29) dS_isDebtOf_28 rfl rfl ?_
      exact zr_zret dS_isDebtOf_29 rfl (by omega) ⟨by rw [cS_isDebtOf, if_neg (fun z => z h2), if_pos h4], rfl⟩
    · refine ev_aload_n 0 (q := 17) dS_isDebtOf_16 rfl (by rfl) rfl ?_
      refine ev_get (q := 20) (v := zi (γ 36 s)) dS_isDebtOf_17 fS_21 (at_S hc.2.1 hp0) rfl rfl ?_
      have g5 : 0 ≤ γ 36 s ∧ γ 36 s ≤ 3 := hc.1 36 s (by decide)
      refine ev_iload_n 2 (q := 21) dS_isDebtOf_20 rfl (by rfl) rfl ?_
      refine zr_icmp_ne (t := 28) (q := 24) dS_isDebtOf_21 rfl rfl ⟨by omega, by omega⟩ ⟨by omega, by omega⟩ (fun h6 => ?_) (fun h6 => ?_)
      · refine ev_iconst (v := iI 0) (q := 29) dS_isDebtOf_28 rfl rfl ?_
        exact zr_zret dS_isDebtOf_29 rfl (by omega) ⟨by rw [cS_isDebtOf, if_neg (fun z => z h2), if_neg (fun z => z h4), if_pos h6], rfl⟩
      · refine ev_iconst (v := iI 1) (q := 25) dS_isDebtOf_24 rfl rfl ?_
        refine ev_goto (t := 29) (q := 29) dS_isDebtOf_25 rfl rfl ?_
        exact zr_zret dS_isDebtOf_29 rfl (by omega) ⟨by rw [cS_isDebtOf, if_neg (fun z => z h2), if_neg (fun z => z h4), if_neg (fun z => z h6)], rfl⟩

theorem bS_source {g : z_Gl} {γ : z_Sg} (hc : zC g γ) (s : Int) (hs : zEx γ s) : 0 ≤ cS_source γ s ∧ cS_source γ s ≤ 19 ∧ cS_source γ s < γ 0 0 := by
  have h := zEx_79 hc hs
  have h2 := hs.2.1
  unfold cS_source
  omega

def cS_concerns (γ : z_Sg) (s n : Int) : Int := if (cS_isCashOwnedBy γ s n) ≠ 0 then 1 else if (γ 34 s) ≠ 1 then 0 else if (γ 35 s) = n then 1 else if (γ 36 s) ≠ n then 0 else 1
theorem bS_concerns (γ : z_Sg) (s n : Int) : cS_concerns γ s n = 0 ∨ cS_concerns γ s n = 1 := by
  unfold cS_concerns
  repeat' split
  all_goals first | exact Or.inl rfl | exact Or.inr rfl
set_option maxRecDepth 100000 in
set_option maxHeartbeats 4000000 in
theorem sS_concerns {g : z_Gl} {γ ρ : z_Sg} (hc : zC g γ) (s n : Int) (hp0 : zEx γ s) (hp1 : z_rg n) : z_Sp mS_concerns (1, 21) 0 0 [.ref (g.2.2.1 s), zi n] (zH g γ ρ) (fun r M' => r = some (zi (cS_concerns γ s n)) ∧ M' = zH g γ ρ) := by
  refine z_Sp_of (L := [.ref (g.2.2.1 s), zi n]) (by decide) rfl rfl rfl (Nat.le_of_ble_eq_true rfl) ?_
  have hs79 := zEx_79 hc hp0
  refine ev_aload_n 0 (q := 1) dS_concerns_0 rfl (by rfl) rfl ?_
  refine ev_iload_n 1 (q := 2) dS_concerns_1 rfl (by rfl) rfl ?_
  refine cv_V (As := [_]) (q := 5) dS_concerns_2 kS_34 (at_S hc.2.1 hp0) rfl rfl (Nat.le_of_ble_eq_true rfl) rfl rfl rfl (by decide) (sS_isCashOwnedBy hc s n hp0 ⟨by omega, by omega⟩ ) ?_
  have g1 : (cS_isCashOwnedBy γ s n) = 0 ∨ (cS_isCashOwnedBy γ s n) = 1 := bS_isCashOwnedBy _ _ _
  refine zr_if_ne (t := 32) (q := 8) dS_concerns_5 rfl rfl ⟨by omega, by omega⟩ (fun h2 => ?_) (fun h2 => ?_)
  · refine ev_iconst (v := iI 1) (q := 33) dS_concerns_32 rfl rfl ?_
    refine ev_goto (t := 37) (q := 37) dS_concerns_33 rfl rfl ?_
    exact zr_zret dS_concerns_37 rfl (by omega) ⟨by rw [cS_concerns, if_pos h2], rfl⟩
  · refine ev_aload_n 0 (q := 9) dS_concerns_8 rfl (by rfl) rfl ?_
    refine ev_get (q := 12) (v := zi (γ 34 s)) dS_concerns_9 fS_15 (at_S hc.2.1 hp0) rfl rfl ?_
    have g3 : 0 ≤ γ 34 s ∧ γ 34 s ≤ 2 := hc.1 34 s (by decide)
    refine ev_iconst (v := iI 1) (q := 13) dS_concerns_12 rfl rfl ?_
    refine zr_icmp_ne (t := 36) (q := 16) dS_concerns_13 rfl rfl ⟨by omega, by omega⟩ ⟨by omega, by omega⟩ (fun h4 => ?_) (fun h4 => ?_)
    · refine ev_iconst (v := iI 0) (q := 37) dS_concerns_36 rfl rfl ?_
      exact zr_zret dS_concerns_37 rfl (by omega) ⟨by rw [cS_concerns, if_neg (fun z => z h2), if_pos h4], rfl⟩
    · refine ev_aload_n 0 (q := 17) dS_concerns_16 rfl (by rfl) rfl ?_
      refine ev_get (q := 20) (v := zi (γ 35 s)) dS_concerns_17 fS_18 (at_S hc.2.1 hp0) rfl rfl ?_
      have g5 : 0 ≤ γ 35 s ∧ γ 35 s ≤ 3 := hc.1 35 s (by decide)
      refine ev_iload_n 1 (q := 21) dS_concerns_20 rfl (by rfl) rfl ?_
      refine zr_icmp_eq (t := 32) (q := 24) dS_concerns_21 rfl rfl ⟨by omega, by omega⟩ ⟨by omega, by omega⟩ (fun h6 => ?_) (fun h6 => ?_)
      · refine ev_iconst (v := iI 1) (q := 33) dS_concerns_32 rfl rfl ?_
        refine ev_goto (t := 37) (q := 37) dS_concerns_33 rfl rfl ?_
        exact zr_zret dS_concerns_37 rfl (by omega) ⟨by rw [cS_concerns, if_neg (fun z => z h2), if_neg (fun z => z h4), if_pos h6], rfl⟩
      · refine ev_aload_n 0 (q := 25) dS_concerns_24 rfl (by rfl) rfl ?_
        refine ev_get (q := 28) (v := zi (γ 36 s)) dS_concerns_25 fS_21 (at_S hc.2.1 hp0) rfl rfl ?_
        have g7 : 0 ≤ γ 36 s ∧ γ 36 s ≤ 3 := hc.1 36 s (by decide)
        refine ev_iload_n 1 (q := 29) dS_concerns_28 rfl (by rfl) rfl ?_
        refine zr_icmp_ne (t := 36) (q := 32) dS_concerns_29 rfl rfl ⟨by omega, by omega⟩ ⟨by omega, by omega⟩ (fun h8 => ?_) (fun h8 => ?_)
        · refine ev_iconst (v := iI 0) (q := 37) dS_concerns_36 rfl rfl ?_
          exact zr_zret dS_concerns_37 rfl (by omega) ⟨by rw [cS_concerns, if_neg (fun z => z h2), if_neg (fun z => z h4), if_neg h6, if_pos h8], rfl⟩
        · refine ev_iconst (v := iI 1) (q := 33) dS_concerns_32 rfl rfl ?_
          refine ev_goto (t := 37) (q := 37) dS_concerns_33 rfl rfl ?_
          exact zr_zret dS_concerns_37 rfl (by omega) ⟨by rw [cS_concerns, if_neg (fun z => z h2), if_neg (fun z => z h4), if_neg h6, if_neg (fun z => z h8)], rfl⟩

def cS_leafValue (γ : z_Sg) (s : Int) : Int := ((1 + (γ 34 s)) + (3 * ((γ 35 s) + (4 * ((γ 36 s) + (4 * ((γ 37 s) + (1024 * ((γ 38 s) + 1)))))))))
set_option maxRecDepth 100000 in
set_option maxHeartbeats 4000000 in
theorem sS_leafValue {g : z_Gl} {γ ρ : z_Sg} (hc : zC g γ) (s : Int) (hp0 : zEx γ s) : z_Sp mS_leafValue (0, 0) 0 0 [.ref (g.2.2.1 s)] (zH g γ ρ) (fun r M' => r = some (zi (cS_leafValue γ s)) ∧ M' = zH g γ ρ) := by
  refine z_Sp_of (L := [.ref (g.2.2.1 s)]) (by decide) rfl rfl rfl (Nat.le_of_ble_eq_true rfl) ?_
  have hs79 := zEx_79 hc hp0
  refine ev_iconst (v := iI 1) (q := 1) dS_leafValue_0 rfl rfl ?_
  refine ev_aload_n 0 (q := 2) dS_leafValue_1 rfl (by rfl) rfl ?_
  refine ev_get (q := 5) (v := zi (γ 34 s)) dS_leafValue_2 fS_15 (at_S hc.2.1 hp0) rfl rfl ?_
  have g1 : 0 ≤ γ 34 s ∧ γ 34 s ≤ 2 := hc.1 34 s (by decide)
  refine zr_iadd (q := 6) dS_leafValue_5 rfl ?_
  refine ev_iconst (v := iI 3) (q := 7) dS_leafValue_6 rfl rfl ?_
  refine ev_aload_n 0 (q := 8) dS_leafValue_7 rfl (by rfl) rfl ?_
  refine ev_get (q := 11) (v := zi (γ 35 s)) dS_leafValue_8 fS_18 (at_S hc.2.1 hp0) rfl rfl ?_
  have g2 : 0 ≤ γ 35 s ∧ γ 35 s ≤ 3 := hc.1 35 s (by decide)
  refine ev_iconst (v := iI 4) (q := 12) dS_leafValue_11 rfl rfl ?_
  refine ev_aload_n 0 (q := 13) dS_leafValue_12 rfl (by rfl) rfl ?_
  refine ev_get (q := 16) (v := zi (γ 36 s)) dS_leafValue_13 fS_21 (at_S hc.2.1 hp0) rfl rfl ?_
  have g3 : 0 ≤ γ 36 s ∧ γ 36 s ≤ 3 := hc.1 36 s (by decide)
  refine ev_iconst (v := iI 4) (q := 17) dS_leafValue_16 rfl rfl ?_
  refine ev_aload_n 0 (q := 18) dS_leafValue_17 rfl (by rfl) rfl ?_
  refine ev_get (q := 21) (v := zi (γ 37 s)) dS_leafValue_18 fS_24 (at_S hc.2.1 hp0) rfl rfl ?_
  have g4 : 0 ≤ γ 37 s ∧ γ 37 s ≤ 1000 := hc.1 37 s (by decide)
  refine ev_sipush (v := iI 1024) (q := 24) dS_leafValue_21 (by decide) rfl ?_
  refine ev_aload_n 0 (q := 25) dS_leafValue_24 rfl (by rfl) rfl ?_
  refine ev_get (q := 28) (v := zi (γ 38 s)) dS_leafValue_25 fS_27 (at_S hc.2.1 hp0) rfl rfl ?_
  have g5 : -1 ≤ γ 38 s ∧ γ 38 s ≤ 3 := hc.1 38 s (by decide)
  refine ev_iconst (v := iI 1) (q := 29) dS_leafValue_28 rfl rfl ?_
  refine zr_iadd (q := 30) dS_leafValue_29 rfl ?_
  refine zr_imul (q := 31) dS_leafValue_30 rfl ?_
  refine zr_iadd (q := 32) dS_leafValue_31 rfl ?_
  refine zr_imul (q := 33) dS_leafValue_32 rfl ?_
  refine zr_iadd (q := 34) dS_leafValue_33 rfl ?_
  refine zr_imul (q := 35) dS_leafValue_34 rfl ?_
  refine zr_iadd (q := 36) dS_leafValue_35 rfl ?_
  refine zr_imul (q := 37) dS_leafValue_36 rfl ?_
  refine zr_iadd (q := 38) dS_leafValue_37 rfl ?_
  exact zr_iret dS_leafValue_38 rfl ⟨by rw [cS_leafValue], rfl⟩

def cS_boundNumber (γ : z_Sg) (s : Int) : Int := (((cS_source γ s) * 4) + (γ 38 s))
set_option maxRecDepth 100000 in
set_option maxHeartbeats 4000000 in
theorem sS_boundNumber {g : z_Gl} {γ ρ : z_Sg} (hc : zC g γ) (s : Int) (hp0 : zEx γ s) : z_Sp mS_boundNumber (1, 20) 0 0 [.ref (g.2.2.1 s)] (zH g γ ρ) (fun r M' => r = some (zi (cS_boundNumber γ s)) ∧ M' = zH g γ ρ) := by
  refine z_Sp_of (L := [.ref (g.2.2.1 s)]) (by decide) rfl rfl rfl (Nat.le_of_ble_eq_true rfl) ?_
  have hs79 := zEx_79 hc hp0
  refine ev_aload_n 0 (q := 1) dS_boundNumber_0 rfl (by rfl) rfl ?_
  refine cv_V (As := []) (q := 4) dS_boundNumber_1 kS_30 (at_S hc.2.1 hp0) rfl rfl (Nat.le_of_ble_eq_true rfl) rfl rfl rfl (by decide) (sS_source hc s hp0 ) ?_
  have g1 := bS_source hc s hp0 
  refine ev_iconst (v := iI 4) (q := 5) dS_boundNumber_4 rfl rfl ?_
  refine zr_imul (q := 6) dS_boundNumber_5 rfl ?_
  refine ev_aload_n 0 (q := 7) dS_boundNumber_6 rfl (by rfl) rfl ?_
  refine ev_get (q := 10) (v := zi (γ 38 s)) dS_boundNumber_7 fS_27 (at_S hc.2.1 hp0) rfl rfl ?_
  have g2 : -1 ≤ γ 38 s ∧ γ 38 s ≤ 3 := hc.1 38 s (by decide)
  refine zr_iadd (q := 11) dS_boundNumber_10 rfl ?_
  exact zr_iret dS_boundNumber_11 rfl ⟨by rw [cS_boundNumber], rfl⟩

theorem bS_boundNumber {g : z_Gl} {γ : z_Sg} (hc : zC g γ) (s : Int) (hs : zEx γ s) : -1 ≤ cS_boundNumber γ s ∧ cS_boundNumber γ s ≤ 79 := by
  have h := bS_source hc s hs
  have h2 : -1 ≤ γ 38 s ∧ γ 38 s ≤ 3 := hc.1 38 s (by decide)
  unfold cS_boundNumber
  omega

def cL_hasRoomFor (γ : z_Sg) (l n : Int) : Int := if (4 - (γ 32 l)) < n then 0 else 1
theorem bL_hasRoomFor (γ : z_Sg) (l n : Int) : cL_hasRoomFor γ l n = 0 ∨ cL_hasRoomFor γ l n = 1 := by
  unfold cL_hasRoomFor
  repeat' split
  all_goals first | exact Or.inl rfl | exact Or.inr rfl
set_option maxRecDepth 100000 in
set_option maxHeartbeats 4000000 in
theorem sL_hasRoomFor {g : z_Gl} {γ ρ : z_Sg} (hc : zC g γ) (l n : Int) (hp0 : 0 ≤ l ∧ l < 2 * γ 0 0) (hp1 : z_rg n) : z_Sp mL_hasRoomFor (0, 0) 0 0 [.ref (g.2.1 l), zi n] (zH g γ ρ) (fun r M' => r = some (zi (cL_hasRoomFor γ l n)) ∧ M' = zH g γ ρ) := by
  refine z_Sp_of (L := [.ref (g.2.1 l), zi n]) (by decide) rfl rfl rfl (Nat.le_of_ble_eq_true rfl) ?_
  refine ev_iload_n 1 (q := 1) dL_hasRoomFor_0 rfl (by rfl) rfl ?_
  refine ev_iconst (v := iI 4) (q := 2) dL_hasRoomFor_1 rfl rfl ?_
  refine ev_aload_n 0 (q := 3) dL_hasRoomFor_2 rfl (by rfl) rfl ?_
  refine ev_get (q := 6) (v := zi (γ 32 l)) dL_hasRoomFor_3 fL_17 (at_L hc.2.1 hp0) rfl rfl ?_
  have g1 : 0 ≤ γ 32 l ∧ γ 32 l ≤ 4 := hc.1 32 l (by decide)
  refine zr_isub (q := 7) dL_hasRoomFor_6 rfl ?_
  refine zr_icmp_gt (t := 14) (q := 10) dL_hasRoomFor_7 rfl rfl ⟨by omega, by omega⟩ ⟨by omega, by omega⟩ (fun h2 => ?_) (fun h2 => ?_)
  · refine ev_iconst (v := iI 0) (q := 15) dL_hasRoomFor_14 rfl rfl ?_
    exact zr_zret dL_hasRoomFor_15 rfl (by omega) ⟨by rw [cL_hasRoomFor, if_pos h2], rfl⟩
  · refine ev_iconst (v := iI 1) (q := 11) dL_hasRoomFor_10 rfl rfl ?_
    refine ev_goto (t := 15) (q := 15) dL_hasRoomFor_11 rfl rfl ?_
    exact zr_zret dL_hasRoomFor_15 rfl (by omega) ⟨by rw [cL_hasRoomFor, if_neg (Int.not_lt.mpr h2)], rfl⟩

def lL_holds_2 (γ : z_Sg) (l n : Int) : Nat → Int → Int
  | 0, k => 0
  | j + 1, k => if (γ 33 (4 * l + k)) ≠ n then lL_holds_2 γ l n j (k + 1) else 1
theorem blL_holds_2 (γ : z_Sg) (l n : Int) : ∀ (j : Nat) (k : Int), lL_holds_2 γ l n j k = 0 ∨ lL_holds_2 γ l n j k = 1 := by
  intro j
  induction j with
  | zero =>
    intro k
    rw [lL_holds_2]
    repeat' split
    all_goals first | exact Or.inl rfl | exact Or.inr rfl
  | succ j ih =>
    intro k
    rw [lL_holds_2]
    repeat' split
    all_goals first | exact Or.inl rfl | exact Or.inr rfl | exact ih _
set_option maxRecDepth 100000 in
set_option maxHeartbeats 4000000 in
theorem eL_holds_2 {g : z_Gl} {γ ρ : z_Sg} (hc : zC g γ) (l n : Int) (hp0 : 0 ≤ l ∧ l < 2 * γ 0 0) (hp1 : z_rg n) : ∀ (j : Nat) (k : Int), 0 ≤ k → k + j = γ 32 l → z_Ev mL_holds (0, 0) 0 0 2 [.ref (g.2.1 l), zi n, zi k] [] (zH g γ ρ) (fun r M' => r = some (zi (lL_holds_2 γ l n j k)) ∧ M' = zH g γ ρ) := by
  intro j
  induction j with
  | zero =>
    intro k  c0 c1
    refine ev_iload_n 2 (q := 3) dL_holds_2 rfl (by rfl) rfl ?_
    refine ev_aload_n 0 (q := 4) dL_holds_3 rfl (by rfl) rfl ?_
    refine ev_get (q := 7) (v := zi (γ 32 l)) dL_holds_4 fL_17 (at_L hc.2.1 hp0) rfl rfl ?_
    have g1 : 0 ≤ γ 32 l ∧ γ 32 l ≤ 4 := hc.1 32 l (by decide)
    refine zr_icmp_ge (t := 31) (q := 10) dL_holds_7 rfl rfl ⟨by omega, by omega⟩ ⟨by omega, by omega⟩ (fun h2 => ?_) (fun h2 => ?_)
    · refine ev_iconst (v := iI 0) (q := 32) dL_holds_31 rfl rfl ?_
      exact zr_zret dL_holds_32 rfl (by omega) ⟨by rw [lL_holds_2], rfl⟩
    · exfalso
      omega
  | succ j ih =>
    intro k  c0 c1
    refine ev_iload_n 2 (q := 3) dL_holds_2 rfl (by rfl) rfl ?_
    refine ev_aload_n 0 (q := 4) dL_holds_3 rfl (by rfl) rfl ?_
    refine ev_get (q := 7) (v := zi (γ 32 l)) dL_holds_4 fL_17 (at_L hc.2.1 hp0) rfl rfl ?_
    have g1 : 0 ≤ γ 32 l ∧ γ 32 l ≤ 4 := hc.1 32 l (by decide)
    refine zr_icmp_ge (t := 31) (q := 10) dL_holds_7 rfl rfl ⟨by omega, by omega⟩ ⟨by omega, by omega⟩ (fun h2 => ?_) (fun h2 => ?_)
    · exfalso
      omega
    · refine ev_aload_n 0 (q := 11) dL_holds_10 rfl (by rfl) rfl ?_
      refine ev_get (q := 14) dL_holds_11 fL_11 (at_L hc.2.1 hp0) (by rfl) rfl ?_
      refine ev_iload_n 2 (q := 15) dL_holds_14 rfl (by rfl) rfl ?_
      refine zr_aald (q := 16) dL_holds_15 (fun _ => ⟨_, rfl⟩) (at_E hc.2.1 hp0) (by decide) ⟨by omega, by omega⟩ (if_pos ⟨by omega, by omega⟩) rfl ?_
      have s3 : zEx γ (γ 33 (4 * l + k)) := hc.2.2.1 l k hp0.1 hp0.2 (by omega) (by omega)
      have g4 : 0 ≤ γ 33 (4 * l + k) ∧ γ 33 (4 * l + k) ≤ 79 := hc.1 33 _ (by decide)
      refine ev_get (q := 19) dL_holds_16 fL_21 (at_S hc.2.1 s3) (by rfl) rfl ?_
      refine ev_iload_n 1 (q := 20) dL_holds_19 rfl (by rfl) rfl ?_
      refine zr_icmp_ne (t := 25) (q := 23) dL_holds_20 rfl rfl ⟨by omega, by omega⟩ ⟨by omega, by omega⟩ (fun h5 => ?_) (fun h5 => ?_)
      · refine zr_iinc (q := 28) dL_holds_25 (by rfl) (by decide) rfl rfl ?_
        dsimp only [List.set]
        refine ev_goto (t := 2) (q := 2) dL_holds_28 rfl rfl ?_
        rw [show lL_holds_2 γ l n (j + 1) k = lL_holds_2 γ l n j (k + 1) from by rw [lL_holds_2, if_pos h5]]
        exact ih (k + 1)  (by omega) (by omega)
      · refine ev_iconst (v := iI 1) (q := 24) dL_holds_23 rfl rfl ?_
        exact zr_zret dL_holds_24 rfl (by omega) ⟨by rw [lL_holds_2, if_neg (fun z => z h5)], rfl⟩
def cL_holds (γ : z_Sg) (l n : Int) : Int := lL_holds_2 γ l n (γ 32 l).toNat 0
theorem bL_holds (γ : z_Sg) (l n : Int) : cL_holds γ l n = 0 ∨ cL_holds γ l n = 1 := by
  unfold cL_holds
  repeat' split
  all_goals first | exact Or.inl rfl | exact Or.inr rfl | exact blL_holds_2 _ _ _ _ _
set_option maxRecDepth 100000 in
set_option maxHeartbeats 4000000 in
theorem sL_holds {g : z_Gl} {γ ρ : z_Sg} (hc : zC g γ) (l n : Int) (hp0 : 0 ≤ l ∧ l < 2 * γ 0 0) (hp1 : z_rg n) : z_Sp mL_holds (0, 0) 0 0 [.ref (g.2.1 l), zi n] (zH g γ ρ) (fun r M' => r = some (zi (cL_holds γ l n)) ∧ M' = zH g γ ρ) := by
  refine z_Sp_of (L := [.ref (g.2.1 l), zi n, .float 0]) (by decide) rfl rfl rfl (Nat.le_of_ble_eq_true rfl) ?_
  refine ev_iconst (v := iI 0) (q := 1) dL_holds_0 rfl rfl ?_
  refine ev_istore_n 2 (q := 2) dL_holds_1 rfl (by decide) rfl rfl ?_
  dsimp only [List.set]
  have g1 : 0 ≤ γ 32 l ∧ γ 32 l ≤ 4 := hc.1 32 l (by decide)
  rw [show cL_holds γ l n = lL_holds_2 γ l n (γ 32 l).toNat 0 from by rw [cL_holds]]
  exact eL_holds_2 hc l n hp0 hp1 (γ 32 l).toNat 0  (by omega) (by omega)

def lL_holdsCashOwnedBy_2 (γ : z_Sg) (l n : Int) : Nat → Int → Int
  | 0, k => 0
  | j + 1, k => if (cS_isCashOwnedBy γ (γ 33 (4 * l + k)) n) = 0 then lL_holdsCashOwnedBy_2 γ l n j (k + 1) else 1
theorem blL_holdsCashOwnedBy_2 (γ : z_Sg) (l n : Int) : ∀ (j : Nat) (k : Int), lL_holdsCashOwnedBy_2 γ l n j k = 0 ∨ lL_holdsCashOwnedBy_2 γ l n j k = 1 := by
  intro j
  induction j with
  | zero =>
    intro k
    rw [lL_holdsCashOwnedBy_2]
    repeat' split
    all_goals first | exact Or.inl rfl | exact Or.inr rfl
  | succ j ih =>
    intro k
    rw [lL_holdsCashOwnedBy_2]
    repeat' split
    all_goals first | exact Or.inl rfl | exact Or.inr rfl | exact ih _
set_option maxRecDepth 100000 in
set_option maxHeartbeats 4000000 in
theorem eL_holdsCashOwnedBy_2 {g : z_Gl} {γ ρ : z_Sg} (hc : zC g γ) (l n : Int) (hp0 : 0 ≤ l ∧ l < 2 * γ 0 0) (hp1 : z_rg n) : ∀ (j : Nat) (k : Int), 0 ≤ k → k + j = γ 32 l → z_Ev mL_holdsCashOwnedBy (1, 21) 0 0 2 [.ref (g.2.1 l), zi n, zi k] [] (zH g γ ρ) (fun r M' => r = some (zi (lL_holdsCashOwnedBy_2 γ l n j k)) ∧ M' = zH g γ ρ) := by
  intro j
  induction j with
  | zero =>
    intro k  c0 c1
    refine ev_iload_n 2 (q := 3) dL_holdsCashOwnedBy_2 rfl (by rfl) rfl ?_
    refine ev_aload_n 0 (q := 4) dL_holdsCashOwnedBy_3 rfl (by rfl) rfl ?_
    refine ev_get (q := 7) (v := zi (γ 32 l)) dL_holdsCashOwnedBy_4 fL_17 (at_L hc.2.1 hp0) rfl rfl ?_
    have g1 : 0 ≤ γ 32 l ∧ γ 32 l ≤ 4 := hc.1 32 l (by decide)
    refine zr_icmp_ge (t := 31) (q := 10) dL_holdsCashOwnedBy_7 rfl rfl ⟨by omega, by omega⟩ ⟨by omega, by omega⟩ (fun h2 => ?_) (fun h2 => ?_)
    · refine ev_iconst (v := iI 0) (q := 32) dL_holdsCashOwnedBy_31 rfl rfl ?_
      exact zr_zret dL_holdsCashOwnedBy_32 rfl (by omega) ⟨by rw [lL_holdsCashOwnedBy_2], rfl⟩
    · exfalso
      omega
  | succ j ih =>
    intro k  c0 c1
    refine ev_iload_n 2 (q := 3) dL_holdsCashOwnedBy_2 rfl (by rfl) rfl ?_
    refine ev_aload_n 0 (q := 4) dL_holdsCashOwnedBy_3 rfl (by rfl) rfl ?_
    refine ev_get (q := 7) (v := zi (γ 32 l)) dL_holdsCashOwnedBy_4 fL_17 (at_L hc.2.1 hp0) rfl rfl ?_
    have g1 : 0 ≤ γ 32 l ∧ γ 32 l ≤ 4 := hc.1 32 l (by decide)
    refine zr_icmp_ge (t := 31) (q := 10) dL_holdsCashOwnedBy_7 rfl rfl ⟨by omega, by omega⟩ ⟨by omega, by omega⟩ (fun h2 => ?_) (fun h2 => ?_)
    · exfalso
      omega
    · refine ev_aload_n 0 (q := 11) dL_holdsCashOwnedBy_10 rfl (by rfl) rfl ?_
      refine ev_get (q := 14) dL_holdsCashOwnedBy_11 fL_11 (at_L hc.2.1 hp0) (by rfl) rfl ?_
      refine ev_iload_n 2 (q := 15) dL_holdsCashOwnedBy_14 rfl (by rfl) rfl ?_
      refine zr_aald (q := 16) dL_holdsCashOwnedBy_15 (fun _ => ⟨_, rfl⟩) (at_E hc.2.1 hp0) (by decide) ⟨by omega, by omega⟩ (if_pos ⟨by omega, by omega⟩) rfl ?_
      have s3 : zEx γ (γ 33 (4 * l + k)) := hc.2.2.1 l k hp0.1 hp0.2 (by omega) (by omega)
      have g4 : 0 ≤ γ 33 (4 * l + k) ∧ γ 33 (4 * l + k) ≤ 79 := hc.1 33 _ (by decide)
      refine ev_iload_n 1 (q := 17) dL_holdsCashOwnedBy_16 rfl (by rfl) rfl ?_
      refine cv_V (As := [_]) (q := 20) dL_holdsCashOwnedBy_17 kL_24 (at_S hc.2.1 s3) rfl rfl (Nat.le_of_ble_eq_true rfl) rfl rfl rfl (by decide) (sS_isCashOwnedBy hc (γ 33 (4 * l + k)) n s3 ⟨by omega, by omega⟩ ) ?_
      have g5 : (cS_isCashOwnedBy γ (γ 33 (4 * l + k)) n) = 0 ∨ (cS_isCashOwnedBy γ (γ 33 (4 * l + k)) n) = 1 := bS_isCashOwnedBy _ _ _
      refine zr_if_eq (t := 25) (q := 23) dL_holdsCashOwnedBy_20 rfl rfl ⟨by omega, by omega⟩ (fun h6 => ?_) (fun h6 => ?_)
      · refine zr_iinc (q := 28) dL_holdsCashOwnedBy_25 (by rfl) (by decide) rfl rfl ?_
        dsimp only [List.set]
        refine ev_goto (t := 2) (q := 2) dL_holdsCashOwnedBy_28 rfl rfl ?_
        rw [show lL_holdsCashOwnedBy_2 γ l n (j + 1) k = lL_holdsCashOwnedBy_2 γ l n j (k + 1) from by rw [lL_holdsCashOwnedBy_2, if_pos h6]]
        exact ih (k + 1)  (by omega) (by omega)
      · refine ev_iconst (v := iI 1) (q := 24) dL_holdsCashOwnedBy_23 rfl rfl ?_
        exact zr_zret dL_holdsCashOwnedBy_24 rfl (by omega) ⟨by rw [lL_holdsCashOwnedBy_2, if_neg h6], rfl⟩
def cL_holdsCashOwnedBy (γ : z_Sg) (l n : Int) : Int := lL_holdsCashOwnedBy_2 γ l n (γ 32 l).toNat 0
theorem bL_holdsCashOwnedBy (γ : z_Sg) (l n : Int) : cL_holdsCashOwnedBy γ l n = 0 ∨ cL_holdsCashOwnedBy γ l n = 1 := by
  unfold cL_holdsCashOwnedBy
  repeat' split
  all_goals first | exact Or.inl rfl | exact Or.inr rfl | exact blL_holdsCashOwnedBy_2 _ _ _ _ _
set_option maxRecDepth 100000 in
set_option maxHeartbeats 4000000 in
theorem sL_holdsCashOwnedBy {g : z_Gl} {γ ρ : z_Sg} (hc : zC g γ) (l n : Int) (hp0 : 0 ≤ l ∧ l < 2 * γ 0 0) (hp1 : z_rg n) : z_Sp mL_holdsCashOwnedBy (1, 21) 0 0 [.ref (g.2.1 l), zi n] (zH g γ ρ) (fun r M' => r = some (zi (cL_holdsCashOwnedBy γ l n)) ∧ M' = zH g γ ρ) := by
  refine z_Sp_of (L := [.ref (g.2.1 l), zi n, .float 0]) (by decide) rfl rfl rfl (Nat.le_of_ble_eq_true rfl) ?_
  refine ev_iconst (v := iI 0) (q := 1) dL_holdsCashOwnedBy_0 rfl rfl ?_
  refine ev_istore_n 2 (q := 2) dL_holdsCashOwnedBy_1 rfl (by decide) rfl rfl ?_
  dsimp only [List.set]
  have g1 : 0 ≤ γ 32 l ∧ γ 32 l ≤ 4 := hc.1 32 l (by decide)
  rw [show cL_holdsCashOwnedBy γ l n = lL_holdsCashOwnedBy_2 γ l n (γ 32 l).toNat 0 from by rw [cL_holdsCashOwnedBy]]
  exact eL_holdsCashOwnedBy_2 hc l n hp0 hp1 (γ 32 l).toNat 0  (by omega) (by omega)

def lL_cashIssuedBy_4 (γ : z_Sg) (l n : Int) : Nat → Int → Int → Int
  | 0, k, sm => sm
  | j + 1, k, sm => if (cS_isCashIssuedBy γ (γ 33 (4 * l + k)) n) = 0 then lL_cashIssuedBy_4 γ l n j (k + 1) sm else lL_cashIssuedBy_4 γ l n j (k + 1) (sm + (γ 37 (γ 33 (4 * l + k))))
set_option maxRecDepth 100000 in
set_option maxHeartbeats 4000000 in
theorem eL_cashIssuedBy_4 {g : z_Gl} {γ ρ : z_Sg} (hc : zC g γ) (l n : Int) (hp0 : 0 ≤ l ∧ l < 2 * γ 0 0) (hp1 : z_rg n) : ∀ (j : Nat) (k sm : Int), 0 ≤ k → k + j = γ 32 l → z_Ev mL_cashIssuedBy (1, 21) 0 0 4 [.ref (g.2.1 l), zi n, zi sm, zi k] [] (zH g γ ρ) (fun r M' => r = some (zi (lL_cashIssuedBy_4 γ l n j k sm)) ∧ M' = zH g γ ρ) := by
  intro j
  induction j with
  | zero =>
    intro k sm  c0 c1
    refine ev_iload_n 3 (q := 5) dL_cashIssuedBy_4 rfl (by rfl) rfl ?_
    refine ev_aload_n 0 (q := 6) dL_cashIssuedBy_5 rfl (by rfl) rfl ?_
    refine ev_get (q := 9) (v := zi (γ 32 l)) dL_cashIssuedBy_6 fL_17 (at_L hc.2.1 hp0) rfl rfl ?_
    have g1 : 0 ≤ γ 32 l ∧ γ 32 l ≤ 4 := hc.1 32 l (by decide)
    refine zr_icmp_ge (t := 43) (q := 12) dL_cashIssuedBy_9 rfl rfl ⟨by omega, by omega⟩ ⟨by omega, by omega⟩ (fun h2 => ?_) (fun h2 => ?_)
    · refine ev_iload_n 2 (q := 44) dL_cashIssuedBy_43 rfl (by rfl) rfl ?_
      exact zr_iret dL_cashIssuedBy_44 rfl ⟨by rw [lL_cashIssuedBy_4], rfl⟩
    · exfalso
      omega
  | succ j ih =>
    intro k sm  c0 c1
    refine ev_iload_n 3 (q := 5) dL_cashIssuedBy_4 rfl (by rfl) rfl ?_
    refine ev_aload_n 0 (q := 6) dL_cashIssuedBy_5 rfl (by rfl) rfl ?_
    refine ev_get (q := 9) (v := zi (γ 32 l)) dL_cashIssuedBy_6 fL_17 (at_L hc.2.1 hp0) rfl rfl ?_
    have g1 : 0 ≤ γ 32 l ∧ γ 32 l ≤ 4 := hc.1 32 l (by decide)
    refine zr_icmp_ge (t := 43) (q := 12) dL_cashIssuedBy_9 rfl rfl ⟨by omega, by omega⟩ ⟨by omega, by omega⟩ (fun h2 => ?_) (fun h2 => ?_)
    · exfalso
      omega
    · refine ev_aload_n 0 (q := 13) dL_cashIssuedBy_12 rfl (by rfl) rfl ?_
      refine ev_get (q := 16) dL_cashIssuedBy_13 fL_11 (at_L hc.2.1 hp0) (by rfl) rfl ?_
      refine ev_iload_n 3 (q := 17) dL_cashIssuedBy_16 rfl (by rfl) rfl ?_
      refine zr_aald (q := 18) dL_cashIssuedBy_17 (fun _ => ⟨_, rfl⟩) (at_E hc.2.1 hp0) (by decide) ⟨by omega, by omega⟩ (if_pos ⟨by omega, by omega⟩) rfl ?_
      have s3 : zEx γ (γ 33 (4 * l + k)) := hc.2.2.1 l k hp0.1 hp0.2 (by omega) (by omega)
      have g4 : 0 ≤ γ 33 (4 * l + k) ∧ γ 33 (4 * l + k) ≤ 79 := hc.1 33 _ (by decide)
      refine ev_iload_n 1 (q := 19) dL_cashIssuedBy_18 rfl (by rfl) rfl ?_
      refine cv_V (As := [_]) (q := 22) dL_cashIssuedBy_19 kL_28 (at_S hc.2.1 s3) rfl rfl (Nat.le_of_ble_eq_true rfl) rfl rfl rfl (by decide) (sS_isCashIssuedBy hc (γ 33 (4 * l + k)) n s3 ⟨by omega, by omega⟩ ) ?_
      have g5 : (cS_isCashIssuedBy γ (γ 33 (4 * l + k)) n) = 0 ∨ (cS_isCashIssuedBy γ (γ 33 (4 * l + k)) n) = 1 := bS_isCashIssuedBy _ _ _
      refine zr_if_eq (t := 37) (q := 25) dL_cashIssuedBy_22 rfl rfl ⟨by omega, by omega⟩ (fun h6 => ?_) (fun h6 => ?_)
      · refine zr_iinc (q := 40) dL_cashIssuedBy_37 (by rfl) (by decide) rfl rfl ?_
        dsimp only [List.set]
        refine ev_goto (t := 4) (q := 4) dL_cashIssuedBy_40 rfl rfl ?_
        rw [show lL_cashIssuedBy_4 γ l n (j + 1) k sm = lL_cashIssuedBy_4 γ l n j (k + 1) sm from by rw [lL_cashIssuedBy_4, if_pos h6]]
        exact ih (k + 1) sm  (by omega) (by omega)
      · refine ev_iload_n 2 (q := 26) dL_cashIssuedBy_25 rfl (by rfl) rfl ?_
        refine ev_aload_n 0 (q := 27) dL_cashIssuedBy_26 rfl (by rfl) rfl ?_
        refine ev_get (q := 30) dL_cashIssuedBy_27 fL_11 (at_L hc.2.1 hp0) (by rfl) rfl ?_
        refine ev_iload_n 3 (q := 31) dL_cashIssuedBy_30 rfl (by rfl) rfl ?_
        refine zr_aald (q := 32) dL_cashIssuedBy_31 (fun _ => ⟨_, rfl⟩) (at_E hc.2.1 hp0) (by decide) ⟨by omega, by omega⟩ (if_pos ⟨by omega, by omega⟩) rfl ?_
        have s7 : zEx γ (γ 33 (4 * l + k)) := hc.2.2.1 l k hp0.1 hp0.2 (by omega) (by omega)
        have g8 : 0 ≤ γ 33 (4 * l + k) ∧ γ 33 (4 * l + k) ≤ 79 := hc.1 33 _ (by decide)
        refine ev_get (q := 35) (v := zi (γ 37 (γ 33 (4 * l + k)))) dL_cashIssuedBy_32 fL_31 (at_S hc.2.1 s7) rfl rfl ?_
        have g9 : 0 ≤ γ 37 (γ 33 (4 * l + k)) ∧ γ 37 (γ 33 (4 * l + k)) ≤ 1000 := hc.1 37 (γ 33 (4 * l + k)) (by decide)
        refine zr_iadd (q := 36) dL_cashIssuedBy_35 rfl ?_
        refine ev_istore_n 2 (q := 37) dL_cashIssuedBy_36 rfl (by decide) rfl rfl ?_
        dsimp only [List.set]
        refine zr_iinc (q := 40) dL_cashIssuedBy_37 (by rfl) (by decide) rfl rfl ?_
        dsimp only [List.set]
        refine ev_goto (t := 4) (q := 4) dL_cashIssuedBy_40 rfl rfl ?_
        rw [show lL_cashIssuedBy_4 γ l n (j + 1) k sm = lL_cashIssuedBy_4 γ l n j (k + 1) (sm + (γ 37 (γ 33 (4 * l + k)))) from by rw [lL_cashIssuedBy_4, if_neg h6]]
        exact ih (k + 1) (sm + (γ 37 (γ 33 (4 * l + k))))  (by omega) (by omega)
def cL_cashIssuedBy (γ : z_Sg) (l n : Int) : Int := lL_cashIssuedBy_4 γ l n (γ 32 l).toNat 0 0
set_option maxRecDepth 100000 in
set_option maxHeartbeats 4000000 in
theorem sL_cashIssuedBy {g : z_Gl} {γ ρ : z_Sg} (hc : zC g γ) (l n : Int) (hp0 : 0 ≤ l ∧ l < 2 * γ 0 0) (hp1 : z_rg n) : z_Sp mL_cashIssuedBy (1, 21) 0 0 [.ref (g.2.1 l), zi n] (zH g γ ρ) (fun r M' => r = some (zi (cL_cashIssuedBy γ l n)) ∧ M' = zH g γ ρ) := by
  refine z_Sp_of (L := [.ref (g.2.1 l), zi n, .float 0, .float 0]) (by decide) rfl rfl rfl (Nat.le_of_ble_eq_true rfl) ?_
  refine ev_iconst (v := iI 0) (q := 1) dL_cashIssuedBy_0 rfl rfl ?_
  refine ev_istore_n 2 (q := 2) dL_cashIssuedBy_1 rfl (by decide) rfl rfl ?_
  dsimp only [List.set]
  refine ev_iconst (v := iI 0) (q := 3) dL_cashIssuedBy_2 rfl rfl ?_
  refine ev_istore_n 3 (q := 4) dL_cashIssuedBy_3 rfl (by decide) rfl rfl ?_
  dsimp only [List.set]
  have g1 : 0 ≤ γ 32 l ∧ γ 32 l ≤ 4 := hc.1 32 l (by decide)
  rw [show cL_cashIssuedBy γ l n = lL_cashIssuedBy_4 γ l n (γ 32 l).toNat 0 0 from by rw [cL_cashIssuedBy]]
  exact eL_cashIssuedBy_4 hc l n hp0 hp1 (γ 32 l).toNat 0 0  (by omega) (by omega)

theorem bL_cashIssuedBy {g : z_Gl} {γ : z_Sg} (hc : zC g γ) (l n : Int) (hp0 : 0 ≤ l ∧ l < 2 * γ 0 0) (hq0 : z_rg n) : 0 ≤ cL_cashIssuedBy γ l n ∧ cL_cashIssuedBy γ l n ≤ 4000 := by
  have gl : 0 ≤ γ 32 l ∧ γ 32 l ≤ 4 := hc.1 32 l (by decide)
  have key : ∀ (j : Nat) (k sm : Int), k + j = γ 32 l → 0 ≤ sm → sm ≤ 1000 * k → 0 ≤ lL_cashIssuedBy_4 γ l n j k sm ∧ lL_cashIssuedBy_4 γ l n j k sm ≤ 4000 := by
    intro j
    induction j with
    | zero => intro k sm h1 h2 h3; rw [lL_cashIssuedBy_4]; omega
    | succ j ih =>
      intro k sm h1 h2 h3
      have g2 : 0 ≤ γ 37 (γ 33 (4 * l + k)) ∧ γ 37 (γ 33 (4 * l + k)) ≤ 1000 := hc.1 37 _ (by decide)
      rw [lL_cashIssuedBy_4]
      split
      · apply ih <;> omega
      · apply ih <;> omega
  exact key _ _ _ (by omega) (by omega) (by omega)

def lL_cashOwnedBy_4 (γ : z_Sg) (l n : Int) : Nat → Int → Int → Int
  | 0, k, sm => sm
  | j + 1, k, sm => if (cS_isCashOwnedBy γ (γ 33 (4 * l + k)) n) = 0 then lL_cashOwnedBy_4 γ l n j (k + 1) sm else lL_cashOwnedBy_4 γ l n j (k + 1) (sm + (γ 37 (γ 33 (4 * l + k))))
set_option maxRecDepth 100000 in
set_option maxHeartbeats 4000000 in
theorem eL_cashOwnedBy_4 {g : z_Gl} {γ ρ : z_Sg} (hc : zC g γ) (l n : Int) (hp0 : 0 ≤ l ∧ l < 2 * γ 0 0) (hp1 : z_rg n) : ∀ (j : Nat) (k sm : Int), 0 ≤ k → k + j = γ 32 l → z_Ev mL_cashOwnedBy (1, 21) 0 0 4 [.ref (g.2.1 l), zi n, zi sm, zi k] [] (zH g γ ρ) (fun r M' => r = some (zi (lL_cashOwnedBy_4 γ l n j k sm)) ∧ M' = zH g γ ρ) := by
  intro j
  induction j with
  | zero =>
    intro k sm  c0 c1
    refine ev_iload_n 3 (q := 5) dL_cashOwnedBy_4 rfl (by rfl) rfl ?_
    refine ev_aload_n 0 (q := 6) dL_cashOwnedBy_5 rfl (by rfl) rfl ?_
    refine ev_get (q := 9) (v := zi (γ 32 l)) dL_cashOwnedBy_6 fL_17 (at_L hc.2.1 hp0) rfl rfl ?_
    have g1 : 0 ≤ γ 32 l ∧ γ 32 l ≤ 4 := hc.1 32 l (by decide)
    refine zr_icmp_ge (t := 43) (q := 12) dL_cashOwnedBy_9 rfl rfl ⟨by omega, by omega⟩ ⟨by omega, by omega⟩ (fun h2 => ?_) (fun h2 => ?_)
    · refine ev_iload_n 2 (q := 44) dL_cashOwnedBy_43 rfl (by rfl) rfl ?_
      exact zr_iret dL_cashOwnedBy_44 rfl ⟨by rw [lL_cashOwnedBy_4], rfl⟩
    · exfalso
      omega
  | succ j ih =>
    intro k sm  c0 c1
    refine ev_iload_n 3 (q := 5) dL_cashOwnedBy_4 rfl (by rfl) rfl ?_
    refine ev_aload_n 0 (q := 6) dL_cashOwnedBy_5 rfl (by rfl) rfl ?_
    refine ev_get (q := 9) (v := zi (γ 32 l)) dL_cashOwnedBy_6 fL_17 (at_L hc.2.1 hp0) rfl rfl ?_
    have g1 : 0 ≤ γ 32 l ∧ γ 32 l ≤ 4 := hc.1 32 l (by decide)
    refine zr_icmp_ge (t := 43) (q := 12) dL_cashOwnedBy_9 rfl rfl ⟨by omega, by omega⟩ ⟨by omega, by omega⟩ (fun h2 => ?_) (fun h2 => ?_)
    · exfalso
      omega
    · refine ev_aload_n 0 (q := 13) dL_cashOwnedBy_12 rfl (by rfl) rfl ?_
      refine ev_get (q := 16) dL_cashOwnedBy_13 fL_11 (at_L hc.2.1 hp0) (by rfl) rfl ?_
      refine ev_iload_n 3 (q := 17) dL_cashOwnedBy_16 rfl (by rfl) rfl ?_
      refine zr_aald (q := 18) dL_cashOwnedBy_17 (fun _ => ⟨_, rfl⟩) (at_E hc.2.1 hp0) (by decide) ⟨by omega, by omega⟩ (if_pos ⟨by omega, by omega⟩) rfl ?_
      have s3 : zEx γ (γ 33 (4 * l + k)) := hc.2.2.1 l k hp0.1 hp0.2 (by omega) (by omega)
      have g4 : 0 ≤ γ 33 (4 * l + k) ∧ γ 33 (4 * l + k) ≤ 79 := hc.1 33 _ (by decide)
      refine ev_iload_n 1 (q := 19) dL_cashOwnedBy_18 rfl (by rfl) rfl ?_
      refine cv_V (As := [_]) (q := 22) dL_cashOwnedBy_19 kL_24 (at_S hc.2.1 s3) rfl rfl (Nat.le_of_ble_eq_true rfl) rfl rfl rfl (by decide) (sS_isCashOwnedBy hc (γ 33 (4 * l + k)) n s3 ⟨by omega, by omega⟩ ) ?_
      have g5 : (cS_isCashOwnedBy γ (γ 33 (4 * l + k)) n) = 0 ∨ (cS_isCashOwnedBy γ (γ 33 (4 * l + k)) n) = 1 := bS_isCashOwnedBy _ _ _
      refine zr_if_eq (t := 37) (q := 25) dL_cashOwnedBy_22 rfl rfl ⟨by omega, by omega⟩ (fun h6 => ?_) (fun h6 => ?_)
      · refine zr_iinc (q := 40) dL_cashOwnedBy_37 (by rfl) (by decide) rfl rfl ?_
        dsimp only [List.set]
        refine ev_goto (t := 4) (q := 4) dL_cashOwnedBy_40 rfl rfl ?_
        rw [show lL_cashOwnedBy_4 γ l n (j + 1) k sm = lL_cashOwnedBy_4 γ l n j (k + 1) sm from by rw [lL_cashOwnedBy_4, if_pos h6]]
        exact ih (k + 1) sm  (by omega) (by omega)
      · refine ev_iload_n 2 (q := 26) dL_cashOwnedBy_25 rfl (by rfl) rfl ?_
        refine ev_aload_n 0 (q := 27) dL_cashOwnedBy_26 rfl (by rfl) rfl ?_
        refine ev_get (q := 30) dL_cashOwnedBy_27 fL_11 (at_L hc.2.1 hp0) (by rfl) rfl ?_
        refine ev_iload_n 3 (q := 31) dL_cashOwnedBy_30 rfl (by rfl) rfl ?_
        refine zr_aald (q := 32) dL_cashOwnedBy_31 (fun _ => ⟨_, rfl⟩) (at_E hc.2.1 hp0) (by decide) ⟨by omega, by omega⟩ (if_pos ⟨by omega, by omega⟩) rfl ?_
        have s7 : zEx γ (γ 33 (4 * l + k)) := hc.2.2.1 l k hp0.1 hp0.2 (by omega) (by omega)
        have g8 : 0 ≤ γ 33 (4 * l + k) ∧ γ 33 (4 * l + k) ≤ 79 := hc.1 33 _ (by decide)
        refine ev_get (q := 35) (v := zi (γ 37 (γ 33 (4 * l + k)))) dL_cashOwnedBy_32 fL_31 (at_S hc.2.1 s7) rfl rfl ?_
        have g9 : 0 ≤ γ 37 (γ 33 (4 * l + k)) ∧ γ 37 (γ 33 (4 * l + k)) ≤ 1000 := hc.1 37 (γ 33 (4 * l + k)) (by decide)
        refine zr_iadd (q := 36) dL_cashOwnedBy_35 rfl ?_
        refine ev_istore_n 2 (q := 37) dL_cashOwnedBy_36 rfl (by decide) rfl rfl ?_
        dsimp only [List.set]
        refine zr_iinc (q := 40) dL_cashOwnedBy_37 (by rfl) (by decide) rfl rfl ?_
        dsimp only [List.set]
        refine ev_goto (t := 4) (q := 4) dL_cashOwnedBy_40 rfl rfl ?_
        rw [show lL_cashOwnedBy_4 γ l n (j + 1) k sm = lL_cashOwnedBy_4 γ l n j (k + 1) (sm + (γ 37 (γ 33 (4 * l + k)))) from by rw [lL_cashOwnedBy_4, if_neg h6]]
        exact ih (k + 1) (sm + (γ 37 (γ 33 (4 * l + k))))  (by omega) (by omega)
def cL_cashOwnedBy (γ : z_Sg) (l n : Int) : Int := lL_cashOwnedBy_4 γ l n (γ 32 l).toNat 0 0
set_option maxRecDepth 100000 in
set_option maxHeartbeats 4000000 in
theorem sL_cashOwnedBy {g : z_Gl} {γ ρ : z_Sg} (hc : zC g γ) (l n : Int) (hp0 : 0 ≤ l ∧ l < 2 * γ 0 0) (hp1 : z_rg n) : z_Sp mL_cashOwnedBy (1, 21) 0 0 [.ref (g.2.1 l), zi n] (zH g γ ρ) (fun r M' => r = some (zi (cL_cashOwnedBy γ l n)) ∧ M' = zH g γ ρ) := by
  refine z_Sp_of (L := [.ref (g.2.1 l), zi n, .float 0, .float 0]) (by decide) rfl rfl rfl (Nat.le_of_ble_eq_true rfl) ?_
  refine ev_iconst (v := iI 0) (q := 1) dL_cashOwnedBy_0 rfl rfl ?_
  refine ev_istore_n 2 (q := 2) dL_cashOwnedBy_1 rfl (by decide) rfl rfl ?_
  dsimp only [List.set]
  refine ev_iconst (v := iI 0) (q := 3) dL_cashOwnedBy_2 rfl rfl ?_
  refine ev_istore_n 3 (q := 4) dL_cashOwnedBy_3 rfl (by decide) rfl rfl ?_
  dsimp only [List.set]
  have g1 : 0 ≤ γ 32 l ∧ γ 32 l ≤ 4 := hc.1 32 l (by decide)
  rw [show cL_cashOwnedBy γ l n = lL_cashOwnedBy_4 γ l n (γ 32 l).toNat 0 0 from by rw [cL_cashOwnedBy]]
  exact eL_cashOwnedBy_4 hc l n hp0 hp1 (γ 32 l).toNat 0 0  (by omega) (by omega)

theorem bL_cashOwnedBy {g : z_Gl} {γ : z_Sg} (hc : zC g γ) (l n : Int) (hp0 : 0 ≤ l ∧ l < 2 * γ 0 0) (hq0 : z_rg n) : 0 ≤ cL_cashOwnedBy γ l n ∧ cL_cashOwnedBy γ l n ≤ 4000 := by
  have gl : 0 ≤ γ 32 l ∧ γ 32 l ≤ 4 := hc.1 32 l (by decide)
  have key : ∀ (j : Nat) (k sm : Int), k + j = γ 32 l → 0 ≤ sm → sm ≤ 1000 * k → 0 ≤ lL_cashOwnedBy_4 γ l n j k sm ∧ lL_cashOwnedBy_4 γ l n j k sm ≤ 4000 := by
    intro j
    induction j with
    | zero => intro k sm h1 h2 h3; rw [lL_cashOwnedBy_4]; omega
    | succ j ih =>
      intro k sm h1 h2 h3
      have g2 : 0 ≤ γ 37 (γ 33 (4 * l + k)) ∧ γ 37 (γ 33 (4 * l + k)) ≤ 1000 := hc.1 37 _ (by decide)
      rw [lL_cashOwnedBy_4]
      split
      · apply ih <;> omega
      · apply ih <;> omega
  exact key _ _ _ (by omega) (by omega) (by omega)

def lL_debtOf_5 (γ : z_Sg) (l x y : Int) : Nat → Int → Int → Int
  | 0, k, sm => sm
  | j + 1, k, sm => if (cS_isDebtOf γ (γ 33 (4 * l + k)) x y) = 0 then lL_debtOf_5 γ l x y j (k + 1) sm else lL_debtOf_5 γ l x y j (k + 1) (sm + (γ 37 (γ 33 (4 * l + k))))
set_option maxRecDepth 100000 in
set_option maxHeartbeats 4000000 in
theorem eL_debtOf_5 {g : z_Gl} {γ ρ : z_Sg} (hc : zC g γ) (l x y : Int) (hp0 : 0 ≤ l ∧ l < 2 * γ 0 0) (hp1 : z_rg x) (hp2 : z_rg y) : ∀ (j : Nat) (k sm : Int), 0 ≤ k → k + j = γ 32 l → z_Ev mL_debtOf (1, 22) 0 0 5 [.ref (g.2.1 l), zi x, zi y, zi sm, zi k] [] (zH g γ ρ) (fun r M' => r = some (zi (lL_debtOf_5 γ l x y j k sm)) ∧ M' = zH g γ ρ) := by
  intro j
  induction j with
  | zero =>
    intro k sm  c0 c1
    refine ev_iload (q := 7) dL_debtOf_5 (by rfl) rfl ?_
    refine ev_aload_n 0 (q := 8) dL_debtOf_7 rfl (by rfl) rfl ?_
    refine ev_get (q := 11) (v := zi (γ 32 l)) dL_debtOf_8 fL_17 (at_L hc.2.1 hp0) rfl rfl ?_
    have g1 : 0 ≤ γ 32 l ∧ γ 32 l ≤ 4 := hc.1 32 l (by decide)
    refine zr_icmp_ge (t := 48) (q := 14) dL_debtOf_11 rfl rfl ⟨by omega, by omega⟩ ⟨by omega, by omega⟩ (fun h2 => ?_) (fun h2 => ?_)
    · refine ev_iload_n 3 (q := 49) dL_debtOf_48 rfl (by rfl) rfl ?_
      exact zr_iret dL_debtOf_49 rfl ⟨by rw [lL_debtOf_5], rfl⟩
    · exfalso
      omega
  | succ j ih =>
    intro k sm  c0 c1
    refine ev_iload (q := 7) dL_debtOf_5 (by rfl) rfl ?_
    refine ev_aload_n 0 (q := 8) dL_debtOf_7 rfl (by rfl) rfl ?_
    refine ev_get (q := 11) (v := zi (γ 32 l)) dL_debtOf_8 fL_17 (at_L hc.2.1 hp0) rfl rfl ?_
    have g1 : 0 ≤ γ 32 l ∧ γ 32 l ≤ 4 := hc.1 32 l (by decide)
    refine zr_icmp_ge (t := 48) (q := 14) dL_debtOf_11 rfl rfl ⟨by omega, by omega⟩ ⟨by omega, by omega⟩ (fun h2 => ?_) (fun h2 => ?_)
    · exfalso
      omega
    · refine ev_aload_n 0 (q := 15) dL_debtOf_14 rfl (by rfl) rfl ?_
      refine ev_get (q := 18) dL_debtOf_15 fL_11 (at_L hc.2.1 hp0) (by rfl) rfl ?_
      refine ev_iload (q := 20) dL_debtOf_18 (by rfl) rfl ?_
      refine zr_aald (q := 21) dL_debtOf_20 (fun _ => ⟨_, rfl⟩) (at_E hc.2.1 hp0) (by decide) ⟨by omega, by omega⟩ (if_pos ⟨by omega, by omega⟩) rfl ?_
      have s3 : zEx γ (γ 33 (4 * l + k)) := hc.2.2.1 l k hp0.1 hp0.2 (by omega) (by omega)
      have g4 : 0 ≤ γ 33 (4 * l + k) ∧ γ 33 (4 * l + k) ≤ 79 := hc.1 33 _ (by decide)
      refine ev_iload_n 1 (q := 22) dL_debtOf_21 rfl (by rfl) rfl ?_
      refine ev_iload_n 2 (q := 23) dL_debtOf_22 rfl (by rfl) rfl ?_
      refine cv_V (As := [_, _]) (q := 26) dL_debtOf_23 kL_34 (at_S hc.2.1 s3) rfl rfl (Nat.le_of_ble_eq_true rfl) rfl rfl rfl (by decide) (sS_isDebtOf hc (γ 33 (4 * l + k)) x y s3 ⟨by omega, by omega⟩ ⟨by omega, by omega⟩ ) ?_
      have g5 : (cS_isDebtOf γ (γ 33 (4 * l + k)) x y) = 0 ∨ (cS_isDebtOf γ (γ 33 (4 * l + k)) x y) = 1 := bS_isDebtOf _ _ _ _
      refine zr_if_eq (t := 42) (q := 29) dL_debtOf_26 rfl rfl ⟨by omega, by omega⟩ (fun h6 => ?_) (fun h6 => ?_)
      · refine zr_iinc (q := 45) dL_debtOf_42 (by rfl) (by decide) rfl rfl ?_
        dsimp only [List.set]
        refine ev_goto (t := 5) (q := 5) dL_debtOf_45 rfl rfl ?_
        rw [show lL_debtOf_5 γ l x y (j + 1) k sm = lL_debtOf_5 γ l x y j (k + 1) sm from by rw [lL_debtOf_5, if_pos h6]]
        exact ih (k + 1) sm  (by omega) (by omega)
      · refine ev_iload_n 3 (q := 30) dL_debtOf_29 rfl (by rfl) rfl ?_
        refine ev_aload_n 0 (q := 31) dL_debtOf_30 rfl (by rfl) rfl ?_
        refine ev_get (q := 34) dL_debtOf_31 fL_11 (at_L hc.2.1 hp0) (by rfl) rfl ?_
        refine ev_iload (q := 36) dL_debtOf_34 (by rfl) rfl ?_
        refine zr_aald (q := 37) dL_debtOf_36 (fun _ => ⟨_, rfl⟩) (at_E hc.2.1 hp0) (by decide) ⟨by omega, by omega⟩ (if_pos ⟨by omega, by omega⟩) rfl ?_
        have s7 : zEx γ (γ 33 (4 * l + k)) := hc.2.2.1 l k hp0.1 hp0.2 (by omega) (by omega)
        have g8 : 0 ≤ γ 33 (4 * l + k) ∧ γ 33 (4 * l + k) ≤ 79 := hc.1 33 _ (by decide)
        refine ev_get (q := 40) (v := zi (γ 37 (γ 33 (4 * l + k)))) dL_debtOf_37 fL_31 (at_S hc.2.1 s7) rfl rfl ?_
        have g9 : 0 ≤ γ 37 (γ 33 (4 * l + k)) ∧ γ 37 (γ 33 (4 * l + k)) ≤ 1000 := hc.1 37 (γ 33 (4 * l + k)) (by decide)
        refine zr_iadd (q := 41) dL_debtOf_40 rfl ?_
        refine ev_istore_n 3 (q := 42) dL_debtOf_41 rfl (by decide) rfl rfl ?_
        dsimp only [List.set]
        refine zr_iinc (q := 45) dL_debtOf_42 (by rfl) (by decide) rfl rfl ?_
        dsimp only [List.set]
        refine ev_goto (t := 5) (q := 5) dL_debtOf_45 rfl rfl ?_
        rw [show lL_debtOf_5 γ l x y (j + 1) k sm = lL_debtOf_5 γ l x y j (k + 1) (sm + (γ 37 (γ 33 (4 * l + k)))) from by rw [lL_debtOf_5, if_neg h6]]
        exact ih (k + 1) (sm + (γ 37 (γ 33 (4 * l + k))))  (by omega) (by omega)
def cL_debtOf (γ : z_Sg) (l x y : Int) : Int := lL_debtOf_5 γ l x y (γ 32 l).toNat 0 0
set_option maxRecDepth 100000 in
set_option maxHeartbeats 4000000 in
theorem sL_debtOf {g : z_Gl} {γ ρ : z_Sg} (hc : zC g γ) (l x y : Int) (hp0 : 0 ≤ l ∧ l < 2 * γ 0 0) (hp1 : z_rg x) (hp2 : z_rg y) : z_Sp mL_debtOf (1, 22) 0 0 [.ref (g.2.1 l), zi x, zi y] (zH g γ ρ) (fun r M' => r = some (zi (cL_debtOf γ l x y)) ∧ M' = zH g γ ρ) := by
  refine z_Sp_of (L := [.ref (g.2.1 l), zi x, zi y, .float 0, .float 0]) (by decide) rfl rfl rfl (Nat.le_of_ble_eq_true rfl) ?_
  refine ev_iconst (v := iI 0) (q := 1) dL_debtOf_0 rfl rfl ?_
  refine ev_istore_n 3 (q := 2) dL_debtOf_1 rfl (by decide) rfl rfl ?_
  dsimp only [List.set]
  refine ev_iconst (v := iI 0) (q := 3) dL_debtOf_2 rfl rfl ?_
  refine ev_istore (q := 5) dL_debtOf_3 (by decide) rfl rfl ?_
  dsimp only [List.set]
  have g1 : 0 ≤ γ 32 l ∧ γ 32 l ≤ 4 := hc.1 32 l (by decide)
  rw [show cL_debtOf γ l x y = lL_debtOf_5 γ l x y (γ 32 l).toNat 0 0 from by rw [cL_debtOf]]
  exact eL_debtOf_5 hc l x y hp0 hp1 hp2 (γ 32 l).toNat 0 0  (by omega) (by omega)

theorem bL_debtOf {g : z_Gl} {γ : z_Sg} (hc : zC g γ) (l x y : Int) (hp0 : 0 ≤ l ∧ l < 2 * γ 0 0) (hq0 : z_rg x) (hq1 : z_rg y) : 0 ≤ cL_debtOf γ l x y ∧ cL_debtOf γ l x y ≤ 4000 := by
  have gl : 0 ≤ γ 32 l ∧ γ 32 l ≤ 4 := hc.1 32 l (by decide)
  have key : ∀ (j : Nat) (k sm : Int), k + j = γ 32 l → 0 ≤ sm → sm ≤ 1000 * k → 0 ≤ lL_debtOf_5 γ l x y j k sm ∧ lL_debtOf_5 γ l x y j k sm ≤ 4000 := by
    intro j
    induction j with
    | zero => intro k sm h1 h2 h3; rw [lL_debtOf_5]; omega
    | succ j ih =>
      intro k sm h1 h2 h3
      have g2 : 0 ≤ γ 37 (γ 33 (4 * l + k)) ∧ γ 37 (γ 33 (4 * l + k)) ≤ 1000 := hc.1 37 _ (by decide)
      rw [lL_debtOf_5]
      split
      · apply ih <;> omega
      · apply ih <;> omega
  exact key _ _ _ (by omega) (by omega) (by omega)
