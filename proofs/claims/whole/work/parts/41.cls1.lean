theorem zr_bool {x : Int} (h : x = 0 ∨ x = 1) : ∀ b sc : Nat, narrow .boolean (z_tv b sc (zi x)) = z_tv b sc (zi x) ∧ fits .boolean (z_tv b sc (zi x)) = true := by
  intro b sc
  rcases h with rfl | rfl
  · exact ⟨by show narrow .boolean (.int (iI 0)) = .int (iI 0); decide, by show fits .boolean (.int (iI 0)) = true; decide⟩
  · exact ⟨by show narrow .boolean (.int (iI 1)) = .int (iI 1); decide, by show fits .boolean (.int (iI 1)) = true; decide⟩

def cH_bit (γ : z_Sg) (p : Int) : Int := (zshl 1 p)
set_option maxRecDepth 100000 in
set_option maxHeartbeats 4000000 in
theorem sH_bit {g : z_Gl} {γ ρ : z_Sg} (hc : zC g γ) (p : Int) (hp0 : z_rg p) : z_Sp mH_bit (0, 0) 0 0 [zi p] (zH g γ ρ) (fun r M' => r = some (zi (cH_bit γ p)) ∧ M' = zH g γ ρ) := by
  refine z_Sp_of (L := [zi p]) (by decide) rfl rfl rfl (Nat.le_of_ble_eq_true rfl) ?_
  refine ev_iconst (v := iI 1) (q := 1) dH_bit_0 rfl rfl ?_
  refine ev_iload_n 0 (q := 2) dH_bit_1 rfl (by rfl) rfl ?_
  refine zr_ishl (q := 3) dH_bit_2 rfl ?_
  have g1 : z_rg (zshl 1 p) := iI_rg _
  exact zr_iret dH_bit_3 rfl ⟨by rw [cH_bit], rfl⟩

theorem bH_bit (γ : z_Sg) {p : Int} (h : 0 ≤ p ∧ p ≤ 19) : 1 ≤ cH_bit γ p ∧ cH_bit γ p ≤ 524288 ∧ (p ≤ 3 → cH_bit γ p ≤ 8) := zshl_20 h

def cH_isNode (γ : z_Sg) (n : Int) : Int := if n < 0 then 0 else if 4 ≤ n then 0 else 1
theorem bH_isNode (γ : z_Sg) (n : Int) : cH_isNode γ n = 0 ∨ cH_isNode γ n = 1 := by
  unfold cH_isNode
  repeat' split
  all_goals first | exact Or.inl rfl | exact Or.inr rfl
set_option maxRecDepth 100000 in
set_option maxHeartbeats 4000000 in
theorem sH_isNode {g : z_Gl} {γ ρ : z_Sg} (hc : zC g γ) (n : Int) (hp0 : z_rg n) : z_Sp mH_isNode (0, 0) 0 0 [zi n] (zH g γ ρ) (fun r M' => r = some (zi (cH_isNode γ n)) ∧ M' = zH g γ ρ) := by
  refine z_Sp_of (L := [zi n]) (by decide) rfl rfl rfl (Nat.le_of_ble_eq_true rfl) ?_
  refine ev_iload_n 0 (q := 1) dH_isNode_0 rfl (by rfl) rfl ?_
  refine zr_if_lt (t := 13) (q := 4) dH_isNode_1 rfl rfl ⟨by omega, by omega⟩ (fun h1 => ?_) (fun h1 => ?_)
  · refine ev_iconst (v := iI 0) (q := 14) dH_isNode_13 rfl rfl ?_
    exact zr_zret dH_isNode_14 rfl (by omega) ⟨by rw [cH_isNode, if_pos h1], rfl⟩
  · refine ev_iload_n 0 (q := 5) dH_isNode_4 rfl (by rfl) rfl ?_
    refine ev_iconst (v := iI 4) (q := 6) dH_isNode_5 rfl rfl ?_
    refine zr_icmp_ge (t := 13) (q := 9) dH_isNode_6 rfl rfl ⟨by omega, by omega⟩ ⟨by omega, by omega⟩ (fun h2 => ?_) (fun h2 => ?_)
    · refine ev_iconst (v := iI 0) (q := 14) dH_isNode_13 rfl rfl ?_
      exact zr_zret dH_isNode_14 rfl (by omega) ⟨by rw [cH_isNode, if_neg (Int.not_lt.mpr h1), if_pos h2], rfl⟩
    · refine ev_iconst (v := iI 1) (q := 10) dH_isNode_9 rfl rfl ?_
      refine ev_goto (t := 14) (q := 14) dH_isNode_10 rfl rfl ?_
      exact zr_zret dH_isNode_14 rfl (by omega) ⟨by rw [cH_isNode, if_neg (Int.not_lt.mpr h1), if_neg (Int.not_le.mpr h2)], rfl⟩

theorem tH_isNode {g : z_Gl} {γ : z_Sg} (hc : zC g γ) {n : Int} (h : cH_isNode γ n ≠ 0) : 0 ≤ n ∧ n ≤ 3 := by
  unfold cH_isNode at h
  split at h
  · exact absurd rfl h
  · split at h
    · exact absurd rfl h
    · exact ⟨by omega, by omega⟩

def cH_isNotary (γ : z_Sg) (n : Int) : Int := if n = 4 then 1 else if n ≠ 5 then 0 else 1
theorem bH_isNotary (γ : z_Sg) (n : Int) : cH_isNotary γ n = 0 ∨ cH_isNotary γ n = 1 := by
  unfold cH_isNotary
  repeat' split
  all_goals first | exact Or.inl rfl | exact Or.inr rfl
set_option maxRecDepth 100000 in
set_option maxHeartbeats 4000000 in
theorem sH_isNotary {g : z_Gl} {γ ρ : z_Sg} (hc : zC g γ) (n : Int) (hp0 : z_rg n) : z_Sp mH_isNotary (0, 0) 0 0 [zi n] (zH g γ ρ) (fun r M' => r = some (zi (cH_isNotary γ n)) ∧ M' = zH g γ ρ) := by
  refine z_Sp_of (L := [zi n]) (by decide) rfl rfl rfl (Nat.le_of_ble_eq_true rfl) ?_
  refine ev_iload_n 0 (q := 1) dH_isNotary_0 rfl (by rfl) rfl ?_
  refine ev_iconst (v := iI 4) (q := 2) dH_isNotary_1 rfl rfl ?_
  refine zr_icmp_eq (t := 10) (q := 5) dH_isNotary_2 rfl rfl ⟨by omega, by omega⟩ ⟨by omega, by omega⟩ (fun h1 => ?_) (fun h1 => ?_)
  · refine ev_iconst (v := iI 1) (q := 11) dH_isNotary_10 rfl rfl ?_
    refine ev_goto (t := 15) (q := 15) dH_isNotary_11 rfl rfl ?_
    exact zr_zret dH_isNotary_15 rfl (by omega) ⟨by rw [cH_isNotary, if_pos h1], rfl⟩
  · refine ev_iload_n 0 (q := 6) dH_isNotary_5 rfl (by rfl) rfl ?_
    refine ev_iconst (v := iI 5) (q := 7) dH_isNotary_6 rfl rfl ?_
    refine zr_icmp_ne (t := 14) (q := 10) dH_isNotary_7 rfl rfl ⟨by omega, by omega⟩ ⟨by omega, by omega⟩ (fun h2 => ?_) (fun h2 => ?_)
    · refine ev_iconst (v := iI 0) (q := 15) dH_isNotary_14 rfl rfl ?_
      exact zr_zret dH_isNotary_15 rfl (by omega) ⟨by rw [cH_isNotary, if_neg h1, if_pos h2], rfl⟩
    · refine ev_iconst (v := iI 1) (q := 11) dH_isNotary_10 rfl rfl ?_
      refine ev_goto (t := 15) (q := 15) dH_isNotary_11 rfl rfl ?_
      exact zr_zret dH_isNotary_15 rfl (by omega) ⟨by rw [cH_isNotary, if_neg h1, if_neg (fun z => z h2)], rfl⟩

def cH_isAmount (γ : z_Sg) (n : Int) : Int := if n < 1 then 0 else if 1000 < n then 0 else 1
theorem bH_isAmount (γ : z_Sg) (n : Int) : cH_isAmount γ n = 0 ∨ cH_isAmount γ n = 1 := by
  unfold cH_isAmount
  repeat' split
  all_goals first | exact Or.inl rfl | exact Or.inr rfl
set_option maxRecDepth 100000 in
set_option maxHeartbeats 4000000 in
theorem sH_isAmount {g : z_Gl} {γ ρ : z_Sg} (hc : zC g γ) (n : Int) (hp0 : z_rg n) : z_Sp mH_isAmount (0, 0) 0 0 [zi n] (zH g γ ρ) (fun r M' => r = some (zi (cH_isAmount γ n)) ∧ M' = zH g γ ρ) := by
  refine z_Sp_of (L := [zi n]) (by decide) rfl rfl rfl (Nat.le_of_ble_eq_true rfl) ?_
  refine ev_iload_n 0 (q := 1) dH_isAmount_0 rfl (by rfl) rfl ?_
  refine ev_iconst (v := iI 1) (q := 2) dH_isAmount_1 rfl rfl ?_
  refine zr_icmp_lt (t := 16) (q := 5) dH_isAmount_2 rfl rfl ⟨by omega, by omega⟩ ⟨by omega, by omega⟩ (fun h1 => ?_) (fun h1 => ?_)
  · refine ev_iconst (v := iI 0) (q := 17) dH_isAmount_16 rfl rfl ?_
    exact zr_zret dH_isAmount_17 rfl (by omega) ⟨by rw [cH_isAmount, if_pos h1], rfl⟩
  · refine ev_iload_n 0 (q := 6) dH_isAmount_5 rfl (by rfl) rfl ?_
    refine ev_sipush (v := iI 1000) (q := 9) dH_isAmount_6 (by decide) rfl ?_
    refine zr_icmp_gt (t := 16) (q := 12) dH_isAmount_9 rfl rfl ⟨by omega, by omega⟩ ⟨by omega, by omega⟩ (fun h2 => ?_) (fun h2 => ?_)
    · refine ev_iconst (v := iI 0) (q := 17) dH_isAmount_16 rfl rfl ?_
      exact zr_zret dH_isAmount_17 rfl (by omega) ⟨by rw [cH_isAmount, if_neg (Int.not_lt.mpr h1), if_pos h2], rfl⟩
    · refine ev_iconst (v := iI 1) (q := 13) dH_isAmount_12 rfl rfl ?_
      refine ev_goto (t := 17) (q := 17) dH_isAmount_13 rfl rfl ?_
      exact zr_zret dH_isAmount_17 rfl (by omega) ⟨by rw [cH_isAmount, if_neg (Int.not_lt.mpr h1), if_neg (Int.not_lt.mpr h2)], rfl⟩

def cH_isContent (γ : z_Sg) (kd x y : Int) : Int := if (kd < 0 ∨ 2 < kd) then 0 else if kd = 0 then if (cH_isNode γ x) = 0 then 0 else if (cH_isNode γ y) = 0 then 0 else 1 else if kd = 1 then if (cH_isNode γ x) = 0 then 0 else if (cH_isNode γ y) = 0 then 0 else if x = y then 0 else 1 else if x ≠ 0 then 0 else if y ≠ 0 then 0 else 1
theorem bH_isContent (γ : z_Sg) (kd x y : Int) : cH_isContent γ kd x y = 0 ∨ cH_isContent γ kd x y = 1 := by
  unfold cH_isContent
  repeat' split
  all_goals first | exact Or.inl rfl | exact Or.inr rfl
set_option maxRecDepth 100000 in
set_option maxHeartbeats 4000000 in
theorem sH_isContent {g : z_Gl} {γ ρ : z_Sg} (hc : zC g γ) (kd x y : Int) (hp0 : z_rg kd) (hp1 : z_rg x) (hp2 : z_rg y) : z_Sp mH_isContent (1, 20) 0 0 [zi kd, zi x, zi y] (zH g γ ρ) (fun r M' => r = some (zi (cH_isContent γ kd x y)) ∧ M' = zH g γ ρ) := by
  refine z_Sp_of (L := [zi kd, zi x, zi y]) (by decide) rfl rfl rfl (Nat.le_of_ble_eq_true rfl) ?_
  refine ev_iload_n 0 (q := 1) dH_isContent_0 rfl (by rfl) rfl ?_
  by_cases h1 : (kd < 0 ∨ 2 < kd)
  · refine ev_tableOut (t := 87) (q := 87) dH_isContent_1 (by rw [iI_toInt ⟨by omega, by omega⟩]; omega) rfl rfl ?_
    refine ev_iconst (v := iI 0) (q := 88) dH_isContent_87 rfl rfl ?_
    exact zr_zret dH_isContent_88 rfl (by omega) ⟨by rw [cH_isContent, if_pos h1], rfl⟩
  · by_cases h2 : kd = 0
    · refine ev_tableIn (t := 28) (q := 28) (off := 27) dH_isContent_1 (by rw [iI_toInt ⟨by omega, by omega⟩]; omega) (by rw [iI_toInt ⟨by omega, by omega⟩]; omega) (by rw [iI_toInt ⟨by omega, by omega⟩]; rw [show kd = 0 by omega]; rfl) rfl rfl ?_
      refine ev_iload_n 1 (q := 29) dH_isContent_28 rfl (by rfl) rfl ?_
      refine cv_S (As := [_]) (q := 32) dH_isContent_29 kH_45 rfl (Nat.le_of_ble_eq_true rfl) rfl rfl rfl (by decide) (sH_isNode hc x ⟨by omega, by omega⟩ ) ?_
      have g3 : (cH_isNode γ x) = 0 ∨ (cH_isNode γ x) = 1 := bH_isNode _ _
      refine zr_if_eq (t := 46) (q := 35) dH_isContent_32 rfl rfl ⟨by omega, by omega⟩ (fun h4 => ?_) (fun h4 => ?_)
      · refine ev_iconst (v := iI 0) (q := 47) dH_isContent_46 rfl rfl ?_
        exact zr_zret dH_isContent_47 rfl (by omega) ⟨by rw [cH_isContent, if_neg h1, if_pos h2, if_pos h4], rfl⟩
      · have f8 := tH_isNode hc h4
        refine ev_iload_n 2 (q := 36) dH_isContent_35 rfl (by rfl) rfl ?_
        refine cv_S (As := [_]) (q := 39) dH_isContent_36 kH_45 rfl (Nat.le_of_ble_eq_true rfl) rfl rfl rfl (by decide) (sH_isNode hc y ⟨by omega, by omega⟩ ) ?_
        have g5 : (cH_isNode γ y) = 0 ∨ (cH_isNode γ y) = 1 := bH_isNode _ _
        refine zr_if_eq (t := 46) (q := 42) dH_isContent_39 rfl rfl ⟨by omega, by omega⟩ (fun h6 => ?_) (fun h6 => ?_)
        · refine ev_iconst (v := iI 0) (q := 47) dH_isContent_46 rfl rfl ?_
          exact zr_zret dH_isContent_47 rfl (by omega) ⟨by rw [cH_isContent, if_neg h1, if_pos h2, if_neg h4, if_pos h6], rfl⟩
        · have f7 := tH_isNode hc h6
          refine ev_iconst (v := iI 1) (q := 43) dH_isContent_42 rfl rfl ?_
          refine ev_goto (t := 47) (q := 47) dH_isContent_43 rfl rfl ?_
          exact zr_zret dH_isContent_47 rfl (by omega) ⟨by rw [cH_isContent, if_neg h1, if_pos h2, if_neg h4, if_neg h6], rfl⟩
    · by_cases h9 : kd = 1
      · refine ev_tableIn (t := 48) (q := 48) (off := 47) dH_isContent_1 (by rw [iI_toInt ⟨by omega, by omega⟩]; omega) (by rw [iI_toInt ⟨by omega, by omega⟩]; omega) (by rw [iI_toInt ⟨by omega, by omega⟩]; rw [show kd = 1 by omega]; rfl) rfl rfl ?_
        refine ev_iload_n 1 (q := 49) dH_isContent_48 rfl (by rfl) rfl ?_
        refine cv_S (As := [_]) (q := 52) dH_isContent_49 kH_45 rfl (Nat.le_of_ble_eq_true rfl) rfl rfl rfl (by decide) (sH_isNode hc x ⟨by omega, by omega⟩ ) ?_
        have g10 : (cH_isNode γ x) = 0 ∨ (cH_isNode γ x) = 1 := bH_isNode _ _
        refine zr_if_eq (t := 71) (q := 55) dH_isContent_52 rfl rfl ⟨by omega, by omega⟩ (fun h11 => ?_) (fun h11 => ?_)
        · refine ev_iconst (v := iI 0) (q := 72) dH_isContent_71 rfl rfl ?_
          exact zr_zret dH_isContent_72 rfl (by omega) ⟨by rw [cH_isContent, if_neg h1, if_neg h2, if_pos h9, if_pos h11], rfl⟩
        · have f16 := tH_isNode hc h11
          refine ev_iload_n 2 (q := 56) dH_isContent_55 rfl (by rfl) rfl ?_
          refine cv_S (As := [_]) (q := 59) dH_isContent_56 kH_45 rfl (Nat.le_of_ble_eq_true rfl) rfl rfl rfl (by decide) (sH_isNode hc y ⟨by omega, by omega⟩ ) ?_
          have g12 : (cH_isNode γ y) = 0 ∨ (cH_isNode γ y) = 1 := bH_isNode _ _
          refine zr_if_eq (t := 71) (q := 62) dH_isContent_59 rfl rfl ⟨by omega, by omega⟩ (fun h13 => ?_) (fun h13 => ?_)
          · refine ev_iconst (v := iI 0) (q := 72) dH_isContent_71 rfl rfl ?_
            exact zr_zret dH_isContent_72 rfl (by omega) ⟨by rw [cH_isContent, if_neg h1, if_neg h2, if_pos h9, if_neg h11, if_pos h13], rfl⟩
          · have f15 := tH_isNode hc h13
            refine ev_iload_n 1 (q := 63) dH_isContent_62 rfl (by rfl) rfl ?_
            refine ev_iload_n 2 (q := 64) dH_isContent_63 rfl (by rfl) rfl ?_
            refine zr_icmp_eq (t := 71) (q := 67) dH_isContent_64 rfl rfl ⟨by omega, by omega⟩ ⟨by omega, by omega⟩ (fun h14 => ?_) (fun h14 => ?_)
            · refine ev_iconst (v := iI 0) (q := 72) dH_isContent_71 rfl rfl ?_
              exact zr_zret dH_isContent_72 rfl (by omega) ⟨by rw [cH_isContent, if_neg h1, if_neg h2, if_pos h9, if_neg h11, if_neg h13, if_pos h14], rfl⟩
            · refine ev_iconst (v := iI 1) (q := 68) dH_isContent_67 rfl rfl ?_
              refine ev_goto (t := 72) (q := 72) dH_isContent_68 rfl rfl ?_
              exact zr_zret dH_isContent_72 rfl (by omega) ⟨by rw [cH_isContent, if_neg h1, if_neg h2, if_pos h9, if_neg h11, if_neg h13, if_neg h14], rfl⟩
      · refine ev_tableIn (t := 73) (q := 73) (off := 72) dH_isContent_1 (by rw [iI_toInt ⟨by omega, by omega⟩]; omega) (by rw [iI_toInt ⟨by omega, by omega⟩]; omega) (by rw [iI_toInt ⟨by omega, by omega⟩]; rw [show kd = 2 by omega]; rfl) rfl rfl ?_
        refine ev_iload_n 1 (q := 74) dH_isContent_73 rfl (by rfl) rfl ?_
        refine zr_if_ne (t := 85) (q := 77) dH_isContent_74 rfl rfl ⟨by omega, by omega⟩ (fun h17 => ?_) (fun h17 => ?_)
        · refine ev_iconst (v := iI 0) (q := 86) dH_isContent_85 rfl rfl ?_
          exact zr_zret dH_isContent_86 rfl (by omega) ⟨by rw [cH_isContent, if_neg h1, if_neg h2, if_neg h9, if_pos h17], rfl⟩
        · refine ev_iload_n 2 (q := 78) dH_isContent_77 rfl (by rfl) rfl ?_
          refine zr_if_ne (t := 85) (q := 81) dH_isContent_78 rfl rfl ⟨by omega, by omega⟩ (fun h18 => ?_) (fun h18 => ?_)
          · refine ev_iconst (v := iI 0) (q := 86) dH_isContent_85 rfl rfl ?_
            exact zr_zret dH_isContent_86 rfl (by omega) ⟨by rw [cH_isContent, if_neg h1, if_neg h2, if_neg h9, if_neg (fun z => z h17), if_pos h18], rfl⟩
          · refine ev_iconst (v := iI 1) (q := 82) dH_isContent_81 rfl rfl ?_
            refine ev_goto (t := 86) (q := 86) dH_isContent_82 rfl rfl ?_
            exact zr_zret dH_isContent_86 rfl (by omega) ⟨by rw [cH_isContent, if_neg h1, if_neg h2, if_neg h9, if_neg (fun z => z h17), if_neg (fun z => z h18)], rfl⟩

def cH_has (γ : z_Sg) (st p : Int) : Int := if (zand st (cH_bit γ p)) = 0 then 0 else 1
theorem bH_has (γ : z_Sg) (st p : Int) : cH_has γ st p = 0 ∨ cH_has γ st p = 1 := by
  unfold cH_has
  repeat' split
  all_goals first | exact Or.inl rfl | exact Or.inr rfl
set_option maxRecDepth 100000 in
set_option maxHeartbeats 4000000 in
theorem sH_has {g : z_Gl} {γ ρ : z_Sg} (hc : zC g γ) (st p : Int) (hp0 : z_rg st) (hp1 : 0 ≤ p ∧ p ≤ 19) : z_Sp mH_has (1, 20) 0 0 [zi st, zi p] (zH g γ ρ) (fun r M' => r = some (zi (cH_has γ st p)) ∧ M' = zH g γ ρ) := by
  refine z_Sp_of (L := [zi st, zi p]) (by decide) rfl rfl rfl (Nat.le_of_ble_eq_true rfl) ?_
  refine ev_iload_n 0 (q := 1) dH_has_0 rfl (by rfl) rfl ?_
  refine ev_iload_n 1 (q := 2) dH_has_1 rfl (by rfl) rfl ?_
  refine cv_S (As := [_]) (q := 5) dH_has_2 kH_186 rfl (Nat.le_of_ble_eq_true rfl) rfl rfl rfl (by decide) (sH_bit hc p ⟨by omega, by omega⟩ ) ?_
  have g1 := bH_bit γ (p := p) ⟨by omega, by omega⟩
  refine zr_iand (q := 6) dH_has_5 rfl ?_
  have g2 : z_rg (zand st (cH_bit γ p)) := iI_rg _
  refine zr_if_eq (t := 13) (q := 9) dH_has_6 rfl rfl ⟨by omega, by omega⟩ (fun h3 => ?_) (fun h3 => ?_)
  · refine ev_iconst (v := iI 0) (q := 14) dH_has_13 rfl rfl ?_
    exact zr_zret dH_has_14 rfl (by omega) ⟨by rw [cH_has, if_pos h3], rfl⟩
  · refine ev_iconst (v := iI 1) (q := 10) dH_has_9 rfl rfl ?_
    refine ev_goto (t := 14) (q := 14) dH_has_10 rfl rfl ?_
    exact zr_zret dH_has_14 rfl (by omega) ⟨by rw [cH_has, if_neg h3], rfl⟩

def cH_mix (γ : z_Sg) (x y : Int) : Int := (zxor (((31 * x) + (17 * y)) + 7) (zushr (((31 * x) + (17 * y)) + 7) 13))
set_option maxRecDepth 100000 in
set_option maxHeartbeats 4000000 in
theorem sH_mix {g : z_Gl} {γ ρ : z_Sg} (hc : zC g γ) (x y : Int) (hp0 : z_rg x) (hp1 : z_rg y) : z_Sp mH_mix (0, 0) 0 0 [zi x, zi y] (zH g γ ρ) (fun r M' => r = some (zi (cH_mix γ x y)) ∧ M' = zH g γ ρ) := by
  refine z_Sp_of (L := [zi x, zi y, .float 0]) (by decide) rfl rfl rfl (Nat.le_of_ble_eq_true rfl) ?_
  refine ev_bipush (v := iI 31) (q := 2) dH_mix_0 (by decide) rfl ?_
  refine ev_iload_n 0 (q := 3) dH_mix_2 rfl (by rfl) rfl ?_
  refine zr_imul (q := 4) dH_mix_3 rfl ?_
  refine ev_bipush (v := iI 17) (q := 6) dH_mix_4 (by decide) rfl ?_
  refine ev_iload_n 1 (q := 7) dH_mix_6 rfl (by rfl) rfl ?_
  refine zr_imul (q := 8) dH_mix_7 rfl ?_
  refine zr_iadd (q := 9) dH_mix_8 rfl ?_
  refine ev_bipush (v := iI 7) (q := 11) dH_mix_9 (by decide) rfl ?_
  refine zr_iadd (q := 12) dH_mix_11 rfl ?_
  refine ev_istore_n 2 (q := 13) dH_mix_12 rfl (by decide) rfl rfl ?_
  dsimp only [List.set]
  refine ev_iload_n 2 (q := 14) dH_mix_13 rfl (by rfl) rfl ?_
  refine ev_iload_n 2 (q := 15) dH_mix_14 rfl (by rfl) rfl ?_
  refine ev_bipush (v := iI 13) (q := 17) dH_mix_15 (by decide) rfl ?_
  refine zr_iushr (q := 18) dH_mix_17 rfl ?_
  have g1 : z_rg (zushr (((31 * x) + (17 * y)) + 7) 13) := iI_rg _
  refine zr_ixor (q := 19) dH_mix_18 rfl ?_
  have g2 : z_rg (zxor (((31 * x) + (17 * y)) + 7) (zushr (((31 * x) + (17 * y)) + 7) 13)) := iI_rg _
  exact zr_iret dH_mix_19 rfl ⟨by rw [cH_mix], rfl⟩

def cB_code (γ : z_Sg) (kd se re t co : Int) : Int := ((((kd + (8 * se)) + (64 * re)) + (512 * t)) + (16384 * co))
set_option maxRecDepth 100000 in
set_option maxHeartbeats 4000000 in
theorem sB_code {g : z_Gl} {γ ρ : z_Sg} (hc : zC g γ) (kd se re t co : Int) (hp0 : 0 ≤ kd ∧ kd ≤ 4) (hp1 : 0 ≤ se ∧ se ≤ 5) (hp2 : 0 ≤ re ∧ re ≤ 5) (hp3 : 0 ≤ t ∧ t ≤ 19) (hp4 : 0 ≤ co ∧ co ≤ 4) : z_Sp mB_code (0, 0) 0 0 [zi kd, zi se, zi re, zi t, zi co] (zH g γ ρ) (fun r M' => r = some (zi (cB_code γ kd se re t co)) ∧ M' = zH g γ ρ) := by
  refine z_Sp_of (L := [zi kd, zi se, zi re, zi t, zi co]) (by decide) rfl rfl rfl (Nat.le_of_ble_eq_true rfl) ?_
  refine ev_iload_n 0 (q := 1) dB_code_0 rfl (by rfl) rfl ?_
  refine ev_bipush (v := iI 8) (q := 3) dB_code_1 (by decide) rfl ?_
  refine ev_iload_n 1 (q := 4) dB_code_3 rfl (by rfl) rfl ?_
  refine zr_imul (q := 5) dB_code_4 rfl ?_
  refine zr_iadd (q := 6) dB_code_5 rfl ?_
  refine ev_bipush (v := iI 64) (q := 8) dB_code_6 (by decide) rfl ?_
  refine ev_iload_n 2 (q := 9) dB_code_8 rfl (by rfl) rfl ?_
  refine zr_imul (q := 10) dB_code_9 rfl ?_
  refine zr_iadd (q := 11) dB_code_10 rfl ?_
  refine ev_sipush (v := iI 512) (q := 14) dB_code_11 (by decide) rfl ?_
  refine ev_iload_n 3 (q := 15) dB_code_14 rfl (by rfl) rfl ?_
  refine zr_imul (q := 16) dB_code_15 rfl ?_
  refine zr_iadd (q := 17) dB_code_16 rfl ?_
  refine ev_sipush (v := iI 16384) (q := 20) dB_code_17 (by decide) rfl ?_
  refine ev_iload (q := 22) dB_code_20 (by rfl) rfl ?_
  refine zr_imul (q := 23) dB_code_22 rfl ?_
  refine zr_iadd (q := 24) dB_code_23 rfl ?_
  exact zr_iret dB_code_24 rfl ⟨by rw [cB_code], rfl⟩

def cB_kindOf (γ : z_Sg) (m : Int) : Int := (zand m 7)
set_option maxRecDepth 100000 in
set_option maxHeartbeats 4000000 in
theorem sB_kindOf {g : z_Gl} {γ ρ : z_Sg} (hc : zC g γ) (m : Int) (hp0 : z_rg m) : z_Sp mB_kindOf (0, 0) 0 0 [zi m] (zH g γ ρ) (fun r M' => r = some (zi (cB_kindOf γ m)) ∧ M' = zH g γ ρ) := by
  refine z_Sp_of (L := [zi m]) (by decide) rfl rfl rfl (Nat.le_of_ble_eq_true rfl) ?_
  refine ev_iload_n 0 (q := 1) dB_kindOf_0 rfl (by rfl) rfl ?_
  refine ev_bipush (v := iI 7) (q := 3) dB_kindOf_1 (by decide) rfl ?_
  refine zr_iand (q := 4) dB_kindOf_3 rfl ?_
  have g1 : z_rg (zand m 7) := iI_rg _
  exact zr_iret dB_kindOf_4 rfl ⟨by rw [cB_kindOf], rfl⟩

def cB_senderOf (γ : z_Sg) (m : Int) : Int := (zand (zshr m 3) 7)
set_option maxRecDepth 100000 in
set_option maxHeartbeats 4000000 in
theorem sB_senderOf {g : z_Gl} {γ ρ : z_Sg} (hc : zC g γ) (m : Int) (hp0 : z_rg m) : z_Sp mB_senderOf (0, 0) 0 0 [zi m] (zH g γ ρ) (fun r M' => r = some (zi (cB_senderOf γ m)) ∧ M' = zH g γ ρ) := by
  refine z_Sp_of (L := [zi m]) (by decide) rfl rfl rfl (Nat.le_of_ble_eq_true rfl) ?_
  refine ev_iload_n 0 (q := 1) dB_senderOf_0 rfl (by rfl) rfl ?_
  refine ev_iconst (v := iI 3) (q := 2) dB_senderOf_1 rfl rfl ?_
  refine zr_ishr (q := 3) dB_senderOf_2 rfl ?_
  have g1 : z_rg (zshr m 3) := iI_rg _
  refine ev_bipush (v := iI 7) (q := 5) dB_senderOf_3 (by decide) rfl ?_
  refine zr_iand (q := 6) dB_senderOf_5 rfl ?_
  have g2 : z_rg (zand (zshr m 3) 7) := iI_rg _
  exact zr_iret dB_senderOf_6 rfl ⟨by rw [cB_senderOf], rfl⟩

def cB_receiverOf (γ : z_Sg) (m : Int) : Int := (zand (zshr m 6) 7)
set_option maxRecDepth 100000 in
set_option maxHeartbeats 4000000 in
theorem sB_receiverOf {g : z_Gl} {γ ρ : z_Sg} (hc : zC g γ) (m : Int) (hp0 : z_rg m) : z_Sp mB_receiverOf (0, 0) 0 0 [zi m] (zH g γ ρ) (fun r M' => r = some (zi (cB_receiverOf γ m)) ∧ M' = zH g γ ρ) := by
  refine z_Sp_of (L := [zi m]) (by decide) rfl rfl rfl (Nat.le_of_ble_eq_true rfl) ?_
  refine ev_iload_n 0 (q := 1) dB_receiverOf_0 rfl (by rfl) rfl ?_
  refine ev_bipush (v := iI 6) (q := 3) dB_receiverOf_1 (by decide) rfl ?_
  refine zr_ishr (q := 4) dB_receiverOf_3 rfl ?_
  have g1 : z_rg (zshr m 6) := iI_rg _
  refine ev_bipush (v := iI 7) (q := 6) dB_receiverOf_4 (by decide) rfl ?_
  refine zr_iand (q := 7) dB_receiverOf_6 rfl ?_
  have g2 : z_rg (zand (zshr m 6) 7) := iI_rg _
  exact zr_iret dB_receiverOf_7 rfl ⟨by rw [cB_receiverOf], rfl⟩

def cB_transactionOf (γ : z_Sg) (m : Int) : Int := (zand (zshr m 9) 31)
set_option maxRecDepth 100000 in
set_option maxHeartbeats 4000000 in
theorem sB_transactionOf {g : z_Gl} {γ ρ : z_Sg} (hc : zC g γ) (m : Int) (hp0 : z_rg m) : z_Sp mB_transactionOf (0, 0) 0 0 [zi m] (zH g γ ρ) (fun r M' => r = some (zi (cB_transactionOf γ m)) ∧ M' = zH g γ ρ) := by
  refine z_Sp_of (L := [zi m]) (by decide) rfl rfl rfl (Nat.le_of_ble_eq_true rfl) ?_
  refine ev_iload_n 0 (q := 1) dB_transactionOf_0 rfl (by rfl) rfl ?_
  refine ev_bipush (v := iI 9) (q := 3) dB_transactionOf_1 (by decide) rfl ?_
  refine zr_ishr (q := 4) dB_transactionOf_3 rfl ?_
  have g1 : z_rg (zshr m 9) := iI_rg _
  refine ev_bipush (v := iI 31) (q := 6) dB_transactionOf_4 (by decide) rfl ?_
  refine zr_iand (q := 7) dB_transactionOf_6 rfl ?_
  have g2 : z_rg (zand (zshr m 9) 31) := iI_rg _
  exact zr_iret dB_transactionOf_7 rfl ⟨by rw [cB_transactionOf], rfl⟩

def cB_contentOf (γ : z_Sg) (m : Int) : Int := (zshr m 14)
set_option maxRecDepth 100000 in
set_option maxHeartbeats 4000000 in
theorem sB_contentOf {g : z_Gl} {γ ρ : z_Sg} (hc : zC g γ) (m : Int) (hp0 : z_rg m) : z_Sp mB_contentOf (0, 0) 0 0 [zi m] (zH g γ ρ) (fun r M' => r = some (zi (cB_contentOf γ m)) ∧ M' = zH g γ ρ) := by
  refine z_Sp_of (L := [zi m]) (by decide) rfl rfl rfl (Nat.le_of_ble_eq_true rfl) ?_
  refine ev_iload_n 0 (q := 1) dB_contentOf_0 rfl (by rfl) rfl ?_
  refine ev_bipush (v := iI 14) (q := 3) dB_contentOf_1 (by decide) rfl ?_
  refine zr_ishr (q := 4) dB_contentOf_3 rfl ?_
  have g1 : z_rg (zshr m 14) := iI_rg _
  exact zr_iret dB_contentOf_4 rfl ⟨by rw [cB_contentOf], rfl⟩
