def rR_alone (ρ : z_Sg) (t : Int) : Int := if (rR_needs ρ t) ≠ (zshl 1 (ρ 1 t)) then 0 else 1
theorem bR_alone (ρ : z_Sg) (t : Int) : rR_alone ρ t = 0 ∨ rR_alone ρ t = 1 := by
  unfold rR_alone
  repeat' split
  all_goals first | exact Or.inl rfl | exact Or.inr rfl
set_option maxRecDepth 100000 in
set_option maxHeartbeats 4000000 in
theorem sR_alone {κ ρ : z_Sg} {a : Int → Nat} {B : List va_E} (hw : z_wf ρ) (t : Int) (hp0 : 0 ≤ t ∧ t ≤ 19) : z_Sp mR_alone (4, 102) 0 0 [.ref 12, zi t] (zM κ a ρ B) (fun r M' => r = some (zi (rR_alone ρ t)) ∧ M' = zM κ a ρ B) := by
  refine z_Sp_of (L := [.ref 12, zi t]) (by decide) rfl rfl rfl (Nat.le_of_ble_eq_true rfl) ?_
  refine ev_aload_n 0 (q := 1) dR_alone_0 rfl (by rfl) rfl ?_
  refine ev_iload_n 1 (q := 2) dR_alone_1 rfl (by rfl) rfl ?_
  refine cv_V (As := [_]) (q := 5) dR_alone_2 kR_133 atR rfl rfl (Nat.le_of_ble_eq_true rfl) rfl rfl rfl (by decide) (sR_needs hw t ⟨by omega, by omega⟩ ) ?_
  have g1 := bR_needs hw t ⟨by omega, by omega⟩ 
  refine ev_iconst (v := iI 1) (q := 6) dR_alone_5 rfl rfl ?_
  refine ev_aload_n 0 (q := 7) dR_alone_6 rfl (by rfl) rfl ?_
  refine ev_get (q := 10) dR_alone_7 fR_7 atR (by rfl) rfl ?_
  refine ev_iload_n 1 (q := 11) dR_alone_10 rfl (by rfl) rfl ?_
  refine zr_iald (q := 12) (g := ρ 1) dR_alone_11 at_begunBy (by decide) ⟨by omega, by omega⟩ rfl ?_
  have g2 : 0 ≤ ρ 1 t ∧ ρ 1 t ≤ 3 := hw 1 t (by decide)
  refine zr_ishl (q := 13) dR_alone_12 rfl ?_
  have g3 : z_rg (zshl 1 (ρ 1 t)) := iI_rg _
  have g4 := zshl_1 (n := (ρ 1 t)) ⟨by omega, by omega⟩
  refine zr_icmp_ne (t := 20) (q := 16) dR_alone_13 rfl rfl ⟨by omega, by omega⟩ ⟨by omega, by omega⟩ (fun h5 => ?_) (fun h5 => ?_)
  · refine ev_iconst (v := iI 0) (q := 21) dR_alone_20 rfl rfl ?_
    exact zr_zret dR_alone_21 rfl (by omega) ⟨by rw [rR_alone, if_pos h5], rfl⟩
  · refine ev_iconst (v := iI 1) (q := 17) dR_alone_16 rfl rfl ?_
    refine ev_goto (t := 21) (q := 21) dR_alone_17 rfl rfl ?_
    exact zr_zret dR_alone_21 rfl (by omega) ⟨by rw [rR_alone, if_neg (fun z => z h5)], rfl⟩

def rR_sound (ρ : z_Sg) (t : Int) : Int := if (rR_valid ρ t) = 0 then 0 else if (ρ 6 t) = 0 then 1 else if (rR_alone ρ t) = 0 then 0 else 1
theorem bR_sound (ρ : z_Sg) (t : Int) : rR_sound ρ t = 0 ∨ rR_sound ρ t = 1 := by
  unfold rR_sound
  repeat' split
  all_goals first | exact Or.inl rfl | exact Or.inr rfl
set_option maxRecDepth 100000 in
set_option maxHeartbeats 4000000 in
theorem sR_sound {κ ρ : z_Sg} {a : Int → Nat} {B : List va_E} (hw : z_wf ρ) (t : Int) (hp0 : 0 ≤ t ∧ t ≤ 19) : z_Sp mR_sound (5, 123) 0 0 [.ref 12, zi t] (zM κ a ρ B) (fun r M' => r = some (zi (rR_sound ρ t)) ∧ M' = zM κ a ρ B) := by
  refine z_Sp_of (L := [.ref 12, zi t]) (by decide) rfl rfl rfl (Nat.le_of_ble_eq_true rfl) ?_
  refine ev_aload_n 0 (q := 1) dR_sound_0 rfl (by rfl) rfl ?_
  refine ev_iload_n 1 (q := 2) dR_sound_1 rfl (by rfl) rfl ?_
  refine cv_V (As := [_]) (q := 5) dR_sound_2 kR_137 atR rfl rfl (Nat.le_of_ble_eq_true rfl) rfl rfl rfl (by decide) (sR_valid hw t ⟨by omega, by omega⟩ ) ?_
  have g1 : (rR_valid ρ t) = 0 ∨ (rR_valid ρ t) = 1 := bR_valid _ _
  refine zr_if_eq (t := 29) (q := 8) dR_sound_5 rfl rfl ⟨by omega, by omega⟩ (fun h2 => ?_) (fun h2 => ?_)
  · refine ev_iconst (v := iI 0) (q := 30) dR_sound_29 rfl rfl ?_
    exact zr_zret dR_sound_30 rfl (by omega) ⟨by rw [rR_sound, if_pos h2], rfl⟩
  · refine ev_aload_n 0 (q := 9) dR_sound_8 rfl (by rfl) rfl ?_
    refine ev_get (q := 12) dR_sound_9 fR_25 atR (by rfl) rfl ?_
    refine ev_iload_n 1 (q := 13) dR_sound_12 rfl (by rfl) rfl ?_
    refine zr_zald (q := 14) (g := ρ 6) dR_sound_13 at_hasty (by decide) ⟨by omega, by omega⟩ rfl ?_
    have g3 : 0 ≤ ρ 6 t ∧ ρ 6 t ≤ 1 := hw 6 t (by decide)
    refine zr_if_eq (t := 25) (q := 17) dR_sound_14 rfl rfl ⟨by omega, by omega⟩ (fun h4 => ?_) (fun h4 => ?_)
    · refine ev_iconst (v := iI 1) (q := 26) dR_sound_25 rfl rfl ?_
      refine ev_goto (t := 30) (q := 30) dR_sound_26 rfl rfl ?_
      exact zr_zret dR_sound_30 rfl (by omega) ⟨by rw [rR_sound, if_neg h2, if_pos h4], rfl⟩
    · refine ev_aload_n 0 (q := 18) dR_sound_17 rfl (by rfl) rfl ?_
      refine ev_iload_n 1 (q := 19) dR_sound_18 rfl (by rfl) rfl ?_
      refine cv_V (As := [_]) (q := 22) dR_sound_19 kR_140 atR rfl rfl (Nat.le_of_ble_eq_true rfl) rfl rfl rfl (by decide) (sR_alone hw t ⟨by omega, by omega⟩ ) ?_
      have g5 : (rR_alone ρ t) = 0 ∨ (rR_alone ρ t) = 1 := bR_alone _ _
      refine zr_if_eq (t := 29) (q := 25) dR_sound_22 rfl rfl ⟨by omega, by omega⟩ (fun h6 => ?_) (fun h6 => ?_)
      · refine ev_iconst (v := iI 0) (q := 30) dR_sound_29 rfl rfl ?_
        exact zr_zret dR_sound_30 rfl (by omega) ⟨by rw [rR_sound, if_neg h2, if_neg h4, if_pos h6], rfl⟩
      · refine ev_iconst (v := iI 1) (q := 26) dR_sound_25 rfl rfl ?_
        refine ev_goto (t := 30) (q := 30) dR_sound_26 rfl rfl ?_
        exact zr_zret dR_sound_30 rfl (by omega) ⟨by rw [rR_sound, if_neg h2, if_neg h4, if_neg h6], rfl⟩

def rR_tick (ρ : z_Sg) (n : Int) : Int × z_Sg := if n < 0 then ((ρ 24 0), ρ) else if 1000 < n then ((ρ 24 0), ρ) else (((ρ 24 0) + n), (z_up ρ 24 0 ((ρ 24 0) + n)))
set_option maxRecDepth 100000 in
set_option maxHeartbeats 4000000 in
theorem sR_tick {κ ρ : z_Sg} {a : Int → Nat} {B : List va_E} (hw : z_wf ρ) (n : Int) (hp0 : z_rg n) (he0 : ρ 24 0 ≤ 999000) : z_Sp mR_tick (0, 0) 0 0 [.ref 12, zi n] (zM κ a ρ B) (fun r M' => r = some (zi (rR_tick ρ n).1) ∧ M' = zM κ a (rR_tick ρ n).2 B) := by
  refine z_Sp_of (L := [.ref 12, zi n]) (by decide) rfl rfl rfl (Nat.le_of_ble_eq_true rfl) ?_
  refine ev_iload_n 1 (q := 1) dR_tick_0 rfl (by rfl) rfl ?_
  refine zr_if_lt (t := 21) (q := 4) dR_tick_1 rfl rfl ⟨by omega, by omega⟩ (fun h1 => ?_) (fun h1 => ?_)
  · refine ev_aload_n 0 (q := 22) dR_tick_21 rfl (by rfl) rfl ?_
    refine ev_get (q := 25) (v := zi (ρ 24 0)) dR_tick_22 fR_172 atR rfl rfl ?_
    have g2 : 0 ≤ ρ 24 0 ∧ ρ 24 0 ≤ 1000000 := hw 24 0 (by decide)
    exact zr_iret dR_tick_25 rfl ⟨by rw [rR_tick, if_pos h1], by rw [rR_tick, if_pos h1]⟩
  · refine ev_iload_n 1 (q := 5) dR_tick_4 rfl (by rfl) rfl ?_
    refine ev_sipush (v := iI 1000) (q := 8) dR_tick_5 (by decide) rfl ?_
    refine zr_icmp_gt (t := 21) (q := 11) dR_tick_8 rfl rfl ⟨by omega, by omega⟩ ⟨by omega, by omega⟩ (fun h3 => ?_) (fun h3 => ?_)
    · refine ev_aload_n 0 (q := 22) dR_tick_21 rfl (by rfl) rfl ?_
      refine ev_get (q := 25) (v := zi (ρ 24 0)) dR_tick_22 fR_172 atR rfl rfl ?_
      have g4 : 0 ≤ ρ 24 0 ∧ ρ 24 0 ≤ 1000000 := hw 24 0 (by decide)
      exact zr_iret dR_tick_25 rfl ⟨by rw [rR_tick, if_neg (Int.not_lt.mpr h1), if_pos h3], by rw [rR_tick, if_neg (Int.not_lt.mpr h1), if_pos h3]⟩
    · refine ev_aload_n 0 (q := 12) dR_tick_11 rfl (by rfl) rfl ?_
      refine ev_dup (q := 13) dR_tick_12 rfl rfl ?_
      refine ev_get (q := 16) (v := zi (ρ 24 0)) dR_tick_13 fR_172 atR rfl rfl ?_
      have g5 : 0 ≤ ρ 24 0 ∧ ρ 24 0 ≤ 1000000 := hw 24 0 (by decide)
      refine ev_iload_n 1 (q := 17) dR_tick_16 rfl (by rfl) rfl ?_
      refine zr_iadd (q := 18) dR_tick_17 rfl ?_
      refine zr_puti (q := 21) dR_tick_18 gR_172 atR (Nat.le_of_ble_eq_true rfl) rfl st_clock rfl ?_
      have hw6 : z_wf (z_up ρ 24 0 ((ρ 24 0) + n)) := z_wf_up hw (show (0 : Int) ≤ ((ρ 24 0) + n) by omega) (show ((ρ 24 0) + n) ≤ (1000000 : Int) by omega)
      refine ev_aload_n 0 (q := 22) dR_tick_21 rfl (by rfl) rfl ?_
      refine ev_get (q := 25) (v := zi ((ρ 24 0) + n)) dR_tick_22 fR_172 atR rfl rfl ?_
      exact zr_iret dR_tick_25 rfl ⟨by rw [rR_tick, if_neg (Int.not_lt.mpr h1), if_neg (Int.not_lt.mpr h3)], by rw [rR_tick, if_neg (Int.not_lt.mpr h1), if_neg (Int.not_lt.mpr h3)]⟩
set_option maxRecDepth 100000 in
set_option maxHeartbeats 4000000 in
theorem wR_tick {ρ : z_Sg} (hw : z_wf ρ) (n : Int) (hp0 : z_rg n) (he0 : ρ 24 0 ≤ 999000) : z_wf (rR_tick ρ n).2 := by
  rw [rR_tick]
  by_cases h1 : n < 0
  · rw [if_pos h1]
    have g2 : 0 ≤ ρ 24 0 ∧ ρ 24 0 ≤ 1000000 := hw 24 0 (by decide)
    exact hw
  · rw [if_neg h1]
    by_cases h3 : 1000 < n
    · rw [if_pos h3]
      have g4 : 0 ≤ ρ 24 0 ∧ ρ 24 0 ≤ 1000000 := hw 24 0 (by decide)
      exact hw
    · rw [if_neg h3]
      have g5 : 0 ≤ ρ 24 0 ∧ ρ 24 0 ≤ 1000000 := hw 24 0 (by decide)
      have hw6 : z_wf (z_up ρ 24 0 ((ρ 24 0) + n)) := z_wf_up hw (show (0 : Int) ≤ ((ρ 24 0) + n) by omega) (show ((ρ 24 0) + n) ≤ (1000000 : Int) by omega)
      exact hw6

def rR_consent (ρ : z_Sg) (node ot on : Int) : Int × z_Sg := if (rR_isNode ρ node) = 0 then (0, ρ) else if (rR_isNode ρ ot) = 0 then (0, ρ) else if node ≠ ot then if on ≠ 0 then (1, (z_up ρ 21 ((4 * node) + ot) 0)) else (1, (z_up ρ 21 ((4 * node) + ot) 1)) else (0, ρ)
set_option maxRecDepth 100000 in
set_option maxHeartbeats 4000000 in
theorem sR_consent {κ ρ : z_Sg} {a : Int → Nat} {B : List va_E} (hw : z_wf ρ) (node ot on : Int) (hp0 : z_rg node) (hp1 : z_rg ot) (hp2 : 0 ≤ on ∧ on ≤ 1) : z_Sp mR_consent (1, 21) 0 0 [.ref 12, zi node, zi ot, zi on] (zM κ a ρ B) (fun r M' => r = some (zi (rR_consent ρ node ot on).1) ∧ M' = zM κ a (rR_consent ρ node ot on).2 B) := by
  refine z_Sp_of (L := [.ref 12, zi node, zi ot, zi on]) (by decide) rfl rfl rfl (Nat.le_of_ble_eq_true rfl) ?_
  refine ev_aload_n 0 (q := 1) dR_consent_0 rfl (by rfl) rfl ?_
  refine ev_iload_n 1 (q := 2) dR_consent_1 rfl (by rfl) rfl ?_
  refine cv_V (As := [_]) (q := 5) dR_consent_2 kR_91 atR rfl rfl (Nat.le_of_ble_eq_true rfl) rfl rfl rfl (by decide) (sR_isNode hw node ⟨by omega, by omega⟩ ) ?_
  have g1 : (rR_isNode ρ node) = 0 ∨ (rR_isNode ρ node) = 1 := bR_isNode _ _
  refine zr_if_eq (t := 21) (q := 8) dR_consent_5 rfl rfl ⟨by omega, by omega⟩ (fun h2 => ?_) (fun h2 => ?_)
  · refine ev_iconst (v := iI 0) (q := 22) dR_consent_21 rfl rfl ?_
    exact zr_zret dR_consent_22 rfl (by omega) ⟨by rw [rR_consent, if_pos h2], by rw [rR_consent, if_pos h2]⟩
  · have f10 := tR_isNode hw h2
    refine ev_aload_n 0 (q := 9) dR_consent_8 rfl (by rfl) rfl ?_
    refine ev_iload_n 2 (q := 10) dR_consent_9 rfl (by rfl) rfl ?_
    refine cv_V (As := [_]) (q := 13) dR_consent_10 kR_91 atR rfl rfl (Nat.le_of_ble_eq_true rfl) rfl rfl rfl (by decide) (sR_isNode hw ot ⟨by omega, by omega⟩ ) ?_
    have g3 : (rR_isNode ρ ot) = 0 ∨ (rR_isNode ρ ot) = 1 := bR_isNode _ _
    refine zr_if_eq (t := 21) (q := 16) dR_consent_13 rfl rfl ⟨by omega, by omega⟩ (fun h4 => ?_) (fun h4 => ?_)
    · refine ev_iconst (v := iI 0) (q := 22) dR_consent_21 rfl rfl ?_
      exact zr_zret dR_consent_22 rfl (by omega) ⟨by rw [rR_consent, if_neg h2, if_pos h4], by rw [rR_consent, if_neg h2, if_pos h4]⟩
    · have f9 := tR_isNode hw h4
      refine ev_iload_n 1 (q := 17) dR_consent_16 rfl (by rfl) rfl ?_
      refine ev_iload_n 2 (q := 18) dR_consent_17 rfl (by rfl) rfl ?_
      refine zr_icmp_ne (t := 23) (q := 21) dR_consent_18 rfl rfl ⟨by omega, by omega⟩ ⟨by omega, by omega⟩ (fun h5 => ?_) (fun h5 => ?_)
      · refine ev_aload_n 0 (q := 24) dR_consent_23 rfl (by rfl) rfl ?_
        refine ev_get (q := 27) dR_consent_24 fR_71 atR (by rfl) rfl ?_
        refine ev_iconst (v := iI 4) (q := 28) dR_consent_27 rfl rfl ?_
        refine ev_iload_n 1 (q := 29) dR_consent_28 rfl (by rfl) rfl ?_
        refine zr_imul (q := 30) dR_consent_29 rfl ?_
        refine ev_iload_n 2 (q := 31) dR_consent_30 rfl (by rfl) rfl ?_
        refine zr_iadd (q := 32) dR_consent_31 rfl ?_
        refine ev_iload_n 3 (q := 33) dR_consent_32 rfl (by rfl) rfl ?_
        refine zr_if_ne (t := 40) (q := 36) dR_consent_33 rfl rfl ⟨by omega, by omega⟩ (fun h6 => ?_) (fun h6 => ?_)
        · refine ev_iconst (v := iI 0) (q := 41) dR_consent_40 rfl rfl ?_
          refine zr_zast (q := 42) dR_consent_41 at_declines (by decide) (by omega) ⟨by omega, by omega⟩ st_declines rfl ?_
          have hw7 : z_wf (z_up ρ 21 ((4 * node) + ot) 0) := z_wf_up hw (show (0 : Int) ≤ 0 by omega) (show 0 ≤ (1 : Int) by omega)
          refine ev_iconst (v := iI 1) (q := 43) dR_consent_42 rfl rfl ?_
          exact zr_zret dR_consent_43 rfl (by omega) ⟨by rw [rR_consent, if_neg h2, if_neg h4, if_pos h5, if_pos h6], by rw [rR_consent, if_neg h2, if_neg h4, if_pos h5, if_pos h6]⟩
        · refine ev_iconst (v := iI 1) (q := 37) dR_consent_36 rfl rfl ?_
          refine ev_goto (t := 41) (q := 41) dR_consent_37 rfl rfl ?_
          refine zr_zast (q := 42) dR_consent_41 at_declines (by decide) (by omega) ⟨by omega, by omega⟩ st_declines rfl ?_
          have hw8 : z_wf (z_up ρ 21 ((4 * node) + ot) 1) := z_wf_up hw (show (0 : Int) ≤ 1 by omega) (show 1 ≤ (1 : Int) by omega)
          refine ev_iconst (v := iI 1) (q := 43) dR_consent_42 rfl rfl ?_
          exact zr_zret dR_consent_43 rfl (by omega) ⟨by rw [rR_consent, if_neg h2, if_neg h4, if_pos h5, if_neg (fun z => z h6)], by rw [rR_consent, if_neg h2, if_neg h4, if_pos h5, if_neg (fun z => z h6)]⟩
      · refine ev_iconst (v := iI 0) (q := 22) dR_consent_21 rfl rfl ?_
        exact zr_zret dR_consent_22 rfl (by omega) ⟨by rw [rR_consent, if_neg h2, if_neg h4, if_neg (fun z => z h5)], by rw [rR_consent, if_neg h2, if_neg h4, if_neg (fun z => z h5)]⟩
set_option maxRecDepth 100000 in
set_option maxHeartbeats 4000000 in
theorem wR_consent {ρ : z_Sg} (hw : z_wf ρ) (node ot on : Int) (hp0 : z_rg node) (hp1 : z_rg ot) (hp2 : 0 ≤ on ∧ on ≤ 1) : z_wf (rR_consent ρ node ot on).2 := by
  rw [rR_consent]
  have g1 : (rR_isNode ρ node) = 0 ∨ (rR_isNode ρ node) = 1 := bR_isNode _ _
  by_cases h2 : (rR_isNode ρ node) = 0
  · rw [if_pos h2]
    exact hw
  · rw [if_neg h2]
    have f10 := tR_isNode hw h2
    have g3 : (rR_isNode ρ ot) = 0 ∨ (rR_isNode ρ ot) = 1 := bR_isNode _ _
    by_cases h4 : (rR_isNode ρ ot) = 0
    · rw [if_pos h4]
      exact hw
    · rw [if_neg h4]
      have f9 := tR_isNode hw h4
      by_cases h5 : node ≠ ot
      · rw [if_pos h5]
        by_cases h6 : on ≠ 0
        · rw [if_pos h6]
          have hw7 : z_wf (z_up ρ 21 ((4 * node) + ot) 0) := z_wf_up hw (show (0 : Int) ≤ 0 by omega) (show 0 ≤ (1 : Int) by omega)
          exact hw7
        · rw [if_neg h6]
          have hw8 : z_wf (z_up ρ 21 ((4 * node) + ot) 1) := z_wf_up hw (show (0 : Int) ≤ 1 by omega) (show 1 ≤ (1 : Int) by omega)
          exact hw8
      · rw [if_neg h5]
        exact hw

def rR_signatures (ρ : z_Sg) (t nd : Int) : Int := if (rR_isTx ρ t) ≠ 0 then if nd = 0 then (ρ 7 t) else (rR_needs ρ t) else (-1)
set_option maxRecDepth 100000 in
set_option maxHeartbeats 4000000 in
theorem sR_signatures {κ ρ : z_Sg} {a : Int → Nat} {B : List va_E} (hw : z_wf ρ) (t nd : Int) (hp0 : z_rg t) (hp1 : 0 ≤ nd ∧ nd ≤ 1) : z_Sp mR_signatures (4, 102) 0 0 [.ref 12, zi t, zi nd] (zM κ a ρ B) (fun r M' => r = some (zi (rR_signatures ρ t nd)) ∧ M' = zM κ a ρ B) := by
  refine z_Sp_of (L := [.ref 12, zi t, zi nd]) (by decide) rfl rfl rfl (Nat.le_of_ble_eq_true rfl) ?_
  refine ev_aload_n 0 (q := 1) dR_signatures_0 rfl (by rfl) rfl ?_
  refine ev_iload_n 1 (q := 2) dR_signatures_1 rfl (by rfl) rfl ?_
  refine cv_V (As := [_]) (q := 5) dR_signatures_2 kR_87 atR rfl rfl (Nat.le_of_ble_eq_true rfl) rfl rfl rfl (by decide) (sR_isTx hw t ⟨by omega, by omega⟩ ) ?_
  have g1 : (rR_isTx ρ t) = 0 ∨ (rR_isTx ρ t) = 1 := bR_isTx _ _
  refine zr_if_ne (t := 12) (q := 8) dR_signatures_5 rfl rfl ⟨by omega, by omega⟩ (fun h2 => ?_) (fun h2 => ?_)
  · have f6 := tR_isTx hw h2
    refine ev_iload_n 2 (q := 13) dR_signatures_12 rfl (by rfl) rfl ?_
    refine zr_if_eq (t := 24) (q := 16) dR_signatures_13 rfl rfl ⟨by omega, by omega⟩ (fun h3 => ?_) (fun h3 => ?_)
    · refine ev_aload_n 0 (q := 25) dR_signatures_24 rfl (by rfl) rfl ?_
      refine ev_get (q := 28) dR_signatures_25 fR_29 atR (by rfl) rfl ?_
      refine ev_iload_n 1 (q := 29) dR_signatures_28 rfl (by rfl) rfl ?_
      refine zr_iald (q := 30) (g := ρ 7) dR_signatures_29 at_signed (by decide) ⟨by omega, by omega⟩ rfl ?_
      have g4 : 0 ≤ ρ 7 t ∧ ρ 7 t ≤ 15 := hw 7 t (by decide)
      exact zr_iret dR_signatures_30 rfl ⟨by rw [rR_signatures, if_pos h2, if_pos h3], rfl⟩
    · refine ev_aload_n 0 (q := 17) dR_signatures_16 rfl (by rfl) rfl ?_
      refine ev_iload_n 1 (q := 18) dR_signatures_17 rfl (by rfl) rfl ?_
      refine cv_V (As := [_]) (q := 21) dR_signatures_18 kR_133 atR rfl rfl (Nat.le_of_ble_eq_true rfl) rfl rfl rfl (by decide) (sR_needs hw t ⟨by omega, by omega⟩ ) ?_
      have g5 := bR_needs hw t ⟨by omega, by omega⟩ 
      refine ev_goto (t := 30) (q := 30) dR_signatures_21 rfl rfl ?_
      exact zr_iret dR_signatures_30 rfl ⟨by rw [rR_signatures, if_pos h2, if_neg h3], rfl⟩
  · refine ev_iconst (v := iI (-1)) (q := 9) dR_signatures_8 rfl rfl ?_
    refine ev_goto (t := 30) (q := 30) dR_signatures_9 rfl rfl ?_
    exact zr_iret dR_signatures_30 rfl ⟨by rw [rR_signatures, if_neg (fun z => z h2)], rfl⟩

def rR_leaf (ρ : z_Sg) (t i : Int) : Int := if i < 3 then if i < 8 then if i ≠ 0 then if i ≠ 1 then if i ≠ 2 then if i ≠ 7 then if i ≠ 12 then if i ≠ 15 then 0 else t else (rR_needs ρ t) else (ρ 1 t) else (ρ 4 t) else (ρ 3 t) else (ρ 2 t) else if 11 < i then if i ≠ 0 then if i ≠ 1 then if i ≠ 2 then if i ≠ 7 then if i ≠ 12 then if i ≠ 15 then 0 else t else (rR_needs ρ t) else (ρ 1 t) else (ρ 4 t) else (ρ 3 t) else (ρ 2 t) else if (i - 8) < (ρ 10 t) then (((((1 + (ρ 12 (((4 * t) + i) - 8))) + (3 * (ρ 13 (((4 * t) + i) - 8)))) + (12 * (ρ 14 (((4 * t) + i) - 8)))) + (48 * (ρ 15 (((4 * t) + i) - 8)))) + (49152 * ((ρ 16 (((4 * t) + i) - 8)) + 1))) else 0 else if 6 < i then if i < 8 then if i ≠ 0 then if i ≠ 1 then if i ≠ 2 then if i ≠ 7 then if i ≠ 12 then if i ≠ 15 then 0 else t else (rR_needs ρ t) else (ρ 1 t) else (ρ 4 t) else (ρ 3 t) else (ρ 2 t) else if 11 < i then if i ≠ 0 then if i ≠ 1 then if i ≠ 2 then if i ≠ 7 then if i ≠ 12 then if i ≠ 15 then 0 else t else (rR_needs ρ t) else (ρ 1 t) else (ρ 4 t) else (ρ 3 t) else (ρ 2 t) else if (i - 8) < (ρ 10 t) then (((((1 + (ρ 12 (((4 * t) + i) - 8))) + (3 * (ρ 13 (((4 * t) + i) - 8)))) + (12 * (ρ 14 (((4 * t) + i) - 8)))) + (48 * (ρ 15 (((4 * t) + i) - 8)))) + (49152 * ((ρ 16 (((4 * t) + i) - 8)) + 1))) else 0 else if (ρ 9 t) ≤ (i - 3) then 0 else (1 + (ρ 11 (((4 * t) + i) - 3)))
set_option maxRecDepth 100000 in
set_option maxHeartbeats 4000000 in
theorem sR_leaf {κ ρ : z_Sg} {a : Int → Nat} {B : List va_E} (hw : z_wf ρ) (t i : Int) (hp0 : 0 ≤ t ∧ t ≤ 19) (hp1 : 0 ≤ i ∧ i ≤ 15) : z_Sp mR_leaf (4, 102) 0 0 [.ref 12, zi t, zi i] (zM κ a ρ B) (fun r M' => r = some (zi (rR_leaf ρ t i)) ∧ M' = zM κ a ρ B) := by
  refine z_Sp_of (L := [.ref 12, zi t, zi i, .float 0]) (by decide) rfl rfl rfl (Nat.le_of_ble_eq_true rfl) ?_
  refine ev_iload_n 2 (q := 1) dR_leaf_0 rfl (by rfl) rfl ?_
  refine ev_iconst (v := iI 3) (q := 2) dR_leaf_1 rfl rfl ?_
  refine zr_icmp_lt (t := 42) (q := 5) dR_leaf_2 rfl rfl ⟨by omega, by omega⟩ ⟨by omega, by omega⟩ (fun h1 => ?_) (fun h1 => ?_)
  · refine ev_iload_n 2 (q := 43) dR_leaf_42 rfl (by rfl) rfl ?_
    refine ev_bipush (v := iI 8) (q := 45) dR_leaf_43 (by decide) rfl ?_
    refine zr_icmp_lt (t := 130) (q := 48) dR_leaf_45 rfl rfl ⟨by omega, by omega⟩ ⟨by omega, by omega⟩ (fun h2 => ?_) (fun h2 => ?_)
    · refine ev_iload_n 2 (q := 131) dR_leaf_130 rfl (by rfl) rfl ?_
      refine zr_if_ne (t := 143) (q := 134) dR_leaf_131 rfl rfl ⟨by omega, by omega⟩ (fun h3 => ?_) (fun h3 => ?_)
      · refine ev_iload_n 2 (q := 144) dR_leaf_143 rfl (by rfl) rfl ?_
        refine ev_iconst (v := iI 1) (q := 145) dR_leaf_144 rfl rfl ?_
        refine zr_icmp_ne (t := 157) (q := 148) dR_leaf_145 rfl rfl ⟨by omega, by omega⟩ ⟨by omega, by omega⟩ (fun h4 => ?_) (fun h4 => ?_)
        · refine ev_iload_n 2 (q := 158) dR_leaf_157 rfl (by rfl) rfl ?_
          refine ev_iconst (v := iI 2) (q := 159) dR_leaf_158 rfl rfl ?_
          refine zr_icmp_ne (t := 171) (q := 162) dR_leaf_159 rfl rfl ⟨by omega, by omega⟩ ⟨by omega, by omega⟩ (fun h5 => ?_) (fun h5 => ?_)
          · refine ev_iload_n 2 (q := 172) dR_leaf_171 rfl (by rfl) rfl ?_
            refine ev_bipush (v := iI 7) (q := 174) dR_leaf_172 (by decide) rfl ?_
            refine zr_icmp_ne (t := 186) (q := 177) dR_leaf_174 rfl rfl ⟨by omega, by omega⟩ ⟨by omega, by omega⟩ (fun h6 => ?_) (fun h6 => ?_)
            · refine ev_iload_n 2 (q := 187) dR_leaf_186 rfl (by rfl) rfl ?_
              refine ev_bipush (v := iI 12) (q := 189) dR_leaf_187 (by decide) rfl ?_
              refine zr_icmp_ne (t := 200) (q := 192) dR_leaf_189 rfl rfl ⟨by omega, by omega⟩ ⟨by omega, by omega⟩ (fun h7 => ?_) (fun h7 => ?_)
              · refine ev_iload_n 2 (q := 201) dR_leaf_200 rfl (by rfl) rfl ?_
                refine ev_bipush (v := iI 15) (q := 203) dR_leaf_201 (by decide) rfl ?_
                refine zr_icmp_ne (t := 210) (q := 206) dR_leaf_203 rfl rfl ⟨by omega, by omega⟩ ⟨by omega, by omega⟩ (fun h8 => ?_) (fun h8 => ?_)
                · refine ev_iconst (v := iI 0) (q := 211) dR_leaf_210 rfl rfl ?_
                  exact zr_iret dR_leaf_211 rfl ⟨by rw [rR_leaf, if_pos h1, if_pos h2, if_pos h3, if_pos h4, if_pos h5, if_pos h6, if_pos h7, if_pos h8], rfl⟩
                · refine ev_iload_n 1 (q := 207) dR_leaf_206 rfl (by rfl) rfl ?_
                  refine ev_goto (t := 211) (q := 211) dR_leaf_207 rfl rfl ?_
                  exact zr_iret dR_leaf_211 rfl ⟨by rw [rR_leaf, if_pos h1, if_pos h2, if_pos h3, if_pos h4, if_pos h5, if_pos h6, if_pos h7, if_neg (fun z => z h8)], rfl⟩
              · refine ev_aload_n 0 (q := 193) dR_leaf_192 rfl (by rfl) rfl ?_
                refine ev_iload_n 1 (q := 194) dR_leaf_193 rfl (by rfl) rfl ?_
                refine cv_V (As := [_]) (q := 197) dR_leaf_194 kR_133 atR rfl rfl (Nat.le_of_ble_eq_true rfl) rfl rfl rfl (by decide) (sR_needs hw t ⟨by omega, by omega⟩ ) ?_
                have g9 := bR_needs hw t ⟨by omega, by omega⟩ 
                refine ev_goto (t := 211) (q := 211) dR_leaf_197 rfl rfl ?_
                exact zr_iret dR_leaf_211 rfl ⟨by rw [rR_leaf, if_pos h1, if_pos h2, if_pos h3, if_pos h4, if_pos h5, if_pos h6, if_neg (fun z => z h7)], rfl⟩
            · refine ev_aload_n 0 (q := 178) dR_leaf_177 rfl (by rfl) rfl ?_
              refine ev_get (q := 181) dR_leaf_178 fR_7 atR (by rfl) rfl ?_
              refine ev_iload_n 1 (q := 182) dR_leaf_181 rfl (by rfl) rfl ?_
              refine zr_iald (q := 183) (g := ρ 1) dR_leaf_182 at_begunBy (by decide) ⟨by omega, by omega⟩ rfl ?_
              have g10 : 0 ≤ ρ 1 t ∧ ρ 1 t ≤ 3 := hw 1 t (by decide)
              refine ev_goto (t := 211) (q := 211) dR_leaf_183 rfl rfl ?_
              exact zr_iret dR_leaf_211 rfl ⟨by rw [rR_leaf, if_pos h1, if_pos h2, if_pos h3, if_pos h4, if_pos h5, if_neg (fun z => z h6)], rfl⟩
          · refine ev_aload_n 0 (q := 163) dR_leaf_162 rfl (by rfl) rfl ?_
            refine ev_get (q := 166) dR_leaf_163 fR_19 atR (by rfl) rfl ?_
            refine ev_iload_n 1 (q := 167) dR_leaf_166 rfl (by rfl) rfl ?_
            refine zr_iald (q := 168) (g := ρ 4) dR_leaf_167 at_untilTime (by decide) ⟨by omega, by omega⟩ rfl ?_
            have g11 : 0 ≤ ρ 4 t ∧ ρ 4 t ≤ 1000000 := hw 4 t (by decide)
            refine ev_goto (t := 211) (q := 211) dR_leaf_168 rfl rfl ?_
            exact zr_iret dR_leaf_211 rfl ⟨by rw [rR_leaf, if_pos h1, if_pos h2, if_pos h3, if_pos h4, if_neg (fun z => z h5)], rfl⟩
        · refine ev_aload_n 0 (q := 149) dR_leaf_148 rfl (by rfl) rfl ?_
          refine ev_get (q := 152) dR_leaf_149 fR_16 atR (by rfl) rfl ?_
          refine ev_iload_n 1 (q := 153) dR_leaf_152 rfl (by rfl) rfl ?_
          refine zr_iald (q := 154) (g := ρ 3) dR_leaf_153 at_fromTime (by decide) ⟨by omega, by omega⟩ rfl ?_
          have g12 : 0 ≤ ρ 3 t ∧ ρ 3 t ≤ 1000000 := hw 3 t (by decide)
          refine ev_goto (t := 211) (q := 211) dR_leaf_154 rfl rfl ?_
          exact zr_iret dR_leaf_211 rfl ⟨by rw [rR_leaf, if_pos h1, if_pos h2, if_pos h3, if_neg (fun z => z h4)], rfl⟩
      · refine ev_aload_n 0 (q := 135) dR_leaf_134 rfl (by rfl) rfl ?_
        refine ev_get (q := 138) dR_leaf_135 fR_13 atR (by rfl) rfl ?_
        refine ev_iload_n 1 (q := 139) dR_leaf_138 rfl (by rfl) rfl ?_
        refine zr_iald (q := 140) (g := ρ 2) dR_leaf_139 at_notaryOf (by decide) ⟨by omega, by omega⟩ rfl ?_
        have g13 : 0 ≤ ρ 2 t ∧ ρ 2 t ≤ 5 := hw 2 t (by decide)
        refine ev_goto (t := 211) (q := 211) dR_leaf_140 rfl rfl ?_
        exact zr_iret dR_leaf_211 rfl ⟨by rw [rR_leaf, if_pos h1, if_pos h2, if_neg (fun z => z h3)], rfl⟩
    · refine ev_iload_n 2 (q := 49) dR_leaf_48 rfl (by rfl) rfl ?_
      refine ev_bipush (v := iI 11) (q := 51) dR_leaf_49 (by decide) rfl ?_
      refine zr_icmp_gt (t := 130) (q := 54) dR_leaf_51 rfl rfl ⟨by omega, by omega⟩ ⟨by omega, by omega⟩ (fun h14 => ?_) (fun h14 => ?_)
      · refine ev_iload_n 2 (q := 131) dR_leaf_130 rfl (by rfl) rfl ?_
        refine zr_if_ne (t := 143) (q := 134) dR_leaf_131 rfl rfl ⟨by omega, by omega⟩ (fun h15 => ?_) (fun h15 => ?_)
        · refine ev_iload_n 2 (q := 144) dR_leaf_143 rfl (by rfl) rfl ?_
          refine ev_iconst (v := iI 1) (q := 145) dR_leaf_144 rfl rfl ?_
          refine zr_icmp_ne (t := 157) (q := 148) dR_leaf_145 rfl rfl ⟨by omega, by omega⟩ ⟨by omega, by omega⟩ (fun h16 => ?_) (fun h16 => ?_)
          · refine ev_iload_n 2 (q := 158) dR_leaf_157 rfl (by rfl) rfl ?_
            refine ev_iconst (v := iI 2) (q := 159) dR_leaf_158 rfl rfl ?_
            refine zr_icmp_ne (t := 171) (q := 162) dR_leaf_159 rfl rfl ⟨by omega, by omega⟩ ⟨by omega, by omega⟩ (fun h17 => ?_) (fun h17 => ?_)
            · refine ev_iload_n 2 (q := 172) dR_leaf_171 rfl (by rfl) rfl ?_
              refine ev_bipush (v := iI 7) (q := 174) dR_leaf_172 (by decide) rfl ?_
              refine zr_icmp_ne (t := 186) (q := 177) dR_leaf_174 rfl rfl ⟨by omega, by omega⟩ ⟨by omega, by omega⟩ (fun h18 => ?_) (fun h18 => ?_)
              · refine ev_iload_n 2 (q := 187) dR_leaf_186 rfl (by rfl) rfl ?_
                refine ev_bipush (v := iI 12) (q := 189) dR_leaf_187 (by decide) rfl ?_
                refine zr_icmp_ne (t := 200) (q := 192) dR_leaf_189 rfl rfl ⟨by omega, by omega⟩ ⟨by omega, by omega⟩ (fun h19 => ?_) (fun h19 => ?_)
                · refine ev_iload_n 2 (q := 201) dR_leaf_200 rfl (by rfl) rfl ?_
                  refine ev_bipush (v := iI 15) (q := 203) dR_leaf_201 (by decide) rfl ?_
                  refine zr_icmp_ne (t := 210) (q := 206) dR_leaf_203 rfl rfl ⟨by omega, by omega⟩ ⟨by omega, by omega⟩ (fun h20 => ?_) (fun h20 => ?_)
                  · refine ev_iconst (v := iI 0) (q := 211) dR_leaf_210 rfl rfl ?_
                    exact zr_iret dR_leaf_211 rfl ⟨by rw [rR_leaf, if_pos h1, if_neg (Int.not_lt.mpr h2), if_pos h14, if_pos h15, if_pos h16, if_pos h17, if_pos h18, if_pos h19, if_pos h20], rfl⟩
                  · refine ev_iload_n 1 (q := 207) dR_leaf_206 rfl (by rfl) rfl ?_
                    refine ev_goto (t := 211) (q := 211) dR_leaf_207 rfl rfl ?_
                    exact zr_iret dR_leaf_211 rfl ⟨by rw [rR_leaf, if_pos h1, if_neg (Int.not_lt.mpr h2), if_pos h14, if_pos h15, if_pos h16, if_pos h17, if_pos h18, if_pos h19, if_neg (fun z => z h20)], rfl⟩
                · refine ev_aload_n 0 (q := 193) dR_leaf_192 rfl (by rfl) rfl ?_
                  refine ev_iload_n 1 (q := 194) dR_leaf_193 rfl (by rfl) rfl ?_
                  refine cv_V (As := [_]) (q := 197) dR_leaf_194 kR_133 atR rfl rfl (Nat.le_of_ble_eq_true rfl) rfl rfl rfl (by decide) (sR_needs hw t ⟨by omega, by omega⟩ ) ?_
                  have g21 := bR_needs hw t ⟨by omega, by omega⟩ 
                  refine ev_goto (t := 211) (q := 211) dR_leaf_197 rfl rfl ?_
                  exact zr_iret dR_leaf_211 rfl ⟨by rw [rR_leaf, if_pos h1, if_neg (Int.not_lt.mpr h2), if_pos h14, if_pos h15, if_pos h16, if_pos h17, if_pos h18, if_neg (fun z => z h19)], rfl⟩
              · refine ev_aload_n 0 (q := 178) dR_leaf_177 rfl (by rfl) rfl ?_
                refine ev_get (q := 181) dR_leaf_178 fR_7 atR (by rfl) rfl ?_
                refine ev_iload_n 1 (q := 182) dR_leaf_181 rfl (by rfl) rfl ?_
                refine zr_iald (q := 183) (g := ρ 1) dR_leaf_182 at_begunBy (by decide) ⟨by omega, by omega⟩ rfl ?_
                have g22 : 0 ≤ ρ 1 t ∧ ρ 1 t ≤ 3 := hw 1 t (by decide)
                refine ev_goto (t := 211) (q := 211) dR_leaf_183 rfl rfl ?_
                exact zr_iret dR_leaf_211 rfl ⟨by rw [rR_leaf, if_pos h1, if_neg (Int.not_lt.mpr h2), if_pos h14, if_pos h15, if_pos h16, if_pos h17, if_neg (fun z => z h18)], rfl⟩
            · refine ev_aload_n 0 (q := 163) dR_leaf_162 rfl (by rfl) rfl ?_
              refine ev_get (q := 166) dR_leaf_163 fR_19 atR (by rfl) rfl ?_
              refine ev_iload_n 1 (q := 167) dR_leaf_166 rfl (by rfl) rfl ?_
              refine zr_iald (q := 168) (g := ρ 4) dR_leaf_167 at_untilTime (by decide) ⟨by omega, by omega⟩ rfl ?_
              have g23 : 0 ≤ ρ 4 t ∧ ρ 4 t ≤ 1000000 := hw 4 t (by decide)
              refine ev_goto (t := 211) (q := 211) dR_leaf_168 rfl rfl ?_
              exact zr_iret dR_leaf_211 rfl ⟨by rw [rR_leaf, if_pos h1, if_neg (Int.not_lt.mpr h2), if_pos h14, if_pos h15, if_pos h16, if_neg (fun z => z h17)], rfl⟩
          · refine ev_aload_n 0 (q := 149) dR_leaf_148 rfl (by rfl) rfl ?_
            refine ev_get (q := 152) dR_leaf_149 fR_16 atR (by rfl) rfl ?_
            refine ev_iload_n 1 (q := 153) dR_leaf_152 rfl (by rfl) rfl ?_
            refine zr_iald (q := 154) (g := ρ 3) dR_leaf_153 at_fromTime (by decide) ⟨by omega, by omega⟩ rfl ?_
            have g24 : 0 ≤ ρ 3 t ∧ ρ 3 t ≤ 1000000 := hw 3 t (by decide)
            refine ev_goto (t := 211) (q := 211) dR_leaf_154 rfl rfl ?_
            exact zr_iret dR_leaf_211 rfl ⟨by rw [rR_leaf, if_pos h1, if_neg (Int.not_lt.mpr h2), if_pos h14, if_pos h15, if_neg (fun z => z h16)], rfl⟩
        · refine ev_aload_n 0 (q := 135) dR_leaf_134 rfl (by rfl) rfl ?_
          refine ev_get (q := 138) dR_leaf_135 fR_13 atR (by rfl) rfl ?_
          refine ev_iload_n 1 (q := 139) dR_leaf_138 rfl (by rfl) rfl ?_
          refine zr_iald (q := 140) (g := ρ 2) dR_leaf_139 at_notaryOf (by decide) ⟨by omega, by omega⟩ rfl ?_
          have g25 : 0 ≤ ρ 2 t ∧ ρ 2 t ≤ 5 := hw 2 t (by decide)
          refine ev_goto (t := 211) (q := 211) dR_leaf_140 rfl rfl ?_
          exact zr_iret dR_leaf_211 rfl ⟨by rw [rR_leaf, if_pos h1, if_neg (Int.not_lt.mpr h2), if_pos h14, if_neg (fun z => z h15)], rfl⟩
      · refine ev_iconst (v := iI 4) (q := 55) dR_leaf_54 rfl rfl ?_
        refine ev_iload_n 1 (q := 56) dR_leaf_55 rfl (by rfl) rfl ?_
        refine zr_imul (q := 57) dR_leaf_56 rfl ?_
        refine ev_iload_n 2 (q := 58) dR_leaf_57 rfl (by rfl) rfl ?_
        refine zr_iadd (q := 59) dR_leaf_58 rfl ?_
        refine ev_bipush (v := iI 8) (q := 61) dR_leaf_59 (by decide) rfl ?_
        refine zr_isub (q := 62) dR_leaf_61 rfl ?_
        refine ev_istore_n 3 (q := 63) dR_leaf_62 rfl (by decide) rfl rfl ?_
        dsimp only [List.set]
        refine ev_iload_n 2 (q := 64) dR_leaf_63 rfl (by rfl) rfl ?_
        refine ev_bipush (v := iI 8) (q := 66) dR_leaf_64 (by decide) rfl ?_
        refine zr_isub (q := 67) dR_leaf_66 rfl ?_
        refine ev_aload_n 0 (q := 68) dR_leaf_67 rfl (by rfl) rfl ?_
        refine ev_get (q := 71) dR_leaf_68 fR_38 atR (by rfl) rfl ?_
        refine ev_iload_n 1 (q := 72) dR_leaf_71 rfl (by rfl) rfl ?_
        refine zr_iald (q := 73) (g := ρ 10) dR_leaf_72 at_outputs (by decide) ⟨by omega, by omega⟩ rfl ?_
        have g26 : 0 ≤ ρ 10 t ∧ ρ 10 t ≤ 4 := hw 10 t (by decide)
        refine zr_icmp_lt (t := 80) (q := 76) dR_leaf_73 rfl rfl ⟨by omega, by omega⟩ ⟨by omega, by omega⟩ (fun h27 => ?_) (fun h27 => ?_)
        · refine ev_iconst (v := iI 1) (q := 81) dR_leaf_80 rfl rfl ?_
          refine ev_aload_n 0 (q := 82) dR_leaf_81 rfl (by rfl) rfl ?_
          refine ev_get (q := 85) dR_leaf_82 fR_44 atR (by rfl) rfl ?_
          refine ev_iload_n 3 (q := 86) dR_leaf_85 rfl (by rfl) rfl ?_
          refine zr_iald (q := 87) (g := ρ 12) dR_leaf_86 at_kindOf (by decide) ⟨by omega, by omega⟩ rfl ?_
          have g28 : 0 ≤ ρ 12 (((4 * t) + i) - 8) ∧ ρ 12 (((4 * t) + i) - 8) ≤ 2 := hw 12 (((4 * t) + i) - 8) (by decide)
          refine zr_iadd (q := 88) dR_leaf_87 rfl ?_
          refine ev_iconst (v := iI 3) (q := 89) dR_leaf_88 rfl rfl ?_
          refine ev_aload_n 0 (q := 90) dR_leaf_89 rfl (by rfl) rfl ?_
          refine ev_get (q := 93) dR_leaf_90 fR_47 atR (by rfl) rfl ?_
          refine ev_iload_n 3 (q := 94) dR_leaf_93 rfl (by rfl) rfl ?_
          refine zr_iald (q := 95) (g := ρ 13) dR_leaf_94 at_first (by decide) ⟨by omega, by omega⟩ rfl ?_
          have g29 : 0 ≤ ρ 13 (((4 * t) + i) - 8) ∧ ρ 13 (((4 * t) + i) - 8) ≤ 3 := hw 13 (((4 * t) + i) - 8) (by decide)
          refine zr_imul (q := 96) dR_leaf_95 rfl ?_
          refine zr_iadd (q := 97) dR_leaf_96 rfl ?_
          refine ev_bipush (v := iI 12) (q := 99) dR_leaf_97 (by decide) rfl ?_
          refine ev_aload_n 0 (q := 100) dR_leaf_99 rfl (by rfl) rfl ?_
          refine ev_get (q := 103) dR_leaf_100 fR_50 atR (by rfl) rfl ?_
          refine ev_iload_n 3 (q := 104) dR_leaf_103 rfl (by rfl) rfl ?_
          refine zr_iald (q := 105) (g := ρ 14) dR_leaf_104 at_second (by decide) ⟨by omega, by omega⟩ rfl ?_
          have g30 : 0 ≤ ρ 14 (((4 * t) + i) - 8) ∧ ρ 14 (((4 * t) + i) - 8) ≤ 3 := hw 14 (((4 * t) + i) - 8) (by decide)
          refine zr_imul (q := 106) dR_leaf_105 rfl ?_
          refine zr_iadd (q := 107) dR_leaf_106 rfl ?_
          refine ev_bipush (v := iI 48) (q := 109) dR_leaf_107 (by decide) rfl ?_
          refine ev_aload_n 0 (q := 110) dR_leaf_109 rfl (by rfl) rfl ?_
          refine ev_get (q := 113) dR_leaf_110 fR_53 atR (by rfl) rfl ?_
          refine ev_iload_n 3 (q := 114) dR_leaf_113 rfl (by rfl) rfl ?_
          refine zr_iald (q := 115) (g := ρ 15) dR_leaf_114 at_amountOf (by decide) ⟨by omega, by omega⟩ rfl ?_
          have g31 : 0 ≤ ρ 15 (((4 * t) + i) - 8) ∧ ρ 15 (((4 * t) + i) - 8) ≤ 1000 := hw 15 (((4 * t) + i) - 8) (by decide)
          refine zr_imul (q := 116) dR_leaf_115 rfl ?_
          refine zr_iadd (q := 117) dR_leaf_116 rfl ?_
          refine ev_ldc (v := iI 49152) (q := 119) dR_leaf_117 wkR_184 rfl ?_
          refine ev_aload_n 0 (q := 120) dR_leaf_119 rfl (by rfl) rfl ?_
          refine ev_get (q := 123) dR_leaf_120 fR_56 atR (by rfl) rfl ?_
          refine ev_iload_n 3 (q := 124) dR_leaf_123 rfl (by rfl) rfl ?_
          refine zr_iald (q := 125) (g := ρ 16) dR_leaf_124 at_boundTo (by decide) ⟨by omega, by omega⟩ rfl ?_
          have g32 : -1 ≤ ρ 16 (((4 * t) + i) - 8) ∧ ρ 16 (((4 * t) + i) - 8) ≤ 3 := hw 16 (((4 * t) + i) - 8) (by decide)
          refine ev_iconst (v := iI 1) (q := 126) dR_leaf_125 rfl rfl ?_
          refine zr_iadd (q := 127) dR_leaf_126 rfl ?_
          refine zr_imul (q := 128) dR_leaf_127 rfl ?_
          refine zr_iadd (q := 129) dR_leaf_128 rfl ?_
          exact zr_iret dR_leaf_129 rfl ⟨by rw [rR_leaf, if_pos h1, if_neg (Int.not_lt.mpr h2), if_neg (Int.not_lt.mpr h14), if_pos h27], rfl⟩
        · refine ev_iconst (v := iI 0) (q := 77) dR_leaf_76 rfl rfl ?_
          refine ev_goto (t := 129) (q := 129) dR_leaf_77 rfl rfl ?_
          exact zr_iret dR_leaf_129 rfl ⟨by rw [rR_leaf, if_pos h1, if_neg (Int.not_lt.mpr h2), if_neg (Int.not_lt.mpr h14), if_neg (Int.not_lt.mpr h27)], rfl⟩
  · refine ev_iload_n 2 (q := 6) dR_leaf_5 rfl (by rfl) rfl ?_
    refine ev_bipush (v := iI 6) (q := 8) dR_leaf_6 (by decide) rfl ?_
    refine zr_icmp_gt (t := 42) (q := 11) dR_leaf_8 rfl rfl ⟨by omega, by omega⟩ ⟨by omega, by omega⟩ (fun h33 => ?_) (fun h33 => ?_)
    · refine ev_iload_n 2 (q := 43) dR_leaf_42 rfl (by rfl) rfl ?_
      refine ev_bipush (v := iI 8) (q := 45) dR_leaf_43 (by decide) rfl ?_
      refine zr_icmp_lt (t := 130) (q := 48) dR_leaf_45 rfl rfl ⟨by omega, by omega⟩ ⟨by omega, by omega⟩ (fun h34 => ?_) (fun h34 => ?_)
      · refine ev_iload_n 2 (q := 131) dR_leaf_130 rfl (by rfl) rfl ?_
        refine zr_if_ne (t := 143) (q := 134) dR_leaf_131 rfl rfl ⟨by omega, by omega⟩ (fun h35 => ?_) (fun h35 => ?_)
        · refine ev_iload_n 2 (q := 144) dR_leaf_143 rfl (by rfl) rfl ?_
          refine ev_iconst (v := iI 1) (q := 145) dR_leaf_144 rfl rfl ?_
          refine zr_icmp_ne (t := 157) (q := 148) dR_leaf_145 rfl rfl ⟨by omega, by omega⟩ ⟨by omega, by omega⟩ (fun h36 => ?_) (fun h36 => ?_)
          · refine ev_iload_n 2 (q := 158) dR_leaf_157 rfl (by rfl) rfl ?_
            refine ev_iconst (v := iI 2) (q := 159) dR_leaf_158 rfl rfl ?_
            refine zr_icmp_ne (t := 171) (q := 162) dR_leaf_159 rfl rfl ⟨by omega, by omega⟩ ⟨by omega, by omega⟩ (fun h37 => ?_) (fun h37 => ?_)
            · refine ev_iload_n 2 (q := 172) dR_leaf_171 rfl (by rfl) rfl ?_
              refine ev_bipush (v := iI 7) (q := 174) dR_leaf_172 (by decide) rfl ?_
              refine zr_icmp_ne (t := 186) (q := 177) dR_leaf_174 rfl rfl ⟨by omega, by omega⟩ ⟨by omega, by omega⟩ (fun h38 => ?_) (fun h38 => ?_)
              · refine ev_iload_n 2 (q := 187) dR_leaf_186 rfl (by rfl) rfl ?_
                refine ev_bipush (v := iI 12) (q := 189) dR_leaf_187 (by decide) rfl ?_
                refine zr_icmp_ne (t := 200) (q := 192) dR_leaf_189 rfl rfl ⟨by omega, by omega⟩ ⟨by omega, by omega⟩ (fun h39 => ?_) (fun h39 => ?_)
                · refine ev_iload_n 2 (q := 201) dR_leaf_200 rfl (by rfl) rfl ?_
                  refine ev_bipush (v := iI 15) (q := 203) dR_leaf_201 (by decide) rfl ?_
                  refine zr_icmp_ne (t := 210) (q := 206) dR_leaf_203 rfl rfl ⟨by omega, by omega⟩ ⟨by omega, by omega⟩ (fun h40 => ?_) (fun h40 => ?_)
                  · refine ev_iconst (v := iI 0) (q := 211) dR_leaf_210 rfl rfl ?_
                    exact zr_iret dR_leaf_211 rfl ⟨by rw [rR_leaf, if_neg (Int.not_lt.mpr h1), if_pos h33, if_pos h34, if_pos h35, if_pos h36, if_pos h37, if_pos h38, if_pos h39, if_pos h40], rfl⟩
                  · refine ev_iload_n 1 (q := 207) dR_leaf_206 rfl (by rfl) rfl ?_
                    refine ev_goto (t := 211) (q := 211) dR_leaf_207 rfl rfl ?_
                    exact zr_iret dR_leaf_211 rfl ⟨by rw [rR_leaf, if_neg (Int.not_lt.mpr h1), if_pos h33, if_pos h34, if_pos h35, if_pos h36, if_pos h37, if_pos h38, if_pos h39, if_neg (fun z => z h40)], rfl⟩
                · refine ev_aload_n 0 (q := 193) dR_leaf_192 rfl (by rfl) rfl ?_
                  refine ev_iload_n 1 (q := 194) dR_leaf_193 rfl (by rfl) rfl ?_
                  refine cv_V (As := [_]) (q := 197) dR_leaf_194 kR_133 atR rfl rfl (Nat.le_of_ble_eq_true rfl) rfl rfl rfl (by decide) (sR_needs hw t ⟨by omega, by omega⟩ ) ?_
                  have g41 := bR_needs hw t ⟨by omega, by omega⟩ 
                  refine ev_goto (t := 211) (q := 211) dR_leaf_197 rfl rfl ?_
                  exact zr_iret dR_leaf_211 rfl ⟨by rw [rR_leaf, if_neg (Int.not_lt.mpr h1), if_pos h33, if_pos h34, if_pos h35, if_pos h36, if_pos h37, if_pos h38, if_neg (fun z => z h39)], rfl⟩
              · refine ev_aload_n 0 (q := 178) dR_leaf_177 rfl (by rfl) rfl ?_
                refine ev_get (q := 181) dR_leaf_178 fR_7 atR (by rfl) rfl ?_
                refine ev_iload_n 1 (q := 182) dR_leaf_181 rfl (by rfl) rfl ?_
                refine zr_iald (q := 183) (g := ρ 1) dR_leaf_182 at_begunBy (by decide) ⟨by omega, by omega⟩ rfl ?_
                have g42 : 0 ≤ ρ 1 t ∧ ρ 1 t ≤ 3 := hw 1 t (by decide)
                refine ev_goto (t := 211) (q := 211) dR_leaf_183 rfl rfl ?_
                exact zr_iret dR_leaf_211 rfl ⟨by rw [rR_leaf, if_neg (Int.not_lt.mpr h1), if_pos h33, if_pos h34, if_pos h35, if_pos h36, if_pos h37, if_neg (fun z => z h38)], rfl⟩
            · refine ev_aload_n 0 (q := 163) dR_leaf_162 rfl (by rfl) rfl ?_
              refine ev_get (q := 166) dR_leaf_163 fR_19 atR (by rfl) rfl ?_
              refine ev_iload_n 1 (q := 167) dR_leaf_166 rfl (by rfl) rfl ?_
              refine zr_iald (q := 168) (g := ρ 4) dR_leaf_167 at_untilTime (by decide) ⟨by omega, by omega⟩ rfl ?_
              have g43 : 0 ≤ ρ 4 t ∧ ρ 4 t ≤ 1000000 := hw 4 t (by decide)
              refine ev_goto (t := 211) (q := 211) dR_leaf_168 rfl rfl ?_
              exact zr_iret dR_leaf_211 rfl ⟨by rw [rR_leaf, if_neg (Int.not_lt.mpr h1), if_pos h33, if_pos h34, if_pos h35, if_pos h36, if_neg (fun z => z h37)], rfl⟩
          · refine ev_aload_n 0 (q := 149) dR_leaf_148 rfl (by rfl) rfl ?_
            refine ev_get (q := 152) dR_leaf_149 fR_16 atR (by rfl) rfl ?_
            refine ev_iload_n 1 (q := 153) dR_leaf_152 rfl (by rfl) rfl ?_
            refine zr_iald (q := 154) (g := ρ 3) dR_leaf_153 at_fromTime (by decide) ⟨by omega, by omega⟩ rfl ?_
            have g44 : 0 ≤ ρ 3 t ∧ ρ 3 t ≤ 1000000 := hw 3 t (by decide)
            refine ev_goto (t := 211) (q := 211) dR_leaf_154 rfl rfl ?_
            exact zr_iret dR_leaf_211 rfl ⟨by rw [rR_leaf, if_neg (Int.not_lt.mpr h1), if_pos h33, if_pos h34, if_pos h35, if_neg (fun z => z h36)], rfl⟩
        · refine ev_aload_n 0 (q := 135) dR_leaf_134 rfl (by rfl) rfl ?_
          refine ev_get (q := 138) dR_leaf_135 fR_13 atR (by rfl) rfl ?_
          refine ev_iload_n 1 (q := 139) dR_leaf_138 rfl (by rfl) rfl ?_
          refine zr_iald (q := 140) (g := ρ 2) dR_leaf_139 at_notaryOf (by decide) ⟨by omega, by omega⟩ rfl ?_
          have g45 : 0 ≤ ρ 2 t ∧ ρ 2 t ≤ 5 := hw 2 t (by decide)
          refine ev_goto (t := 211) (q := 211) dR_leaf_140 rfl rfl ?_
          exact zr_iret dR_leaf_211 rfl ⟨by rw [rR_leaf, if_neg (Int.not_lt.mpr h1), if_pos h33, if_pos h34, if_neg (fun z => z h35)], rfl⟩
      · refine ev_iload_n 2 (q := 49) dR_leaf_48 rfl (by rfl) rfl ?_
        refine ev_bipush (v := iI 11) (q := 51) dR_leaf_49 (by decide) rfl ?_
        refine zr_icmp_gt (t := 130) (q := 54) dR_leaf_51 rfl rfl ⟨by omega, by omega⟩ ⟨by omega, by omega⟩ (fun h46 => ?_) (fun h46 => ?_)
        · refine ev_iload_n 2 (q := 131) dR_leaf_130 rfl (by rfl) rfl ?_
          refine zr_if_ne (t := 143) (q := 134) dR_leaf_131 rfl rfl ⟨by omega, by omega⟩ (fun h47 => ?_) (fun h47 => ?_)
          · refine ev_iload_n 2 (q := 144) dR_leaf_143 rfl (by rfl) rfl ?_
            refine ev_iconst (v := iI 1) (q := 145) dR_leaf_144 rfl rfl ?_
            refine zr_icmp_ne (t := 157) (q := 148) dR_leaf_145 rfl rfl ⟨by omega, by omega⟩ ⟨by omega, by omega⟩ (fun h48 => ?_) (fun h48 => ?_)
            · refine ev_iload_n 2 (q := 158) dR_leaf_157 rfl (by rfl) rfl ?_
              refine ev_iconst (v := iI 2) (q := 159) dR_leaf_158 rfl rfl ?_
              refine zr_icmp_ne (t := 171) (q := 162) dR_leaf_159 rfl rfl ⟨by omega, by omega⟩ ⟨by omega, by omega⟩ (fun h49 => ?_) (fun h49 => ?_)
              · refine ev_iload_n 2 (q := 172) dR_leaf_171 rfl (by rfl) rfl ?_
                refine ev_bipush (v := iI 7) (q := 174) dR_leaf_172 (by decide) rfl ?_
                refine zr_icmp_ne (t := 186) (q := 177) dR_leaf_174 rfl rfl ⟨by omega, by omega⟩ ⟨by omega, by omega⟩ (fun h50 => ?_) (fun h50 => ?_)
                · refine ev_iload_n 2 (q := 187) dR_leaf_186 rfl (by rfl) rfl ?_
                  refine ev_bipush (v := iI 12) (q := 189) dR_leaf_187 (by decide) rfl ?_
                  refine zr_icmp_ne (t := 200) (q := 192) dR_leaf_189 rfl rfl ⟨by omega, by omega⟩ ⟨by omega, by omega⟩ (fun h51 => ?_) (fun h51 => ?_)
                  · refine ev_iload_n 2 (q := 201) dR_leaf_200 rfl (by rfl) rfl ?_
                    refine ev_bipush (v := iI 15) (q := 203) dR_leaf_201 (by decide) rfl ?_
                    refine zr_icmp_ne (t := 210) (q := 206) dR_leaf_203 rfl rfl ⟨by omega, by omega⟩ ⟨by omega, by omega⟩ (fun h52 => ?_) (fun h52 => ?_)
                    · refine ev_iconst (v := iI 0) (q := 211) dR_leaf_210 rfl rfl ?_
                      exact zr_iret dR_leaf_211 rfl ⟨by rw [rR_leaf, if_neg (Int.not_lt.mpr h1), if_pos h33, if_neg (Int.not_lt.mpr h34), if_pos h46, if_pos h47, if_pos h48, if_pos h49, if_pos h50, if_pos h51, if_pos h52], rfl⟩
                    · refine ev_iload_n 1 (q := 207) dR_leaf_206 rfl (by rfl) rfl ?_
                      refine ev_goto (t := 211) (q := 211) dR_leaf_207 rfl rfl ?_
                      exact zr_iret dR_leaf_211 rfl ⟨by rw [rR_leaf, if_neg (Int.not_lt.mpr h1), if_pos h33, if_neg (Int.not_lt.mpr h34), if_pos h46, if_pos h47, if_pos h48, if_pos h49, if_pos h50, if_pos h51, if_neg (fun z => z h52)], rfl⟩
                  · refine ev_aload_n 0 (q := 193) dR_leaf_192 rfl (by rfl) rfl ?_
                    refine ev_iload_n 1 (q := 194) dR_leaf_193 rfl (by rfl) rfl ?_
                    refine cv_V (As := [_]) (q := 197) dR_leaf_194 kR_133 atR rfl rfl (Nat.le_of_ble_eq_true rfl) rfl rfl rfl (by decide) (sR_needs hw t ⟨by omega, by omega⟩ ) ?_
                    have g53 := bR_needs hw t ⟨by omega, by omega⟩ 
                    refine ev_goto (t := 211) (q := 211) dR_leaf_197 rfl rfl ?_
                    exact zr_iret dR_leaf_211 rfl ⟨by rw [rR_leaf, if_neg (Int.not_lt.mpr h1), if_pos h33, if_neg (Int.not_lt.mpr h34), if_pos h46, if_pos h47, if_pos h48, if_pos h49, if_pos h50, if_neg (fun z => z h51)], rfl⟩
                · refine ev_aload_n 0 (q := 178) dR_leaf_177 rfl (by rfl) rfl ?_
                  refine ev_get (q := 181) dR_leaf_178 fR_7 atR (by rfl) rfl ?_
                  refine ev_iload_n 1 (q := 182) dR_leaf_181 rfl (by rfl) rfl ?_
                  refine zr_iald (q := 183) (g := ρ 1) dR_leaf_182 at_begunBy (by decide) ⟨by omega, by omega⟩ rfl ?_
                  have g54 : 0 ≤ ρ 1 t ∧ ρ 1 t ≤ 3 := hw 1 t (by decide)
                  refine ev_goto (t := 211) (q := 211) dR_leaf_183 rfl rfl ?_
                  exact zr_iret dR_leaf_211 rfl ⟨by rw [rR_leaf, if_neg (Int.not_lt.mpr h1), if_pos h33, if_neg (Int.not_lt.mpr h34), if_pos h46, if_pos h47, if_pos h48, if_pos h49, if_neg (fun z => z h50)], rfl⟩
              · refine ev_aload_n 0 (q := 163) dR_leaf_162 rfl (by rfl) rfl ?_
                refine ev_get (q := 166) dR_leaf_163 fR_19 atR (by rfl) rfl ?_
                refine ev_iload_n 1 (q := 167) dR_leaf_166 rfl (by rfl) rfl ?_
                refine zr_iald (q := 168) (g := ρ 4) dR_leaf_167 at_untilTime (by decide) ⟨by omega, by omega⟩ rfl ?_
                have g55 : 0 ≤ ρ 4 t ∧ ρ 4 t ≤ 1000000 := hw 4 t (by decide)
                refine ev_goto (t := 211) (q := 211) dR_leaf_168 rfl rfl ?_
                exact zr_iret dR_leaf_211 rfl ⟨by rw [rR_leaf, if_neg (Int.not_lt.mpr h1), if_pos h33, if_neg (Int.not_lt.mpr h34), if_pos h46, if_pos h47, if_pos h48, if_neg (fun z => z h49)], rfl⟩
            · refine ev_aload_n 0 (q := 149) dR_leaf_148 rfl (by rfl) rfl ?_
              refine ev_get (q := 152) dR_leaf_149 fR_16 atR (by rfl) rfl ?_
              refine ev_iload_n 1 (q := 153) dR_leaf_152 rfl (by rfl) rfl ?_
              refine zr_iald (q := 154) (g := ρ 3) dR_leaf_153 at_fromTime (by decide) ⟨by omega, by omega⟩ rfl ?_
              have g56 : 0 ≤ ρ 3 t ∧ ρ 3 t ≤ 1000000 := hw 3 t (by decide)
              refine ev_goto (t := 211) (q := 211) dR_leaf_154 rfl rfl ?_
              exact zr_iret dR_leaf_211 rfl ⟨by rw [rR_leaf, if_neg (Int.not_lt.mpr h1), if_pos h33, if_neg (Int.not_lt.mpr h34), if_pos h46, if_pos h47, if_neg (fun z => z h48)], rfl⟩
          · refine ev_aload_n 0 (q := 135) dR_leaf_134 rfl (by rfl) rfl ?_
            refine ev_get (q := 138) dR_leaf_135 fR_13 atR (by rfl) rfl ?_
            refine ev_iload_n 1 (q := 139) dR_leaf_138 rfl (by rfl) rfl ?_
            refine zr_iald (q := 140) (g := ρ 2) dR_leaf_139 at_notaryOf (by decide) ⟨by omega, by omega⟩ rfl ?_
            have g57 : 0 ≤ ρ 2 t ∧ ρ 2 t ≤ 5 := hw 2 t (by decide)
            refine ev_goto (t := 211) (q := 211) dR_leaf_140 rfl rfl ?_
            exact zr_iret dR_leaf_211 rfl ⟨by rw [rR_leaf, if_neg (Int.not_lt.mpr h1), if_pos h33, if_neg (Int.not_lt.mpr h34), if_pos h46, if_neg (fun z => z h47)], rfl⟩
        · refine ev_iconst (v := iI 4) (q := 55) dR_leaf_54 rfl rfl ?_
          refine ev_iload_n 1 (q := 56) dR_leaf_55 rfl (by rfl) rfl ?_
          refine zr_imul (q := 57) dR_leaf_56 rfl ?_
          refine ev_iload_n 2 (q := 58) dR_leaf_57 rfl (by rfl) rfl ?_
          refine zr_iadd (q := 59) dR_leaf_58 rfl ?_
          refine ev_bipush (v := iI 8) (q := 61) dR_leaf_59 (by decide) rfl ?_
          refine zr_isub (q := 62) dR_leaf_61 rfl ?_
          refine ev_istore_n 3 (q := 63) dR_leaf_62 rfl (by decide) rfl rfl ?_
          dsimp only [List.set]
          refine ev_iload_n 2 (q := 64) dR_leaf_63 rfl (by rfl) rfl ?_
          refine ev_bipush (v := iI 8) (q := 66) dR_leaf_64 (by decide) rfl ?_
          refine zr_isub (q := 67) dR_leaf_66 rfl ?_
          refine ev_aload_n 0 (q := 68) dR_leaf_67 rfl (by rfl) rfl ?_
          refine ev_get (q := 71) dR_leaf_68 fR_38 atR (by rfl) rfl ?_
          refine ev_iload_n 1 (q := 72) dR_leaf_71 rfl (by rfl) rfl ?_
          refine zr_iald (q := 73) (g := ρ 10) dR_leaf_72 at_outputs (by decide) ⟨by omega, by omega⟩ rfl ?_
          have g58 : 0 ≤ ρ 10 t ∧ ρ 10 t ≤ 4 := hw 10 t (by decide)
          refine zr_icmp_lt (t := 80) (q := 76) dR_leaf_73 rfl rfl ⟨by omega, by omega⟩ ⟨by omega, by omega⟩ (fun h59 => ?_) (fun h59 => ?_)
          · refine ev_iconst (v := iI 1) (q := 81) dR_leaf_80 rfl rfl ?_
            refine ev_aload_n 0 (q := 82) dR_leaf_81 rfl (by rfl) rfl ?_
            refine ev_get (q := 85) dR_leaf_82 fR_44 atR (by rfl) rfl ?_
            refine ev_iload_n 3 (q := 86) dR_leaf_85 rfl (by rfl) rfl ?_
            refine zr_iald (q := 87) (g := ρ 12) dR_leaf_86 at_kindOf (by decide) ⟨by omega, by omega⟩ rfl ?_
            have g60 : 0 ≤ ρ 12 (((4 * t) + i) - 8) ∧ ρ 12 (((4 * t) + i) - 8) ≤ 2 := hw 12 (((4 * t) + i) - 8) (by decide)
            refine zr_iadd (q := 88) dR_leaf_87 rfl ?_
            refine ev_iconst (v := iI 3) (q := 89) dR_leaf_88 rfl rfl ?_
            refine ev_aload_n 0 (q := 90) dR_leaf_89 rfl (by rfl) rfl ?_
            refine ev_get (q := 93) dR_leaf_90 fR_47 atR (by rfl) rfl ?_
            refine ev_iload_n 3 (q := 94) dR_leaf_93 rfl (by rfl) rfl ?_
            refine zr_iald (q := 95) (g := ρ 13) dR_leaf_94 at_first (by decide) ⟨by omega, by omega⟩ rfl ?_
            have g61 : 0 ≤ ρ 13 (((4 * t) + i) - 8) ∧ ρ 13 (((4 * t) + i) - 8) ≤ 3 := hw 13 (((4 * t) + i) - 8) (by decide)
            refine zr_imul (q := 96) dR_leaf_95 rfl ?_
            refine zr_iadd (q := 97) dR_leaf_96 rfl ?_
            refine ev_bipush (v := iI 12) (q := 99) dR_leaf_97 (by decide) rfl ?_
            refine ev_aload_n 0 (q := 100) dR_leaf_99 rfl (by rfl) rfl ?_
            refine ev_get (q := 103) dR_leaf_100 fR_50 atR (by rfl) rfl ?_
            refine ev_iload_n 3 (q := 104) dR_leaf_103 rfl (by rfl) rfl ?_
            refine zr_iald (q := 105) (g := ρ 14) dR_leaf_104 at_second (by decide) ⟨by omega, by omega⟩ rfl ?_
            have g62 : 0 ≤ ρ 14 (((4 * t) + i) - 8) ∧ ρ 14 (((4 * t) + i) - 8) ≤ 3 := hw 14 (((4 * t) + i) - 8) (by decide)
            refine zr_imul (q := 106) dR_leaf_105 rfl ?_
            refine zr_iadd (q := 107) dR_leaf_106 rfl ?_
            refine ev_bipush (v := iI 48) (q := 109) dR_leaf_107 (by decide) rfl ?_
            refine ev_aload_n 0 (q := 110) dR_leaf_109 rfl (by rfl) rfl ?_
            refine ev_get (q := 113) dR_leaf_110 fR_53 atR (by rfl) rfl ?_
            refine ev_iload_n 3 (q := 114) dR_leaf_113 rfl (by rfl) rfl ?_
            refine zr_iald (q := 115) (g := ρ 15) dR_leaf_114 at_amountOf (by decide) ⟨by omega, by omega⟩ rfl ?_
            have g63 : 0 ≤ ρ 15 (((4 * t) + i) - 8) ∧ ρ 15 (((4 * t) + i) - 8) ≤ 1000 := hw 15 (((4 * t) + i) - 8) (by decide)
            refine zr_imul (q := 116) dR_leaf_115 rfl ?_
            refine zr_iadd (q := 117) dR_leaf_116 rfl ?_
            refine ev_ldc (v := iI 49152) (q := 119) dR_leaf_117 wkR_184 rfl ?_
            refine ev_aload_n 0 (q := 120) dR_leaf_119 rfl (by rfl) rfl ?_
            refine ev_get (q := 123) dR_leaf_120 fR_56 atR (by rfl) rfl ?_
            refine ev_iload_n 3 (q := 124) dR_leaf_123 rfl (by rfl) rfl ?_
            refine zr_iald (q := 125) (g := ρ 16) dR_leaf_124 at_boundTo (by decide) ⟨by omega, by omega⟩ rfl ?_
            have g64 : -1 ≤ ρ 16 (((4 * t) + i) - 8) ∧ ρ 16 (((4 * t) + i) - 8) ≤ 3 := hw 16 (((4 * t) + i) - 8) (by decide)
            refine ev_iconst (v := iI 1) (q := 126) dR_leaf_125 rfl rfl ?_
            refine zr_iadd (q := 127) dR_leaf_126 rfl ?_
            refine zr_imul (q := 128) dR_leaf_127 rfl ?_
            refine zr_iadd (q := 129) dR_leaf_128 rfl ?_
            exact zr_iret dR_leaf_129 rfl ⟨by rw [rR_leaf, if_neg (Int.not_lt.mpr h1), if_pos h33, if_neg (Int.not_lt.mpr h34), if_neg (Int.not_lt.mpr h46), if_pos h59], rfl⟩
          · refine ev_iconst (v := iI 0) (q := 77) dR_leaf_76 rfl rfl ?_
            refine ev_goto (t := 129) (q := 129) dR_leaf_77 rfl rfl ?_
            exact zr_iret dR_leaf_129 rfl ⟨by rw [rR_leaf, if_neg (Int.not_lt.mpr h1), if_pos h33, if_neg (Int.not_lt.mpr h34), if_neg (Int.not_lt.mpr h46), if_neg (Int.not_lt.mpr h59)], rfl⟩
    · refine ev_iload_n 2 (q := 12) dR_leaf_11 rfl (by rfl) rfl ?_
      refine ev_iconst (v := iI 3) (q := 13) dR_leaf_12 rfl rfl ?_
      refine zr_isub (q := 14) dR_leaf_13 rfl ?_
      refine ev_aload_n 0 (q := 15) dR_leaf_14 rfl (by rfl) rfl ?_
      refine ev_get (q := 18) dR_leaf_15 fR_35 atR (by rfl) rfl ?_
      refine ev_iload_n 1 (q := 19) dR_leaf_18 rfl (by rfl) rfl ?_
      refine zr_iald (q := 20) (g := ρ 9) dR_leaf_19 at_inputs (by decide) ⟨by omega, by omega⟩ rfl ?_
      have g65 : 0 ≤ ρ 9 t ∧ ρ 9 t ≤ 4 := hw 9 t (by decide)
      refine zr_icmp_ge (t := 40) (q := 23) dR_leaf_20 rfl rfl ⟨by omega, by omega⟩ ⟨by omega, by omega⟩ (fun h66 => ?_) (fun h66 => ?_)
      · refine ev_iconst (v := iI 0) (q := 41) dR_leaf_40 rfl rfl ?_
        exact zr_iret dR_leaf_41 rfl ⟨by rw [rR_leaf, if_neg (Int.not_lt.mpr h1), if_neg (Int.not_lt.mpr h33), if_pos h66], rfl⟩
      · refine ev_iconst (v := iI 1) (q := 24) dR_leaf_23 rfl rfl ?_
        refine ev_aload_n 0 (q := 25) dR_leaf_24 rfl (by rfl) rfl ?_
        refine ev_get (q := 28) dR_leaf_25 fR_41 atR (by rfl) rfl ?_
        refine ev_iconst (v := iI 4) (q := 29) dR_leaf_28 rfl rfl ?_
        refine ev_iload_n 1 (q := 30) dR_leaf_29 rfl (by rfl) rfl ?_
        refine zr_imul (q := 31) dR_leaf_30 rfl ?_
        refine ev_iload_n 2 (q := 32) dR_leaf_31 rfl (by rfl) rfl ?_
        refine zr_iadd (q := 33) dR_leaf_32 rfl ?_
        refine ev_iconst (v := iI 3) (q := 34) dR_leaf_33 rfl rfl ?_
        refine zr_isub (q := 35) dR_leaf_34 rfl ?_
        refine zr_iald (q := 36) (g := ρ 11) dR_leaf_35 at_input (by decide) ⟨by omega, by omega⟩ rfl ?_
        have g67 : 0 ≤ ρ 11 (((4 * t) + i) - 3) ∧ ρ 11 (((4 * t) + i) - 3) ≤ 79 := hw 11 (((4 * t) + i) - 3) (by decide)
        refine zr_iadd (q := 37) dR_leaf_36 rfl ?_
        refine ev_goto (t := 41) (q := 41) dR_leaf_37 rfl rfl ?_
        exact zr_iret dR_leaf_41 rfl ⟨by rw [rR_leaf, if_neg (Int.not_lt.mpr h1), if_neg (Int.not_lt.mpr h33), if_neg (Int.not_le.mpr h66)], rfl⟩

def lR_judge_50 (ρ : z_Sg) (t : Int) : Nat → Int → Int
  | 0, k => 1
  | j + 1, k => if (ρ 17 (ρ 11 ((4 * t) + k))) < 0 then lR_judge_50 ρ t j (k + 1) else 4
set_option maxRecDepth 100000 in
set_option maxHeartbeats 4000000 in
theorem eR_judge_50 {κ ρ : z_Sg} {a : Int → Nat} {B : List va_E} (hw : z_wf ρ) (t : Int) (hp0 : 0 ≤ t ∧ t ≤ 19) : ∀ (j : Nat) (k : Int), 0 ≤ k → k + j = ρ 9 t → z_Ev mR_judge (6, 144) 0 0 50 [.ref 12, zi t, zi k] [] (zM κ a ρ B) (fun r M' => r = some (zi (lR_judge_50 ρ t j k)) ∧ M' = zM κ a ρ B) := by
  intro j
  induction j with
  | zero =>
    intro k  c0 c1
    refine ev_iload_n 2 (q := 51) dR_judge_50 rfl (by rfl) rfl ?_
    refine ev_aload_n 0 (q := 52) dR_judge_51 rfl (by rfl) rfl ?_
    refine ev_get (q := 55) dR_judge_52 fR_35 atR (by rfl) rfl ?_
    refine ev_iload_n 1 (q := 56) dR_judge_55 rfl (by rfl) rfl ?_
    refine zr_iald (q := 57) (g := ρ 9) dR_judge_56 at_inputs (by decide) ⟨by omega, by omega⟩ rfl ?_
    have g1 : 0 ≤ ρ 9 t ∧ ρ 9 t ≤ 4 := hw 9 t (by decide)
    refine zr_icmp_ge (t := 86) (q := 60) dR_judge_57 rfl rfl ⟨by omega, by omega⟩ ⟨by omega, by omega⟩ (fun h2 => ?_) (fun h2 => ?_)
    · refine ev_iconst (v := iI 1) (q := 87) dR_judge_86 rfl rfl ?_
      exact zr_iret dR_judge_87 rfl ⟨by rw [lR_judge_50], rfl⟩
    · exfalso
      omega
  | succ j ih =>
    intro k  c0 c1
    refine ev_iload_n 2 (q := 51) dR_judge_50 rfl (by rfl) rfl ?_
    refine ev_aload_n 0 (q := 52) dR_judge_51 rfl (by rfl) rfl ?_
    refine ev_get (q := 55) dR_judge_52 fR_35 atR (by rfl) rfl ?_
    refine ev_iload_n 1 (q := 56) dR_judge_55 rfl (by rfl) rfl ?_
    refine zr_iald (q := 57) (g := ρ 9) dR_judge_56 at_inputs (by decide) ⟨by omega, by omega⟩ rfl ?_
    have g1 : 0 ≤ ρ 9 t ∧ ρ 9 t ≤ 4 := hw 9 t (by decide)
    refine zr_icmp_ge (t := 86) (q := 60) dR_judge_57 rfl rfl ⟨by omega, by omega⟩ ⟨by omega, by omega⟩ (fun h2 => ?_) (fun h2 => ?_)
    · exfalso
      omega
    · refine ev_aload_n 0 (q := 61) dR_judge_60 rfl (by rfl) rfl ?_
      refine ev_get (q := 64) dR_judge_61 fR_59 atR (by rfl) rfl ?_
      refine ev_aload_n 0 (q := 65) dR_judge_64 rfl (by rfl) rfl ?_
      refine ev_get (q := 68) dR_judge_65 fR_41 atR (by rfl) rfl ?_
      refine ev_iconst (v := iI 4) (q := 69) dR_judge_68 rfl rfl ?_
      refine ev_iload_n 1 (q := 70) dR_judge_69 rfl (by rfl) rfl ?_
      refine zr_imul (q := 71) dR_judge_70 rfl ?_
      refine ev_iload_n 2 (q := 72) dR_judge_71 rfl (by rfl) rfl ?_
      refine zr_iadd (q := 73) dR_judge_72 rfl ?_
      refine zr_iald (q := 74) (g := ρ 11) dR_judge_73 at_input (by decide) ⟨by omega, by omega⟩ rfl ?_
      have g3 : 0 ≤ ρ 11 ((4 * t) + k) ∧ ρ 11 ((4 * t) + k) ≤ 79 := hw 11 ((4 * t) + k) (by decide)
      refine zr_iald (q := 75) (g := ρ 17) dR_judge_74 at_usedBy (by decide) ⟨by omega, by omega⟩ rfl ?_
      have g4 : -1 ≤ ρ 17 (ρ 11 ((4 * t) + k)) ∧ ρ 17 (ρ 11 ((4 * t) + k)) ≤ 19 := hw 17 (ρ 11 ((4 * t) + k)) (by decide)
      refine zr_if_lt (t := 80) (q := 78) dR_judge_75 rfl rfl ⟨by omega, by omega⟩ (fun h5 => ?_) (fun h5 => ?_)
      · refine zr_iinc (q := 83) dR_judge_80 (by rfl) (by decide) rfl rfl ?_
        dsimp only [List.set]
        refine ev_goto (t := 50) (q := 50) dR_judge_83 rfl rfl ?_
        rw [show lR_judge_50 ρ t (j + 1) k = lR_judge_50 ρ t j (k + 1) from by rw [lR_judge_50, if_pos h5]]
        exact ih (k + 1)  (by omega) (by omega)
      · refine ev_iconst (v := iI 4) (q := 79) dR_judge_78 rfl rfl ?_
        exact zr_iret dR_judge_79 rfl ⟨by rw [lR_judge_50, if_neg (Int.not_lt.mpr h5)], rfl⟩
def rR_judge (ρ : z_Sg) (t : Int) : Int := if (ρ 24 0) < (ρ 3 t) then 2 else if (ρ 24 0) < (ρ 4 t) then if (ρ 2 t) ≠ 4 then lR_judge_50 ρ t (ρ 9 t).toNat 0 else if (rR_sound ρ t) ≠ 0 then lR_judge_50 ρ t (ρ 9 t).toNat 0 else 3 else 2
set_option maxRecDepth 100000 in
set_option maxHeartbeats 4000000 in
theorem sR_judge {κ ρ : z_Sg} {a : Int → Nat} {B : List va_E} (hw : z_wf ρ) (t : Int) (hp0 : 0 ≤ t ∧ t ≤ 19) : z_Sp mR_judge (6, 144) 0 0 [.ref 12, zi t] (zM κ a ρ B) (fun r M' => r = some (zi (rR_judge ρ t)) ∧ M' = zM κ a ρ B) := by
  refine z_Sp_of (L := [.ref 12, zi t, .float 0]) (by decide) rfl rfl rfl (Nat.le_of_ble_eq_true rfl) ?_
  refine ev_aload_n 0 (q := 1) dR_judge_0 rfl (by rfl) rfl ?_
  refine ev_get (q := 4) (v := zi (ρ 24 0)) dR_judge_1 fR_172 atR rfl rfl ?_
  have g1 : 0 ≤ ρ 24 0 ∧ ρ 24 0 ≤ 1000000 := hw 24 0 (by decide)
  refine ev_aload_n 0 (q := 5) dR_judge_4 rfl (by rfl) rfl ?_
  refine ev_get (q := 8) dR_judge_5 fR_16 atR (by rfl) rfl ?_
  refine ev_iload_n 1 (q := 9) dR_judge_8 rfl (by rfl) rfl ?_
  refine zr_iald (q := 10) (g := ρ 3) dR_judge_9 at_fromTime (by decide) ⟨by omega, by omega⟩ rfl ?_
  have g2 : 0 ≤ ρ 3 t ∧ ρ 3 t ≤ 1000000 := hw 3 t (by decide)
  refine zr_icmp_lt (t := 26) (q := 13) dR_judge_10 rfl rfl ⟨by omega, by omega⟩ ⟨by omega, by omega⟩ (fun h3 => ?_) (fun h3 => ?_)
  · refine ev_iconst (v := iI 2) (q := 27) dR_judge_26 rfl rfl ?_
    exact zr_iret dR_judge_27 rfl ⟨by rw [rR_judge, if_pos h3], rfl⟩
  · refine ev_aload_n 0 (q := 14) dR_judge_13 rfl (by rfl) rfl ?_
    refine ev_get (q := 17) (v := zi (ρ 24 0)) dR_judge_14 fR_172 atR rfl rfl ?_
    have g4 : 0 ≤ ρ 24 0 ∧ ρ 24 0 ≤ 1000000 := hw 24 0 (by decide)
    refine ev_aload_n 0 (q := 18) dR_judge_17 rfl (by rfl) rfl ?_
    refine ev_get (q := 21) dR_judge_18 fR_19 atR (by rfl) rfl ?_
    refine ev_iload_n 1 (q := 22) dR_judge_21 rfl (by rfl) rfl ?_
    refine zr_iald (q := 23) (g := ρ 4) dR_judge_22 at_untilTime (by decide) ⟨by omega, by omega⟩ rfl ?_
    have g5 : 0 ≤ ρ 4 t ∧ ρ 4 t ≤ 1000000 := hw 4 t (by decide)
    refine zr_icmp_lt (t := 28) (q := 26) dR_judge_23 rfl rfl ⟨by omega, by omega⟩ ⟨by omega, by omega⟩ (fun h6 => ?_) (fun h6 => ?_)
    · refine ev_aload_n 0 (q := 29) dR_judge_28 rfl (by rfl) rfl ?_
      refine ev_get (q := 32) dR_judge_29 fR_13 atR (by rfl) rfl ?_
      refine ev_iload_n 1 (q := 33) dR_judge_32 rfl (by rfl) rfl ?_
      refine zr_iald (q := 34) (g := ρ 2) dR_judge_33 at_notaryOf (by decide) ⟨by omega, by omega⟩ rfl ?_
      have g7 : 0 ≤ ρ 2 t ∧ ρ 2 t ≤ 5 := hw 2 t (by decide)
      refine ev_iconst (v := iI 4) (q := 35) dR_judge_34 rfl rfl ?_
      refine zr_icmp_ne (t := 48) (q := 38) dR_judge_35 rfl rfl ⟨by omega, by omega⟩ ⟨by omega, by omega⟩ (fun h8 => ?_) (fun h8 => ?_)
      · refine ev_iconst (v := iI 0) (q := 49) dR_judge_48 rfl rfl ?_
        refine ev_istore_n 2 (q := 50) dR_judge_49 rfl (by decide) rfl rfl ?_
        dsimp only [List.set]
        have g9 : 0 ≤ ρ 9 t ∧ ρ 9 t ≤ 4 := hw 9 t (by decide)
        rw [show rR_judge ρ t = lR_judge_50 ρ t (ρ 9 t).toNat 0 from by rw [rR_judge, if_neg (Int.not_lt.mpr h3), if_pos h6, if_pos h8]]
        exact eR_judge_50 hw t hp0 (ρ 9 t).toNat 0  (by omega) (by omega)
      · refine ev_aload_n 0 (q := 39) dR_judge_38 rfl (by rfl) rfl ?_
        refine ev_iload_n 1 (q := 40) dR_judge_39 rfl (by rfl) rfl ?_
        refine cv_V (As := [_]) (q := 43) dR_judge_40 kR_175 atR rfl rfl (Nat.le_of_ble_eq_true rfl) rfl rfl rfl (by decide) (sR_sound hw t ⟨by omega, by omega⟩ ) ?_
        have g10 : (rR_sound ρ t) = 0 ∨ (rR_sound ρ t) = 1 := bR_sound _ _
        refine zr_if_ne (t := 48) (q := 46) dR_judge_43 rfl rfl ⟨by omega, by omega⟩ (fun h11 => ?_) (fun h11 => ?_)
        · refine ev_iconst (v := iI 0) (q := 49) dR_judge_48 rfl rfl ?_
          refine ev_istore_n 2 (q := 50) dR_judge_49 rfl (by decide) rfl rfl ?_
          dsimp only [List.set]
          have g12 : 0 ≤ ρ 9 t ∧ ρ 9 t ≤ 4 := hw 9 t (by decide)
          rw [show rR_judge ρ t = lR_judge_50 ρ t (ρ 9 t).toNat 0 from by rw [rR_judge, if_neg (Int.not_lt.mpr h3), if_pos h6, if_neg (fun z => z h8), if_pos h11]]
          exact eR_judge_50 hw t hp0 (ρ 9 t).toNat 0  (by omega) (by omega)
        · refine ev_iconst (v := iI 3) (q := 47) dR_judge_46 rfl rfl ?_
          exact zr_iret dR_judge_47 rfl ⟨by rw [rR_judge, if_neg (Int.not_lt.mpr h3), if_pos h6, if_neg (fun z => z h8), if_neg (fun z => z h11)], rfl⟩
    · refine ev_iconst (v := iI 2) (q := 27) dR_judge_26 rfl rfl ?_
      exact zr_iret dR_judge_27 rfl ⟨by rw [rR_judge, if_neg (Int.not_lt.mpr h3), if_neg (Int.not_lt.mpr h6)], rfl⟩

def lR_told_10 (ρ : z_Sg) (t n : Int) : Nat → Int → Int → Int
  | 0, k, du => if du = 0 then 0 else if n = (ρ 1 t) then 0 else 1
  | j + 1, k, du => if du ≠ 0 then lR_told_10 ρ t n j (k + 1) 1 else if (rR_concerns ρ ((4 * t) + k) n) = 0 then lR_told_10 ρ t n j (k + 1) 0 else lR_told_10 ρ t n j (k + 1) 1
theorem blR_told_10 (ρ : z_Sg) (t n : Int) : ∀ (j : Nat) (k du : Int), lR_told_10 ρ t n j k du = 0 ∨ lR_told_10 ρ t n j k du = 1 := by
  intro j
  induction j with
  | zero =>
    intro k du
    rw [lR_told_10]
    repeat' split
    all_goals first | exact Or.inl rfl | exact Or.inr rfl
  | succ j ih =>
    intro k du
    rw [lR_told_10]
    repeat' split
    all_goals first | exact Or.inl rfl | exact Or.inr rfl | exact ih _ _
set_option maxRecDepth 100000 in
set_option maxHeartbeats 4000000 in
theorem eR_told_10 {κ ρ : z_Sg} {a : Int → Nat} {B : List va_E} (hw : z_wf ρ) (t n : Int) (hp0 : 0 ≤ t ∧ t ≤ 19) (hp1 : z_rg n) : ∀ (j : Nat) (k du : Int), 0 ≤ k → k + j = ρ 10 t → du = 0 ∨ du = 1 → z_Ev mR_told (3, 79) 0 0 10 [.ref 12, zi t, zi n, zi du, zi k] [] (zM κ a ρ B) (fun r M' => r = some (zi (lR_told_10 ρ t n j k du)) ∧ M' = zM κ a ρ B) := by
  intro j
  induction j with
  | zero =>
    intro k du  c0 c1 c2
    refine ev_iload (q := 12) dR_told_10 (by rfl) rfl ?_
    refine ev_aload_n 0 (q := 13) dR_told_12 rfl (by rfl) rfl ?_
    refine ev_get (q := 16) dR_told_13 fR_38 atR (by rfl) rfl ?_
    refine ev_iload_n 1 (q := 17) dR_told_16 rfl (by rfl) rfl ?_
    refine zr_iald (q := 18) (g := ρ 10) dR_told_17 at_outputs (by decide) ⟨by omega, by omega⟩ rfl ?_
    have g1 : 0 ≤ ρ 10 t ∧ ρ 10 t ≤ 4 := hw 10 t (by decide)
    refine zr_icmp_ge (t := 51) (q := 21) dR_told_18 rfl rfl ⟨by omega, by omega⟩ ⟨by omega, by omega⟩ (fun h2 => ?_) (fun h2 => ?_)
    · refine ev_iload_n 3 (q := 52) dR_told_51 rfl (by rfl) rfl ?_
      refine zr_if_eq (t := 69) (q := 55) dR_told_52 rfl rfl ⟨by omega, by omega⟩ (fun h3 => ?_) (fun h3 => ?_)
      · refine ev_iconst (v := iI 0) (q := 70) dR_told_69 rfl rfl ?_
        exact zr_zret dR_told_70 rfl (by omega) ⟨by rw [lR_told_10, if_pos h3], rfl⟩
      · refine ev_iload_n 2 (q := 56) dR_told_55 rfl (by rfl) rfl ?_
        refine ev_aload_n 0 (q := 57) dR_told_56 rfl (by rfl) rfl ?_
        refine ev_get (q := 60) dR_told_57 fR_7 atR (by rfl) rfl ?_
        refine ev_iload_n 1 (q := 61) dR_told_60 rfl (by rfl) rfl ?_
        refine zr_iald (q := 62) (g := ρ 1) dR_told_61 at_begunBy (by decide) ⟨by omega, by omega⟩ rfl ?_
        have g4 : 0 ≤ ρ 1 t ∧ ρ 1 t ≤ 3 := hw 1 t (by decide)
        refine zr_icmp_eq (t := 69) (q := 65) dR_told_62 rfl rfl ⟨by omega, by omega⟩ ⟨by omega, by omega⟩ (fun h5 => ?_) (fun h5 => ?_)
        · refine ev_iconst (v := iI 0) (q := 70) dR_told_69 rfl rfl ?_
          exact zr_zret dR_told_70 rfl (by omega) ⟨by rw [lR_told_10, if_neg h3, if_pos h5], rfl⟩
        · refine ev_iconst (v := iI 1) (q := 66) dR_told_65 rfl rfl ?_
          refine ev_goto (t := 70) (q := 70) dR_told_66 rfl rfl ?_
          exact zr_zret dR_told_70 rfl (by omega) ⟨by rw [lR_told_10, if_neg h3, if_neg h5], rfl⟩
    · exfalso
      omega
  | succ j ih =>
    intro k du  c0 c1 c2
    refine ev_iload (q := 12) dR_told_10 (by rfl) rfl ?_
    refine ev_aload_n 0 (q := 13) dR_told_12 rfl (by rfl) rfl ?_
    refine ev_get (q := 16) dR_told_13 fR_38 atR (by rfl) rfl ?_
    refine ev_iload_n 1 (q := 17) dR_told_16 rfl (by rfl) rfl ?_
    refine zr_iald (q := 18) (g := ρ 10) dR_told_17 at_outputs (by decide) ⟨by omega, by omega⟩ rfl ?_
    have g1 : 0 ≤ ρ 10 t ∧ ρ 10 t ≤ 4 := hw 10 t (by decide)
    refine zr_icmp_ge (t := 51) (q := 21) dR_told_18 rfl rfl ⟨by omega, by omega⟩ ⟨by omega, by omega⟩ (fun h2 => ?_) (fun h2 => ?_)
    · exfalso
      omega
    · refine ev_iload_n 3 (q := 22) dR_told_21 rfl (by rfl) rfl ?_
      refine zr_if_ne (t := 39) (q := 25) dR_told_22 rfl rfl ⟨by omega, by omega⟩ (fun h3 => ?_) (fun h3 => ?_)
      · refine ev_iconst (v := iI 1) (q := 40) dR_told_39 rfl rfl ?_
        refine ev_goto (t := 44) (q := 44) dR_told_40 rfl rfl ?_
        refine ev_istore_n 3 (q := 45) dR_told_44 rfl (by decide) rfl rfl ?_
        dsimp only [List.set]
        refine zr_iinc (q := 48) dR_told_45 (by rfl) (by decide) rfl rfl ?_
        dsimp only [List.set]
        refine ev_goto (t := 10) (q := 10) dR_told_48 rfl rfl ?_
        rw [show lR_told_10 ρ t n (j + 1) k du = lR_told_10 ρ t n j (k + 1) 1 from by rw [lR_told_10, if_pos h3]]
        exact ih (k + 1) 1  (by omega) (by omega) (by omega)
      · refine ev_aload_n 0 (q := 26) dR_told_25 rfl (by rfl) rfl ?_
        refine ev_iconst (v := iI 4) (q := 27) dR_told_26 rfl rfl ?_
        refine ev_iload_n 1 (q := 28) dR_told_27 rfl (by rfl) rfl ?_
        refine zr_imul (q := 29) dR_told_28 rfl ?_
        refine ev_iload (q := 31) dR_told_29 (by rfl) rfl ?_
        refine zr_iadd (q := 32) dR_told_31 rfl ?_
        refine ev_iload_n 2 (q := 33) dR_told_32 rfl (by rfl) rfl ?_
        refine cv_V (As := [_, _]) (q := 36) dR_told_33 kR_110 atR rfl rfl (Nat.le_of_ble_eq_true rfl) rfl rfl rfl (by decide) (sR_concerns hw ((4 * t) + k) n ⟨by omega, by omega⟩ ⟨by omega, by omega⟩ ) ?_
        have g4 : (rR_concerns ρ ((4 * t) + k) n) = 0 ∨ (rR_concerns ρ ((4 * t) + k) n) = 1 := bR_concerns _ _ _
        refine zr_if_eq (t := 43) (q := 39) dR_told_36 rfl rfl ⟨by omega, by omega⟩ (fun h5 => ?_) (fun h5 => ?_)
        · refine ev_iconst (v := iI 0) (q := 44) dR_told_43 rfl rfl ?_
          refine ev_istore_n 3 (q := 45) dR_told_44 rfl (by decide) rfl rfl ?_
          dsimp only [List.set]
          refine zr_iinc (q := 48) dR_told_45 (by rfl) (by decide) rfl rfl ?_
          dsimp only [List.set]
          refine ev_goto (t := 10) (q := 10) dR_told_48 rfl rfl ?_
          rw [show lR_told_10 ρ t n (j + 1) k du = lR_told_10 ρ t n j (k + 1) 0 from by rw [lR_told_10, if_neg (fun z => z h3), if_pos h5]]
          exact ih (k + 1) 0  (by omega) (by omega) (by omega)
        · refine ev_iconst (v := iI 1) (q := 40) dR_told_39 rfl rfl ?_
          refine ev_goto (t := 44) (q := 44) dR_told_40 rfl rfl ?_
          refine ev_istore_n 3 (q := 45) dR_told_44 rfl (by decide) rfl rfl ?_
          dsimp only [List.set]
          refine zr_iinc (q := 48) dR_told_45 (by rfl) (by decide) rfl rfl ?_
          dsimp only [List.set]
          refine ev_goto (t := 10) (q := 10) dR_told_48 rfl rfl ?_
          rw [show lR_told_10 ρ t n (j + 1) k du = lR_told_10 ρ t n j (k + 1) 1 from by rw [lR_told_10, if_neg (fun z => z h3), if_neg h5]]
          exact ih (k + 1) 1  (by omega) (by omega) (by omega)
def rR_told (ρ : z_Sg) (t n : Int) : Int := lR_told_10 ρ t n (ρ 10 t).toNat 0 (rR_mustSign ρ t n)
theorem bR_told (ρ : z_Sg) (t n : Int) : rR_told ρ t n = 0 ∨ rR_told ρ t n = 1 := by
  unfold rR_told
  repeat' split
  all_goals first | exact Or.inl rfl | exact Or.inr rfl | exact blR_told_10 _ _ _ _ _ _
set_option maxRecDepth 100000 in
set_option maxHeartbeats 4000000 in
theorem sR_told {κ ρ : z_Sg} {a : Int → Nat} {B : List va_E} (hw : z_wf ρ) (t n : Int) (hp0 : 0 ≤ t ∧ t ≤ 19) (hp1 : z_rg n) : z_Sp mR_told (3, 79) 0 0 [.ref 12, zi t, zi n] (zM κ a ρ B) (fun r M' => r = some (zi (rR_told ρ t n)) ∧ M' = zM κ a ρ B) := by
  refine z_Sp_of (L := [.ref 12, zi t, zi n, .float 0, .float 0]) (by decide) rfl rfl rfl (Nat.le_of_ble_eq_true rfl) ?_
  refine ev_aload_n 0 (q := 1) dR_told_0 rfl (by rfl) rfl ?_
  refine ev_iload_n 1 (q := 2) dR_told_1 rfl (by rfl) rfl ?_
  refine ev_iload_n 2 (q := 3) dR_told_2 rfl (by rfl) rfl ?_
  refine cv_V (As := [_, _]) (q := 6) dR_told_3 kR_130 atR rfl rfl (Nat.le_of_ble_eq_true rfl) rfl rfl rfl (by decide) (sR_mustSign hw t n ⟨by omega, by omega⟩ ⟨by omega, by omega⟩ ) ?_
  have g1 : (rR_mustSign ρ t n) = 0 ∨ (rR_mustSign ρ t n) = 1 := bR_mustSign _ _ _
  refine ev_istore_n 3 (q := 7) dR_told_6 rfl (by decide) rfl rfl ?_
  dsimp only [List.set]
  refine ev_iconst (v := iI 0) (q := 8) dR_told_7 rfl rfl ?_
  refine ev_istore (q := 10) dR_told_8 (by decide) rfl rfl ?_
  dsimp only [List.set]
  have g2 : 0 ≤ ρ 10 t ∧ ρ 10 t ≤ 4 := hw 10 t (by decide)
  rw [show rR_told ρ t n = lR_told_10 ρ t n (ρ 10 t).toNat 0 (rR_mustSign ρ t n) from by rw [rR_told]]
  exact eR_told_10 hw t n hp0 hp1 (ρ 10 t).toNat 0 (rR_mustSign ρ t n)  (by omega) (by omega) (by omega)

def lR_vault_20 (ρ : z_Sg) (node p : Int) : Nat → Int → Int → Int
  | 0, k, pl => if p ≠ (-1) then (-1) else pl
  | j + 1, k, pl => if (rR_inVault ρ node k) = 0 then if (rR_inVault ρ node k) = 0 then lR_vault_20 ρ node p j (k + 1) pl else lR_vault_20 ρ node p j (k + 1) (pl + 1) else if pl ≠ p then if (rR_inVault ρ node k) = 0 then lR_vault_20 ρ node p j (k + 1) pl else lR_vault_20 ρ node p j (k + 1) (pl + 1) else k
set_option maxRecDepth 100000 in
set_option maxHeartbeats 4000000 in
theorem eR_vault_20 {κ ρ : z_Sg} {a : Int → Nat} {B : List va_E} (hw : z_wf ρ) (node p : Int) (hp0 : z_rg node) (hp1 : z_rg p) : ∀ (j : Nat) (k pl : Int) (x5 : Value), 0 ≤ k → k + j = 80 → 0 ≤ node ∧ node ≤ 3 → 0 ≤ pl ∧ pl ≤ k → z_Ev mR_vault (3, 67) 0 0 20 [.ref 12, zi node, zi p, zi pl, zi k, x5] [] (zM κ a ρ B) (fun r M' => r = some (zi (lR_vault_20 ρ node p j k pl)) ∧ M' = zM κ a ρ B) := by
  intro j
  induction j with
  | zero =>
    intro k pl x5 c0 c1 c2 c3
    refine ev_iload (q := 22) dR_vault_20 (by rfl) rfl ?_
    refine ev_bipush (v := iI 80) (q := 24) dR_vault_22 (by decide) rfl ?_
    refine zr_icmp_ge (t := 63) (q := 27) dR_vault_24 rfl rfl ⟨by omega, by omega⟩ ⟨by omega, by omega⟩ (fun h1 => ?_) (fun h1 => ?_)
    · refine ev_iload_n 2 (q := 64) dR_vault_63 rfl (by rfl) rfl ?_
      refine ev_iconst (v := iI (-1)) (q := 65) dR_vault_64 rfl rfl ?_
      refine zr_icmp_ne (t := 72) (q := 68) dR_vault_65 rfl rfl ⟨by omega, by omega⟩ ⟨by omega, by omega⟩ (fun h2 => ?_) (fun h2 => ?_)
      · refine ev_iconst (v := iI (-1)) (q := 73) dR_vault_72 rfl rfl ?_
        exact zr_iret dR_vault_73 rfl ⟨by rw [lR_vault_20, if_pos h2], rfl⟩
      · refine ev_iload_n 3 (q := 69) dR_vault_68 rfl (by rfl) rfl ?_
        refine ev_goto (t := 73) (q := 73) dR_vault_69 rfl rfl ?_
        exact zr_iret dR_vault_73 rfl ⟨by rw [lR_vault_20, if_neg (fun z => z h2)], rfl⟩
    · exfalso
      omega
  | succ j ih =>
    intro k pl x5 c0 c1 c2 c3
    refine ev_iload (q := 22) dR_vault_20 (by rfl) rfl ?_
    refine ev_bipush (v := iI 80) (q := 24) dR_vault_22 (by decide) rfl ?_
    refine zr_icmp_ge (t := 63) (q := 27) dR_vault_24 rfl rfl ⟨by omega, by omega⟩ ⟨by omega, by omega⟩ (fun h1 => ?_) (fun h1 => ?_)
    · exfalso
      omega
    · refine ev_aload_n 0 (q := 28) dR_vault_27 rfl (by rfl) rfl ?_
      refine ev_iload_n 1 (q := 29) dR_vault_28 rfl (by rfl) rfl ?_
      refine ev_iload (q := 31) dR_vault_29 (by rfl) rfl ?_
      refine cv_V (As := [_, _]) (q := 34) dR_vault_31 kR_113 atR rfl rfl (Nat.le_of_ble_eq_true rfl) rfl rfl rfl (by decide) (sR_inVault hw node k ⟨by omega, by omega⟩ ⟨by omega, by omega⟩ ) ?_
      have g2 : (rR_inVault ρ node k) = 0 ∨ (rR_inVault ρ node k) = 1 := bR_inVault _ _ _
      refine ev_istore (q := 36) dR_vault_34 (by decide) rfl rfl ?_
      dsimp only [List.set]
      refine ev_iload (q := 38) dR_vault_36 (by rfl) rfl ?_
      refine zr_if_eq (t := 49) (q := 41) dR_vault_38 rfl rfl ⟨by omega, by omega⟩ (fun h3 => ?_) (fun h3 => ?_)
      · refine ev_iload (q := 51) dR_vault_49 (by rfl) rfl ?_
        refine zr_if_eq (t := 57) (q := 54) dR_vault_51 rfl rfl ⟨by omega, by omega⟩ (fun h4 => ?_) (fun h4 => ?_)
        · refine zr_iinc (q := 60) dR_vault_57 (by rfl) (by decide) rfl rfl ?_
          dsimp only [List.set]
          refine ev_goto (t := 20) (q := 20) dR_vault_60 rfl rfl ?_
          rw [show lR_vault_20 ρ node p (j + 1) k pl = lR_vault_20 ρ node p j (k + 1) pl from by rw [lR_vault_20, if_pos h3, if_pos h4]]
          exact ih (k + 1) pl (zi (rR_inVault ρ node k)) (by omega) (by omega) (by omega) (by omega)
        · refine zr_iinc (q := 57) dR_vault_54 (by rfl) (by decide) rfl rfl ?_
          dsimp only [List.set]
          refine zr_iinc (q := 60) dR_vault_57 (by rfl) (by decide) rfl rfl ?_
          dsimp only [List.set]
          refine ev_goto (t := 20) (q := 20) dR_vault_60 rfl rfl ?_
          rw [show lR_vault_20 ρ node p (j + 1) k pl = lR_vault_20 ρ node p j (k + 1) (pl + 1) from by rw [lR_vault_20, if_pos h3, if_neg h4]]
          exact ih (k + 1) (pl + 1) (zi (rR_inVault ρ node k)) (by omega) (by omega) (by omega) (by omega)
      · refine ev_iload_n 3 (q := 42) dR_vault_41 rfl (by rfl) rfl ?_
        refine ev_iload_n 2 (q := 43) dR_vault_42 rfl (by rfl) rfl ?_
        refine zr_icmp_ne (t := 49) (q := 46) dR_vault_43 rfl rfl ⟨by omega, by omega⟩ ⟨by omega, by omega⟩ (fun h5 => ?_) (fun h5 => ?_)
        · refine ev_iload (q := 51) dR_vault_49 (by rfl) rfl ?_
          refine zr_if_eq (t := 57) (q := 54) dR_vault_51 rfl rfl ⟨by omega, by omega⟩ (fun h6 => ?_) (fun h6 => ?_)
          · refine zr_iinc (q := 60) dR_vault_57 (by rfl) (by decide) rfl rfl ?_
            dsimp only [List.set]
            refine ev_goto (t := 20) (q := 20) dR_vault_60 rfl rfl ?_
            rw [show lR_vault_20 ρ node p (j + 1) k pl = lR_vault_20 ρ node p j (k + 1) pl from by rw [lR_vault_20, if_neg h3, if_pos h5, if_pos h6]]
            exact ih (k + 1) pl (zi (rR_inVault ρ node k)) (by omega) (by omega) (by omega) (by omega)
          · refine zr_iinc (q := 57) dR_vault_54 (by rfl) (by decide) rfl rfl ?_
            dsimp only [List.set]
            refine zr_iinc (q := 60) dR_vault_57 (by rfl) (by decide) rfl rfl ?_
            dsimp only [List.set]
            refine ev_goto (t := 20) (q := 20) dR_vault_60 rfl rfl ?_
            rw [show lR_vault_20 ρ node p (j + 1) k pl = lR_vault_20 ρ node p j (k + 1) (pl + 1) from by rw [lR_vault_20, if_neg h3, if_pos h5, if_neg h6]]
            exact ih (k + 1) (pl + 1) (zi (rR_inVault ρ node k)) (by omega) (by omega) (by omega) (by omega)
        · refine ev_iload (q := 48) dR_vault_46 (by rfl) rfl ?_
          exact zr_iret dR_vault_48 rfl ⟨by rw [lR_vault_20, if_neg h3, if_neg (fun z => z h5)], rfl⟩
def rR_vault (ρ : z_Sg) (node p : Int) : Int := if (rR_isNode ρ node) = 0 then (-1) else if (-1) ≤ p then lR_vault_20 ρ node p 80 0 0 else (-1)
set_option maxRecDepth 100000 in
set_option maxHeartbeats 4000000 in
theorem sR_vault {κ ρ : z_Sg} {a : Int → Nat} {B : List va_E} (hw : z_wf ρ) (node p : Int) (hp0 : z_rg node) (hp1 : z_rg p) : z_Sp mR_vault (3, 67) 0 0 [.ref 12, zi node, zi p] (zM κ a ρ B) (fun r M' => r = some (zi (rR_vault ρ node p)) ∧ M' = zM κ a ρ B) := by
  refine z_Sp_of (L := [.ref 12, zi node, zi p, .float 0, .float 0, .float 0]) (by decide) rfl rfl rfl (Nat.le_of_ble_eq_true rfl) ?_
  refine ev_aload_n 0 (q := 1) dR_vault_0 rfl (by rfl) rfl ?_
  refine ev_iload_n 1 (q := 2) dR_vault_1 rfl (by rfl) rfl ?_
  refine cv_V (As := [_]) (q := 5) dR_vault_2 kR_91 atR rfl rfl (Nat.le_of_ble_eq_true rfl) rfl rfl rfl (by decide) (sR_isNode hw node ⟨by omega, by omega⟩ ) ?_
  have g1 : (rR_isNode ρ node) = 0 ∨ (rR_isNode ρ node) = 1 := bR_isNode _ _
  refine zr_if_eq (t := 13) (q := 8) dR_vault_5 rfl rfl ⟨by omega, by omega⟩ (fun h2 => ?_) (fun h2 => ?_)
  · refine ev_iconst (v := iI (-1)) (q := 14) dR_vault_13 rfl rfl ?_
    exact zr_iret dR_vault_14 rfl ⟨by rw [rR_vault, if_pos h2], rfl⟩
  · have f4 := tR_isNode hw h2
    refine ev_iload_n 2 (q := 9) dR_vault_8 rfl (by rfl) rfl ?_
    refine ev_iconst (v := iI (-1)) (q := 10) dR_vault_9 rfl rfl ?_
    refine zr_icmp_ge (t := 15) (q := 13) dR_vault_10 rfl rfl ⟨by omega, by omega⟩ ⟨by omega, by omega⟩ (fun h3 => ?_) (fun h3 => ?_)
    · refine ev_iconst (v := iI 0) (q := 16) dR_vault_15 rfl rfl ?_
      refine ev_istore_n 3 (q := 17) dR_vault_16 rfl (by decide) rfl rfl ?_
      dsimp only [List.set]
      refine ev_iconst (v := iI 0) (q := 18) dR_vault_17 rfl rfl ?_
      refine ev_istore (q := 20) dR_vault_18 (by decide) rfl rfl ?_
      dsimp only [List.set]
      rw [show rR_vault ρ node p = lR_vault_20 ρ node p 80 0 0 from by rw [rR_vault, if_neg h2, if_pos h3]]
      exact eR_vault_20 hw node p hp0 hp1 80 0 0 (.float 0) (by omega) (by omega) (by omega) (by omega)
    · refine ev_iconst (v := iI (-1)) (q := 14) dR_vault_13 rfl rfl ?_
      exact zr_iret dR_vault_14 rfl ⟨by rw [rR_vault, if_neg h2, if_neg (Int.not_le.mpr h3)], rfl⟩

def lR_balance_23 (ρ : z_Sg) (node iss : Int) : Nat → Int → Int → Int
  | 0, k, sm => sm
  | j + 1, k, sm => if (rR_inVault ρ node k) = 0 then lR_balance_23 ρ node iss j (k + 1) sm else if (ρ 12 k) ≠ 0 then lR_balance_23 ρ node iss j (k + 1) sm else if (ρ 13 k) ≠ iss then lR_balance_23 ρ node iss j (k + 1) sm else lR_balance_23 ρ node iss j (k + 1) (sm + (ρ 15 k))
set_option maxRecDepth 100000 in
set_option maxHeartbeats 4000000 in
theorem eR_balance_23 {κ ρ : z_Sg} {a : Int → Nat} {B : List va_E} (hw : z_wf ρ) (node iss : Int) (hp0 : z_rg node) (hp1 : z_rg iss) : ∀ (j : Nat) (k sm : Int), 0 ≤ k → k + j = 80 → 0 ≤ node ∧ node ≤ 3 → z_Ev mR_balance (3, 67) 0 0 23 [.ref 12, zi node, zi iss, zi sm, zi k] [] (zM κ a ρ B) (fun r M' => r = some (zi (lR_balance_23 ρ node iss j k sm)) ∧ M' = zM κ a ρ B) := by
  intro j
  induction j with
  | zero =>
    intro k sm  c0 c1 c2
    refine ev_iload (q := 25) dR_balance_23 (by rfl) rfl ?_
    refine ev_bipush (v := iI 80) (q := 27) dR_balance_25 (by decide) rfl ?_
    refine zr_icmp_ge (t := 77) (q := 30) dR_balance_27 rfl rfl ⟨by omega, by omega⟩ ⟨by omega, by omega⟩ (fun h1 => ?_) (fun h1 => ?_)
    · refine ev_iload_n 3 (q := 78) dR_balance_77 rfl (by rfl) rfl ?_
      exact zr_iret dR_balance_78 rfl ⟨by rw [lR_balance_23], rfl⟩
    · exfalso
      omega
  | succ j ih =>
    intro k sm  c0 c1 c2
    refine ev_iload (q := 25) dR_balance_23 (by rfl) rfl ?_
    refine ev_bipush (v := iI 80) (q := 27) dR_balance_25 (by decide) rfl ?_
    refine zr_icmp_ge (t := 77) (q := 30) dR_balance_27 rfl rfl ⟨by omega, by omega⟩ ⟨by omega, by omega⟩ (fun h1 => ?_) (fun h1 => ?_)
    · exfalso
      omega
    · refine ev_aload_n 0 (q := 31) dR_balance_30 rfl (by rfl) rfl ?_
      refine ev_iload_n 1 (q := 32) dR_balance_31 rfl (by rfl) rfl ?_
      refine ev_iload (q := 34) dR_balance_32 (by rfl) rfl ?_
      refine cv_V (As := [_, _]) (q := 37) dR_balance_34 kR_113 atR rfl rfl (Nat.le_of_ble_eq_true rfl) rfl rfl rfl (by decide) (sR_inVault hw node k ⟨by omega, by omega⟩ ⟨by omega, by omega⟩ ) ?_
      have g2 : (rR_inVault ρ node k) = 0 ∨ (rR_inVault ρ node k) = 1 := bR_inVault _ _ _
      refine zr_if_eq (t := 71) (q := 40) dR_balance_37 rfl rfl ⟨by omega, by omega⟩ (fun h3 => ?_) (fun h3 => ?_)
      · refine zr_iinc (q := 74) dR_balance_71 (by rfl) (by decide) rfl rfl ?_
        dsimp only [List.set]
        refine ev_goto (t := 23) (q := 23) dR_balance_74 rfl rfl ?_
        rw [show lR_balance_23 ρ node iss (j + 1) k sm = lR_balance_23 ρ node iss j (k + 1) sm from by rw [lR_balance_23, if_pos h3]]
        exact ih (k + 1) sm  (by omega) (by omega) (by omega)
      · refine ev_aload_n 0 (q := 41) dR_balance_40 rfl (by rfl) rfl ?_
        refine ev_get (q := 44) dR_balance_41 fR_44 atR (by rfl) rfl ?_
        refine ev_iload (q := 46) dR_balance_44 (by rfl) rfl ?_
        refine zr_iald (q := 47) (g := ρ 12) dR_balance_46 at_kindOf (by decide) ⟨by omega, by omega⟩ rfl ?_
        have g4 : 0 ≤ ρ 12 k ∧ ρ 12 k ≤ 2 := hw 12 k (by decide)
        refine zr_if_ne (t := 71) (q := 50) dR_balance_47 rfl rfl ⟨by omega, by omega⟩ (fun h5 => ?_) (fun h5 => ?_)
        · refine zr_iinc (q := 74) dR_balance_71 (by rfl) (by decide) rfl rfl ?_
          dsimp only [List.set]
          refine ev_goto (t := 23) (q := 23) dR_balance_74 rfl rfl ?_
          rw [show lR_balance_23 ρ node iss (j + 1) k sm = lR_balance_23 ρ node iss j (k + 1) sm from by rw [lR_balance_23, if_neg h3, if_pos h5]]
          exact ih (k + 1) sm  (by omega) (by omega) (by omega)
        · refine ev_aload_n 0 (q := 51) dR_balance_50 rfl (by rfl) rfl ?_
          refine ev_get (q := 54) dR_balance_51 fR_47 atR (by rfl) rfl ?_
          refine ev_iload (q := 56) dR_balance_54 (by rfl) rfl ?_
          refine zr_iald (q := 57) (g := ρ 13) dR_balance_56 at_first (by decide) ⟨by omega, by omega⟩ rfl ?_
          have g6 : 0 ≤ ρ 13 k ∧ ρ 13 k ≤ 3 := hw 13 k (by decide)
          refine ev_iload_n 2 (q := 58) dR_balance_57 rfl (by rfl) rfl ?_
          refine zr_icmp_ne (t := 71) (q := 61) dR_balance_58 rfl rfl ⟨by omega, by omega⟩ ⟨by omega, by omega⟩ (fun h7 => ?_) (fun h7 => ?_)
          · refine zr_iinc (q := 74) dR_balance_71 (by rfl) (by decide) rfl rfl ?_
            dsimp only [List.set]
            refine ev_goto (t := 23) (q := 23) dR_balance_74 rfl rfl ?_
            rw [show lR_balance_23 ρ node iss (j + 1) k sm = lR_balance_23 ρ node iss j (k + 1) sm from by rw [lR_balance_23, if_neg h3, if_neg (fun z => z h5), if_pos h7]]
            exact ih (k + 1) sm  (by omega) (by omega) (by omega)
          · refine ev_iload_n 3 (q := 62) dR_balance_61 rfl (by rfl) rfl ?_
            refine ev_aload_n 0 (q := 63) dR_balance_62 rfl (by rfl) rfl ?_
            refine ev_get (q := 66) dR_balance_63 fR_53 atR (by rfl) rfl ?_
            refine ev_iload (q := 68) dR_balance_66 (by rfl) rfl ?_
            refine zr_iald (q := 69) (g := ρ 15) dR_balance_68 at_amountOf (by decide) ⟨by omega, by omega⟩ rfl ?_
            have g8 : 0 ≤ ρ 15 k ∧ ρ 15 k ≤ 1000 := hw 15 k (by decide)
            refine zr_iadd (q := 70) dR_balance_69 rfl ?_
            refine ev_istore_n 3 (q := 71) dR_balance_70 rfl (by decide) rfl rfl ?_
            dsimp only [List.set]
            refine zr_iinc (q := 74) dR_balance_71 (by rfl) (by decide) rfl rfl ?_
            dsimp only [List.set]
            refine ev_goto (t := 23) (q := 23) dR_balance_74 rfl rfl ?_
            rw [show lR_balance_23 ρ node iss (j + 1) k sm = lR_balance_23 ρ node iss j (k + 1) (sm + (ρ 15 k)) from by rw [lR_balance_23, if_neg h3, if_neg (fun z => z h5), if_neg (fun z => z h7)]]
            exact ih (k + 1) (sm + (ρ 15 k))  (by omega) (by omega) (by omega)
def rR_balance (ρ : z_Sg) (node iss : Int) : Int := if (rR_isNode ρ node) = 0 then (-1) else if (rR_isNode ρ iss) ≠ 0 then lR_balance_23 ρ node iss 80 0 0 else (-1)
set_option maxRecDepth 100000 in
set_option maxHeartbeats 4000000 in
theorem sR_balance {κ ρ : z_Sg} {a : Int → Nat} {B : List va_E} (hw : z_wf ρ) (node iss : Int) (hp0 : z_rg node) (hp1 : z_rg iss) : z_Sp mR_balance (3, 67) 0 0 [.ref 12, zi node, zi iss] (zM κ a ρ B) (fun r M' => r = some (zi (rR_balance ρ node iss)) ∧ M' = zM κ a ρ B) := by
  refine z_Sp_of (L := [.ref 12, zi node, zi iss, .float 0, .float 0]) (by decide) rfl rfl rfl (Nat.le_of_ble_eq_true rfl) ?_
  refine ev_aload_n 0 (q := 1) dR_balance_0 rfl (by rfl) rfl ?_
  refine ev_iload_n 1 (q := 2) dR_balance_1 rfl (by rfl) rfl ?_
  refine cv_V (As := [_]) (q := 5) dR_balance_2 kR_91 atR rfl rfl (Nat.le_of_ble_eq_true rfl) rfl rfl rfl (by decide) (sR_isNode hw node ⟨by omega, by omega⟩ ) ?_
  have g1 : (rR_isNode ρ node) = 0 ∨ (rR_isNode ρ node) = 1 := bR_isNode _ _
  refine zr_if_eq (t := 16) (q := 8) dR_balance_5 rfl rfl ⟨by omega, by omega⟩ (fun h2 => ?_) (fun h2 => ?_)
  · refine ev_iconst (v := iI (-1)) (q := 17) dR_balance_16 rfl rfl ?_
    exact zr_iret dR_balance_17 rfl ⟨by rw [rR_balance, if_pos h2], rfl⟩
  · have f6 := tR_isNode hw h2
    refine ev_aload_n 0 (q := 9) dR_balance_8 rfl (by rfl) rfl ?_
    refine ev_iload_n 2 (q := 10) dR_balance_9 rfl (by rfl) rfl ?_
    refine cv_V (As := [_]) (q := 13) dR_balance_10 kR_91 atR rfl rfl (Nat.le_of_ble_eq_true rfl) rfl rfl rfl (by decide) (sR_isNode hw iss ⟨by omega, by omega⟩ ) ?_
    have g3 : (rR_isNode ρ iss) = 0 ∨ (rR_isNode ρ iss) = 1 := bR_isNode _ _
    refine zr_if_ne (t := 18) (q := 16) dR_balance_13 rfl rfl ⟨by omega, by omega⟩ (fun h4 => ?_) (fun h4 => ?_)
    · have f5 := tR_isNode hw h4
      refine ev_iconst (v := iI 0) (q := 19) dR_balance_18 rfl rfl ?_
      refine ev_istore_n 3 (q := 20) dR_balance_19 rfl (by decide) rfl rfl ?_
      dsimp only [List.set]
      refine ev_iconst (v := iI 0) (q := 21) dR_balance_20 rfl rfl ?_
      refine ev_istore (q := 23) dR_balance_21 (by decide) rfl rfl ?_
      dsimp only [List.set]
      rw [show rR_balance ρ node iss = lR_balance_23 ρ node iss 80 0 0 from by rw [rR_balance, if_neg h2, if_pos h4]]
      exact eR_balance_23 hw node iss hp0 hp1 80 0 0  (by omega) (by omega) (by omega)
    · refine ev_iconst (v := iI (-1)) (q := 17) dR_balance_16 rfl rfl ?_
      exact zr_iret dR_balance_17 rfl ⟨by rw [rR_balance, if_neg h2, if_neg (fun z => z h4)], rfl⟩
