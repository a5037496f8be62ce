def rR_isTx (ρ : z_Sg) (t : Int) : Int := if t < 0 then 0 else if (ρ 0 0) ≤ t then 0 else 1
theorem bR_isTx (ρ : z_Sg) (t : Int) : rR_isTx ρ t = 0 ∨ rR_isTx ρ t = 1 := by
  unfold rR_isTx
  repeat' split
  all_goals first | exact Or.inl rfl | exact Or.inr rfl
set_option maxRecDepth 100000 in
set_option maxHeartbeats 4000000 in
theorem sR_isTx {κ ρ : z_Sg} {a : Int → Nat} {B : List va_E} (hw : z_wf ρ) (t : Int) (hp0 : z_rg t) : z_Sp mR_isTx (0, 0) 0 0 [.ref 12, zi t] (zM κ a ρ B) (fun r M' => r = some (zi (rR_isTx ρ t)) ∧ M' = zM κ a ρ B) := by
  refine z_Sp_of (L := [.ref 12, zi t]) (by decide) rfl rfl rfl (Nat.le_of_ble_eq_true rfl) ?_
  refine ev_iload_n 1 (q := 1) dR_isTx_0 rfl (by rfl) rfl ?_
  refine zr_if_lt (t := 16) (q := 4) dR_isTx_1 rfl rfl ⟨by omega, by omega⟩ (fun h1 => ?_) (fun h1 => ?_)
  · refine ev_iconst (v := iI 0) (q := 17) dR_isTx_16 rfl rfl ?_
    exact zr_zret dR_isTx_17 rfl (by omega) ⟨by rw [rR_isTx, if_pos h1], rfl⟩
  · refine ev_iload_n 1 (q := 5) dR_isTx_4 rfl (by rfl) rfl ?_
    refine ev_aload_n 0 (q := 6) dR_isTx_5 rfl (by rfl) rfl ?_
    refine ev_get (q := 9) (v := zi (ρ 0 0)) dR_isTx_6 fR_83 atR rfl rfl ?_
    have g2 : 0 ≤ ρ 0 0 ∧ ρ 0 0 ≤ 20 := hw 0 0 (by decide)
    refine zr_icmp_ge (t := 16) (q := 12) dR_isTx_9 rfl rfl ⟨by omega, by omega⟩ ⟨by omega, by omega⟩ (fun h3 => ?_) (fun h3 => ?_)
    · refine ev_iconst (v := iI 0) (q := 17) dR_isTx_16 rfl rfl ?_
      exact zr_zret dR_isTx_17 rfl (by omega) ⟨by rw [rR_isTx, if_neg (Int.not_lt.mpr h1), if_pos h3], rfl⟩
    · refine ev_iconst (v := iI 1) (q := 13) dR_isTx_12 rfl rfl ?_
      refine ev_goto (t := 17) (q := 17) dR_isTx_13 rfl rfl ?_
      exact zr_zret dR_isTx_17 rfl (by omega) ⟨by rw [rR_isTx, if_neg (Int.not_lt.mpr h1), if_neg (Int.not_le.mpr h3)], rfl⟩

theorem tR_isTx {ρ : z_Sg} (hw : z_wf ρ) {t : Int} (h : rR_isTx ρ t ≠ 0) : 0 ≤ t ∧ t < ρ 0 0 ∧ t ≤ 19 := by
  have g : 0 ≤ ρ 0 0 ∧ ρ 0 0 ≤ 20 := hw 0 0 (by decide)
  unfold rR_isTx at h
  split at h
  · exact absurd rfl h
  · split at h
    · exact absurd rfl h
    · exact ⟨by omega, by omega, by omega⟩

def rR_isNode (ρ : z_Sg) (n : Int) : Int := if n < 0 then 0 else if 3 < n then 0 else 1
theorem bR_isNode (ρ : z_Sg) (n : Int) : rR_isNode ρ n = 0 ∨ rR_isNode ρ n = 1 := by
  unfold rR_isNode
  repeat' split
  all_goals first | exact Or.inl rfl | exact Or.inr rfl
set_option maxRecDepth 100000 in
set_option maxHeartbeats 4000000 in
theorem sR_isNode {κ ρ : z_Sg} {a : Int → Nat} {B : List va_E} (hw : z_wf ρ) (n : Int) (hp0 : z_rg n) : z_Sp mR_isNode (0, 0) 0 0 [.ref 12, zi n] (zM κ a ρ B) (fun r M' => r = some (zi (rR_isNode ρ n)) ∧ M' = zM κ a ρ B) := by
  refine z_Sp_of (L := [.ref 12, zi n]) (by decide) rfl rfl rfl (Nat.le_of_ble_eq_true rfl) ?_
  refine ev_iload_n 1 (q := 1) dR_isNode_0 rfl (by rfl) rfl ?_
  refine zr_if_lt (t := 13) (q := 4) dR_isNode_1 rfl rfl ⟨by omega, by omega⟩ (fun h1 => ?_) (fun h1 => ?_)
  · refine ev_iconst (v := iI 0) (q := 14) dR_isNode_13 rfl rfl ?_
    exact zr_zret dR_isNode_14 rfl (by omega) ⟨by rw [rR_isNode, if_pos h1], rfl⟩
  · refine ev_iload_n 1 (q := 5) dR_isNode_4 rfl (by rfl) rfl ?_
    refine ev_iconst (v := iI 3) (q := 6) dR_isNode_5 rfl rfl ?_
    refine zr_icmp_gt (t := 13) (q := 9) dR_isNode_6 rfl rfl ⟨by omega, by omega⟩ ⟨by omega, by omega⟩ (fun h2 => ?_) (fun h2 => ?_)
    · refine ev_iconst (v := iI 0) (q := 14) dR_isNode_13 rfl rfl ?_
      exact zr_zret dR_isNode_14 rfl (by omega) ⟨by rw [rR_isNode, if_neg (Int.not_lt.mpr h1), if_pos h2], rfl⟩
    · refine ev_iconst (v := iI 1) (q := 10) dR_isNode_9 rfl rfl ?_
      refine ev_goto (t := 14) (q := 14) dR_isNode_10 rfl rfl ?_
      exact zr_zret dR_isNode_14 rfl (by omega) ⟨by rw [rR_isNode, if_neg (Int.not_lt.mpr h1), if_neg (Int.not_lt.mpr h2)], rfl⟩

theorem tR_isNode {ρ : z_Sg} (hw : z_wf ρ) {n : Int} (h : rR_isNode ρ n ≠ 0) : 0 ≤ n ∧ n ≤ 3 := by
  unfold rR_isNode at h
  split at h
  · exact absurd rfl h
  · split at h
    · exact absurd rfl h
    · exact ⟨by omega, by omega⟩

def rR_isState (ρ : z_Sg) (u o : Int) : Int := if (rR_isTx ρ u) = 0 then 0 else if o < 0 then 0 else if (ρ 10 u) ≤ o then 0 else 1
theorem bR_isState (ρ : z_Sg) (u o : Int) : rR_isState ρ u o = 0 ∨ rR_isState ρ u o = 1 := by
  unfold rR_isState
  repeat' split
  all_goals first | exact Or.inl rfl | exact Or.inr rfl
set_option maxRecDepth 100000 in
set_option maxHeartbeats 4000000 in
theorem sR_isState {κ ρ : z_Sg} {a : Int → Nat} {B : List va_E} (hw : z_wf ρ) (u o : Int) (hp0 : z_rg u) (hp1 : z_rg o) : z_Sp mR_isState (1, 21) 0 0 [.ref 12, zi u, zi o] (zM κ a ρ B) (fun r M' => r = some (zi (rR_isState ρ u o)) ∧ M' = zM κ a ρ B) := by
  refine z_Sp_of (L := [.ref 12, zi u, zi o]) (by decide) rfl rfl rfl (Nat.le_of_ble_eq_true rfl) ?_
  refine ev_aload_n 0 (q := 1) dR_isState_0 rfl (by rfl) rfl ?_
  refine ev_iload_n 1 (q := 2) dR_isState_1 rfl (by rfl) rfl ?_
  refine cv_V (As := [_]) (q := 5) dR_isState_2 kR_87 atR rfl rfl (Nat.le_of_ble_eq_true rfl) rfl rfl rfl (by decide) (sR_isTx hw u ⟨by omega, by omega⟩ ) ?_
  have g1 : (rR_isTx ρ u) = 0 ∨ (rR_isTx ρ u) = 1 := bR_isTx _ _
  refine zr_if_eq (t := 26) (q := 8) dR_isState_5 rfl rfl ⟨by omega, by omega⟩ (fun h2 => ?_) (fun h2 => ?_)
  · refine ev_iconst (v := iI 0) (q := 27) dR_isState_26 rfl rfl ?_
    exact zr_zret dR_isState_27 rfl (by omega) ⟨by rw [rR_isState, if_pos h2], rfl⟩
  · have f6 := tR_isTx hw h2
    refine ev_iload_n 2 (q := 9) dR_isState_8 rfl (by rfl) rfl ?_
    refine zr_if_lt (t := 26) (q := 12) dR_isState_9 rfl rfl ⟨by omega, by omega⟩ (fun h3 => ?_) (fun h3 => ?_)
    · refine ev_iconst (v := iI 0) (q := 27) dR_isState_26 rfl rfl ?_
      exact zr_zret dR_isState_27 rfl (by omega) ⟨by rw [rR_isState, if_neg h2, if_pos h3], rfl⟩
    · refine ev_iload_n 2 (q := 13) dR_isState_12 rfl (by rfl) rfl ?_
      refine ev_aload_n 0 (q := 14) dR_isState_13 rfl (by rfl) rfl ?_
      refine ev_get (q := 17) dR_isState_14 fR_38 atR (by rfl) rfl ?_
      refine ev_iload_n 1 (q := 18) dR_isState_17 rfl (by rfl) rfl ?_
      refine zr_iald (q := 19) (g := ρ 10) dR_isState_18 at_outputs (by decide) ⟨by omega, by omega⟩ rfl ?_
      have g4 : 0 ≤ ρ 10 u ∧ ρ 10 u ≤ 4 := hw 10 u (by decide)
      refine zr_icmp_ge (t := 26) (q := 22) dR_isState_19 rfl rfl ⟨by omega, by omega⟩ ⟨by omega, by omega⟩ (fun h5 => ?_) (fun h5 => ?_)
      · refine ev_iconst (v := iI 0) (q := 27) dR_isState_26 rfl rfl ?_
        exact zr_zret dR_isState_27 rfl (by omega) ⟨by rw [rR_isState, if_neg h2, if_neg (Int.not_lt.mpr h3), if_pos h5], rfl⟩
      · refine ev_iconst (v := iI 1) (q := 23) dR_isState_22 rfl rfl ?_
        refine ev_goto (t := 27) (q := 27) dR_isState_23 rfl rfl ?_
        exact zr_zret dR_isState_27 rfl (by omega) ⟨by rw [rR_isState, if_neg h2, if_neg (Int.not_lt.mpr h3), if_neg (Int.not_le.mpr h5)], rfl⟩

theorem tR_isState {ρ : z_Sg} (hw : z_wf ρ) {u o : Int} (h : rR_isState ρ u o ≠ 0) : 0 ≤ u ∧ u < ρ 0 0 ∧ u ≤ 19 ∧ 0 ≤ o ∧ o < ρ 10 u ∧ o ≤ 3 := by
  have g : 0 ≤ ρ 10 u ∧ ρ 10 u ≤ 4 := hw 10 u (by decide)
  unfold rR_isState at h
  split at h
  · exact absurd rfl h
  · rename_i h1
    have h2 := tR_isTx hw h1
    split at h
    · exact absurd rfl h
    · split at h
      · exact absurd rfl h
      · exact ⟨by omega, by omega, by omega, by omega, by omega, by omega⟩

def rR_begin (ρ : z_Sg) (node notary fr un : Int) : Int × z_Sg := if (rR_isNode ρ node) = 0 then ((-1), ρ) else if notary = 4 then if fr < 0 then ((-1), ρ) else if un ≤ fr then ((-1), ρ) else if un ≤ 1000000 then if (ρ 0 0) ≠ 20 then ((((ρ 0 0) + 1) - 1), (z_up (z_up (z_up (z_up (z_up ρ 1 (ρ 0 0) node) 2 (ρ 0 0) notary) 3 (ρ 0 0) fr) 4 (ρ 0 0) un) 0 0 ((ρ 0 0) + 1))) else ((-6), ρ) else ((-1), ρ) else if notary ≠ 5 then ((-1), ρ) else if fr < 0 then ((-1), ρ) else if un ≤ fr then ((-1), ρ) else if un ≤ 1000000 then if (ρ 0 0) ≠ 20 then ((((ρ 0 0) + 1) - 1), (z_up (z_up (z_up (z_up (z_up ρ 1 (ρ 0 0) node) 2 (ρ 0 0) notary) 3 (ρ 0 0) fr) 4 (ρ 0 0) un) 0 0 ((ρ 0 0) + 1))) else ((-6), ρ) else ((-1), ρ)
set_option maxRecDepth 100000 in
set_option maxHeartbeats 4000000 in
theorem sR_begin {κ ρ : z_Sg} {a : Int → Nat} {B : List va_E} (hw : z_wf ρ) (node notary fr un : Int) (hp0 : z_rg node) (hp1 : z_rg notary) (hp2 : z_rg fr) (hp3 : z_rg un) : z_Sp mR_begin (1, 21) 0 0 [.ref 12, zi node, zi notary, zi fr, zi un] (zM κ a ρ B) (fun r M' => r = some (zi (rR_begin ρ node notary fr un).1) ∧ M' = zM κ a (rR_begin ρ node notary fr un).2 B) := by
  refine z_Sp_of (L := [.ref 12, zi node, zi notary, zi fr, zi un]) (by decide) rfl rfl rfl (Nat.le_of_ble_eq_true rfl) ?_
  refine ev_aload_n 0 (q := 1) dR_begin_0 rfl (by rfl) rfl ?_
  refine ev_iload_n 1 (q := 2) dR_begin_1 rfl (by rfl) rfl ?_
  refine cv_V (As := [_]) (q := 5) dR_begin_2 kR_91 atR rfl rfl (Nat.le_of_ble_eq_true rfl) rfl rfl rfl (by decide) (sR_isNode hw node ⟨by omega, by omega⟩ ) ?_
  have g1 : (rR_isNode ρ node) = 0 ∨ (rR_isNode ρ node) = 1 := bR_isNode _ _
  refine zr_if_eq (t := 35) (q := 8) dR_begin_5 rfl rfl ⟨by omega, by omega⟩ (fun h2 => ?_) (fun h2 => ?_)
  · refine ev_iconst (v := iI (-1)) (q := 36) dR_begin_35 rfl rfl ?_
    exact zr_iret dR_begin_36 rfl ⟨by rw [rR_begin, if_pos h2], by rw [rR_begin, if_pos h2]⟩
  · have f35 := tR_isNode hw h2
    refine ev_iload_n 2 (q := 9) dR_begin_8 rfl (by rfl) rfl ?_
    refine ev_iconst (v := iI 4) (q := 10) dR_begin_9 rfl rfl ?_
    refine zr_icmp_eq (t := 18) (q := 13) dR_begin_10 rfl rfl ⟨by omega, by omega⟩ ⟨by omega, by omega⟩ (fun h3 => ?_) (fun h3 => ?_)
    · refine ev_iload_n 3 (q := 19) dR_begin_18 rfl (by rfl) rfl ?_
      refine zr_if_lt (t := 35) (q := 22) dR_begin_19 rfl rfl ⟨by omega, by omega⟩ (fun h4 => ?_) (fun h4 => ?_)
      · refine ev_iconst (v := iI (-1)) (q := 36) dR_begin_35 rfl rfl ?_
        exact zr_iret dR_begin_36 rfl ⟨by rw [rR_begin, if_neg h2, if_pos h3, if_pos h4], by rw [rR_begin, if_neg h2, if_pos h3, if_pos h4]⟩
      · refine ev_iload (q := 24) dR_begin_22 (by rfl) rfl ?_
        refine ev_iload_n 3 (q := 25) dR_begin_24 rfl (by rfl) rfl ?_
        refine zr_icmp_le (t := 35) (q := 28) dR_begin_25 rfl rfl ⟨by omega, by omega⟩ ⟨by omega, by omega⟩ (fun h5 => ?_) (fun h5 => ?_)
        · refine ev_iconst (v := iI (-1)) (q := 36) dR_begin_35 rfl rfl ?_
          exact zr_iret dR_begin_36 rfl ⟨by rw [rR_begin, if_neg h2, if_pos h3, if_neg (Int.not_lt.mpr h4), if_pos h5], by rw [rR_begin, if_neg h2, if_pos h3, if_neg (Int.not_lt.mpr h4), if_pos h5]⟩
        · refine ev_iload (q := 30) dR_begin_28 (by rfl) rfl ?_
          refine ev_ldc (v := iI 1000000) (q := 32) dR_begin_30 wkR_94 rfl ?_
          refine zr_icmp_le (t := 37) (q := 35) dR_begin_32 rfl rfl ⟨by omega, by omega⟩ ⟨by omega, by omega⟩ (fun h6 => ?_) (fun h6 => ?_)
          · refine ev_aload_n 0 (q := 38) dR_begin_37 rfl (by rfl) rfl ?_
            refine ev_get (q := 41) (v := zi (ρ 0 0)) dR_begin_38 fR_83 atR rfl rfl ?_
            have g7 : 0 ≤ ρ 0 0 ∧ ρ 0 0 ≤ 20 := hw 0 0 (by decide)
            refine ev_bipush (v := iI 20) (q := 43) dR_begin_41 (by decide) rfl ?_
            refine zr_icmp_ne (t := 49) (q := 46) dR_begin_43 rfl rfl ⟨by omega, by omega⟩ ⟨by omega, by omega⟩ (fun h8 => ?_) (fun h8 => ?_)
            · refine ev_aload_n 0 (q := 50) dR_begin_49 rfl (by rfl) rfl ?_
              refine ev_get (q := 53) dR_begin_50 fR_7 atR (by rfl) rfl ?_
              refine ev_aload_n 0 (q := 54) dR_begin_53 rfl (by rfl) rfl ?_
              refine ev_get (q := 57) (v := zi (ρ 0 0)) dR_begin_54 fR_83 atR rfl rfl ?_
              have g9 : 0 ≤ ρ 0 0 ∧ ρ 0 0 ≤ 20 := hw 0 0 (by decide)
              refine ev_iload_n 1 (q := 58) dR_begin_57 rfl (by rfl) rfl ?_
              refine zr_iast (q := 59) dR_begin_58 at_begunBy (by decide) ⟨by omega, by omega⟩ st_begunBy rfl ?_
              have hw10 : z_wf (z_up ρ 1 (ρ 0 0) node) := z_wf_up hw (show (0 : Int) ≤ node by omega) (show node ≤ (3 : Int) by omega)
              refine ev_aload_n 0 (q := 60) dR_begin_59 rfl (by rfl) rfl ?_
              refine ev_get (q := 63) dR_begin_60 fR_13 atR (by rfl) rfl ?_
              refine ev_aload_n 0 (q := 64) dR_begin_63 rfl (by rfl) rfl ?_
              refine ev_get (q := 67) (v := zi (ρ 0 0)) dR_begin_64 fR_83 atR rfl rfl ?_
              have g11 : 0 ≤ ρ 0 0 ∧ ρ 0 0 ≤ 20 := hw 0 0 (by decide)
              refine ev_iload_n 2 (q := 68) dR_begin_67 rfl (by rfl) rfl ?_
              refine zr_iast (q := 69) dR_begin_68 at_notaryOf (by decide) ⟨by omega, by omega⟩ st_notaryOf rfl ?_
              have hw12 : z_wf (z_up (z_up ρ 1 (ρ 0 0) node) 2 (ρ 0 0) notary) := z_wf_up hw10 (show (0 : Int) ≤ notary by omega) (show notary ≤ (5 : Int) by omega)
              refine ev_aload_n 0 (q := 70) dR_begin_69 rfl (by rfl) rfl ?_
              refine ev_get (q := 73) dR_begin_70 fR_16 atR (by rfl) rfl ?_
              refine ev_aload_n 0 (q := 74) dR_begin_73 rfl (by rfl) rfl ?_
              refine ev_get (q := 77) (v := zi (ρ 0 0)) dR_begin_74 fR_83 atR rfl rfl ?_
              have g13 : 0 ≤ ρ 0 0 ∧ ρ 0 0 ≤ 20 := hw 0 0 (by decide)
              refine ev_iload_n 3 (q := 78) dR_begin_77 rfl (by rfl) rfl ?_
              refine zr_iast (q := 79) dR_begin_78 at_fromTime (by decide) ⟨by omega, by omega⟩ st_fromTime rfl ?_
              have hw14 : z_wf (z_up (z_up (z_up ρ 1 (ρ 0 0) node) 2 (ρ 0 0) notary) 3 (ρ 0 0) fr) := z_wf_up hw12 (show (0 : Int) ≤ fr by omega) (show fr ≤ (1000000 : Int) by omega)
              refine ev_aload_n 0 (q := 80) dR_begin_79 rfl (by rfl) rfl ?_
              refine ev_get (q := 83) dR_begin_80 fR_19 atR (by rfl) rfl ?_
              refine ev_aload_n 0 (q := 84) dR_begin_83 rfl (by rfl) rfl ?_
              refine ev_get (q := 87) (v := zi (ρ 0 0)) dR_begin_84 fR_83 atR rfl rfl ?_
              have g15 : 0 ≤ ρ 0 0 ∧ ρ 0 0 ≤ 20 := hw 0 0 (by decide)
              refine ev_iload (q := 89) dR_begin_87 (by rfl) rfl ?_
              refine zr_iast (q := 90) dR_begin_89 at_untilTime (by decide) ⟨by omega, by omega⟩ st_untilTime rfl ?_
              have hw16 : z_wf (z_up (z_up (z_up (z_up ρ 1 (ρ 0 0) node) 2 (ρ 0 0) notary) 3 (ρ 0 0) fr) 4 (ρ 0 0) un) := z_wf_up hw14 (show (0 : Int) ≤ un by omega) (show un ≤ (1000000 : Int) by omega)
              refine ev_aload_n 0 (q := 91) dR_begin_90 rfl (by rfl) rfl ?_
              refine ev_dup (q := 92) dR_begin_91 rfl rfl ?_
              refine ev_get (q := 95) (v := zi (ρ 0 0)) dR_begin_92 fR_83 atR rfl rfl ?_
              have g17 : 0 ≤ ρ 0 0 ∧ ρ 0 0 ≤ 20 := hw 0 0 (by decide)
              refine ev_iconst (v := iI 1) (q := 96) dR_begin_95 rfl rfl ?_
              refine zr_iadd (q := 97) dR_begin_96 rfl ?_
              refine zr_puti (q := 100) dR_begin_97 gR_83 atR (Nat.le_of_ble_eq_true rfl) rfl st_many rfl ?_
              have hw18 : z_wf (z_up (z_up (z_up (z_up (z_up ρ 1 (ρ 0 0) node) 2 (ρ 0 0) notary) 3 (ρ 0 0) fr) 4 (ρ 0 0) un) 0 0 ((ρ 0 0) + 1)) := z_wf_up hw16 (show (0 : Int) ≤ ((ρ 0 0) + 1) by omega) (show ((ρ 0 0) + 1) ≤ (20 : Int) by omega)
              refine ev_aload_n 0 (q := 101) dR_begin_100 rfl (by rfl) rfl ?_
              refine ev_get (q := 104) (v := zi ((ρ 0 0) + 1)) dR_begin_101 fR_83 atR rfl rfl ?_
              refine ev_iconst (v := iI 1) (q := 105) dR_begin_104 rfl rfl ?_
              refine zr_isub (q := 106) dR_begin_105 rfl ?_
              exact zr_iret dR_begin_106 rfl ⟨by rw [rR_begin, if_neg h2, if_pos h3, if_neg (Int.not_lt.mpr h4), if_neg (Int.not_le.mpr h5), if_pos h6, if_pos h8], by rw [rR_begin, if_neg h2, if_pos h3, if_neg (Int.not_lt.mpr h4), if_neg (Int.not_le.mpr h5), if_pos h6, if_pos h8]⟩
            · refine ev_bipush (v := iI (-6)) (q := 48) dR_begin_46 (by decide) rfl ?_
              exact zr_iret dR_begin_48 rfl ⟨by rw [rR_begin, if_neg h2, if_pos h3, if_neg (Int.not_lt.mpr h4), if_neg (Int.not_le.mpr h5), if_pos h6, if_neg (fun z => z h8)], by rw [rR_begin, if_neg h2, if_pos h3, if_neg (Int.not_lt.mpr h4), if_neg (Int.not_le.mpr h5), if_pos h6, if_neg (fun z => z h8)]⟩
          · refine ev_iconst (v := iI (-1)) (q := 36) dR_begin_35 rfl rfl ?_
            exact zr_iret dR_begin_36 rfl ⟨by rw [rR_begin, if_neg h2, if_pos h3, if_neg (Int.not_lt.mpr h4), if_neg (Int.not_le.mpr h5), if_neg (Int.not_le.mpr h6)], by rw [rR_begin, if_neg h2, if_pos h3, if_neg (Int.not_lt.mpr h4), if_neg (Int.not_le.mpr h5), if_neg (Int.not_le.mpr h6)]⟩
    · refine ev_iload_n 2 (q := 14) dR_begin_13 rfl (by rfl) rfl ?_
      refine ev_iconst (v := iI 5) (q := 15) dR_begin_14 rfl rfl ?_
      refine zr_icmp_ne (t := 35) (q := 18) dR_begin_15 rfl rfl ⟨by omega, by omega⟩ ⟨by omega, by omega⟩ (fun h19 => ?_) (fun h19 => ?_)
      · refine ev_iconst (v := iI (-1)) (q := 36) dR_begin_35 rfl rfl ?_
        exact zr_iret dR_begin_36 rfl ⟨by rw [rR_begin, if_neg h2, if_neg h3, if_pos h19], by rw [rR_begin, if_neg h2, if_neg h3, if_pos h19]⟩
      · refine ev_iload_n 3 (q := 19) dR_begin_18 rfl (by rfl) rfl ?_
        refine zr_if_lt (t := 35) (q := 22) dR_begin_19 rfl rfl ⟨by omega, by omega⟩ (fun h20 => ?_) (fun h20 => ?_)
        · refine ev_iconst (v := iI (-1)) (q := 36) dR_begin_35 rfl rfl ?_
          exact zr_iret dR_begin_36 rfl ⟨by rw [rR_begin, if_neg h2, if_neg h3, if_neg (fun z => z h19), if_pos h20], by rw [rR_begin, if_neg h2, if_neg h3, if_neg (fun z => z h19), if_pos h20]⟩
        · refine ev_iload (q := 24) dR_begin_22 (by rfl) rfl ?_
          refine ev_iload_n 3 (q := 25) dR_begin_24 rfl (by rfl) rfl ?_
          refine zr_icmp_le (t := 35) (q := 28) dR_begin_25 rfl rfl ⟨by omega, by omega⟩ ⟨by omega, by omega⟩ (fun h21 => ?_) (fun h21 => ?_)
          · refine ev_iconst (v := iI (-1)) (q := 36) dR_begin_35 rfl rfl ?_
            exact zr_iret dR_begin_36 rfl ⟨by rw [rR_begin, if_neg h2, if_neg h3, if_neg (fun z => z h19), if_neg (Int.not_lt.mpr h20), if_pos h21], by rw [rR_begin, if_neg h2, if_neg h3, if_neg (fun z => z h19), if_neg (Int.not_lt.mpr h20), if_pos h21]⟩
          · refine ev_iload (q := 30) dR_begin_28 (by rfl) rfl ?_
            refine ev_ldc (v := iI 1000000) (q := 32) dR_begin_30 wkR_94 rfl ?_
            refine zr_icmp_le (t := 37) (q := 35) dR_begin_32 rfl rfl ⟨by omega, by omega⟩ ⟨by omega, by omega⟩ (fun h22 => ?_) (fun h22 => ?_)
            · refine ev_aload_n 0 (q := 38) dR_begin_37 rfl (by rfl) rfl ?_
              refine ev_get (q := 41) (v := zi (ρ 0 0)) dR_begin_38 fR_83 atR rfl rfl ?_
              have g23 : 0 ≤ ρ 0 0 ∧ ρ 0 0 ≤ 20 := hw 0 0 (by decide)
              refine ev_bipush (v := iI 20) (q := 43) dR_begin_41 (by decide) rfl ?_
              refine zr_icmp_ne (t := 49) (q := 46) dR_begin_43 rfl rfl ⟨by omega, by omega⟩ ⟨by omega, by omega⟩ (fun h24 => ?_) (fun h24 => ?_)
              · refine ev_aload_n 0 (q := 50) dR_begin_49 rfl (by rfl) rfl ?_
                refine ev_get (q := 53) dR_begin_50 fR_7 atR (by rfl) rfl ?_
                refine ev_aload_n 0 (q := 54) dR_begin_53 rfl (by rfl) rfl ?_
                refine ev_get (q := 57) (v := zi (ρ 0 0)) dR_begin_54 fR_83 atR rfl rfl ?_
                have g25 : 0 ≤ ρ 0 0 ∧ ρ 0 0 ≤ 20 := hw 0 0 (by decide)
                refine ev_iload_n 1 (q := 58) dR_begin_57 rfl (by rfl) rfl ?_
                refine zr_iast (q := 59) dR_begin_58 at_begunBy (by decide) ⟨by omega, by omega⟩ st_begunBy rfl ?_
                have hw26 : z_wf (z_up ρ 1 (ρ 0 0) node) := z_wf_up hw (show (0 : Int) ≤ node by omega) (show node ≤ (3 : Int) by omega)
                refine ev_aload_n 0 (q := 60) dR_begin_59 rfl (by rfl) rfl ?_
                refine ev_get (q := 63) dR_begin_60 fR_13 atR (by rfl) rfl ?_
                refine ev_aload_n 0 (q := 64) dR_begin_63 rfl (by rfl) rfl ?_
                refine ev_get (q := 67) (v := zi (ρ 0 0)) dR_begin_64 fR_83 atR rfl rfl ?_
                have g27 : 0 ≤ ρ 0 0 ∧ ρ 0 0 ≤ 20 := hw 0 0 (by decide)
                refine ev_iload_n 2 (q := 68) dR_begin_67 rfl (by rfl) rfl ?_
                refine zr_iast (q := 69) dR_begin_68 at_notaryOf (by decide) ⟨by omega, by omega⟩ st_notaryOf rfl ?_
                have hw28 : z_wf (z_up (z_up ρ 1 (ρ 0 0) node) 2 (ρ 0 0) notary) := z_wf_up hw26 (show (0 : Int) ≤ notary by omega) (show notary ≤ (5 : Int) by omega)
                refine ev_aload_n 0 (q := 70) dR_begin_69 rfl (by rfl) rfl ?_
                refine ev_get (q := 73) dR_begin_70 fR_16 atR (by rfl) rfl ?_
                refine ev_aload_n 0 (q := 74) dR_begin_73 rfl (by rfl) rfl ?_
                refine ev_get (q := 77) (v := zi (ρ 0 0)) dR_begin_74 fR_83 atR rfl rfl ?_
                have g29 : 0 ≤ ρ 0 0 ∧ ρ 0 0 ≤ 20 := hw 0 0 (by decide)
                refine ev_iload_n 3 (q := 78) dR_begin_77 rfl (by rfl) rfl ?_
                refine zr_iast (q := 79) dR_begin_78 at_fromTime (by decide) ⟨by omega, by omega⟩ st_fromTime rfl ?_
                have hw30 : z_wf (z_up (z_up (z_up ρ 1 (ρ 0 0) node) 2 (ρ 0 0) notary) 3 (ρ 0 0) fr) := z_wf_up hw28 (show (0 : Int) ≤ fr by omega) (show fr ≤ (1000000 : Int) by omega)
                refine ev_aload_n 0 (q := 80) dR_begin_79 rfl (by rfl) rfl ?_
                refine ev_get (q := 83) dR_begin_80 fR_19 atR (by rfl) rfl ?_
                refine ev_aload_n 0 (q := 84) dR_begin_83 rfl (by rfl) rfl ?_
                refine ev_get (q := 87) (v := zi (ρ 0 0)) dR_begin_84 fR_83 atR rfl rfl ?_
                have g31 : 0 ≤ ρ 0 0 ∧ ρ 0 0 ≤ 20 := hw 0 0 (by decide)
                refine ev_iload (q := 89) dR_begin_87 (by rfl) rfl ?_
                refine zr_iast (q := 90) dR_begin_89 at_untilTime (by decide) ⟨by omega, by omega⟩ st_untilTime rfl ?_
                have hw32 : z_wf (z_up (z_up (z_up (z_up ρ 1 (ρ 0 0) node) 2 (ρ 0 0) notary) 3 (ρ 0 0) fr) 4 (ρ 0 0) un) := z_wf_up hw30 (show (0 : Int) ≤ un by omega) (show un ≤ (1000000 : Int) by omega)
                refine ev_aload_n 0 (q := 91) dR_begin_90 rfl (by rfl) rfl ?_
                refine ev_dup (q := 92) dR_begin_91 rfl rfl ?_
                refine ev_get (q := 95) (v := zi (ρ 0 0)) dR_begin_92 fR_83 atR rfl rfl ?_
                have g33 : 0 ≤ ρ 0 0 ∧ ρ 0 0 ≤ 20 := hw 0 0 (by decide)
                refine ev_iconst (v := iI 1) (q := 96) dR_begin_95 rfl rfl ?_
                refine zr_iadd (q := 97) dR_begin_96 rfl ?_
                refine zr_puti (q := 100) dR_begin_97 gR_83 atR (Nat.le_of_ble_eq_true rfl) rfl st_many rfl ?_
                have hw34 : z_wf (z_up (z_up (z_up (z_up (z_up ρ 1 (ρ 0 0) node) 2 (ρ 0 0) notary) 3 (ρ 0 0) fr) 4 (ρ 0 0) un) 0 0 ((ρ 0 0) + 1)) := z_wf_up hw32 (show (0 : Int) ≤ ((ρ 0 0) + 1) by omega) (show ((ρ 0 0) + 1) ≤ (20 : Int) by omega)
                refine ev_aload_n 0 (q := 101) dR_begin_100 rfl (by rfl) rfl ?_
                refine ev_get (q := 104) (v := zi ((ρ 0 0) + 1)) dR_begin_101 fR_83 atR rfl rfl ?_
                refine ev_iconst (v := iI 1) (q := 105) dR_begin_104 rfl rfl ?_
                refine zr_isub (q := 106) dR_begin_105 rfl ?_
                exact zr_iret dR_begin_106 rfl ⟨by rw [rR_begin, if_neg h2, if_neg h3, if_neg (fun z => z h19), if_neg (Int.not_lt.mpr h20), if_neg (Int.not_le.mpr h21), if_pos h22, if_pos h24], by rw [rR_begin, if_neg h2, if_neg h3, if_neg (fun z => z h19), if_neg (Int.not_lt.mpr h20), if_neg (Int.not_le.mpr h21), if_pos h22, if_pos h24]⟩
              · refine ev_bipush (v := iI (-6)) (q := 48) dR_begin_46 (by decide) rfl ?_
                exact zr_iret dR_begin_48 rfl ⟨by rw [rR_begin, if_neg h2, if_neg h3, if_neg (fun z => z h19), if_neg (Int.not_lt.mpr h20), if_neg (Int.not_le.mpr h21), if_pos h22, if_neg (fun z => z h24)], by rw [rR_begin, if_neg h2, if_neg h3, if_neg (fun z => z h19), if_neg (Int.not_lt.mpr h20), if_neg (Int.not_le.mpr h21), if_pos h22, if_neg (fun z => z h24)]⟩
            · refine ev_iconst (v := iI (-1)) (q := 36) dR_begin_35 rfl rfl ?_
              exact zr_iret dR_begin_36 rfl ⟨by rw [rR_begin, if_neg h2, if_neg h3, if_neg (fun z => z h19), if_neg (Int.not_lt.mpr h20), if_neg (Int.not_le.mpr h21), if_neg (Int.not_le.mpr h22)], by rw [rR_begin, if_neg h2, if_neg h3, if_neg (fun z => z h19), if_neg (Int.not_lt.mpr h20), if_neg (Int.not_le.mpr h21), if_neg (Int.not_le.mpr h22)]⟩
set_option maxRecDepth 100000 in
set_option maxHeartbeats 4000000 in
theorem wR_begin {ρ : z_Sg} (hw : z_wf ρ) (node notary fr un : Int) (hp0 : z_rg node) (hp1 : z_rg notary) (hp2 : z_rg fr) (hp3 : z_rg un) : z_wf (rR_begin ρ node notary fr un).2 := by
  rw [rR_begin]
  have g1 : (rR_isNode ρ node) = 0 ∨ (rR_isNode ρ node) = 1 := bR_isNode _ _
  by_cases h2 : (rR_isNode ρ node) = 0
  · rw [if_pos h2]
    exact hw
  · rw [if_neg h2]
    have f35 := tR_isNode hw h2
    by_cases h3 : notary = 4
    · rw [if_pos h3]
      by_cases h4 : fr < 0
      · rw [if_pos h4]
        exact hw
      · rw [if_neg h4]
        by_cases h5 : un ≤ fr
        · rw [if_pos h5]
          exact hw
        · rw [if_neg h5]
          by_cases h6 : un ≤ 1000000
          · rw [if_pos h6]
            have g7 : 0 ≤ ρ 0 0 ∧ ρ 0 0 ≤ 20 := hw 0 0 (by decide)
            by_cases h8 : (ρ 0 0) ≠ 20
            · rw [if_pos h8]
              have g9 : 0 ≤ ρ 0 0 ∧ ρ 0 0 ≤ 20 := hw 0 0 (by decide)
              have hw10 : z_wf (z_up ρ 1 (ρ 0 0) node) := z_wf_up hw (show (0 : Int) ≤ node by omega) (show node ≤ (3 : Int) by omega)
              have g11 : 0 ≤ ρ 0 0 ∧ ρ 0 0 ≤ 20 := hw 0 0 (by decide)
              have hw12 : z_wf (z_up (z_up ρ 1 (ρ 0 0) node) 2 (ρ 0 0) notary) := z_wf_up hw10 (show (0 : Int) ≤ notary by omega) (show notary ≤ (5 : Int) by omega)
              have g13 : 0 ≤ ρ 0 0 ∧ ρ 0 0 ≤ 20 := hw 0 0 (by decide)
              have hw14 : z_wf (z_up (z_up (z_up ρ 1 (ρ 0 0) node) 2 (ρ 0 0) notary) 3 (ρ 0 0) fr) := z_wf_up hw12 (show (0 : Int) ≤ fr by omega) (show fr ≤ (1000000 : Int) by omega)
              have g15 : 0 ≤ ρ 0 0 ∧ ρ 0 0 ≤ 20 := hw 0 0 (by decide)
              have hw16 : z_wf (z_up (z_up (z_up (z_up ρ 1 (ρ 0 0) node) 2 (ρ 0 0) notary) 3 (ρ 0 0) fr) 4 (ρ 0 0) un) := z_wf_up hw14 (show (0 : Int) ≤ un by omega) (show un ≤ (1000000 : Int) by omega)
              have g17 : 0 ≤ ρ 0 0 ∧ ρ 0 0 ≤ 20 := hw 0 0 (by decide)
              have hw18 : z_wf (z_up (z_up (z_up (z_up (z_up ρ 1 (ρ 0 0) node) 2 (ρ 0 0) notary) 3 (ρ 0 0) fr) 4 (ρ 0 0) un) 0 0 ((ρ 0 0) + 1)) := z_wf_up hw16 (show (0 : Int) ≤ ((ρ 0 0) + 1) by omega) (show ((ρ 0 0) + 1) ≤ (20 : Int) by omega)
              exact hw18
            · rw [if_neg h8]
              exact hw
          · rw [if_neg h6]
            exact hw
    · rw [if_neg h3]
      by_cases h19 : notary ≠ 5
      · rw [if_pos h19]
        exact hw
      · rw [if_neg h19]
        by_cases h20 : fr < 0
        · rw [if_pos h20]
          exact hw
        · rw [if_neg h20]
          by_cases h21 : un ≤ fr
          · rw [if_pos h21]
            exact hw
          · rw [if_neg h21]
            by_cases h22 : un ≤ 1000000
            · rw [if_pos h22]
              have g23 : 0 ≤ ρ 0 0 ∧ ρ 0 0 ≤ 20 := hw 0 0 (by decide)
              by_cases h24 : (ρ 0 0) ≠ 20
              · rw [if_pos h24]
                have g25 : 0 ≤ ρ 0 0 ∧ ρ 0 0 ≤ 20 := hw 0 0 (by decide)
                have hw26 : z_wf (z_up ρ 1 (ρ 0 0) node) := z_wf_up hw (show (0 : Int) ≤ node by omega) (show node ≤ (3 : Int) by omega)
                have g27 : 0 ≤ ρ 0 0 ∧ ρ 0 0 ≤ 20 := hw 0 0 (by decide)
                have hw28 : z_wf (z_up (z_up ρ 1 (ρ 0 0) node) 2 (ρ 0 0) notary) := z_wf_up hw26 (show (0 : Int) ≤ notary by omega) (show notary ≤ (5 : Int) by omega)
                have g29 : 0 ≤ ρ 0 0 ∧ ρ 0 0 ≤ 20 := hw 0 0 (by decide)
                have hw30 : z_wf (z_up (z_up (z_up ρ 1 (ρ 0 0) node) 2 (ρ 0 0) notary) 3 (ρ 0 0) fr) := z_wf_up hw28 (show (0 : Int) ≤ fr by omega) (show fr ≤ (1000000 : Int) by omega)
                have g31 : 0 ≤ ρ 0 0 ∧ ρ 0 0 ≤ 20 := hw 0 0 (by decide)
                have hw32 : z_wf (z_up (z_up (z_up (z_up ρ 1 (ρ 0 0) node) 2 (ρ 0 0) notary) 3 (ρ 0 0) fr) 4 (ρ 0 0) un) := z_wf_up hw30 (show (0 : Int) ≤ un by omega) (show un ≤ (1000000 : Int) by omega)
                have g33 : 0 ≤ ρ 0 0 ∧ ρ 0 0 ≤ 20 := hw 0 0 (by decide)
                have hw34 : z_wf (z_up (z_up (z_up (z_up (z_up ρ 1 (ρ 0 0) node) 2 (ρ 0 0) notary) 3 (ρ 0 0) fr) 4 (ρ 0 0) un) 0 0 ((ρ 0 0) + 1)) := z_wf_up hw32 (show (0 : Int) ≤ ((ρ 0 0) + 1) by omega) (show ((ρ 0 0) + 1) ≤ (20 : Int) by omega)
                exact hw34
              · rw [if_neg h24]
                exact hw
            · rw [if_neg h22]
              exact hw

def rR_drop (ρ : z_Sg) (t : Int) : Int × z_Sg := if (rR_isTx ρ t) = 0 then (0, ρ) else if (ρ 5 t) = 0 then (1, (z_up ρ 5 t 9)) else (0, ρ)
set_option maxRecDepth 100000 in
set_option maxHeartbeats 4000000 in
theorem sR_drop {κ ρ : z_Sg} {a : Int → Nat} {B : List va_E} (hw : z_wf ρ) (t : Int) (hp0 : z_rg t) : z_Sp mR_drop (1, 21) 0 0 [.ref 12, zi t] (zM κ a ρ B) (fun r M' => r = some (zi (rR_drop ρ t).1) ∧ M' = zM κ a (rR_drop ρ t).2 B) := by
  refine z_Sp_of (L := [.ref 12, zi t]) (by decide) rfl rfl rfl (Nat.le_of_ble_eq_true rfl) ?_
  refine ev_aload_n 0 (q := 1) dR_drop_0 rfl (by rfl) rfl ?_
  refine ev_iload_n 1 (q := 2) dR_drop_1 rfl (by rfl) rfl ?_
  refine cv_V (As := [_]) (q := 5) dR_drop_2 kR_87 atR rfl rfl (Nat.le_of_ble_eq_true rfl) rfl rfl rfl (by decide) (sR_isTx hw t ⟨by omega, by omega⟩ ) ?_
  have g1 : (rR_isTx ρ t) = 0 ∨ (rR_isTx ρ t) = 1 := bR_isTx _ _
  refine zr_if_eq (t := 17) (q := 8) dR_drop_5 rfl rfl ⟨by omega, by omega⟩ (fun h2 => ?_) (fun h2 => ?_)
  · refine ev_iconst (v := iI 0) (q := 18) dR_drop_17 rfl rfl ?_
    exact zr_zret dR_drop_18 rfl (by omega) ⟨by rw [rR_drop, if_pos h2], by rw [rR_drop, if_pos h2]⟩
  · have f6 := tR_isTx hw h2
    refine ev_aload_n 0 (q := 9) dR_drop_8 rfl (by rfl) rfl ?_
    refine ev_get (q := 12) dR_drop_9 fR_22 atR (by rfl) rfl ?_
    refine ev_iload_n 1 (q := 13) dR_drop_12 rfl (by rfl) rfl ?_
    refine zr_iald (q := 14) (g := ρ 5) dR_drop_13 at_stageOf (by decide) ⟨by omega, by omega⟩ rfl ?_
    have g3 : 0 ≤ ρ 5 t ∧ ρ 5 t ≤ 9 := hw 5 t (by decide)
    refine zr_if_eq (t := 19) (q := 17) dR_drop_14 rfl rfl ⟨by omega, by omega⟩ (fun h4 => ?_) (fun h4 => ?_)
    · refine ev_aload_n 0 (q := 20) dR_drop_19 rfl (by rfl) rfl ?_
      refine ev_get (q := 23) dR_drop_20 fR_22 atR (by rfl) rfl ?_
      refine ev_iload_n 1 (q := 24) dR_drop_23 rfl (by rfl) rfl ?_
      refine ev_bipush (v := iI 9) (q := 26) dR_drop_24 (by decide) rfl ?_
      refine zr_iast (q := 27) dR_drop_26 at_stageOf (by decide) ⟨by omega, by omega⟩ st_stageOf rfl ?_
      have hw5 : z_wf (z_up ρ 5 t 9) := z_wf_up hw (show (0 : Int) ≤ 9 by omega) (show 9 ≤ (9 : Int) by omega)
      refine ev_iconst (v := iI 1) (q := 28) dR_drop_27 rfl rfl ?_
      exact zr_zret dR_drop_28 rfl (by omega) ⟨by rw [rR_drop, if_neg h2, if_pos h4], by rw [rR_drop, if_neg h2, if_pos h4]⟩
    · refine ev_iconst (v := iI 0) (q := 18) dR_drop_17 rfl rfl ?_
      exact zr_zret dR_drop_18 rfl (by omega) ⟨by rw [rR_drop, if_neg h2, if_neg h4], by rw [rR_drop, if_neg h2, if_neg h4]⟩
set_option maxRecDepth 100000 in
set_option maxHeartbeats 4000000 in
theorem wR_drop {ρ : z_Sg} (hw : z_wf ρ) (t : Int) (hp0 : z_rg t) : z_wf (rR_drop ρ t).2 := by
  rw [rR_drop]
  have g1 : (rR_isTx ρ t) = 0 ∨ (rR_isTx ρ t) = 1 := bR_isTx _ _
  by_cases h2 : (rR_isTx ρ t) = 0
  · rw [if_pos h2]
    exact hw
  · rw [if_neg h2]
    have f6 := tR_isTx hw h2
    have g3 : 0 ≤ ρ 5 t ∧ ρ 5 t ≤ 9 := hw 5 t (by decide)
    by_cases h4 : (ρ 5 t) = 0
    · rw [if_pos h4]
      have hw5 : z_wf (z_up ρ 5 t 9) := z_wf_up hw (show (0 : Int) ≤ 9 by omega) (show 9 ≤ (9 : Int) by omega)
      exact hw5
    · rw [if_neg h4]
      exact hw

def rR_stage (ρ : z_Sg) (t : Int) : Int := if (rR_isTx ρ t) = 0 then (-1) else (ρ 5 t)
set_option maxRecDepth 100000 in
set_option maxHeartbeats 4000000 in
theorem sR_stage {κ ρ : z_Sg} {a : Int → Nat} {B : List va_E} (hw : z_wf ρ) (t : Int) (hp0 : z_rg t) : z_Sp mR_stage (1, 21) 0 0 [.ref 12, zi t] (zM κ a ρ B) (fun r M' => r = some (zi (rR_stage ρ t)) ∧ M' = zM κ a ρ B) := by
  refine z_Sp_of (L := [.ref 12, zi t]) (by decide) rfl rfl rfl (Nat.le_of_ble_eq_true rfl) ?_
  refine ev_aload_n 0 (q := 1) dR_stage_0 rfl (by rfl) rfl ?_
  refine ev_iload_n 1 (q := 2) dR_stage_1 rfl (by rfl) rfl ?_
  refine cv_V (As := [_]) (q := 5) dR_stage_2 kR_87 atR rfl rfl (Nat.le_of_ble_eq_true rfl) rfl rfl rfl (by decide) (sR_isTx hw t ⟨by omega, by omega⟩ ) ?_
  have g1 : (rR_isTx ρ t) = 0 ∨ (rR_isTx ρ t) = 1 := bR_isTx _ _
  refine zr_if_eq (t := 17) (q := 8) dR_stage_5 rfl rfl ⟨by omega, by omega⟩ (fun h2 => ?_) (fun h2 => ?_)
  · refine ev_iconst (v := iI (-1)) (q := 18) dR_stage_17 rfl rfl ?_
    exact zr_iret dR_stage_18 rfl ⟨by rw [rR_stage, if_pos h2], rfl⟩
  · have f4 := tR_isTx hw h2
    refine ev_aload_n 0 (q := 9) dR_stage_8 rfl (by rfl) rfl ?_
    refine ev_get (q := 12) dR_stage_9 fR_22 atR (by rfl) rfl ?_
    refine ev_iload_n 1 (q := 13) dR_stage_12 rfl (by rfl) rfl ?_
    refine zr_iald (q := 14) (g := ρ 5) dR_stage_13 at_stageOf (by decide) ⟨by omega, by omega⟩ rfl ?_
    have g3 : 0 ≤ ρ 5 t ∧ ρ 5 t ≤ 9 := hw 5 t (by decide)
    refine ev_goto (t := 18) (q := 18) dR_stage_14 rfl rfl ?_
    exact zr_iret dR_stage_18 rfl ⟨by rw [rR_stage, if_neg h2], rfl⟩

def rR_verdict (ρ : z_Sg) (t : Int) : Int := if (rR_isTx ρ t) = 0 then (-1) else (ρ 8 t)
set_option maxRecDepth 100000 in
set_option maxHeartbeats 4000000 in
theorem sR_verdict {κ ρ : z_Sg} {a : Int → Nat} {B : List va_E} (hw : z_wf ρ) (t : Int) (hp0 : z_rg t) : z_Sp mR_verdict (1, 21) 0 0 [.ref 12, zi t] (zM κ a ρ B) (fun r M' => r = some (zi (rR_verdict ρ t)) ∧ M' = zM κ a ρ B) := by
  refine z_Sp_of (L := [.ref 12, zi t]) (by decide) rfl rfl rfl (Nat.le_of_ble_eq_true rfl) ?_
  refine ev_aload_n 0 (q := 1) dR_verdict_0 rfl (by rfl) rfl ?_
  refine ev_iload_n 1 (q := 2) dR_verdict_1 rfl (by rfl) rfl ?_
  refine cv_V (As := [_]) (q := 5) dR_verdict_2 kR_87 atR rfl rfl (Nat.le_of_ble_eq_true rfl) rfl rfl rfl (by decide) (sR_isTx hw t ⟨by omega, by omega⟩ ) ?_
  have g1 : (rR_isTx ρ t) = 0 ∨ (rR_isTx ρ t) = 1 := bR_isTx _ _
  refine zr_if_eq (t := 17) (q := 8) dR_verdict_5 rfl rfl ⟨by omega, by omega⟩ (fun h2 => ?_) (fun h2 => ?_)
  · refine ev_iconst (v := iI (-1)) (q := 18) dR_verdict_17 rfl rfl ?_
    exact zr_iret dR_verdict_18 rfl ⟨by rw [rR_verdict, if_pos h2], rfl⟩
  · have f4 := tR_isTx hw h2
    refine ev_aload_n 0 (q := 9) dR_verdict_8 rfl (by rfl) rfl ?_
    refine ev_get (q := 12) dR_verdict_9 fR_32 atR (by rfl) rfl ?_
    refine ev_iload_n 1 (q := 13) dR_verdict_12 rfl (by rfl) rfl ?_
    refine zr_iald (q := 14) (g := ρ 8) dR_verdict_13 at_verdictOf (by decide) ⟨by omega, by omega⟩ rfl ?_
    have g3 : 0 ≤ ρ 8 t ∧ ρ 8 t ≤ 4 := hw 8 t (by decide)
    refine ev_goto (t := 18) (q := 18) dR_verdict_14 rfl rfl ?_
    exact zr_iret dR_verdict_18 rfl ⟨by rw [rR_verdict, if_neg h2], rfl⟩

def rR_spender (ρ : z_Sg) (u o : Int) : Int := if (rR_isState ρ u o) = 0 then (-1) else (ρ 17 ((4 * u) + o))
set_option maxRecDepth 100000 in
set_option maxHeartbeats 4000000 in
theorem sR_spender {κ ρ : z_Sg} {a : Int → Nat} {B : List va_E} (hw : z_wf ρ) (u o : Int) (hp0 : z_rg u) (hp1 : z_rg o) : z_Sp mR_spender (2, 43) 0 0 [.ref 12, zi u, zi o] (zM κ a ρ B) (fun r M' => r = some (zi (rR_spender ρ u o)) ∧ M' = zM κ a ρ B) := by
  refine z_Sp_of (L := [.ref 12, zi u, zi o]) (by decide) rfl rfl rfl (Nat.le_of_ble_eq_true rfl) ?_
  refine ev_aload_n 0 (q := 1) dR_spender_0 rfl (by rfl) rfl ?_
  refine ev_iload_n 1 (q := 2) dR_spender_1 rfl (by rfl) rfl ?_
  refine ev_iload_n 2 (q := 3) dR_spender_2 rfl (by rfl) rfl ?_
  refine cv_V (As := [_, _]) (q := 6) dR_spender_3 kR_95 atR rfl rfl (Nat.le_of_ble_eq_true rfl) rfl rfl rfl (by decide) (sR_isState hw u o ⟨by omega, by omega⟩ ⟨by omega, by omega⟩ ) ?_
  have g1 : (rR_isState ρ u o) = 0 ∨ (rR_isState ρ u o) = 1 := bR_isState _ _ _
  refine zr_if_eq (t := 22) (q := 9) dR_spender_6 rfl rfl ⟨by omega, by omega⟩ (fun h2 => ?_) (fun h2 => ?_)
  · refine ev_iconst (v := iI (-1)) (q := 23) dR_spender_22 rfl rfl ?_
    exact zr_iret dR_spender_23 rfl ⟨by rw [rR_spender, if_pos h2], rfl⟩
  · have f4 := tR_isState hw h2
    refine ev_aload_n 0 (q := 10) dR_spender_9 rfl (by rfl) rfl ?_
    refine ev_get (q := 13) dR_spender_10 fR_59 atR (by rfl) rfl ?_
    refine ev_iconst (v := iI 4) (q := 14) dR_spender_13 rfl rfl ?_
    refine ev_iload_n 1 (q := 15) dR_spender_14 rfl (by rfl) rfl ?_
    refine zr_imul (q := 16) dR_spender_15 rfl ?_
    refine ev_iload_n 2 (q := 17) dR_spender_16 rfl (by rfl) rfl ?_
    refine zr_iadd (q := 18) dR_spender_17 rfl ?_
    refine zr_iald (q := 19) (g := ρ 17) dR_spender_18 at_usedBy (by decide) ⟨by omega, by omega⟩ rfl ?_
    have g3 : -1 ≤ ρ 17 ((4 * u) + o) ∧ ρ 17 ((4 * u) + o) ≤ 19 := hw 17 ((4 * u) + o) (by decide)
    refine ev_goto (t := 23) (q := 23) dR_spender_19 rfl rfl ?_
    exact zr_iret dR_spender_23 rfl ⟨by rw [rR_spender, if_neg h2], rfl⟩

def rR_standing (ρ : z_Sg) (n t : Int) : Int := if (rR_isNode ρ n) = 0 then (-1) else if (rR_isTx ρ t) = 0 then (-1) else (ρ 18 ((20 * n) + t))
set_option maxRecDepth 100000 in
set_option maxHeartbeats 4000000 in
theorem sR_standing {κ ρ : z_Sg} {a : Int → Nat} {B : List va_E} (hw : z_wf ρ) (n t : Int) (hp0 : z_rg n) (hp1 : z_rg t) : z_Sp mR_standing (1, 21) 0 0 [.ref 12, zi n, zi t] (zM κ a ρ B) (fun r M' => r = some (zi (rR_standing ρ n t)) ∧ M' = zM κ a ρ B) := by
  refine z_Sp_of (L := [.ref 12, zi n, zi t]) (by decide) rfl rfl rfl (Nat.le_of_ble_eq_true rfl) ?_
  refine ev_aload_n 0 (q := 1) dR_standing_0 rfl (by rfl) rfl ?_
  refine ev_iload_n 1 (q := 2) dR_standing_1 rfl (by rfl) rfl ?_
  refine cv_V (As := [_]) (q := 5) dR_standing_2 kR_91 atR rfl rfl (Nat.le_of_ble_eq_true rfl) rfl rfl rfl (by decide) (sR_isNode hw n ⟨by omega, by omega⟩ ) ?_
  have g1 : (rR_isNode ρ n) = 0 ∨ (rR_isNode ρ n) = 1 := bR_isNode _ _
  refine zr_if_eq (t := 30) (q := 8) dR_standing_5 rfl rfl ⟨by omega, by omega⟩ (fun h2 => ?_) (fun h2 => ?_)
  · refine ev_iconst (v := iI (-1)) (q := 31) dR_standing_30 rfl rfl ?_
    exact zr_iret dR_standing_31 rfl ⟨by rw [rR_standing, if_pos h2], rfl⟩
  · have f7 := tR_isNode hw h2
    refine ev_aload_n 0 (q := 9) dR_standing_8 rfl (by rfl) rfl ?_
    refine ev_iload_n 2 (q := 10) dR_standing_9 rfl (by rfl) rfl ?_
    refine cv_V (As := [_]) (q := 13) dR_standing_10 kR_87 atR rfl rfl (Nat.le_of_ble_eq_true rfl) rfl rfl rfl (by decide) (sR_isTx hw t ⟨by omega, by omega⟩ ) ?_
    have g3 : (rR_isTx ρ t) = 0 ∨ (rR_isTx ρ t) = 1 := bR_isTx _ _
    refine zr_if_eq (t := 30) (q := 16) dR_standing_13 rfl rfl ⟨by omega, by omega⟩ (fun h4 => ?_) (fun h4 => ?_)
    · refine ev_iconst (v := iI (-1)) (q := 31) dR_standing_30 rfl rfl ?_
      exact zr_iret dR_standing_31 rfl ⟨by rw [rR_standing, if_neg h2, if_pos h4], rfl⟩
    · have f6 := tR_isTx hw h4
      refine ev_aload_n 0 (q := 17) dR_standing_16 rfl (by rfl) rfl ?_
      refine ev_get (q := 20) dR_standing_17 fR_62 atR (by rfl) rfl ?_
      refine ev_bipush (v := iI 20) (q := 22) dR_standing_20 (by decide) rfl ?_
      refine ev_iload_n 1 (q := 23) dR_standing_22 rfl (by rfl) rfl ?_
      refine zr_imul (q := 24) dR_standing_23 rfl ?_
      refine ev_iload_n 2 (q := 25) dR_standing_24 rfl (by rfl) rfl ?_
      refine zr_iadd (q := 26) dR_standing_25 rfl ?_
      refine zr_iald (q := 27) (g := ρ 18) dR_standing_26 at_knows (by decide) ⟨by omega, by omega⟩ rfl ?_
      have g5 : 0 ≤ ρ 18 ((20 * n) + t) ∧ ρ 18 ((20 * n) + t) ≤ 2 := hw 18 ((20 * n) + t) (by decide)
      refine ev_goto (t := 31) (q := 31) dR_standing_27 rfl rfl ?_
      exact zr_iret dR_standing_31 rfl ⟨by rw [rR_standing, if_neg h2, if_neg h4], rfl⟩

def rR_fetched (ρ : z_Sg) (n : Int) : Int := if (rR_isNode ρ n) = 0 then (-1) else (ρ 20 n)
set_option maxRecDepth 100000 in
set_option maxHeartbeats 4000000 in
theorem sR_fetched {κ ρ : z_Sg} {a : Int → Nat} {B : List va_E} (hw : z_wf ρ) (n : Int) (hp0 : z_rg n) : z_Sp mR_fetched (1, 21) 0 0 [.ref 12, zi n] (zM κ a ρ B) (fun r M' => r = some (zi (rR_fetched ρ n)) ∧ M' = zM κ a ρ B) := by
  refine z_Sp_of (L := [.ref 12, zi n]) (by decide) rfl rfl rfl (Nat.le_of_ble_eq_true rfl) ?_
  refine ev_aload_n 0 (q := 1) dR_fetched_0 rfl (by rfl) rfl ?_
  refine ev_iload_n 1 (q := 2) dR_fetched_1 rfl (by rfl) rfl ?_
  refine cv_V (As := [_]) (q := 5) dR_fetched_2 kR_91 atR rfl rfl (Nat.le_of_ble_eq_true rfl) rfl rfl rfl (by decide) (sR_isNode hw n ⟨by omega, by omega⟩ ) ?_
  have g1 : (rR_isNode ρ n) = 0 ∨ (rR_isNode ρ n) = 1 := bR_isNode _ _
  refine zr_if_eq (t := 17) (q := 8) dR_fetched_5 rfl rfl ⟨by omega, by omega⟩ (fun h2 => ?_) (fun h2 => ?_)
  · refine ev_iconst (v := iI (-1)) (q := 18) dR_fetched_17 rfl rfl ?_
    exact zr_iret dR_fetched_18 rfl ⟨by rw [rR_fetched, if_pos h2], rfl⟩
  · have f3 := tR_isNode hw h2
    refine ev_aload_n 0 (q := 9) dR_fetched_8 rfl (by rfl) rfl ?_
    refine ev_get (q := 12) dR_fetched_9 fR_68 atR (by rfl) rfl ?_
    refine ev_iload_n 1 (q := 13) dR_fetched_12 rfl (by rfl) rfl ?_
    refine zr_iald (q := 14) (g := ρ 20) dR_fetched_13 at_fetches (by decide) ⟨by omega, by omega⟩ rfl ?_
    refine ev_goto (t := 18) (q := 18) dR_fetched_14 rfl rfl ?_
    exact zr_iret dR_fetched_18 rfl ⟨by rw [rR_fetched, if_neg h2], rfl⟩

def rR_message (ρ : z_Sg) (k : Int) : Int := if k ≠ (-1) then if k < 0 then (-1) else if k < (ρ 23 0) then (ρ 22 k) else (-1) else (ρ 23 0)
set_option maxRecDepth 100000 in
set_option maxHeartbeats 4000000 in
theorem sR_message {κ ρ : z_Sg} {a : Int → Nat} {B : List va_E} (hw : z_wf ρ) (k : Int) (hp0 : z_rg k) : z_Sp mR_message (0, 0) 0 0 [.ref 12, zi k] (zM κ a ρ B) (fun r M' => r = some (zi (rR_message ρ k)) ∧ M' = zM κ a ρ B) := by
  refine z_Sp_of (L := [.ref 12, zi k]) (by decide) rfl rfl rfl (Nat.le_of_ble_eq_true rfl) ?_
  refine ev_iload_n 1 (q := 1) dR_message_0 rfl (by rfl) rfl ?_
  refine ev_iconst (v := iI (-1)) (q := 2) dR_message_1 rfl rfl ?_
  refine zr_icmp_ne (t := 12) (q := 5) dR_message_2 rfl rfl ⟨by omega, by omega⟩ ⟨by omega, by omega⟩ (fun h1 => ?_) (fun h1 => ?_)
  · refine ev_iload_n 1 (q := 13) dR_message_12 rfl (by rfl) rfl ?_
    refine zr_if_lt (t := 24) (q := 16) dR_message_13 rfl rfl ⟨by omega, by omega⟩ (fun h2 => ?_) (fun h2 => ?_)
    · refine ev_iconst (v := iI (-1)) (q := 25) dR_message_24 rfl rfl ?_
      refine ev_goto (t := 34) (q := 34) dR_message_25 rfl rfl ?_
      exact zr_iret dR_message_34 rfl ⟨by rw [rR_message, if_pos h1, if_pos h2], rfl⟩
    · refine ev_iload_n 1 (q := 17) dR_message_16 rfl (by rfl) rfl ?_
      refine ev_aload_n 0 (q := 18) dR_message_17 rfl (by rfl) rfl ?_
      refine ev_get (q := 21) (v := zi (ρ 23 0)) dR_message_18 fR_143 atR rfl rfl ?_
      have g3 : 0 ≤ ρ 23 0 ∧ ρ 23 0 ≤ 220 := hw 23 0 (by decide)
      refine zr_icmp_lt (t := 28) (q := 24) dR_message_21 rfl rfl ⟨by omega, by omega⟩ ⟨by omega, by omega⟩ (fun h4 => ?_) (fun h4 => ?_)
      · refine ev_aload_n 0 (q := 29) dR_message_28 rfl (by rfl) rfl ?_
        refine ev_get (q := 32) dR_message_29 fR_74 atR (by rfl) rfl ?_
        refine ev_iload_n 1 (q := 33) dR_message_32 rfl (by rfl) rfl ?_
        refine zr_iald (q := 34) (g := ρ 22) dR_message_33 at_waiting (by decide) ⟨by omega, by omega⟩ rfl ?_
        have g5 : 0 ≤ ρ 22 k ∧ ρ 22 k ≤ 131071 := hw 22 k (by decide)
        exact zr_iret dR_message_34 rfl ⟨by rw [rR_message, if_pos h1, if_neg (Int.not_lt.mpr h2), if_pos h4], rfl⟩
      · refine ev_iconst (v := iI (-1)) (q := 25) dR_message_24 rfl rfl ?_
        refine ev_goto (t := 34) (q := 34) dR_message_25 rfl rfl ?_
        exact zr_iret dR_message_34 rfl ⟨by rw [rR_message, if_pos h1, if_neg (Int.not_lt.mpr h2), if_neg (Int.not_lt.mpr h4)], rfl⟩
  · refine ev_aload_n 0 (q := 6) dR_message_5 rfl (by rfl) rfl ?_
    refine ev_get (q := 9) (v := zi (ρ 23 0)) dR_message_6 fR_143 atR rfl rfl ?_
    have g6 : 0 ≤ ρ 23 0 ∧ ρ 23 0 ≤ 220 := hw 23 0 (by decide)
    refine ev_goto (t := 34) (q := 34) dR_message_9 rfl rfl ?_
    exact zr_iret dR_message_34 rfl ⟨by rw [rR_message, if_neg (fun z => z h1)], rfl⟩

def rR_concerns (ρ : z_Sg) (s node : Int) : Int := if (ρ 12 s) ≠ 0 then if (ρ 12 s) ≠ 1 then 0 else if (ρ 13 s) = node then 1 else if (ρ 14 s) ≠ node then 0 else 1 else if (ρ 14 s) = node then 1 else if (ρ 12 s) ≠ 1 then 0 else if (ρ 13 s) = node then 1 else if (ρ 14 s) ≠ node then 0 else 1
theorem bR_concerns (ρ : z_Sg) (s node : Int) : rR_concerns ρ s node = 0 ∨ rR_concerns ρ s node = 1 := by
  unfold rR_concerns
  repeat' split
  all_goals first | exact Or.inl rfl | exact Or.inr rfl
set_option maxRecDepth 100000 in
set_option maxHeartbeats 4000000 in
theorem sR_concerns {κ ρ : z_Sg} {a : Int → Nat} {B : List va_E} (hw : z_wf ρ) (s node : Int) (hp0 : 0 ≤ s ∧ s ≤ 79) (hp1 : z_rg node) : z_Sp mR_concerns (0, 0) 0 0 [.ref 12, zi s, zi node] (zM κ a ρ B) (fun r M' => r = some (zi (rR_concerns ρ s node)) ∧ M' = zM κ a ρ B) := by
  refine z_Sp_of (L := [.ref 12, zi s, zi node]) (by decide) rfl rfl rfl (Nat.le_of_ble_eq_true rfl) ?_
  refine ev_aload_n 0 (q := 1) dR_concerns_0 rfl (by rfl) rfl ?_
  refine ev_get (q := 4) dR_concerns_1 fR_44 atR (by rfl) rfl ?_
  refine ev_iload_n 1 (q := 5) dR_concerns_4 rfl (by rfl) rfl ?_
  refine zr_iald (q := 6) (g := ρ 12) dR_concerns_5 at_kindOf (by decide) ⟨by omega, by omega⟩ rfl ?_
  have g1 : 0 ≤ ρ 12 s ∧ ρ 12 s ≤ 2 := hw 12 s (by decide)
  refine zr_if_ne (t := 19) (q := 9) dR_concerns_6 rfl rfl ⟨by omega, by omega⟩ (fun h2 => ?_) (fun h2 => ?_)
  · refine ev_aload_n 0 (q := 20) dR_concerns_19 rfl (by rfl) rfl ?_
    refine ev_get (q := 23) dR_concerns_20 fR_44 atR (by rfl) rfl ?_
    refine ev_iload_n 1 (q := 24) dR_concerns_23 rfl (by rfl) rfl ?_
    refine zr_iald (q := 25) (g := ρ 12) dR_concerns_24 at_kindOf (by decide) ⟨by omega, by omega⟩ rfl ?_
    have g3 : 0 ≤ ρ 12 s ∧ ρ 12 s ≤ 2 := hw 12 s (by decide)
    refine ev_iconst (v := iI 1) (q := 26) dR_concerns_25 rfl rfl ?_
    refine zr_icmp_ne (t := 53) (q := 29) dR_concerns_26 rfl rfl ⟨by omega, by omega⟩ ⟨by omega, by omega⟩ (fun h4 => ?_) (fun h4 => ?_)
    · refine ev_iconst (v := iI 0) (q := 54) dR_concerns_53 rfl rfl ?_
      exact zr_zret dR_concerns_54 rfl (by omega) ⟨by rw [rR_concerns, if_pos h2, if_pos h4], rfl⟩
    · refine ev_aload_n 0 (q := 30) dR_concerns_29 rfl (by rfl) rfl ?_
      refine ev_get (q := 33) dR_concerns_30 fR_47 atR (by rfl) rfl ?_
      refine ev_iload_n 1 (q := 34) dR_concerns_33 rfl (by rfl) rfl ?_
      refine zr_iald (q := 35) (g := ρ 13) dR_concerns_34 at_first (by decide) ⟨by omega, by omega⟩ rfl ?_
      have g5 : 0 ≤ ρ 13 s ∧ ρ 13 s ≤ 3 := hw 13 s (by decide)
      refine ev_iload_n 2 (q := 36) dR_concerns_35 rfl (by rfl) rfl ?_
      refine zr_icmp_eq (t := 49) (q := 39) dR_concerns_36 rfl rfl ⟨by omega, by omega⟩ ⟨by omega, by omega⟩ (fun h6 => ?_) (fun h6 => ?_)
      · refine ev_iconst (v := iI 1) (q := 50) dR_concerns_49 rfl rfl ?_
        refine ev_goto (t := 54) (q := 54) dR_concerns_50 rfl rfl ?_
        exact zr_zret dR_concerns_54 rfl (by omega) ⟨by rw [rR_concerns, if_pos h2, if_neg (fun z => z h4), if_pos h6], rfl⟩
      · refine ev_aload_n 0 (q := 40) dR_concerns_39 rfl (by rfl) rfl ?_
        refine ev_get (q := 43) dR_concerns_40 fR_50 atR (by rfl) rfl ?_
        refine ev_iload_n 1 (q := 44) dR_concerns_43 rfl (by rfl) rfl ?_
        refine zr_iald (q := 45) (g := ρ 14) dR_concerns_44 at_second (by decide) ⟨by omega, by omega⟩ rfl ?_
        have g7 : 0 ≤ ρ 14 s ∧ ρ 14 s ≤ 3 := hw 14 s (by decide)
        refine ev_iload_n 2 (q := 46) dR_concerns_45 rfl (by rfl) rfl ?_
        refine zr_icmp_ne (t := 53) (q := 49) dR_concerns_46 rfl rfl ⟨by omega, by omega⟩ ⟨by omega, by omega⟩ (fun h8 => ?_) (fun h8 => ?_)
        · refine ev_iconst (v := iI 0) (q := 54) dR_concerns_53 rfl rfl ?_
          exact zr_zret dR_concerns_54 rfl (by omega) ⟨by rw [rR_concerns, if_pos h2, if_neg (fun z => z h4), if_neg h6, if_pos h8], rfl⟩
        · refine ev_iconst (v := iI 1) (q := 50) dR_concerns_49 rfl rfl ?_
          refine ev_goto (t := 54) (q := 54) dR_concerns_50 rfl rfl ?_
          exact zr_zret dR_concerns_54 rfl (by omega) ⟨by rw [rR_concerns, if_pos h2, if_neg (fun z => z h4), if_neg h6, if_neg (fun z => z h8)], rfl⟩
  · refine ev_aload_n 0 (q := 10) dR_concerns_9 rfl (by rfl) rfl ?_
    refine ev_get (q := 13) dR_concerns_10 fR_50 atR (by rfl) rfl ?_
    refine ev_iload_n 1 (q := 14) dR_concerns_13 rfl (by rfl) rfl ?_
    refine zr_iald (q := 15) (g := ρ 14) dR_concerns_14 at_second (by decide) ⟨by omega, by omega⟩ rfl ?_
    have g9 : 0 ≤ ρ 14 s ∧ ρ 14 s ≤ 3 := hw 14 s (by decide)
    refine ev_iload_n 2 (q := 16) dR_concerns_15 rfl (by rfl) rfl ?_
    refine zr_icmp_eq (t := 49) (q := 19) dR_concerns_16 rfl rfl ⟨by omega, by omega⟩ ⟨by omega, by omega⟩ (fun h10 => ?_) (fun h10 => ?_)
    · refine ev_iconst (v := iI 1) (q := 50) dR_concerns_49 rfl rfl ?_
      refine ev_goto (t := 54) (q := 54) dR_concerns_50 rfl rfl ?_
      exact zr_zret dR_concerns_54 rfl (by omega) ⟨by rw [rR_concerns, if_neg (fun z => z h2), if_pos h10], rfl⟩
    · refine ev_aload_n 0 (q := 20) dR_concerns_19 rfl (by rfl) rfl ?_
      refine ev_get (q := 23) dR_concerns_20 fR_44 atR (by rfl) rfl ?_
      refine ev_iload_n 1 (q := 24) dR_concerns_23 rfl (by rfl) rfl ?_
      refine zr_iald (q := 25) (g := ρ 12) dR_concerns_24 at_kindOf (by decide) ⟨by omega, by omega⟩ rfl ?_
      have g11 : 0 ≤ ρ 12 s ∧ ρ 12 s ≤ 2 := hw 12 s (by decide)
      refine ev_iconst (v := iI 1) (q := 26) dR_concerns_25 rfl rfl ?_
      refine zr_icmp_ne (t := 53) (q := 29) dR_concerns_26 rfl rfl ⟨by omega, by omega⟩ ⟨by omega, by omega⟩ (fun h12 => ?_) (fun h12 => ?_)
      · refine ev_iconst (v := iI 0) (q := 54) dR_concerns_53 rfl rfl ?_
        exact zr_zret dR_concerns_54 rfl (by omega) ⟨by rw [rR_concerns, if_neg (fun z => z h2), if_neg h10, if_pos h12], rfl⟩
      · refine ev_aload_n 0 (q := 30) dR_concerns_29 rfl (by rfl) rfl ?_
        refine ev_get (q := 33) dR_concerns_30 fR_47 atR (by rfl) rfl ?_
        refine ev_iload_n 1 (q := 34) dR_concerns_33 rfl (by rfl) rfl ?_
        refine zr_iald (q := 35) (g := ρ 13) dR_concerns_34 at_first (by decide) ⟨by omega, by omega⟩ rfl ?_
        have g13 : 0 ≤ ρ 13 s ∧ ρ 13 s ≤ 3 := hw 13 s (by decide)
        refine ev_iload_n 2 (q := 36) dR_concerns_35 rfl (by rfl) rfl ?_
        refine zr_icmp_eq (t := 49) (q := 39) dR_concerns_36 rfl rfl ⟨by omega, by omega⟩ ⟨by omega, by omega⟩ (fun h14 => ?_) (fun h14 => ?_)
        · refine ev_iconst (v := iI 1) (q := 50) dR_concerns_49 rfl rfl ?_
          refine ev_goto (t := 54) (q := 54) dR_concerns_50 rfl rfl ?_
          exact zr_zret dR_concerns_54 rfl (by omega) ⟨by rw [rR_concerns, if_neg (fun z => z h2), if_neg h10, if_neg (fun z => z h12), if_pos h14], rfl⟩
        · refine ev_aload_n 0 (q := 40) dR_concerns_39 rfl (by rfl) rfl ?_
          refine ev_get (q := 43) dR_concerns_40 fR_50 atR (by rfl) rfl ?_
          refine ev_iload_n 1 (q := 44) dR_concerns_43 rfl (by rfl) rfl ?_
          refine zr_iald (q := 45) (g := ρ 14) dR_concerns_44 at_second (by decide) ⟨by omega, by omega⟩ rfl ?_
          have g15 : 0 ≤ ρ 14 s ∧ ρ 14 s ≤ 3 := hw 14 s (by decide)
          refine ev_iload_n 2 (q := 46) dR_concerns_45 rfl (by rfl) rfl ?_
          refine zr_icmp_ne (t := 53) (q := 49) dR_concerns_46 rfl rfl ⟨by omega, by omega⟩ ⟨by omega, by omega⟩ (fun h16 => ?_) (fun h16 => ?_)
          · refine ev_iconst (v := iI 0) (q := 54) dR_concerns_53 rfl rfl ?_
            exact zr_zret dR_concerns_54 rfl (by omega) ⟨by rw [rR_concerns, if_neg (fun z => z h2), if_neg h10, if_neg (fun z => z h12), if_neg h14, if_pos h16], rfl⟩
          · refine ev_iconst (v := iI 1) (q := 50) dR_concerns_49 rfl rfl ?_
            refine ev_goto (t := 54) (q := 54) dR_concerns_50 rfl rfl ?_
            exact zr_zret dR_concerns_54 rfl (by omega) ⟨by rw [rR_concerns, if_neg (fun z => z h2), if_neg h10, if_neg (fun z => z h12), if_neg h14, if_neg (fun z => z h16)], rfl⟩
