theorem zand_nn {a b : Int} (ha : 0 ≤ a ∧ a < 2147483648) : 0 ≤ zand a b ∧ zand a b ≤ a := by
  have h1 : (iI a &&& iI b).toBitVec.toNat ≤ a.toNat := by
    rw [Int32.toBitVec_and, BitVec.toNat_and, iI_bv ha]
    exact Nat.and_le_left
  have h2 : (iI a &&& iI b).toInt = ((iI a &&& iI b).toBitVec.toNat : Int) := by
    show (iI a &&& iI b).toBitVec.toInt = _
    exact BitVec.toInt_eq_toNat_of_lt (by omega)
  unfold zand
  rw [h2]
  omega
theorem zand_comm (a b : Int) : zand a b = zand b a := by
  unfold zand
  rw [Int32.and_comm]
theorem bB_code (γ : z_Sg) (kd se re t co : Int) : cB_code γ kd se re t co = ((((kd + (8 * se)) + (64 * re)) + (512 * t)) + (16384 * co)) := rfl
theorem bB_post (γ : z_Sg) (m : Int) : (cB_post γ m).1 = 0 ∨ (cB_post γ m).1 = 1 := by
  unfold cB_post
  repeat' split
  all_goals first | exact Or.inl rfl | exact Or.inr rfl
theorem bB_kindOf (γ : z_Sg) (m : Int) : 0 ≤ cB_kindOf γ m ∧ cB_kindOf γ m ≤ 7 := by
  show 0 ≤ zand m 7 ∧ zand m 7 ≤ 7
  rw [zand_comm]
  exact zand_nn ⟨by decide, by decide⟩
theorem bB_senderOf (γ : z_Sg) (m : Int) : 0 ≤ cB_senderOf γ m ∧ cB_senderOf γ m ≤ 7 := by
  show 0 ≤ zand _ 7 ∧ zand _ 7 ≤ 7
  rw [zand_comm]
  exact zand_nn ⟨by decide, by decide⟩
theorem bB_receiverOf (γ : z_Sg) (m : Int) : 0 ≤ cB_receiverOf γ m ∧ cB_receiverOf γ m ≤ 7 := by
  show 0 ≤ zand _ 7 ∧ zand _ 7 ≤ 7
  rw [zand_comm]
  exact zand_nn ⟨by decide, by decide⟩
theorem bB_transactionOf (γ : z_Sg) (m : Int) : 0 ≤ cB_transactionOf γ m ∧ cB_transactionOf γ m ≤ 31 := by
  show 0 ≤ zand _ 31 ∧ zand _ 31 ≤ 31
  rw [zand_comm]
  exact zand_nn ⟨by decide, by decide⟩
theorem bB_contentOf (γ : z_Sg) (m : Int) : z_rg (cB_contentOf γ m) := iI_rg _

def cH_consent (γ : z_Sg) (n ot on : Int) : Int × z_Sg := if (cH_isNode γ n) = 0 then (0, γ) else if (cH_isNode γ ot) = 0 then (0, γ) else if n ≠ ot then if on = 0 then (1, (z_up γ 5 n (zand (γ 5 n) (zxor (cH_bit γ ot) (-1))))) else (1, (z_up γ 5 n (zor (γ 5 n) (cH_bit γ ot)))) else (0, γ)
set_option maxRecDepth 100000 in
set_option maxHeartbeats 4000000 in
theorem sH_consent {g : z_Gl} {γ ρ : z_Sg} (hc : zC g γ) (n ot on : Int) (hp0 : z_rg n) (hp1 : z_rg ot) (hp2 : 0 ≤ on ∧ on ≤ 1) : z_Sp mH_consent (1, 20) 0 0 [.ref (0), zi n, zi ot, zi on] (zH g γ ρ) (fun r M' => r = some (zi (cH_consent γ n ot on).1) ∧ M' = zH g (cH_consent γ n ot on).2 ρ) := by
  refine z_Sp_of (L := [.ref (0), zi n, zi ot, zi on]) (by decide) rfl rfl rfl (Nat.le_of_ble_eq_true rfl) ?_
  refine ev_iload_n 1 (q := 1) dH_consent_0 rfl (by rfl) rfl ?_
  refine cv_S (As := [_]) (q := 4) dH_consent_1 kH_45 rfl (Nat.le_of_ble_eq_true rfl) rfl rfl rfl (by decide) (sH_isNode hc n ⟨by omega, by omega⟩ ) ?_
  have g1 : (cH_isNode γ n) = 0 ∨ (cH_isNode γ n) = 1 := bH_isNode _ _
  refine zr_if_eq (t := 19) (q := 7) dH_consent_4 rfl rfl ⟨by omega, by omega⟩ (fun h2 => ?_) (fun h2 => ?_)
  · refine ev_iconst (v := iI 0) (q := 20) dH_consent_19 rfl rfl ?_
    exact zr_zret dH_consent_20 rfl (by omega) ⟨by rw [cH_consent, if_pos h2], by rw [cH_consent, if_pos h2]⟩
  · have f19 := tH_isNode hc h2
    refine ev_iload_n 2 (q := 8) dH_consent_7 rfl (by rfl) rfl ?_
    refine cv_S (As := [_]) (q := 11) dH_consent_8 kH_45 rfl (Nat.le_of_ble_eq_true rfl) rfl rfl rfl (by decide) (sH_isNode hc ot ⟨by omega, by omega⟩ ) ?_
    have g3 : (cH_isNode γ ot) = 0 ∨ (cH_isNode γ ot) = 1 := bH_isNode _ _
    refine zr_if_eq (t := 19) (q := 14) dH_consent_11 rfl rfl ⟨by omega, by omega⟩ (fun h4 => ?_) (fun h4 => ?_)
    · refine ev_iconst (v := iI 0) (q := 20) dH_consent_19 rfl rfl ?_
      exact zr_zret dH_consent_20 rfl (by omega) ⟨by rw [cH_consent, if_neg h2, if_pos h4], by rw [cH_consent, if_neg h2, if_pos h4]⟩
    · have f18 := tH_isNode hc h4
      refine ev_iload_n 1 (q := 15) dH_consent_14 rfl (by rfl) rfl ?_
      refine ev_iload_n 2 (q := 16) dH_consent_15 rfl (by rfl) rfl ?_
      refine zr_icmp_ne (t := 21) (q := 19) dH_consent_16 rfl rfl ⟨by omega, by omega⟩ ⟨by omega, by omega⟩ (fun h5 => ?_) (fun h5 => ?_)
      · refine ev_iload_n 3 (q := 22) dH_consent_21 rfl (by rfl) rfl ?_
        refine zr_if_eq (t := 46) (q := 25) dH_consent_22 rfl rfl ⟨by omega, by omega⟩ (fun h6 => ?_) (fun h6 => ?_)
        · refine ev_aload_n 0 (q := 47) dH_consent_46 rfl (by rfl) rfl ?_
          refine ev_get (q := 50) dH_consent_47 fH_17 at_H (by rfl) rfl ?_
          refine ev_iload_n 1 (q := 51) dH_consent_50 rfl (by rfl) rfl ?_
          refine zr_aald (q := 52) dH_consent_51 (fun _ => ⟨_, rfl⟩) at_nodes (by decide) ⟨by omega, by omega⟩ (if_pos ⟨by omega, by omega⟩) rfl ?_
          refine ev_dup (q := 53) dH_consent_52 rfl rfl ?_
          refine ev_get (q := 56) (v := zi (γ 5 n)) dH_consent_53 fH_183 (at_N ⟨by omega, by omega⟩) rfl rfl ?_
          have g7 : 0 ≤ γ 5 n ∧ γ 5 n ≤ 15 := hc.1 5 n (by decide)
          refine ev_iload_n 2 (q := 57) dH_consent_56 rfl (by rfl) rfl ?_
          refine cv_S (As := [_]) (q := 60) dH_consent_57 kH_186 rfl (Nat.le_of_ble_eq_true rfl) rfl rfl rfl (by decide) (sH_bit hc ot ⟨by omega, by omega⟩ ) ?_
          have g8 := bH_bit γ (p := ot) ⟨by omega, by omega⟩
          refine ev_iconst (v := iI (-1)) (q := 61) dH_consent_60 rfl rfl ?_
          refine zr_ixor (q := 62) dH_consent_61 rfl ?_
          have g9 : z_rg (zxor (cH_bit γ ot) (-1)) := iI_rg _
          refine zr_iand (q := 63) dH_consent_62 rfl ?_
          have g10 : z_rg (zand (γ 5 n) (zxor (cH_bit γ ot) (-1))) := iI_rg _
          have g11 := zand_nn (a := (γ 5 n)) (b := (zxor (cH_bit γ ot) (-1))) ⟨by omega, by omega⟩
          refine zr_puti (q := 66) dH_consent_63 gH_183 (at_N ⟨by omega, by omega⟩) (Nat.le_of_ble_eq_true rfl) rfl (ct_consents ⟨by omega, by omega⟩) rfl ?_
          have hc12 : zC g (z_up γ 5 n (zand (γ 5 n) (zxor (cH_bit γ ot) (-1)))) := zC_up hc (by decide) (by decide) (by decide) (show (0 : Int) ≤ (zand (γ 5 n) (zxor (cH_bit γ ot) (-1))) by omega) (show (zand (γ 5 n) (zxor (cH_bit γ ot) (-1))) ≤ (15 : Int) by omega)
          refine ev_iconst (v := iI 1) (q := 67) dH_consent_66 rfl rfl ?_
          exact zr_zret dH_consent_67 rfl (by omega) ⟨by rw [cH_consent, if_neg h2, if_neg h4, if_pos h5, if_pos h6], by rw [cH_consent, if_neg h2, if_neg h4, if_pos h5, if_pos h6]⟩
        · refine ev_aload_n 0 (q := 26) dH_consent_25 rfl (by rfl) rfl ?_
          refine ev_get (q := 29) dH_consent_26 fH_17 at_H (by rfl) rfl ?_
          refine ev_iload_n 1 (q := 30) dH_consent_29 rfl (by rfl) rfl ?_
          refine zr_aald (q := 31) dH_consent_30 (fun _ => ⟨_, rfl⟩) at_nodes (by decide) ⟨by omega, by omega⟩ (if_pos ⟨by omega, by omega⟩) rfl ?_
          refine ev_dup (q := 32) dH_consent_31 rfl rfl ?_
          refine ev_get (q := 35) (v := zi (γ 5 n)) dH_consent_32 fH_183 (at_N ⟨by omega, by omega⟩) rfl rfl ?_
          have g13 : 0 ≤ γ 5 n ∧ γ 5 n ≤ 15 := hc.1 5 n (by decide)
          refine ev_iload_n 2 (q := 36) dH_consent_35 rfl (by rfl) rfl ?_
          refine cv_S (As := [_]) (q := 39) dH_consent_36 kH_186 rfl (Nat.le_of_ble_eq_true rfl) rfl rfl rfl (by decide) (sH_bit hc ot ⟨by omega, by omega⟩ ) ?_
          have g14 := bH_bit γ (p := ot) ⟨by omega, by omega⟩
          refine zr_ior (q := 40) dH_consent_39 rfl ?_
          have g15 : z_rg (zor (γ 5 n) (cH_bit γ ot)) := iI_rg _
          have g16 := zor_15 (a := (γ 5 n)) (b := (cH_bit γ ot)) ⟨by omega, by omega⟩ ⟨by omega, by omega⟩
          refine zr_puti (q := 43) dH_consent_40 gH_183 (at_N ⟨by omega, by omega⟩) (Nat.le_of_ble_eq_true rfl) rfl (ct_consents ⟨by omega, by omega⟩) rfl ?_
          have hc17 : zC g (z_up γ 5 n (zor (γ 5 n) (cH_bit γ ot))) := zC_up hc (by decide) (by decide) (by decide) (show (0 : Int) ≤ (zor (γ 5 n) (cH_bit γ ot)) by omega) (show (zor (γ 5 n) (cH_bit γ ot)) ≤ (15 : Int) by omega)
          refine ev_goto (t := 66) (q := 66) dH_consent_43 rfl rfl ?_
          refine ev_iconst (v := iI 1) (q := 67) dH_consent_66 rfl rfl ?_
          exact zr_zret dH_consent_67 rfl (by omega) ⟨by rw [cH_consent, if_neg h2, if_neg h4, if_pos h5, if_neg h6], by rw [cH_consent, if_neg h2, if_neg h4, if_pos h5, if_neg h6]⟩
      · refine ev_iconst (v := iI 0) (q := 20) dH_consent_19 rfl rfl ?_
        exact zr_zret dH_consent_20 rfl (by omega) ⟨by rw [cH_consent, if_neg h2, if_neg h4, if_neg (fun z => z h5)], by rw [cH_consent, if_neg h2, if_neg h4, if_neg (fun z => z h5)]⟩
set_option maxRecDepth 100000 in
set_option maxHeartbeats 4000000 in
theorem wH_consent {g : z_Gl} {γ : z_Sg} (hc : zC g γ) (n ot on : Int) (hp0 : z_rg n) (hp1 : z_rg ot) (hp2 : 0 ≤ on ∧ on ≤ 1) : zC g (cH_consent γ n ot on).2 := by
  rw [cH_consent]
  have g1 : (cH_isNode γ n) = 0 ∨ (cH_isNode γ n) = 1 := bH_isNode _ _
  by_cases h2 : (cH_isNode γ n) = 0
  · rw [if_pos h2]
    exact hc
  · rw [if_neg h2]
    have f19 := tH_isNode hc h2
    have g3 : (cH_isNode γ ot) = 0 ∨ (cH_isNode γ ot) = 1 := bH_isNode _ _
    by_cases h4 : (cH_isNode γ ot) = 0
    · rw [if_pos h4]
      exact hc
    · rw [if_neg h4]
      have f18 := tH_isNode hc h4
      by_cases h5 : n ≠ ot
      · rw [if_pos h5]
        by_cases h6 : on = 0
        · rw [if_pos h6]
          have g7 : 0 ≤ γ 5 n ∧ γ 5 n ≤ 15 := hc.1 5 n (by decide)
          have g8 := bH_bit γ (p := ot) ⟨by omega, by omega⟩
          have g9 : z_rg (zxor (cH_bit γ ot) (-1)) := iI_rg _
          have g10 : z_rg (zand (γ 5 n) (zxor (cH_bit γ ot) (-1))) := iI_rg _
          have g11 := zand_nn (a := (γ 5 n)) (b := (zxor (cH_bit γ ot) (-1))) ⟨by omega, by omega⟩
          have hc12 : zC g (z_up γ 5 n (zand (γ 5 n) (zxor (cH_bit γ ot) (-1)))) := zC_up hc (by decide) (by decide) (by decide) (show (0 : Int) ≤ (zand (γ 5 n) (zxor (cH_bit γ ot) (-1))) by omega) (show (zand (γ 5 n) (zxor (cH_bit γ ot) (-1))) ≤ (15 : Int) by omega)
          exact hc12
        · rw [if_neg h6]
          have g13 : 0 ≤ γ 5 n ∧ γ 5 n ≤ 15 := hc.1 5 n (by decide)
          have g14 := bH_bit γ (p := ot) ⟨by omega, by omega⟩
          have g15 : z_rg (zor (γ 5 n) (cH_bit γ ot)) := iI_rg _
          have g16 := zor_15 (a := (γ 5 n)) (b := (cH_bit γ ot)) ⟨by omega, by omega⟩ ⟨by omega, by omega⟩
          have hc17 : zC g (z_up γ 5 n (zor (γ 5 n) (cH_bit γ ot))) := zC_up hc (by decide) (by decide) (by decide) (show (0 : Int) ≤ (zor (γ 5 n) (cH_bit γ ot)) by omega) (show (zor (γ 5 n) (cH_bit γ ot)) ≤ (15 : Int) by omega)
          exact hc17
      · rw [if_neg h5]
        exact hc

theorem kH_consent {γ : z_Sg} (n ot on : Int) {c : Nat} (h0 : c ≠ 5) : (cH_consent γ n ot on).2 c = γ c := by
  unfold cH_consent
  repeat' split
  all_goals first | rfl | (simp only [z_up_n h0])

def cH_send (γ : z_Sg) (kd t se re co : Int) : Int × z_Sg := if ((cB_post γ (cB_code γ kd se re t co))).1 = 0 then (0, ((cB_post γ (cB_code γ kd se re t co))).2) else (1, ((cB_post γ (cB_code γ kd se re t co))).2)
set_option maxRecDepth 100000 in
set_option maxHeartbeats 4000000 in
theorem sH_send {g : z_Gl} {γ ρ : z_Sg} (hc : zC g γ) (kd t se re co : Int) (hp0 : 0 ≤ kd ∧ kd ≤ 4) (hp1 : 0 ≤ t ∧ t < γ 0 0) (hp2 : 0 ≤ se ∧ se ≤ 5) (hp3 : 0 ≤ re ∧ re ≤ 5) (hp4 : 0 ≤ co ∧ co ≤ 4) : z_Sp mH_send (2, 43) 0 0 [.ref (0), zi kd, .ref (g.1 t), zi se, zi re, zi co] (zH g γ ρ) (fun r M' => r = some (zi (cH_send γ kd t se re co).1) ∧ M' = zH g (cH_send γ kd t se re co).2 ρ) := by
  refine z_Sp_of (L := [.ref (0), zi kd, .ref (g.1 t), zi se, zi re, zi co]) (by decide) rfl rfl rfl (Nat.le_of_ble_eq_true rfl) ?_
  have g0 : 0 ≤ γ 0 0 ∧ γ 0 0 ≤ 20 := hc.1 0 0 (by decide)
  refine ev_aload_n 0 (q := 1) dH_send_0 rfl (by rfl) rfl ?_
  refine ev_get (q := 4) dH_send_1 fH_25 at_H (by rfl) rfl ?_
  refine ev_iload_n 1 (q := 5) dH_send_4 rfl (by rfl) rfl ?_
  refine ev_iload_n 3 (q := 6) dH_send_5 rfl (by rfl) rfl ?_
  refine ev_iload (q := 8) dH_send_6 (by rfl) rfl ?_
  refine ev_aload_n 2 (q := 9) dH_send_8 rfl (by rfl) rfl ?_
  refine ev_get (q := 12) dH_send_9 fH_281 (at_T hc.2.1 hp1) (by rfl) rfl ?_
  refine ev_iload (q := 14) dH_send_12 (by rfl) rfl ?_
  refine cv_S (As := [_, _, _, _, _]) (q := 17) dH_send_14 kH_304 rfl (Nat.le_of_ble_eq_true rfl) rfl rfl rfl (by decide) (sB_code hc kd se re t co ⟨by omega, by omega⟩ ⟨by omega, by omega⟩ ⟨by omega, by omega⟩ ⟨by omega, by omega⟩ ⟨by omega, by omega⟩ ) ?_
  have g1 := bB_code γ kd se re t co
  refine cv_V (As := [_]) (q := 20) dH_send_17 kH_308 at_B rfl rfl (Nat.le_of_ble_eq_true rfl) rfl rfl rfl (by decide) (sB_post hc (cB_code γ kd se re t co) ⟨by omega, by omega⟩ ) ?_
  have hc2 : zC g ((cB_post γ (cB_code γ kd se re t co))).2 := wB_post hc (cB_code γ kd se re t co) ⟨by omega, by omega⟩ 
  have g3 : ((cB_post γ (cB_code γ kd se re t co))).1 = 0 ∨ ((cB_post γ (cB_code γ kd se re t co))).1 = 1 := bB_post _ _
  refine zr_if_eq (t := 27) (q := 23) dH_send_20 rfl rfl ⟨by omega, by omega⟩ (fun h4 => ?_) (fun h4 => ?_)
  · refine ev_iconst (v := iI 0) (q := 28) dH_send_27 rfl rfl ?_
    exact zr_iret dH_send_28 rfl ⟨by rw [cH_send, if_pos h4], by rw [cH_send, if_pos h4]⟩
  · refine ev_iconst (v := iI 1) (q := 24) dH_send_23 rfl rfl ?_
    refine ev_goto (t := 28) (q := 28) dH_send_24 rfl rfl ?_
    exact zr_iret dH_send_28 rfl ⟨by rw [cH_send, if_neg h4], by rw [cH_send, if_neg h4]⟩
set_option maxRecDepth 100000 in
set_option maxHeartbeats 4000000 in
theorem wH_send {g : z_Gl} {γ : z_Sg} (hc : zC g γ) (kd t se re co : Int) (hp0 : 0 ≤ kd ∧ kd ≤ 4) (hp1 : 0 ≤ t ∧ t < γ 0 0) (hp2 : 0 ≤ se ∧ se ≤ 5) (hp3 : 0 ≤ re ∧ re ≤ 5) (hp4 : 0 ≤ co ∧ co ≤ 4) : zC g (cH_send γ kd t se re co).2 := by
  rw [cH_send]
  have g0 : 0 ≤ γ 0 0 ∧ γ 0 0 ≤ 20 := hc.1 0 0 (by decide)
  have g1 := bB_code γ kd se re t co
  have hc2 : zC g ((cB_post γ (cB_code γ kd se re t co))).2 := wB_post hc (cB_code γ kd se re t co) ⟨by omega, by omega⟩ 
  have g3 : ((cB_post γ (cB_code γ kd se re t co))).1 = 0 ∨ ((cB_post γ (cB_code γ kd se re t co))).1 = 1 := bB_post _ _
  by_cases h4 : ((cB_post γ (cB_code γ kd se re t co))).1 = 0
  · rw [if_pos h4]
    exact hc2
  · rw [if_neg h4]
    exact hc2

theorem kH_send {γ : z_Sg} (kd t se re co : Int) {c : Nat} (h0 : c ≠ 7) (h1 : c ≠ 6) : (cH_send γ kd t se re co).2 c = γ c := by
  unfold cH_send
  repeat' split
  all_goals first | rfl | (simp only [z_up_n h0, z_up_n h1, kB_post _ h0 h1])

def cH_sendNotarise (γ : z_Sg) (t : Int) : Int × z_Sg := (((cH_send γ 2 t (γ 20 t) (γ 21 t) 0)).1, ((cH_send γ 2 t (γ 20 t) (γ 21 t) 0)).2)
set_option maxRecDepth 100000 in
set_option maxHeartbeats 4000000 in
theorem sH_sendNotarise {g : z_Gl} {γ ρ : z_Sg} (hc : zC g γ) (t : Int) (hp0 : 0 ≤ t ∧ t < γ 0 0) : z_Sp mH_sendNotarise (3, 68) 0 0 [.ref (0), .ref (g.1 t)] (zH g γ ρ) (fun r M' => r = some (zi (cH_sendNotarise γ t).1) ∧ M' = zH g (cH_sendNotarise γ t).2 ρ) := by
  refine z_Sp_of (L := [.ref (0), .ref (g.1 t)]) (by decide) rfl rfl rfl (Nat.le_of_ble_eq_true rfl) ?_
  have g0 : 0 ≤ γ 0 0 ∧ γ 0 0 ≤ 20 := hc.1 0 0 (by decide)
  refine ev_aload_n 0 (q := 1) dH_sendNotarise_0 rfl (by rfl) rfl ?_
  refine ev_iconst (v := iI 2) (q := 2) dH_sendNotarise_1 rfl rfl ?_
  refine ev_aload_n 1 (q := 3) dH_sendNotarise_2 rfl (by rfl) rfl ?_
  refine ev_aload_n 1 (q := 4) dH_sendNotarise_3 rfl (by rfl) rfl ?_
  refine ev_get (q := 7) (v := zi (γ 20 t)) dH_sendNotarise_4 fH_71 (at_T hc.2.1 hp0) rfl rfl ?_
  have g1 : 0 ≤ γ 20 t ∧ γ 20 t ≤ 3 := hc.1 20 t (by decide)
  refine ev_aload_n 1 (q := 8) dH_sendNotarise_7 rfl (by rfl) rfl ?_
  refine ev_get (q := 11) (v := zi (γ 21 t)) dH_sendNotarise_8 fH_81 (at_T hc.2.1 hp0) rfl rfl ?_
  have g2 : 0 ≤ γ 21 t ∧ γ 21 t ≤ 5 := hc.1 21 t (by decide)
  refine ev_iconst (v := iI 0) (q := 12) dH_sendNotarise_11 rfl rfl ?_
  refine cv_V (As := [_, _, _, _, _]) (q := 15) dH_sendNotarise_12 kH_264 at_H rfl rfl (Nat.le_of_ble_eq_true rfl) rfl rfl rfl (by decide) (sH_send hc 2 t (γ 20 t) (γ 21 t) 0 ⟨by omega, by omega⟩ hp0 ⟨by omega, by omega⟩ ⟨by omega, by omega⟩ ⟨by omega, by omega⟩ ) ?_
  have hc3 : zC g ((cH_send γ 2 t (γ 20 t) (γ 21 t) 0)).2 := wH_send hc 2 t (γ 20 t) (γ 21 t) 0 ⟨by omega, by omega⟩ hp0 ⟨by omega, by omega⟩ ⟨by omega, by omega⟩ ⟨by omega, by omega⟩ 
  exact zr_iret dH_sendNotarise_15 rfl ⟨by rw [cH_sendNotarise], by rw [cH_sendNotarise]⟩
set_option maxRecDepth 100000 in
set_option maxHeartbeats 4000000 in
theorem wH_sendNotarise {g : z_Gl} {γ : z_Sg} (hc : zC g γ) (t : Int) (hp0 : 0 ≤ t ∧ t < γ 0 0) : zC g (cH_sendNotarise γ t).2 := by
  rw [cH_sendNotarise]
  have g1 : 0 ≤ γ 20 t ∧ γ 20 t ≤ 3 := hc.1 20 t (by decide)
  have g2 : 0 ≤ γ 21 t ∧ γ 21 t ≤ 5 := hc.1 21 t (by decide)
  have hc3 : zC g ((cH_send γ 2 t (γ 20 t) (γ 21 t) 0)).2 := wH_send hc 2 t (γ 20 t) (γ 21 t) 0 ⟨by omega, by omega⟩ hp0 ⟨by omega, by omega⟩ ⟨by omega, by omega⟩ ⟨by omega, by omega⟩ 
  exact hc3

theorem kH_sendNotarise {γ : z_Sg} (t : Int) {c : Nat} (h0 : c ≠ 7) (h1 : c ≠ 6) : (cH_sendNotarise γ t).2 c = γ c := by
  unfold cH_sendNotarise
  repeat' split
  all_goals first | rfl | (simp only [z_up_n h0, z_up_n h1, kH_send _ _ _ _ _ h0 h1])

def lH_sendToOthers_6 (γ : z_Sg) (kd t rc : Int) (j : Nat) (k sn : Int) : Int × z_Sg := match j with
  | 0 => (sn, γ)
  | j + 1 => if (cH_has γ rc k) = 0 then lH_sendToOthers_6 γ kd t rc j (k + 1) sn else if k = (γ 20 t) then lH_sendToOthers_6 γ kd t rc j (k + 1) sn else lH_sendToOthers_6 ((cH_send γ kd t (γ 20 t) k 0)).2 kd t rc j (k + 1) (sn + ((cH_send γ kd t (γ 20 t) k 0)).1)
set_option maxRecDepth 100000 in
set_option maxHeartbeats 4000000 in
theorem eH_sendToOthers_6 {g : z_Gl} {γ ρ : z_Sg} {Q : Option Value → List va_E → Prop} (hc : zC g γ) (kd t rc : Int) (hp0 : 0 ≤ kd ∧ kd ≤ 4) (hp1 : 0 ≤ t ∧ t < γ 0 0) (hp2 : 0 ≤ rc ∧ rc ≤ 15) : ∀ (j : Nat) (k sn : Int), 0 ≤ k → k + j = 4 → (∀ (y5 : Value), z_Ev mH_sendToOthers (3, 68) 0 0 54 [.ref (0), zi kd, .ref (g.1 t), zi rc, zi ((lH_sendToOthers_6 γ kd t rc j k sn).1), y5] [] (zH g (lH_sendToOthers_6 γ kd t rc j k sn).2 ρ) Q) → z_Ev mH_sendToOthers (3, 68) 0 0 6 [.ref (0), zi kd, .ref (g.1 t), zi rc, zi sn, zi k] [] (zH g γ ρ) Q := by
  intro j
  induction j generalizing γ with
  | zero =>
    intro k sn   c0 c1 hk
    refine ev_iload (q := 8) dH_sendToOthers_6 (by rfl) rfl ?_
    refine ev_iconst (v := iI 4) (q := 9) dH_sendToOthers_8 rfl rfl ?_
    refine zr_icmp_ge (t := 54) (q := 12) dH_sendToOthers_9 rfl rfl ⟨by omega, by omega⟩ ⟨by omega, by omega⟩ (fun h1 => ?_) (fun h1 => ?_)
    · exact hk _
    · exfalso
      omega
  | succ j ih =>
    intro k sn   c0 c1 hk
    have g0 : 0 ≤ γ 0 0 ∧ γ 0 0 ≤ 20 := hc.1 0 0 (by decide)
    refine ev_iload (q := 8) dH_sendToOthers_6 (by rfl) rfl ?_
    refine ev_iconst (v := iI 4) (q := 9) dH_sendToOthers_8 rfl rfl ?_
    refine zr_icmp_ge (t := 54) (q := 12) dH_sendToOthers_9 rfl rfl ⟨by omega, by omega⟩ ⟨by omega, by omega⟩ (fun h1 => ?_) (fun h1 => ?_)
    · exfalso
      omega
    · refine ev_iload_n 3 (q := 13) dH_sendToOthers_12 rfl (by rfl) rfl ?_
      refine ev_iload (q := 15) dH_sendToOthers_13 (by rfl) rfl ?_
      refine cv_S (As := [_, _]) (q := 18) dH_sendToOthers_15 kH_77 rfl (Nat.le_of_ble_eq_true rfl) rfl rfl rfl (by decide) (sH_has hc rc k ⟨by omega, by omega⟩ ⟨by omega, by omega⟩ ) ?_
      have g2 : (cH_has γ rc k) = 0 ∨ (cH_has γ rc k) = 1 := bH_has _ _ _
      refine zr_if_eq (t := 48) (q := 21) dH_sendToOthers_18 rfl rfl ⟨by omega, by omega⟩ (fun h3 => ?_) (fun h3 => ?_)
      · refine zr_iinc (q := 51) dH_sendToOthers_48 (by rfl) (by decide) rfl rfl ?_
        dsimp only [List.set]
        refine ev_goto (t := 6) (q := 6) dH_sendToOthers_51 rfl rfl ?_
        rw [show lH_sendToOthers_6 γ kd t rc (j + 1) k sn = lH_sendToOthers_6 γ kd t rc j (k + 1) sn from by rw [lH_sendToOthers_6, if_pos h3]] at hk
        exact ih hc hp1  (k + 1) sn   (by omega) (by omega) hk
      · refine ev_iload (q := 23) dH_sendToOthers_21 (by rfl) rfl ?_
        refine ev_aload_n 2 (q := 24) dH_sendToOthers_23 rfl (by rfl) rfl ?_
        refine ev_get (q := 27) (v := zi (γ 20 t)) dH_sendToOthers_24 fH_71 (at_T hc.2.1 hp1) rfl rfl ?_
        have g4 : 0 ≤ γ 20 t ∧ γ 20 t ≤ 3 := hc.1 20 t (by decide)
        refine zr_icmp_eq (t := 48) (q := 30) dH_sendToOthers_27 rfl rfl ⟨by omega, by omega⟩ ⟨by omega, by omega⟩ (fun h5 => ?_) (fun h5 => ?_)
        · refine zr_iinc (q := 51) dH_sendToOthers_48 (by rfl) (by decide) rfl rfl ?_
          dsimp only [List.set]
          refine ev_goto (t := 6) (q := 6) dH_sendToOthers_51 rfl rfl ?_
          rw [show lH_sendToOthers_6 γ kd t rc (j + 1) k sn = lH_sendToOthers_6 γ kd t rc j (k + 1) sn from by rw [lH_sendToOthers_6, if_neg h3, if_pos h5]] at hk
          exact ih hc hp1  (k + 1) sn   (by omega) (by omega) hk
        · refine ev_iload (q := 32) dH_sendToOthers_30 (by rfl) rfl ?_
          refine ev_aload_n 0 (q := 33) dH_sendToOthers_32 rfl (by rfl) rfl ?_
          refine ev_iload_n 1 (q := 34) dH_sendToOthers_33 rfl (by rfl) rfl ?_
          refine ev_aload_n 2 (q := 35) dH_sendToOthers_34 rfl (by rfl) rfl ?_
          refine ev_aload_n 2 (q := 36) dH_sendToOthers_35 rfl (by rfl) rfl ?_
          refine ev_get (q := 39) (v := zi (γ 20 t)) dH_sendToOthers_36 fH_71 (at_T hc.2.1 hp1) rfl rfl ?_
          have g6 : 0 ≤ γ 20 t ∧ γ 20 t ≤ 3 := hc.1 20 t (by decide)
          refine ev_iload (q := 41) dH_sendToOthers_39 (by rfl) rfl ?_
          refine ev_iconst (v := iI 0) (q := 42) dH_sendToOthers_41 rfl rfl ?_
          refine cv_V (As := [_, _, _, _, _]) (q := 45) dH_sendToOthers_42 kH_264 at_H rfl rfl (Nat.le_of_ble_eq_true rfl) rfl rfl rfl (by decide) (sH_send hc kd t (γ 20 t) k 0 ⟨by omega, by omega⟩ hp1 ⟨by omega, by omega⟩ ⟨by omega, by omega⟩ ⟨by omega, by omega⟩ ) ?_
          have hc7 : zC g ((cH_send γ kd t (γ 20 t) k 0)).2 := wH_send hc kd t (γ 20 t) k 0 ⟨by omega, by omega⟩ hp1 ⟨by omega, by omega⟩ ⟨by omega, by omega⟩ ⟨by omega, by omega⟩ 
          refine zr_iadd (q := 46) dH_sendToOthers_45 rfl ?_
          refine ev_istore (q := 48) dH_sendToOthers_46 (by decide) rfl rfl ?_
          dsimp only [List.set]
          refine zr_iinc (q := 51) dH_sendToOthers_48 (by rfl) (by decide) rfl rfl ?_
          dsimp only [List.set]
          refine ev_goto (t := 6) (q := 6) dH_sendToOthers_51 rfl rfl ?_
          rw [show lH_sendToOthers_6 γ kd t rc (j + 1) k sn = lH_sendToOthers_6 ((cH_send γ kd t (γ 20 t) k 0)).2 kd t rc j (k + 1) (sn + ((cH_send γ kd t (γ 20 t) k 0)).1) from by rw [lH_sendToOthers_6, if_neg h3, if_neg h5]] at hk
          exact ih hc7 (ztx_fr hp1 (kH_send (γ := γ) kd t (γ 20 t) k 0 (c := 0) (by decide) (by decide)))  (k + 1) (sn + ((cH_send γ kd t (γ 20 t) k 0)).1)   (by omega) (by omega) hk
set_option maxRecDepth 100000 in
set_option maxHeartbeats 4000000 in
theorem wlH_sendToOthers_6 {g : z_Gl} {γ : z_Sg} (hc : zC g γ) (kd t rc : Int) (hp0 : 0 ≤ kd ∧ kd ≤ 4) (hp1 : 0 ≤ t ∧ t < γ 0 0) (hp2 : 0 ≤ rc ∧ rc ≤ 15) : ∀ (j : Nat) (k sn : Int), 0 ≤ k → k + j = 4 → zC g (lH_sendToOthers_6 γ kd t rc j k sn).2 := by
  intro j
  induction j generalizing γ with
  | zero =>
    intro k sn  c0 c1
    rw [lH_sendToOthers_6]
    exact hc
  | succ j ihw =>
    intro k sn  c0 c1
    rw [lH_sendToOthers_6]
    have g0 : 0 ≤ γ 0 0 ∧ γ 0 0 ≤ 20 := hc.1 0 0 (by decide)
    have g2 : (cH_has γ rc k) = 0 ∨ (cH_has γ rc k) = 1 := bH_has _ _ _
    by_cases h3 : (cH_has γ rc k) = 0
    · rw [if_pos h3]
      exact ihw hc hp1  (k + 1) sn  (by omega) (by omega)
    · rw [if_neg h3]
      have g4 : 0 ≤ γ 20 t ∧ γ 20 t ≤ 3 := hc.1 20 t (by decide)
      by_cases h5 : k = (γ 20 t)
      · rw [if_pos h5]
        exact ihw hc hp1  (k + 1) sn  (by omega) (by omega)
      · rw [if_neg h5]
        have g6 : 0 ≤ γ 20 t ∧ γ 20 t ≤ 3 := hc.1 20 t (by decide)
        have hc7 : zC g ((cH_send γ kd t (γ 20 t) k 0)).2 := wH_send hc kd t (γ 20 t) k 0 ⟨by omega, by omega⟩ hp1 ⟨by omega, by omega⟩ ⟨by omega, by omega⟩ ⟨by omega, by omega⟩ 
        exact ihw hc7 (ztx_fr hp1 (kH_send (γ := γ) kd t (γ 20 t) k 0 (c := 0) (by decide) (by decide)))  (k + 1) (sn + ((cH_send γ kd t (γ 20 t) k 0)).1)  (by omega) (by omega)
theorem kH_sendToOthers_6 {γ : z_Sg} (kd t rc : Int) (j : Nat) (k sn : Int) {c : Nat} (h0 : c ≠ 7) (h1 : c ≠ 6) : (lH_sendToOthers_6 γ kd t rc j k sn).2 c = γ c := by
  induction j generalizing γ k sn with
  | zero => rfl
  | succ j ih =>
    rw [lH_sendToOthers_6]
    repeat' split
    all_goals (rw [ih]; try rw [kH_send _ _ _ _ _ h0 h1])
def cH_sendToOthers (γ : z_Sg) (kd t rc : Int) : Int × z_Sg := ((lH_sendToOthers_6 γ kd t rc 4 0 0).1, (lH_sendToOthers_6 γ kd t rc 4 0 0).2)
set_option maxRecDepth 100000 in
set_option maxHeartbeats 4000000 in
theorem sH_sendToOthers {g : z_Gl} {γ ρ : z_Sg} (hc : zC g γ) (kd t rc : Int) (hp0 : 0 ≤ kd ∧ kd ≤ 4) (hp1 : 0 ≤ t ∧ t < γ 0 0) (hp2 : 0 ≤ rc ∧ rc ≤ 15) : z_Sp mH_sendToOthers (3, 68) 0 0 [.ref (0), zi kd, .ref (g.1 t), zi rc] (zH g γ ρ) (fun r M' => r = some (zi (cH_sendToOthers γ kd t rc).1) ∧ M' = zH g (cH_sendToOthers γ kd t rc).2 ρ) := by
  refine z_Sp_of (L := [.ref (0), zi kd, .ref (g.1 t), zi rc, .float 0, .float 0]) (by decide) rfl rfl rfl (Nat.le_of_ble_eq_true rfl) ?_
  refine ev_iconst (v := iI 0) (q := 1) dH_sendToOthers_0 rfl rfl ?_
  refine ev_istore (q := 3) dH_sendToOthers_1 (by decide) rfl rfl ?_
  dsimp only [List.set]
  refine ev_iconst (v := iI 0) (q := 4) dH_sendToOthers_3 rfl rfl ?_
  refine ev_istore (q := 6) dH_sendToOthers_4 (by decide) rfl rfl ?_
  dsimp only [List.set]
  refine eH_sendToOthers_6 hc kd t rc hp0 hp1 hp2 4 0 0   (by omega) (by omega) (fun y1 => ?_)
  have hw2 : zC g (lH_sendToOthers_6 γ kd t rc 4 0 0).2 := wlH_sendToOthers_6 hc kd t rc hp0 hp1 hp2 4 0 0  (by omega) (by omega)
  refine ev_iload (q := 56) dH_sendToOthers_54 (by rfl) rfl ?_
  exact zr_iret dH_sendToOthers_56 rfl ⟨by rw [cH_sendToOthers], by rw [cH_sendToOthers]⟩
set_option maxRecDepth 100000 in
set_option maxHeartbeats 4000000 in
theorem wH_sendToOthers {g : z_Gl} {γ : z_Sg} (hc : zC g γ) (kd t rc : Int) (hp0 : 0 ≤ kd ∧ kd ≤ 4) (hp1 : 0 ≤ t ∧ t < γ 0 0) (hp2 : 0 ≤ rc ∧ rc ≤ 15) : zC g (cH_sendToOthers γ kd t rc).2 := by
  rw [cH_sendToOthers]
  have hw2 : zC g (lH_sendToOthers_6 γ kd t rc 4 0 0).2 := wlH_sendToOthers_6 hc kd t rc hp0 hp1 hp2 4 0 0  (by omega) (by omega)
  exact hw2

theorem kH_sendToOthers {γ : z_Sg} (kd t rc : Int) {c : Nat} (h0 : c ≠ 7) (h1 : c ≠ 6) : (cH_sendToOthers γ kd t rc).2 c = γ c := by
  unfold cH_sendToOthers
  repeat' split
  all_goals first | rfl | (simp only [z_up_n h0, z_up_n h1, kH_sendToOthers_6 _ _ _ _ _ _ h0 h1])

def lH_isAnyInputUsedUp_7 (γ : z_Sg) (t : Int) : Nat → Int → Int
  | 0, k => 0
  | j + 1, k => if (γ 8 (γ 33 (4 * (2 * t) + k))) = (-1) then lH_isAnyInputUsedUp_7 γ t j (k + 1) else 1
theorem blH_isAnyInputUsedUp_7 (γ : z_Sg) (t : Int) : ∀ (j : Nat) (k : Int), lH_isAnyInputUsedUp_7 γ t j k = 0 ∨ lH_isAnyInputUsedUp_7 γ t j k = 1 := by
  intro j
  induction j with
  | zero =>
    intro k
    rw [lH_isAnyInputUsedUp_7]
    repeat' split
    all_goals first | exact Or.inl rfl | exact Or.inr rfl
  | succ j ih =>
    intro k
    rw [lH_isAnyInputUsedUp_7]
    repeat' split
    all_goals first | exact Or.inl rfl | exact Or.inr rfl | exact ih _
set_option maxRecDepth 100000 in
set_option maxHeartbeats 4000000 in
theorem eH_isAnyInputUsedUp_7 {g : z_Gl} {γ ρ : z_Sg} (hc : zC g γ) (t : Int) (hp0 : 0 ≤ t ∧ t < γ 0 0) : ∀ (j : Nat) (k : Int), 0 ≤ k → k + j = γ 32 (2 * t) → z_Ev mH_isAnyInputUsedUp (0, 0) 0 0 7 [.ref (0), .ref (g.1 t), .ref (g.2.1 (2 * t)), zi k] [] (zH g γ ρ) (fun r M' => r = some (zi (lH_isAnyInputUsedUp_7 γ t j k)) ∧ M' = zH g γ ρ) := by
  intro j
  induction j with
  | zero =>
    intro k  c0 c1
    refine ev_iload_n 3 (q := 8) dH_isAnyInputUsedUp_7 rfl (by rfl) rfl ?_
    refine ev_aload_n 2 (q := 9) dH_isAnyInputUsedUp_8 rfl (by rfl) rfl ?_
    refine ev_get (q := 12) (v := zi (γ 32 (2 * t))) dH_isAnyInputUsedUp_9 fH_299 (at_L hc.2.1 (zl0 hp0)) rfl rfl ?_
    have g1 : 0 ≤ γ 32 (2 * t) ∧ γ 32 (2 * t) ≤ 4 := hc.1 32 (2 * t) (by decide)
    refine zr_icmp_ge (t := 41) (q := 15) dH_isAnyInputUsedUp_12 rfl rfl ⟨by omega, by omega⟩ ⟨by omega, by omega⟩ (fun h2 => ?_) (fun h2 => ?_)
    · refine ev_iconst (v := iI 0) (q := 42) dH_isAnyInputUsedUp_41 rfl rfl ?_
      exact zr_zret dH_isAnyInputUsedUp_42 rfl (by omega) ⟨by rw [lH_isAnyInputUsedUp_7], rfl⟩
    · exfalso
      omega
  | succ j ih =>
    intro k  c0 c1
    refine ev_iload_n 3 (q := 8) dH_isAnyInputUsedUp_7 rfl (by rfl) rfl ?_
    refine ev_aload_n 2 (q := 9) dH_isAnyInputUsedUp_8 rfl (by rfl) rfl ?_
    refine ev_get (q := 12) (v := zi (γ 32 (2 * t))) dH_isAnyInputUsedUp_9 fH_299 (at_L hc.2.1 (zl0 hp0)) rfl rfl ?_
    have g1 : 0 ≤ γ 32 (2 * t) ∧ γ 32 (2 * t) ≤ 4 := hc.1 32 (2 * t) (by decide)
    refine zr_icmp_ge (t := 41) (q := 15) dH_isAnyInputUsedUp_12 rfl rfl ⟨by omega, by omega⟩ ⟨by omega, by omega⟩ (fun h2 => ?_) (fun h2 => ?_)
    · exfalso
      omega
    · refine ev_aload_n 0 (q := 16) dH_isAnyInputUsedUp_15 rfl (by rfl) rfl ?_
      refine ev_get (q := 19) dH_isAnyInputUsedUp_16 fH_29 at_H (by rfl) rfl ?_
      refine ev_aload_n 2 (q := 20) dH_isAnyInputUsedUp_19 rfl (by rfl) rfl ?_
      refine ev_get (q := 23) dH_isAnyInputUsedUp_20 fH_300 (at_L hc.2.1 (zl0 hp0)) (by rfl) rfl ?_
      refine ev_iload_n 3 (q := 24) dH_isAnyInputUsedUp_23 rfl (by rfl) rfl ?_
      refine zr_aald (q := 25) dH_isAnyInputUsedUp_24 (fun _ => ⟨_, rfl⟩) (at_E hc.2.1 (zl0 hp0)) (by decide) ⟨by omega, by omega⟩ (if_pos ⟨by omega, by omega⟩) rfl ?_
      have s3 : zEx γ (γ 33 (4 * (2 * t) + k)) := hc.2.2.1 (2 * t) k (zl0 hp0).1 (zl0 hp0).2 (by omega) (by omega)
      have g4 : 0 ≤ γ 33 (4 * (2 * t) + k) ∧ γ 33 (4 * (2 * t) + k) ≤ 79 := hc.1 33 _ (by decide)
      refine ev_get (q := 28) dH_isAnyInputUsedUp_25 fH_88 (at_S hc.2.1 s3) (by rfl) rfl ?_
      refine zr_iald (q := 29) (g := γ 8) dH_isAnyInputUsedUp_28 at_spenders (by decide) ⟨by omega, by omega⟩ rfl ?_
      have g5 : -1 ≤ γ 8 (γ 33 (4 * (2 * t) + k)) ∧ γ 8 (γ 33 (4 * (2 * t) + k)) ≤ 19 := hc.1 8 (γ 33 (4 * (2 * t) + k)) (by decide)
      refine ev_iconst (v := iI (-1)) (q := 30) dH_isAnyInputUsedUp_29 rfl rfl ?_
      refine zr_icmp_eq (t := 35) (q := 33) dH_isAnyInputUsedUp_30 rfl rfl ⟨by omega, by omega⟩ ⟨by omega, by omega⟩ (fun h6 => ?_) (fun h6 => ?_)
      · refine zr_iinc (q := 38) dH_isAnyInputUsedUp_35 (by rfl) (by decide) rfl rfl ?_
        dsimp only [List.set]
        refine ev_goto (t := 7) (q := 7) dH_isAnyInputUsedUp_38 rfl rfl ?_
        rw [show lH_isAnyInputUsedUp_7 γ t (j + 1) k = lH_isAnyInputUsedUp_7 γ t j (k + 1) from by rw [lH_isAnyInputUsedUp_7, if_pos h6]]
        exact ih (k + 1)  (by omega) (by omega)
      · refine ev_iconst (v := iI 1) (q := 34) dH_isAnyInputUsedUp_33 rfl rfl ?_
        exact zr_zret dH_isAnyInputUsedUp_34 rfl (by omega) ⟨by rw [lH_isAnyInputUsedUp_7, if_neg h6], rfl⟩
def cH_isAnyInputUsedUp (γ : z_Sg) (t : Int) : Int := lH_isAnyInputUsedUp_7 γ t (γ 32 (2 * t)).toNat 0
theorem bH_isAnyInputUsedUp (γ : z_Sg) (t : Int) : cH_isAnyInputUsedUp γ t = 0 ∨ cH_isAnyInputUsedUp γ t = 1 := by
  unfold cH_isAnyInputUsedUp
  repeat' split
  all_goals first | exact Or.inl rfl | exact Or.inr rfl | exact blH_isAnyInputUsedUp_7 _ _ _ _
set_option maxRecDepth 100000 in
set_option maxHeartbeats 4000000 in
theorem sH_isAnyInputUsedUp {g : z_Gl} {γ ρ : z_Sg} (hc : zC g γ) (t : Int) (hp0 : 0 ≤ t ∧ t < γ 0 0) : z_Sp mH_isAnyInputUsedUp (0, 0) 0 0 [.ref (0), .ref (g.1 t)] (zH g γ ρ) (fun r M' => r = some (zi (cH_isAnyInputUsedUp γ t)) ∧ M' = zH g γ ρ) := by
  refine z_Sp_of (L := [.ref (0), .ref (g.1 t), .float 0, .float 0]) (by decide) rfl rfl rfl (Nat.le_of_ble_eq_true rfl) ?_
  refine ev_aload_n 1 (q := 1) dH_isAnyInputUsedUp_0 rfl (by rfl) rfl ?_
  refine ev_get (q := 4) dH_isAnyInputUsedUp_1 fH_84 (at_T hc.2.1 hp0) (by rfl) rfl ?_
  refine ev_astore_n 2 (q := 5) dH_isAnyInputUsedUp_4 rfl (by decide) rfl rfl ?_
  dsimp only [List.set]
  refine ev_iconst (v := iI 0) (q := 6) dH_isAnyInputUsedUp_5 rfl rfl ?_
  refine ev_istore_n 3 (q := 7) dH_isAnyInputUsedUp_6 rfl (by decide) rfl rfl ?_
  dsimp only [List.set]
  have g1 : 0 ≤ γ 32 (2 * t) ∧ γ 32 (2 * t) ≤ 4 := hc.1 32 (2 * t) (by decide)
  rw [show cH_isAnyInputUsedUp γ t = lH_isAnyInputUsedUp_7 γ t (γ 32 (2 * t)).toNat 0 from by rw [cH_isAnyInputUsedUp]]
  exact eH_isAnyInputUsedUp_7 hc t hp0 (γ 32 (2 * t)).toNat 0  (by omega) (by omega)

def cH_judge (γ : z_Sg) (t : Int) : Int := if (γ 1 0) < (γ 22 t) then 2 else if (γ 1 0) < (γ 23 t) then if (γ 21 t) ≠ 4 then if (cH_isAnyInputUsedUp γ t) = 0 then 1 else 4 else if (γ 27 t) ≠ 0 then if (cH_isAnyInputUsedUp γ t) = 0 then 1 else 4 else 3 else 2
set_option maxRecDepth 100000 in
set_option maxHeartbeats 4000000 in
theorem sH_judge {g : z_Gl} {γ ρ : z_Sg} (hc : zC g γ) (t : Int) (hp0 : 0 ≤ t ∧ t < γ 0 0) : z_Sp mH_judge (1, 23) 0 0 [.ref (0), .ref (g.1 t)] (zH g γ ρ) (fun r M' => r = some (zi (cH_judge γ t)) ∧ M' = zH g γ ρ) := by
  refine z_Sp_of (L := [.ref (0), .ref (g.1 t)]) (by decide) rfl rfl rfl (Nat.le_of_ble_eq_true rfl) ?_
  refine ev_aload_n 0 (q := 1) dH_judge_0 rfl (by rfl) rfl ?_
  refine ev_get (q := 4) (v := zi (γ 1 0)) dH_judge_1 fH_180 at_H rfl rfl ?_
  have g1 : 0 ≤ γ 1 0 ∧ γ 1 0 ≤ 1000000 := hc.1 1 0 (by decide)
  refine ev_aload_n 1 (q := 5) dH_judge_4 rfl (by rfl) rfl ?_
  refine ev_get (q := 8) (v := zi (γ 22 t)) dH_judge_5 fH_289 (at_T hc.2.1 hp0) rfl rfl ?_
  have g2 : 0 ≤ γ 22 t ∧ γ 22 t ≤ 1000000 := hc.1 22 t (by decide)
  refine zr_icmp_lt (t := 22) (q := 11) dH_judge_8 rfl rfl ⟨by omega, by omega⟩ ⟨by omega, by omega⟩ (fun h3 => ?_) (fun h3 => ?_)
  · refine ev_iconst (v := iI 2) (q := 23) dH_judge_22 rfl rfl ?_
    exact zr_iret dH_judge_23 rfl ⟨by rw [cH_judge, if_pos h3], rfl⟩
  · refine ev_aload_n 0 (q := 12) dH_judge_11 rfl (by rfl) rfl ?_
    refine ev_get (q := 15) (v := zi (γ 1 0)) dH_judge_12 fH_180 at_H rfl rfl ?_
    have g4 : 0 ≤ γ 1 0 ∧ γ 1 0 ≤ 1000000 := hc.1 1 0 (by decide)
    refine ev_aload_n 1 (q := 16) dH_judge_15 rfl (by rfl) rfl ?_
    refine ev_get (q := 19) (v := zi (γ 23 t)) dH_judge_16 fH_292 (at_T hc.2.1 hp0) rfl rfl ?_
    have g5 : 0 ≤ γ 23 t ∧ γ 23 t ≤ 1000000 := hc.1 23 t (by decide)
    refine zr_icmp_lt (t := 24) (q := 22) dH_judge_19 rfl rfl ⟨by omega, by omega⟩ ⟨by omega, by omega⟩ (fun h6 => ?_) (fun h6 => ?_)
    · refine ev_aload_n 1 (q := 25) dH_judge_24 rfl (by rfl) rfl ?_
      refine ev_get (q := 28) (v := zi (γ 21 t)) dH_judge_25 fH_81 (at_T hc.2.1 hp0) rfl rfl ?_
      have g7 : 0 ≤ γ 21 t ∧ γ 21 t ≤ 5 := hc.1 21 t (by decide)
      refine ev_iconst (v := iI 4) (q := 29) dH_judge_28 rfl rfl ?_
      refine zr_icmp_ne (t := 41) (q := 32) dH_judge_29 rfl rfl ⟨by omega, by omega⟩ ⟨by omega, by omega⟩ (fun h8 => ?_) (fun h8 => ?_)
      · refine ev_aload_n 0 (q := 42) dH_judge_41 rfl (by rfl) rfl ?_
        refine ev_aload_n 1 (q := 43) dH_judge_42 rfl (by rfl) rfl ?_
        refine cv_V (As := [_]) (q := 46) dH_judge_43 kH_295 at_H rfl rfl (Nat.le_of_ble_eq_true rfl) rfl rfl rfl (by decide) (sH_isAnyInputUsedUp hc t hp0 ) ?_
        have g9 : (cH_isAnyInputUsedUp γ t) = 0 ∨ (cH_isAnyInputUsedUp γ t) = 1 := bH_isAnyInputUsedUp _ _
        refine zr_if_eq (t := 53) (q := 49) dH_judge_46 rfl rfl ⟨by omega, by omega⟩ (fun h10 => ?_) (fun h10 => ?_)
        · refine ev_iconst (v := iI 1) (q := 54) dH_judge_53 rfl rfl ?_
          exact zr_iret dH_judge_54 rfl ⟨by rw [cH_judge, if_neg (Int.not_lt.mpr h3), if_pos h6, if_pos h8, if_pos h10], rfl⟩
        · refine ev_iconst (v := iI 4) (q := 50) dH_judge_49 rfl rfl ?_
          refine ev_goto (t := 54) (q := 54) dH_judge_50 rfl rfl ?_
          exact zr_iret dH_judge_54 rfl ⟨by rw [cH_judge, if_neg (Int.not_lt.mpr h3), if_pos h6, if_pos h8, if_neg h10], rfl⟩
      · refine ev_aload_n 1 (q := 33) dH_judge_32 rfl (by rfl) rfl ?_
        refine ev_get (q := 36) (v := zi (γ 27 t)) dH_judge_33 fH_282 (at_T hc.2.1 hp0) rfl rfl ?_
        have g11 : 0 ≤ γ 27 t ∧ γ 27 t ≤ 1 := hc.1 27 t (by decide)
        refine zr_if_ne (t := 41) (q := 39) dH_judge_36 rfl rfl ⟨by omega, by omega⟩ (fun h12 => ?_) (fun h12 => ?_)
        · refine ev_aload_n 0 (q := 42) dH_judge_41 rfl (by rfl) rfl ?_
          refine ev_aload_n 1 (q := 43) dH_judge_42 rfl (by rfl) rfl ?_
          refine cv_V (As := [_]) (q := 46) dH_judge_43 kH_295 at_H rfl rfl (Nat.le_of_ble_eq_true rfl) rfl rfl rfl (by decide) (sH_isAnyInputUsedUp hc t hp0 ) ?_
          have g13 : (cH_isAnyInputUsedUp γ t) = 0 ∨ (cH_isAnyInputUsedUp γ t) = 1 := bH_isAnyInputUsedUp _ _
          refine zr_if_eq (t := 53) (q := 49) dH_judge_46 rfl rfl ⟨by omega, by omega⟩ (fun h14 => ?_) (fun h14 => ?_)
          · refine ev_iconst (v := iI 1) (q := 54) dH_judge_53 rfl rfl ?_
            exact zr_iret dH_judge_54 rfl ⟨by rw [cH_judge, if_neg (Int.not_lt.mpr h3), if_pos h6, if_neg (fun z => z h8), if_pos h12, if_pos h14], rfl⟩
          · refine ev_iconst (v := iI 4) (q := 50) dH_judge_49 rfl rfl ?_
            refine ev_goto (t := 54) (q := 54) dH_judge_50 rfl rfl ?_
            exact zr_iret dH_judge_54 rfl ⟨by rw [cH_judge, if_neg (Int.not_lt.mpr h3), if_pos h6, if_neg (fun z => z h8), if_pos h12, if_neg h14], rfl⟩
        · refine ev_iconst (v := iI 3) (q := 40) dH_judge_39 rfl rfl ?_
          exact zr_iret dH_judge_40 rfl ⟨by rw [cH_judge, if_neg (Int.not_lt.mpr h3), if_pos h6, if_neg (fun z => z h8), if_neg (fun z => z h12)], rfl⟩
    · refine ev_iconst (v := iI 2) (q := 23) dH_judge_22 rfl rfl ?_
      exact zr_iret dH_judge_23 rfl ⟨by rw [cH_judge, if_neg (Int.not_lt.mpr h3), if_neg (Int.not_lt.mpr h6)], rfl⟩

theorem bH_judge {g : z_Gl} {γ : z_Sg} (hc : zC g γ) (t : Int) (ht : 0 ≤ t ∧ t < γ 0 0) : 1 ≤ cH_judge γ t ∧ cH_judge γ t ≤ 4 := by
  unfold cH_judge
  repeat' split
  all_goals omega

def lH_useUpInputs_7 (γ : z_Sg) (t : Int) (j : Nat) (k : Int) : z_Sg := match j with
  | 0 => γ
  | j + 1 => lH_useUpInputs_7 (z_up γ 8 (γ 33 (4 * (2 * t) + k)) t) t j (k + 1)
set_option maxRecDepth 100000 in
set_option maxHeartbeats 4000000 in
theorem eH_useUpInputs_7 {g : z_Gl} {γ ρ : z_Sg} {Q : Option Value → List va_E → Prop} (hc : zC g γ) (t : Int) (hp0 : 0 ≤ t ∧ t < γ 0 0) : ∀ (j : Nat) (k : Int), 0 ≤ k → k + j = γ 32 (2 * t) → (∀ (y3 : Value), z_Ev mH_useUpInputs (0, 0) 0 0 39 [.ref (0), .ref (g.1 t), .ref (g.2.1 (2 * t)), y3] [] (zH g (lH_useUpInputs_7 γ t j k) ρ) Q) → z_Ev mH_useUpInputs (0, 0) 0 0 7 [.ref (0), .ref (g.1 t), .ref (g.2.1 (2 * t)), zi k] [] (zH g γ ρ) Q := by
  intro j
  induction j generalizing γ with
  | zero =>
    intro k   c0 c1 hk
    refine ev_iload_n 3 (q := 8) dH_useUpInputs_7 rfl (by rfl) rfl ?_
    refine ev_aload_n 2 (q := 9) dH_useUpInputs_8 rfl (by rfl) rfl ?_
    refine ev_get (q := 12) (v := zi (γ 32 (2 * t))) dH_useUpInputs_9 fH_299 (at_L hc.2.1 (zl0 hp0)) rfl rfl ?_
    have g1 : 0 ≤ γ 32 (2 * t) ∧ γ 32 (2 * t) ≤ 4 := hc.1 32 (2 * t) (by decide)
    refine zr_icmp_ge (t := 39) (q := 15) dH_useUpInputs_12 rfl rfl ⟨by omega, by omega⟩ ⟨by omega, by omega⟩ (fun h2 => ?_) (fun h2 => ?_)
    · exact hk _
    · exfalso
      omega
  | succ j ih =>
    intro k   c0 c1 hk
    have g0 : 0 ≤ γ 0 0 ∧ γ 0 0 ≤ 20 := hc.1 0 0 (by decide)
    refine ev_iload_n 3 (q := 8) dH_useUpInputs_7 rfl (by rfl) rfl ?_
    refine ev_aload_n 2 (q := 9) dH_useUpInputs_8 rfl (by rfl) rfl ?_
    refine ev_get (q := 12) (v := zi (γ 32 (2 * t))) dH_useUpInputs_9 fH_299 (at_L hc.2.1 (zl0 hp0)) rfl rfl ?_
    have g1 : 0 ≤ γ 32 (2 * t) ∧ γ 32 (2 * t) ≤ 4 := hc.1 32 (2 * t) (by decide)
    refine zr_icmp_ge (t := 39) (q := 15) dH_useUpInputs_12 rfl rfl ⟨by omega, by omega⟩ ⟨by omega, by omega⟩ (fun h2 => ?_) (fun h2 => ?_)
    · exfalso
      omega
    · refine ev_aload_n 0 (q := 16) dH_useUpInputs_15 rfl (by rfl) rfl ?_
      refine ev_get (q := 19) dH_useUpInputs_16 fH_29 at_H (by rfl) rfl ?_
      refine ev_aload_n 2 (q := 20) dH_useUpInputs_19 rfl (by rfl) rfl ?_
      refine ev_get (q := 23) dH_useUpInputs_20 fH_300 (at_L hc.2.1 (zl0 hp0)) (by rfl) rfl ?_
      refine ev_iload_n 3 (q := 24) dH_useUpInputs_23 rfl (by rfl) rfl ?_
      refine zr_aald (q := 25) dH_useUpInputs_24 (fun _ => ⟨_, rfl⟩) (at_E hc.2.1 (zl0 hp0)) (by decide) ⟨by omega, by omega⟩ (if_pos ⟨by omega, by omega⟩) rfl ?_
      have s3 : zEx γ (γ 33 (4 * (2 * t) + k)) := hc.2.2.1 (2 * t) k (zl0 hp0).1 (zl0 hp0).2 (by omega) (by omega)
      have g4 : 0 ≤ γ 33 (4 * (2 * t) + k) ∧ γ 33 (4 * (2 * t) + k) ≤ 79 := hc.1 33 _ (by decide)
      refine ev_get (q := 28) dH_useUpInputs_25 fH_88 (at_S hc.2.1 s3) (by rfl) rfl ?_
      refine ev_aload_n 1 (q := 29) dH_useUpInputs_28 rfl (by rfl) rfl ?_
      refine ev_get (q := 32) dH_useUpInputs_29 fH_281 (at_T hc.2.1 hp0) (by rfl) rfl ?_
      refine zr_iast (q := 33) dH_useUpInputs_32 at_spenders (by decide) ⟨by omega, by omega⟩ ct_spenders rfl ?_
      have hc5 : zC g (z_up γ 8 (γ 33 (4 * (2 * t) + k)) t) := zC_up hc (by decide) (by decide) (by decide) (show (-1 : Int) ≤ t by omega) (show t ≤ (19 : Int) by omega)
      refine zr_iinc (q := 36) dH_useUpInputs_33 (by rfl) (by decide) rfl rfl ?_
      dsimp only [List.set]
      refine ev_goto (t := 7) (q := 7) dH_useUpInputs_36 rfl rfl ?_
      rw [show lH_useUpInputs_7 γ t (j + 1) k = lH_useUpInputs_7 (z_up γ 8 (γ 33 (4 * (2 * t) + k)) t) t j (k + 1) from by rw [lH_useUpInputs_7]] at hk
      exact ih hc5 hp0  (k + 1)   (by omega) (by have e9 : (z_up γ 8 (γ 33 (4 * (2 * t) + k)) t) 32 (2 * t) = γ 32 (2 * t) := rfl; omega) hk
set_option maxRecDepth 100000 in
set_option maxHeartbeats 4000000 in
theorem wlH_useUpInputs_7 {g : z_Gl} {γ : z_Sg} (hc : zC g γ) (t : Int) (hp0 : 0 ≤ t ∧ t < γ 0 0) : ∀ (j : Nat) (k : Int), 0 ≤ k → k + j = γ 32 (2 * t) → zC g (lH_useUpInputs_7 γ t j k) := by
  intro j
  induction j generalizing γ with
  | zero =>
    intro k  c0 c1
    rw [lH_useUpInputs_7]
    have g1 : 0 ≤ γ 32 (2 * t) ∧ γ 32 (2 * t) ≤ 4 := hc.1 32 (2 * t) (by decide)
    exact hc
  | succ j ihw =>
    intro k  c0 c1
    rw [lH_useUpInputs_7]
    have g0 : 0 ≤ γ 0 0 ∧ γ 0 0 ≤ 20 := hc.1 0 0 (by decide)
    have g1 : 0 ≤ γ 32 (2 * t) ∧ γ 32 (2 * t) ≤ 4 := hc.1 32 (2 * t) (by decide)
    have s3 : zEx γ (γ 33 (4 * (2 * t) + k)) := hc.2.2.1 (2 * t) k (zl0 hp0).1 (zl0 hp0).2 (by omega) (by omega)
    have g4 : 0 ≤ γ 33 (4 * (2 * t) + k) ∧ γ 33 (4 * (2 * t) + k) ≤ 79 := hc.1 33 _ (by decide)
    have hc5 : zC g (z_up γ 8 (γ 33 (4 * (2 * t) + k)) t) := zC_up hc (by decide) (by decide) (by decide) (show (-1 : Int) ≤ t by omega) (show t ≤ (19 : Int) by omega)
    exact ihw hc5 hp0  (k + 1)  (by omega) (by have e9 : (z_up γ 8 (γ 33 (4 * (2 * t) + k)) t) 32 (2 * t) = γ 32 (2 * t) := rfl; omega)
theorem kH_useUpInputs_7 {γ : z_Sg} (t : Int) (j : Nat) (k : Int) {c : Nat} (h0 : c ≠ 8) : lH_useUpInputs_7 γ t j k c = γ c := by
  induction j generalizing γ k with
  | zero => rfl
  | succ j ih => rw [lH_useUpInputs_7, ih, z_up_n h0]
def cH_useUpInputs (γ : z_Sg) (t : Int) : Int × z_Sg := (0, (lH_useUpInputs_7 γ t (γ 32 (2 * t)).toNat 0))
set_option maxRecDepth 100000 in
set_option maxHeartbeats 4000000 in
theorem sH_useUpInputs {g : z_Gl} {γ ρ : z_Sg} (hc : zC g γ) (t : Int) (hp0 : 0 ≤ t ∧ t < γ 0 0) : z_Sp mH_useUpInputs (0, 0) 0 0 [.ref (0), .ref (g.1 t)] (zH g γ ρ) (fun r M' => r = none ∧ M' = zH g (cH_useUpInputs γ t).2 ρ) := by
  refine z_Sp_of (L := [.ref (0), .ref (g.1 t), .float 0, .float 0]) (by decide) rfl rfl rfl (Nat.le_of_ble_eq_true rfl) ?_
  refine ev_aload_n 1 (q := 1) dH_useUpInputs_0 rfl (by rfl) rfl ?_
  refine ev_get (q := 4) dH_useUpInputs_1 fH_84 (at_T hc.2.1 hp0) (by rfl) rfl ?_
  refine ev_astore_n 2 (q := 5) dH_useUpInputs_4 rfl (by decide) rfl rfl ?_
  dsimp only [List.set]
  refine ev_iconst (v := iI 0) (q := 6) dH_useUpInputs_5 rfl rfl ?_
  refine ev_istore_n 3 (q := 7) dH_useUpInputs_6 rfl (by decide) rfl rfl ?_
  dsimp only [List.set]
  have g1 : 0 ≤ γ 32 (2 * t) ∧ γ 32 (2 * t) ≤ 4 := hc.1 32 (2 * t) (by decide)
  refine eH_useUpInputs_7 hc t hp0 (γ 32 (2 * t)).toNat 0   (by omega) (by omega) (fun y2 => ?_)
  have hw3 : zC g (lH_useUpInputs_7 γ t (γ 32 (2 * t)).toNat 0) := wlH_useUpInputs_7 hc t hp0 (γ 32 (2 * t)).toNat 0  (by omega) (by omega)
  exact ev_ret dH_useUpInputs_39 rfl ⟨rfl, by rw [cH_useUpInputs]⟩
set_option maxRecDepth 100000 in
set_option maxHeartbeats 4000000 in
theorem wH_useUpInputs {g : z_Gl} {γ : z_Sg} (hc : zC g γ) (t : Int) (hp0 : 0 ≤ t ∧ t < γ 0 0) : zC g (cH_useUpInputs γ t).2 := by
  rw [cH_useUpInputs]
  have g1 : 0 ≤ γ 32 (2 * t) ∧ γ 32 (2 * t) ≤ 4 := hc.1 32 (2 * t) (by decide)
  have hw3 : zC g (lH_useUpInputs_7 γ t (γ 32 (2 * t)).toNat 0) := wlH_useUpInputs_7 hc t hp0 (γ 32 (2 * t)).toNat 0  (by omega) (by omega)
  exact hw3

theorem kH_useUpInputs {γ : z_Sg} (t : Int) {c : Nat} (h0 : c ≠ 8) : (cH_useUpInputs γ t).2 c = γ c := by
  unfold cH_useUpInputs
  repeat' split
  all_goals first | rfl | (simp only [z_up_n h0, kH_useUpInputs_7 _ _ _ h0])

def cH_settle (γ : z_Sg) (t co : Int) : Int × z_Sg := if (co < 1 ∨ 3 < co) then (0, (z_up γ 25 t 7)) else if co = 1 then if (γ 27 t) = 0 then (0, (z_up γ 25 t 8)) else (0, ((cN_enter (z_up γ 25 t 3) (γ 20 t) t)).2) else if co = 2 then (0, (z_up γ 25 t 5)) else (0, (z_up γ 25 t 6))
set_option maxRecDepth 100000 in
set_option maxHeartbeats 4000000 in
theorem sH_settle {g : z_Gl} {γ ρ : z_Sg} (hc : zC g γ) (t co : Int) (hp0 : 0 ≤ t ∧ t < γ 0 0) (hp1 : z_rg co) : z_Sp mH_settle (2, 41) 0 0 [.ref (0), .ref (g.1 t), zi co] (zH g γ ρ) (fun r M' => r = none ∧ M' = zH g (cH_settle γ t co).2 ρ) := by
  refine z_Sp_of (L := [.ref (0), .ref (g.1 t), zi co]) (by decide) rfl rfl rfl (Nat.le_of_ble_eq_true rfl) ?_
  have g0 : 0 ≤ γ 0 0 ∧ γ 0 0 ≤ 20 := hc.1 0 0 (by decide)
  refine ev_iload_n 2 (q := 1) dH_settle_0 rfl (by rfl) rfl ?_
  by_cases h1 : (co < 1 ∨ 3 < co)
  · refine ev_tableOut (t := 85) (q := 85) dH_settle_1 (by rw [iI_toInt ⟨by omega, by omega⟩]; omega) rfl rfl ?_
    refine ev_aload_n 1 (q := 86) dH_settle_85 rfl (by rfl) rfl ?_
    refine ev_bipush (v := iI 7) (q := 88) dH_settle_86 (by decide) rfl ?_
    refine zr_puti (q := 91) dH_settle_88 gH_68 (at_T hc.2.1 hp0) (Nat.le_of_ble_eq_true rfl) rfl (ct_stage hc.2.1 hp0) rfl ?_
    have hc2 : zC g (z_up γ 25 t 7) := zC_up hc (by decide) (by decide) (by decide) (show (0 : Int) ≤ 7 by omega) (show 7 ≤ (9 : Int) by omega)
    exact ev_ret dH_settle_91 rfl ⟨rfl, by rw [cH_settle, if_pos h1]⟩
  · by_cases h3 : co = 1
    · refine ev_tableIn (t := 28) (q := 28) (off := 27) dH_settle_1 (by rw [iI_toInt ⟨by omega, by omega⟩]; omega) (by rw [iI_toInt ⟨by omega, by omega⟩]; omega) (by rw [iI_toInt ⟨by omega, by omega⟩]; rw [show co = 1 by omega]; rfl) rfl rfl ?_
      refine ev_aload_n 1 (q := 29) dH_settle_28 rfl (by rfl) rfl ?_
      refine ev_get (q := 32) (v := zi (γ 27 t)) dH_settle_29 fH_282 (at_T hc.2.1 hp0) rfl rfl ?_
      have g4 : 0 ≤ γ 27 t ∧ γ 27 t ≤ 1 := hc.1 27 t (by decide)
      refine zr_if_eq (t := 59) (q := 35) dH_settle_32 rfl rfl ⟨by omega, by omega⟩ (fun h5 => ?_) (fun h5 => ?_)
      · refine ev_aload_n 1 (q := 60) dH_settle_59 rfl (by rfl) rfl ?_
        refine ev_bipush (v := iI 8) (q := 62) dH_settle_60 (by decide) rfl ?_
        refine zr_puti (q := 65) dH_settle_62 gH_68 (at_T hc.2.1 hp0) (Nat.le_of_ble_eq_true rfl) rfl (ct_stage hc.2.1 hp0) rfl ?_
        have hc6 : zC g (z_up γ 25 t 8) := zC_up hc (by decide) (by decide) (by decide) (show (0 : Int) ≤ 8 by omega) (show 8 ≤ (9 : Int) by omega)
        refine ev_goto (t := 91) (q := 91) dH_settle_65 rfl rfl ?_
        exact ev_ret dH_settle_91 rfl ⟨rfl, by rw [cH_settle, if_neg h1, if_pos h3, if_pos h5]⟩
      · refine ev_aload_n 1 (q := 36) dH_settle_35 rfl (by rfl) rfl ?_
        refine ev_iconst (v := iI 3) (q := 37) dH_settle_36 rfl rfl ?_
        refine zr_puti (q := 40) dH_settle_37 gH_68 (at_T hc.2.1 hp0) (Nat.le_of_ble_eq_true rfl) rfl (ct_stage hc.2.1 hp0) rfl ?_
        have hc7 : zC g (z_up γ 25 t 3) := zC_up hc (by decide) (by decide) (by decide) (show (0 : Int) ≤ 3 by omega) (show 3 ≤ (9 : Int) by omega)
        refine ev_aload_n 0 (q := 41) dH_settle_40 rfl (by rfl) rfl ?_
        refine ev_get (q := 44) dH_settle_41 fH_17 at_H (by rfl) rfl ?_
        refine ev_aload_n 1 (q := 45) dH_settle_44 rfl (by rfl) rfl ?_
        refine ev_get (q := 48) (v := zi (γ 20 t)) dH_settle_45 fH_71 (at_T hc7.2.1 hp0) rfl rfl ?_
        have g8 : 0 ≤ γ 20 t ∧ γ 20 t ≤ 3 := hc.1 20 t (by decide)
        refine zr_aald (q := 49) dH_settle_48 (fun _ => ⟨_, rfl⟩) at_nodes (by decide) ⟨by omega, by omega⟩ (if_pos ⟨by omega, by omega⟩) rfl ?_
        refine ev_aload_n 1 (q := 50) dH_settle_49 rfl (by rfl) rfl ?_
        refine ev_get (q := 53) dH_settle_50 fH_281 (at_T hc7.2.1 hp0) (by rfl) rfl ?_
        refine cv_Vv (As := [_]) (q := 56) dH_settle_53 kH_286 (at_N ⟨by omega, by omega⟩) rfl rfl (Nat.le_of_ble_eq_true rfl) rfl rfl rfl (by decide) (sN_enter hc7 (γ 20 t) t ⟨by omega, by omega⟩ ⟨by omega, by omega⟩ ) ?_
        have hc9 : zC g ((cN_enter (z_up γ 25 t 3) (γ 20 t) t)).2 := wN_enter hc7 (γ 20 t) t ⟨by omega, by omega⟩ ⟨by omega, by omega⟩ 
        refine ev_goto (t := 91) (q := 91) dH_settle_56 rfl rfl ?_
        exact ev_ret dH_settle_91 rfl ⟨rfl, by rw [cH_settle, if_neg h1, if_pos h3, if_neg h5]⟩
    · by_cases h10 : co = 2
      · refine ev_tableIn (t := 68) (q := 68) (off := 67) dH_settle_1 (by rw [iI_toInt ⟨by omega, by omega⟩]; omega) (by rw [iI_toInt ⟨by omega, by omega⟩]; omega) (by rw [iI_toInt ⟨by omega, by omega⟩]; rw [show co = 2 by omega]; rfl) rfl rfl ?_
        refine ev_aload_n 1 (q := 69) dH_settle_68 rfl (by rfl) rfl ?_
        refine ev_iconst (v := iI 5) (q := 70) dH_settle_69 rfl rfl ?_
        refine zr_puti (q := 73) dH_settle_70 gH_68 (at_T hc.2.1 hp0) (Nat.le_of_ble_eq_true rfl) rfl (ct_stage hc.2.1 hp0) rfl ?_
        have hc11 : zC g (z_up γ 25 t 5) := zC_up hc (by decide) (by decide) (by decide) (show (0 : Int) ≤ 5 by omega) (show 5 ≤ (9 : Int) by omega)
        refine ev_goto (t := 91) (q := 91) dH_settle_73 rfl rfl ?_
        exact ev_ret dH_settle_91 rfl ⟨rfl, by rw [cH_settle, if_neg h1, if_neg h3, if_pos h10]⟩
      · refine ev_tableIn (t := 76) (q := 76) (off := 75) dH_settle_1 (by rw [iI_toInt ⟨by omega, by omega⟩]; omega) (by rw [iI_toInt ⟨by omega, by omega⟩]; omega) (by rw [iI_toInt ⟨by omega, by omega⟩]; rw [show co = 3 by omega]; rfl) rfl rfl ?_
        refine ev_aload_n 1 (q := 77) dH_settle_76 rfl (by rfl) rfl ?_
        refine ev_bipush (v := iI 6) (q := 79) dH_settle_77 (by decide) rfl ?_
        refine zr_puti (q := 82) dH_settle_79 gH_68 (at_T hc.2.1 hp0) (Nat.le_of_ble_eq_true rfl) rfl (ct_stage hc.2.1 hp0) rfl ?_
        have hc12 : zC g (z_up γ 25 t 6) := zC_up hc (by decide) (by decide) (by decide) (show (0 : Int) ≤ 6 by omega) (show 6 ≤ (9 : Int) by omega)
        refine ev_goto (t := 91) (q := 91) dH_settle_82 rfl rfl ?_
        exact ev_ret dH_settle_91 rfl ⟨rfl, by rw [cH_settle, if_neg h1, if_neg h3, if_neg h10]⟩
set_option maxRecDepth 100000 in
set_option maxHeartbeats 4000000 in
theorem wH_settle {g : z_Gl} {γ : z_Sg} (hc : zC g γ) (t co : Int) (hp0 : 0 ≤ t ∧ t < γ 0 0) (hp1 : z_rg co) : zC g (cH_settle γ t co).2 := by
  rw [cH_settle]
  have g0 : 0 ≤ γ 0 0 ∧ γ 0 0 ≤ 20 := hc.1 0 0 (by decide)
  by_cases h1 : (co < 1 ∨ 3 < co)
  · rw [if_pos h1]
    have hc2 : zC g (z_up γ 25 t 7) := zC_up hc (by decide) (by decide) (by decide) (show (0 : Int) ≤ 7 by omega) (show 7 ≤ (9 : Int) by omega)
    exact hc2
  · rw [if_neg h1]
    by_cases h3 : co = 1
    · rw [if_pos h3]
      have g4 : 0 ≤ γ 27 t ∧ γ 27 t ≤ 1 := hc.1 27 t (by decide)
      by_cases h5 : (γ 27 t) = 0
      · rw [if_pos h5]
        have hc6 : zC g (z_up γ 25 t 8) := zC_up hc (by decide) (by decide) (by decide) (show (0 : Int) ≤ 8 by omega) (show 8 ≤ (9 : Int) by omega)
        exact hc6
      · rw [if_neg h5]
        have hc7 : zC g (z_up γ 25 t 3) := zC_up hc (by decide) (by decide) (by decide) (show (0 : Int) ≤ 3 by omega) (show 3 ≤ (9 : Int) by omega)
        have g8 : 0 ≤ γ 20 t ∧ γ 20 t ≤ 3 := hc.1 20 t (by decide)
        have hc9 : zC g ((cN_enter (z_up γ 25 t 3) (γ 20 t) t)).2 := wN_enter hc7 (γ 20 t) t ⟨by omega, by omega⟩ ⟨by omega, by omega⟩ 
        exact hc9
    · rw [if_neg h3]
      by_cases h10 : co = 2
      · rw [if_pos h10]
        have hc11 : zC g (z_up γ 25 t 5) := zC_up hc (by decide) (by decide) (by decide) (show (0 : Int) ≤ 5 by omega) (show 5 ≤ (9 : Int) by omega)
        exact hc11
      · rw [if_neg h10]
        have hc12 : zC g (z_up γ 25 t 6) := zC_up hc (by decide) (by decide) (by decide) (show (0 : Int) ≤ 6 by omega) (show 6 ≤ (9 : Int) by omega)
        exact hc12

theorem kH_settle {γ : z_Sg} (t co : Int) {c : Nat} (h0 : c ≠ 25) (h1 : c ≠ 2) (h2 : c ≠ 3) : (cH_settle γ t co).2 c = γ c := by
  unfold cH_settle
  repeat' split
  all_goals first | rfl | (simp only [z_up_n h0, z_up_n h1, z_up_n h2, kN_enter _ _ h1 h2])

def cH_receiveAsk (γ : z_Sg) (t re fa : Int) : Int × z_Sg := if (cH_isNode γ re) ≠ 0 then if (cH_has ((cT_decide γ t re (cH_has γ (γ 5 re) (γ 20 t)))).2 (((cT_decide γ t re (cH_has γ (γ 5 re) (γ 20 t)))).2 30 t) re) = 0 then if (cH_has ((cT_decide γ t re (cH_has γ (γ 5 re) (γ 20 t)))).2 (((cT_decide γ t re (cH_has γ (γ 5 re) (γ 20 t)))).2 30 t) re) = 0 then (2, ((cH_send ((cT_decide γ t re (cH_has γ (γ 5 re) (γ 20 t)))).2 1 t re (γ 20 t) 0)).2) else (2, ((cH_send ((cT_decide γ t re (cH_has γ (γ 5 re) (γ 20 t)))).2 1 t re (γ 20 t) 1)).2) else if fa ≠ 0 then if (cH_has ((cT_decide γ t re (cH_has γ (γ 5 re) (γ 20 t)))).2 (((cT_decide γ t re (cH_has γ (γ 5 re) (γ 20 t)))).2 30 t) re) = 0 then (2, ((cH_send ((cT_decide γ t re (cH_has γ (γ 5 re) (γ 20 t)))).2 1 t re (γ 20 t) 0)).2) else (2, ((cH_send ((cT_decide γ t re (cH_has γ (γ 5 re) (γ 20 t)))).2 1 t re (γ 20 t) 1)).2) else if (cH_has ((cT_decide γ t re (cH_has γ (γ 5 re) (γ 20 t)))).2 (((cT_decide γ t re (cH_has γ (γ 5 re) (γ 20 t)))).2 30 t) re) = 0 then (2, ((cH_send ((cN_fetch ((cT_decide γ t re (cH_has γ (γ 5 re) (γ 20 t)))).2 re (γ 24 t))).2 1 t re (((cN_fetch ((cT_decide γ t re (cH_has γ (γ 5 re) (γ 20 t)))).2 re (γ 24 t))).2 20 t) 0)).2) else (2, ((cH_send ((cN_fetch ((cT_decide γ t re (cH_has γ (γ 5 re) (γ 20 t)))).2 re (γ 24 t))).2 1 t re (((cN_fetch ((cT_decide γ t re (cH_has γ (γ 5 re) (γ 20 t)))).2 re (γ 24 t))).2 20 t) 1)).2) else ((-1), γ)
set_option maxRecDepth 100000 in
set_option maxHeartbeats 4000000 in
theorem sH_receiveAsk {g : z_Gl} {γ ρ : z_Sg} (hc : zC g γ) (t re fa : Int) (hp0 : 0 ≤ t ∧ t < γ 0 0) (hp1 : z_rg re) (hp2 : 0 ≤ fa ∧ fa ≤ 1) : z_Sp mH_receiveAsk (3, 68) 0 0 [.ref (0), .ref (g.1 t), zi re, zi fa] (zH g γ ρ) (fun r M' => r = some (zi (cH_receiveAsk γ t re fa).1) ∧ M' = zH g (cH_receiveAsk γ t re fa).2 ρ) := by
  refine z_Sp_of (L := [.ref (0), .ref (g.1 t), zi re, zi fa, .float 0, .float 0]) (by decide) rfl rfl rfl (Nat.le_of_ble_eq_true rfl) ?_
  have g0 : 0 ≤ γ 0 0 ∧ γ 0 0 ≤ 20 := hc.1 0 0 (by decide)
  refine ev_iload_n 2 (q := 1) dH_receiveAsk_0 rfl (by rfl) rfl ?_
  refine cv_S (As := [_]) (q := 4) dH_receiveAsk_1 kH_45 rfl (Nat.le_of_ble_eq_true rfl) rfl rfl rfl (by decide) (sH_isNode hc re ⟨by omega, by omega⟩ ) ?_
  have g1 : (cH_isNode γ re) = 0 ∨ (cH_isNode γ re) = 1 := bH_isNode _ _
  refine zr_if_ne (t := 9) (q := 7) dH_receiveAsk_4 rfl rfl ⟨by omega, by omega⟩ (fun h2 => ?_) (fun h2 => ?_)
  · have f31 := tH_isNode hc h2
    refine ev_aload_n 0 (q := 10) dH_receiveAsk_9 rfl (by rfl) rfl ?_
    refine ev_get (q := 13) dH_receiveAsk_10 fH_17 at_H (by rfl) rfl ?_
    refine ev_iload_n 2 (q := 14) dH_receiveAsk_13 rfl (by rfl) rfl ?_
    refine zr_aald (q := 15) dH_receiveAsk_14 (fun _ => ⟨_, rfl⟩) at_nodes (by decide) ⟨by omega, by omega⟩ (if_pos ⟨by omega, by omega⟩) rfl ?_
    refine ev_astore (q := 17) dH_receiveAsk_15 (by decide) rfl rfl ?_
    dsimp only [List.set]
    refine ev_aload_n 1 (q := 18) dH_receiveAsk_17 rfl (by rfl) rfl ?_
    refine ev_iload_n 2 (q := 19) dH_receiveAsk_18 rfl (by rfl) rfl ?_
    refine ev_aload (q := 21) dH_receiveAsk_19 (by rfl) rfl ?_
    refine ev_get (q := 24) (v := zi (γ 5 re)) dH_receiveAsk_21 fH_183 (at_N ⟨by omega, by omega⟩) rfl rfl ?_
    have g3 : 0 ≤ γ 5 re ∧ γ 5 re ≤ 15 := hc.1 5 re (by decide)
    refine ev_aload_n 1 (q := 25) dH_receiveAsk_24 rfl (by rfl) rfl ?_
    refine ev_get (q := 28) (v := zi (γ 20 t)) dH_receiveAsk_25 fH_71 (at_T hc.2.1 hp0) rfl rfl ?_
    have g4 : 0 ≤ γ 20 t ∧ γ 20 t ≤ 3 := hc.1 20 t (by decide)
    refine cv_S (As := [_, _]) (q := 31) dH_receiveAsk_28 kH_77 rfl (Nat.le_of_ble_eq_true rfl) rfl rfl rfl (by decide) (sH_has hc (γ 5 re) (γ 20 t) ⟨by omega, by omega⟩ ⟨by omega, by omega⟩ ) ?_
    have g5 : (cH_has γ (γ 5 re) (γ 20 t)) = 0 ∨ (cH_has γ (γ 5 re) (γ 20 t)) = 1 := bH_has _ _ _
    refine cv_Vv (As := [_, _]) (q := 34) dH_receiveAsk_31 kH_251 (at_T hc.2.1 hp0) rfl rfl (Nat.le_of_ble_eq_true rfl) rfl rfl rfl (by decide) (sT_decide hc t re (cH_has γ (γ 5 re) (γ 20 t)) hp0 ⟨by omega, by omega⟩ ⟨by omega, by omega⟩ ) ?_
    have hc6 : zC g ((cT_decide γ t re (cH_has γ (γ 5 re) (γ 20 t)))).2 := wT_decide hc t re (cH_has γ (γ 5 re) (γ 20 t)) hp0 ⟨by omega, by omega⟩ ⟨by omega, by omega⟩ 
    refine ev_aload_n 1 (q := 35) dH_receiveAsk_34 rfl (by rfl) rfl ?_
    refine ev_get (q := 38) (v := zi (((cT_decide γ t re (cH_has γ (γ 5 re) (γ 20 t)))).2 30 t)) dH_receiveAsk_35 fH_255 (at_T hc6.2.1 (ztx_fr hp0 (kT_decide (γ := γ) t re (cH_has γ (γ 5 re) (γ 20 t)) (c := 0) (by decide) (by decide)))) rfl rfl ?_
    have g7 : 0 ≤ ((cT_decide γ t re (cH_has γ (γ 5 re) (γ 20 t)))).2 30 t ∧ ((cT_decide γ t re (cH_has γ (γ 5 re) (γ 20 t)))).2 30 t ≤ 15 := hc6.1 30 t (by decide)
    refine ev_iload_n 2 (q := 39) dH_receiveAsk_38 rfl (by rfl) rfl ?_
    refine cv_S (As := [_, _]) (q := 42) dH_receiveAsk_39 kH_77 rfl (Nat.le_of_ble_eq_true rfl) rfl rfl rfl (by decide) (sH_has hc6 (((cT_decide γ t re (cH_has γ (γ 5 re) (γ 20 t)))).2 30 t) re ⟨by omega, by omega⟩ ⟨by omega, by omega⟩ ) ?_
    have g8 : (cH_has ((cT_decide γ t re (cH_has γ (γ 5 re) (γ 20 t)))).2 (((cT_decide γ t re (cH_has γ (γ 5 re) (γ 20 t)))).2 30 t) re) = 0 ∨ (cH_has ((cT_decide γ t re (cH_has γ (γ 5 re) (γ 20 t)))).2 (((cT_decide γ t re (cH_has γ (γ 5 re) (γ 20 t)))).2 30 t) re) = 1 := bH_has _ _ _
    refine ev_istore (q := 44) dH_receiveAsk_42 (by decide) rfl rfl ?_
    dsimp only [List.set]
    refine ev_iload (q := 46) dH_receiveAsk_44 (by rfl) rfl ?_
    refine zr_if_eq (t := 62) (q := 49) dH_receiveAsk_46 rfl rfl ⟨by omega, by omega⟩ (fun h9 => ?_) (fun h9 => ?_)
    · refine ev_aload_n 0 (q := 63) dH_receiveAsk_62 rfl (by rfl) rfl ?_
      refine ev_iconst (v := iI 1) (q := 64) dH_receiveAsk_63 rfl rfl ?_
      refine ev_aload_n 1 (q := 65) dH_receiveAsk_64 rfl (by rfl) rfl ?_
      refine ev_iload_n 2 (q := 66) dH_receiveAsk_65 rfl (by rfl) rfl ?_
      refine ev_aload_n 1 (q := 67) dH_receiveAsk_66 rfl (by rfl) rfl ?_
      refine ev_get (q := 70) (v := zi (((cT_decide γ t re (cH_has γ (γ 5 re) (γ 20 t)))).2 20 t)) dH_receiveAsk_67 fH_71 (at_T hc6.2.1 (ztx_fr hp0 (kT_decide (γ := γ) t re (cH_has γ (γ 5 re) (γ 20 t)) (c := 0) (by decide) (by decide)))) rfl rfl ?_
      rw [show ((cT_decide γ t re (cH_has γ (γ 5 re) (γ 20 t)))).2 20 t = (γ 20 t) from (congrFun (kT_decide (γ := γ) t re (cH_has γ (γ 5 re) (γ 20 t)) (c := 20) (by decide) (by decide)) t).trans rfl]
      have g10 : 0 ≤ γ 20 t ∧ γ 20 t ≤ 3 := hc.1 20 t (by decide)
      refine ev_iload (q := 72) dH_receiveAsk_70 (by rfl) rfl ?_
      refine zr_if_eq (t := 79) (q := 75) dH_receiveAsk_72 rfl rfl ⟨by omega, by omega⟩ (fun h11 => ?_) (fun h11 => ?_)
      · refine ev_iconst (v := iI 0) (q := 80) dH_receiveAsk_79 rfl rfl ?_
        refine cv_V (As := [_, _, _, _, _]) (q := 83) dH_receiveAsk_80 kH_264 at_H rfl rfl (Nat.le_of_ble_eq_true rfl) rfl rfl rfl (by decide) (sH_send hc6 1 t re (γ 20 t) 0 ⟨by omega, by omega⟩ (ztx_fr hp0 (kT_decide (γ := γ) t re (cH_has γ (γ 5 re) (γ 20 t)) (c := 0) (by decide) (by decide))) ⟨by omega, by omega⟩ ⟨by omega, by omega⟩ ⟨by omega, by omega⟩ ) ?_
        have hc12 : zC g ((cH_send ((cT_decide γ t re (cH_has γ (γ 5 re) (γ 20 t)))).2 1 t re (γ 20 t) 0)).2 := wH_send hc6 1 t re (γ 20 t) 0 ⟨by omega, by omega⟩ (ztx_fr hp0 (kT_decide (γ := γ) t re (cH_has γ (γ 5 re) (γ 20 t)) (c := 0) (by decide) (by decide))) ⟨by omega, by omega⟩ ⟨by omega, by omega⟩ ⟨by omega, by omega⟩ 
        refine ev_pop (q := 84) dH_receiveAsk_83 rfl rfl ?_
        refine ev_iconst (v := iI 2) (q := 85) dH_receiveAsk_84 rfl rfl ?_
        exact zr_iret dH_receiveAsk_85 rfl ⟨by rw [cH_receiveAsk, if_pos h2, if_pos h9, if_pos h11], by rw [cH_receiveAsk, if_pos h2, if_pos h9, if_pos h11]⟩
      · refine ev_iconst (v := iI 1) (q := 76) dH_receiveAsk_75 rfl rfl ?_
        refine ev_goto (t := 80) (q := 80) dH_receiveAsk_76 rfl rfl ?_
        refine cv_V (As := [_, _, _, _, _]) (q := 83) dH_receiveAsk_80 kH_264 at_H rfl rfl (Nat.le_of_ble_eq_true rfl) rfl rfl rfl (by decide) (sH_send hc6 1 t re (γ 20 t) 1 ⟨by omega, by omega⟩ (ztx_fr hp0 (kT_decide (γ := γ) t re (cH_has γ (γ 5 re) (γ 20 t)) (c := 0) (by decide) (by decide))) ⟨by omega, by omega⟩ ⟨by omega, by omega⟩ ⟨by omega, by omega⟩ ) ?_
        have hc14 : zC g ((cH_send ((cT_decide γ t re (cH_has γ (γ 5 re) (γ 20 t)))).2 1 t re (γ 20 t) 1)).2 := wH_send hc6 1 t re (γ 20 t) 1 ⟨by omega, by omega⟩ (ztx_fr hp0 (kT_decide (γ := γ) t re (cH_has γ (γ 5 re) (γ 20 t)) (c := 0) (by decide) (by decide))) ⟨by omega, by omega⟩ ⟨by omega, by omega⟩ ⟨by omega, by omega⟩ 
        refine ev_pop (q := 84) dH_receiveAsk_83 rfl rfl ?_
        refine ev_iconst (v := iI 2) (q := 85) dH_receiveAsk_84 rfl rfl ?_
        exact zr_iret dH_receiveAsk_85 rfl ⟨by rw [cH_receiveAsk, if_pos h2, if_pos h9, if_neg h11], by rw [cH_receiveAsk, if_pos h2, if_pos h9, if_neg h11]⟩
    · refine ev_iload_n 3 (q := 50) dH_receiveAsk_49 rfl (by rfl) rfl ?_
      refine zr_if_ne (t := 62) (q := 53) dH_receiveAsk_50 rfl rfl ⟨by omega, by omega⟩ (fun h16 => ?_) (fun h16 => ?_)
      · refine ev_aload_n 0 (q := 63) dH_receiveAsk_62 rfl (by rfl) rfl ?_
        refine ev_iconst (v := iI 1) (q := 64) dH_receiveAsk_63 rfl rfl ?_
        refine ev_aload_n 1 (q := 65) dH_receiveAsk_64 rfl (by rfl) rfl ?_
        refine ev_iload_n 2 (q := 66) dH_receiveAsk_65 rfl (by rfl) rfl ?_
        refine ev_aload_n 1 (q := 67) dH_receiveAsk_66 rfl (by rfl) rfl ?_
        refine ev_get (q := 70) (v := zi (((cT_decide γ t re (cH_has γ (γ 5 re) (γ 20 t)))).2 20 t)) dH_receiveAsk_67 fH_71 (at_T hc6.2.1 (ztx_fr hp0 (kT_decide (γ := γ) t re (cH_has γ (γ 5 re) (γ 20 t)) (c := 0) (by decide) (by decide)))) rfl rfl ?_
        rw [show ((cT_decide γ t re (cH_has γ (γ 5 re) (γ 20 t)))).2 20 t = (γ 20 t) from (congrFun (kT_decide (γ := γ) t re (cH_has γ (γ 5 re) (γ 20 t)) (c := 20) (by decide) (by decide)) t).trans rfl]
        have g17 : 0 ≤ γ 20 t ∧ γ 20 t ≤ 3 := hc.1 20 t (by decide)
        refine ev_iload (q := 72) dH_receiveAsk_70 (by rfl) rfl ?_
        refine zr_if_eq (t := 79) (q := 75) dH_receiveAsk_72 rfl rfl ⟨by omega, by omega⟩ (fun h18 => ?_) (fun h18 => ?_)
        · refine ev_iconst (v := iI 0) (q := 80) dH_receiveAsk_79 rfl rfl ?_
          refine cv_V (As := [_, _, _, _, _]) (q := 83) dH_receiveAsk_80 kH_264 at_H rfl rfl (Nat.le_of_ble_eq_true rfl) rfl rfl rfl (by decide) (sH_send hc6 1 t re (γ 20 t) 0 ⟨by omega, by omega⟩ (ztx_fr hp0 (kT_decide (γ := γ) t re (cH_has γ (γ 5 re) (γ 20 t)) (c := 0) (by decide) (by decide))) ⟨by omega, by omega⟩ ⟨by omega, by omega⟩ ⟨by omega, by omega⟩ ) ?_
          have hc19 : zC g ((cH_send ((cT_decide γ t re (cH_has γ (γ 5 re) (γ 20 t)))).2 1 t re (γ 20 t) 0)).2 := wH_send hc6 1 t re (γ 20 t) 0 ⟨by omega, by omega⟩ (ztx_fr hp0 (kT_decide (γ := γ) t re (cH_has γ (γ 5 re) (γ 20 t)) (c := 0) (by decide) (by decide))) ⟨by omega, by omega⟩ ⟨by omega, by omega⟩ ⟨by omega, by omega⟩ 
          refine ev_pop (q := 84) dH_receiveAsk_83 rfl rfl ?_
          refine ev_iconst (v := iI 2) (q := 85) dH_receiveAsk_84 rfl rfl ?_
          exact zr_iret dH_receiveAsk_85 rfl ⟨by rw [cH_receiveAsk, if_pos h2, if_neg h9, if_pos h16, if_pos h18], by rw [cH_receiveAsk, if_pos h2, if_neg h9, if_pos h16, if_pos h18]⟩
        · refine ev_iconst (v := iI 1) (q := 76) dH_receiveAsk_75 rfl rfl ?_
          refine ev_goto (t := 80) (q := 80) dH_receiveAsk_76 rfl rfl ?_
          refine cv_V (As := [_, _, _, _, _]) (q := 83) dH_receiveAsk_80 kH_264 at_H rfl rfl (Nat.le_of_ble_eq_true rfl) rfl rfl rfl (by decide) (sH_send hc6 1 t re (γ 20 t) 1 ⟨by omega, by omega⟩ (ztx_fr hp0 (kT_decide (γ := γ) t re (cH_has γ (γ 5 re) (γ 20 t)) (c := 0) (by decide) (by decide))) ⟨by omega, by omega⟩ ⟨by omega, by omega⟩ ⟨by omega, by omega⟩ ) ?_
          have hc21 : zC g ((cH_send ((cT_decide γ t re (cH_has γ (γ 5 re) (γ 20 t)))).2 1 t re (γ 20 t) 1)).2 := wH_send hc6 1 t re (γ 20 t) 1 ⟨by omega, by omega⟩ (ztx_fr hp0 (kT_decide (γ := γ) t re (cH_has γ (γ 5 re) (γ 20 t)) (c := 0) (by decide) (by decide))) ⟨by omega, by omega⟩ ⟨by omega, by omega⟩ ⟨by omega, by omega⟩ 
          refine ev_pop (q := 84) dH_receiveAsk_83 rfl rfl ?_
          refine ev_iconst (v := iI 2) (q := 85) dH_receiveAsk_84 rfl rfl ?_
          exact zr_iret dH_receiveAsk_85 rfl ⟨by rw [cH_receiveAsk, if_pos h2, if_neg h9, if_pos h16, if_neg h18], by rw [cH_receiveAsk, if_pos h2, if_neg h9, if_pos h16, if_neg h18]⟩
      · refine ev_aload (q := 55) dH_receiveAsk_53 (by rfl) rfl ?_
        refine ev_aload_n 1 (q := 56) dH_receiveAsk_55 rfl (by rfl) rfl ?_
        refine ev_get (q := 59) (v := zi (((cT_decide γ t re (cH_has γ (γ 5 re) (γ 20 t)))).2 24 t)) dH_receiveAsk_56 fH_258 (at_T hc6.2.1 (ztx_fr hp0 (kT_decide (γ := γ) t re (cH_has γ (γ 5 re) (γ 20 t)) (c := 0) (by decide) (by decide)))) rfl rfl ?_
        rw [show ((cT_decide γ t re (cH_has γ (γ 5 re) (γ 20 t)))).2 24 t = (γ 24 t) from (congrFun (kT_decide (γ := γ) t re (cH_has γ (γ 5 re) (γ 20 t)) (c := 24) (by decide) (by decide)) t).trans rfl]
        have g23 : 0 ≤ γ 24 t ∧ γ 24 t ≤ 1048575 := hc.1 24 t (by decide)
        refine cv_Vv (As := [_]) (q := 62) dH_receiveAsk_59 kH_261 (at_N ⟨by omega, by omega⟩) rfl rfl (Nat.le_of_ble_eq_true rfl) rfl rfl rfl (by decide) (sN_fetch hc6 re (γ 24 t) ⟨by omega, by omega⟩ ⟨by omega, by omega⟩ ) ?_
        have hc24 : zC g ((cN_fetch ((cT_decide γ t re (cH_has γ (γ 5 re) (γ 20 t)))).2 re (γ 24 t))).2 := wN_fetch hc6 re (γ 24 t) ⟨by omega, by omega⟩ ⟨by omega, by omega⟩ 
        refine ev_aload_n 0 (q := 63) dH_receiveAsk_62 rfl (by rfl) rfl ?_
        refine ev_iconst (v := iI 1) (q := 64) dH_receiveAsk_63 rfl rfl ?_
        refine ev_aload_n 1 (q := 65) dH_receiveAsk_64 rfl (by rfl) rfl ?_
        refine ev_iload_n 2 (q := 66) dH_receiveAsk_65 rfl (by rfl) rfl ?_
        refine ev_aload_n 1 (q := 67) dH_receiveAsk_66 rfl (by rfl) rfl ?_
        refine ev_get (q := 70) (v := zi (((cN_fetch ((cT_decide γ t re (cH_has γ (γ 5 re) (γ 20 t)))).2 re (γ 24 t))).2 20 t)) dH_receiveAsk_67 fH_71 (at_T hc24.2.1 (ztx_fr (ztx_fr hp0 (kT_decide (γ := γ) t re (cH_has γ (γ 5 re) (γ 20 t)) (c := 0) (by decide) (by decide))) (kN_fetch (γ := ((cT_decide γ t re (cH_has γ (γ 5 re) (γ 20 t)))).2) re (γ 24 t) (c := 0) (by decide) (by decide)))) rfl rfl ?_
        have g25 : 0 ≤ ((cN_fetch ((cT_decide γ t re (cH_has γ (γ 5 re) (γ 20 t)))).2 re (γ 24 t))).2 20 t ∧ ((cN_fetch ((cT_decide γ t re (cH_has γ (γ 5 re) (γ 20 t)))).2 re (γ 24 t))).2 20 t ≤ 3 := hc24.1 20 t (by decide)
        refine ev_iload (q := 72) dH_receiveAsk_70 (by rfl) rfl ?_
        refine zr_if_eq (t := 79) (q := 75) dH_receiveAsk_72 rfl rfl ⟨by omega, by omega⟩ (fun h26 => ?_) (fun h26 => ?_)
        · refine ev_iconst (v := iI 0) (q := 80) dH_receiveAsk_79 rfl rfl ?_
          refine cv_V (As := [_, _, _, _, _]) (q := 83) dH_receiveAsk_80 kH_264 at_H rfl rfl (Nat.le_of_ble_eq_true rfl) rfl rfl rfl (by decide) (sH_send hc24 1 t re (((cN_fetch ((cT_decide γ t re (cH_has γ (γ 5 re) (γ 20 t)))).2 re (γ 24 t))).2 20 t) 0 ⟨by omega, by omega⟩ (ztx_fr (ztx_fr hp0 (kT_decide (γ := γ) t re (cH_has γ (γ 5 re) (γ 20 t)) (c := 0) (by decide) (by decide))) (kN_fetch (γ := ((cT_decide γ t re (cH_has γ (γ 5 re) (γ 20 t)))).2) re (γ 24 t) (c := 0) (by decide) (by decide))) ⟨by omega, by omega⟩ ⟨by omega, by omega⟩ ⟨by omega, by omega⟩ ) ?_
          have hc27 : zC g ((cH_send ((cN_fetch ((cT_decide γ t re (cH_has γ (γ 5 re) (γ 20 t)))).2 re (γ 24 t))).2 1 t re (((cN_fetch ((cT_decide γ t re (cH_has γ (γ 5 re) (γ 20 t)))).2 re (γ 24 t))).2 20 t) 0)).2 := wH_send hc24 1 t re (((cN_fetch ((cT_decide γ t re (cH_has γ (γ 5 re) (γ 20 t)))).2 re (γ 24 t))).2 20 t) 0 ⟨by omega, by omega⟩ (ztx_fr (ztx_fr hp0 (kT_decide (γ := γ) t re (cH_has γ (γ 5 re) (γ 20 t)) (c := 0) (by decide) (by decide))) (kN_fetch (γ := ((cT_decide γ t re (cH_has γ (γ 5 re) (γ 20 t)))).2) re (γ 24 t) (c := 0) (by decide) (by decide))) ⟨by omega, by omega⟩ ⟨by omega, by omega⟩ ⟨by omega, by omega⟩ 
          refine ev_pop (q := 84) dH_receiveAsk_83 rfl rfl ?_
          refine ev_iconst (v := iI 2) (q := 85) dH_receiveAsk_84 rfl rfl ?_
          exact zr_iret dH_receiveAsk_85 rfl ⟨by rw [cH_receiveAsk, if_pos h2, if_neg h9, if_neg (fun z => z h16), if_pos h26], by rw [cH_receiveAsk, if_pos h2, if_neg h9, if_neg (fun z => z h16), if_pos h26]⟩
        · refine ev_iconst (v := iI 1) (q := 76) dH_receiveAsk_75 rfl rfl ?_
          refine ev_goto (t := 80) (q := 80) dH_receiveAsk_76 rfl rfl ?_
          refine cv_V (As := [_, _, _, _, _]) (q := 83) dH_receiveAsk_80 kH_264 at_H rfl rfl (Nat.le_of_ble_eq_true rfl) rfl rfl rfl (by decide) (sH_send hc24 1 t re (((cN_fetch ((cT_decide γ t re (cH_has γ (γ 5 re) (γ 20 t)))).2 re (γ 24 t))).2 20 t) 1 ⟨by omega, by omega⟩ (ztx_fr (ztx_fr hp0 (kT_decide (γ := γ) t re (cH_has γ (γ 5 re) (γ 20 t)) (c := 0) (by decide) (by decide))) (kN_fetch (γ := ((cT_decide γ t re (cH_has γ (γ 5 re) (γ 20 t)))).2) re (γ 24 t) (c := 0) (by decide) (by decide))) ⟨by omega, by omega⟩ ⟨by omega, by omega⟩ ⟨by omega, by omega⟩ ) ?_
          have hc29 : zC g ((cH_send ((cN_fetch ((cT_decide γ t re (cH_has γ (γ 5 re) (γ 20 t)))).2 re (γ 24 t))).2 1 t re (((cN_fetch ((cT_decide γ t re (cH_has γ (γ 5 re) (γ 20 t)))).2 re (γ 24 t))).2 20 t) 1)).2 := wH_send hc24 1 t re (((cN_fetch ((cT_decide γ t re (cH_has γ (γ 5 re) (γ 20 t)))).2 re (γ 24 t))).2 20 t) 1 ⟨by omega, by omega⟩ (ztx_fr (ztx_fr hp0 (kT_decide (γ := γ) t re (cH_has γ (γ 5 re) (γ 20 t)) (c := 0) (by decide) (by decide))) (kN_fetch (γ := ((cT_decide γ t re (cH_has γ (γ 5 re) (γ 20 t)))).2) re (γ 24 t) (c := 0) (by decide) (by decide))) ⟨by omega, by omega⟩ ⟨by omega, by omega⟩ ⟨by omega, by omega⟩ 
          refine ev_pop (q := 84) dH_receiveAsk_83 rfl rfl ?_
          refine ev_iconst (v := iI 2) (q := 85) dH_receiveAsk_84 rfl rfl ?_
          exact zr_iret dH_receiveAsk_85 rfl ⟨by rw [cH_receiveAsk, if_pos h2, if_neg h9, if_neg (fun z => z h16), if_neg h26], by rw [cH_receiveAsk, if_pos h2, if_neg h9, if_neg (fun z => z h16), if_neg h26]⟩
  · refine ev_iconst (v := iI (-1)) (q := 8) dH_receiveAsk_7 rfl rfl ?_
    exact zr_iret dH_receiveAsk_8 rfl ⟨by rw [cH_receiveAsk, if_neg (fun z => z h2)], by rw [cH_receiveAsk, if_neg (fun z => z h2)]⟩
set_option maxRecDepth 100000 in
set_option maxHeartbeats 4000000 in
theorem wH_receiveAsk {g : z_Gl} {γ : z_Sg} (hc : zC g γ) (t re fa : Int) (hp0 : 0 ≤ t ∧ t < γ 0 0) (hp1 : z_rg re) (hp2 : 0 ≤ fa ∧ fa ≤ 1) : zC g (cH_receiveAsk γ t re fa).2 := by
  rw [cH_receiveAsk]
  have g1 : (cH_isNode γ re) = 0 ∨ (cH_isNode γ re) = 1 := bH_isNode _ _
  by_cases h2 : (cH_isNode γ re) ≠ 0
  · rw [if_pos h2]
    have f31 := tH_isNode hc h2
    have g3 : 0 ≤ γ 5 re ∧ γ 5 re ≤ 15 := hc.1 5 re (by decide)
    have g4 : 0 ≤ γ 20 t ∧ γ 20 t ≤ 3 := hc.1 20 t (by decide)
    have g5 : (cH_has γ (γ 5 re) (γ 20 t)) = 0 ∨ (cH_has γ (γ 5 re) (γ 20 t)) = 1 := bH_has _ _ _
    have hc6 : zC g ((cT_decide γ t re (cH_has γ (γ 5 re) (γ 20 t)))).2 := wT_decide hc t re (cH_has γ (γ 5 re) (γ 20 t)) hp0 ⟨by omega, by omega⟩ ⟨by omega, by omega⟩ 
    have g7 : 0 ≤ ((cT_decide γ t re (cH_has γ (γ 5 re) (γ 20 t)))).2 30 t ∧ ((cT_decide γ t re (cH_has γ (γ 5 re) (γ 20 t)))).2 30 t ≤ 15 := hc6.1 30 t (by decide)
    have g8 : (cH_has ((cT_decide γ t re (cH_has γ (γ 5 re) (γ 20 t)))).2 (((cT_decide γ t re (cH_has γ (γ 5 re) (γ 20 t)))).2 30 t) re) = 0 ∨ (cH_has ((cT_decide γ t re (cH_has γ (γ 5 re) (γ 20 t)))).2 (((cT_decide γ t re (cH_has γ (γ 5 re) (γ 20 t)))).2 30 t) re) = 1 := bH_has _ _ _
    by_cases h9 : (cH_has ((cT_decide γ t re (cH_has γ (γ 5 re) (γ 20 t)))).2 (((cT_decide γ t re (cH_has γ (γ 5 re) (γ 20 t)))).2 30 t) re) = 0
    · rw [if_pos h9]
      have g10 : 0 ≤ γ 20 t ∧ γ 20 t ≤ 3 := hc.1 20 t (by decide)
      by_cases h11 : (cH_has ((cT_decide γ t re (cH_has γ (γ 5 re) (γ 20 t)))).2 (((cT_decide γ t re (cH_has γ (γ 5 re) (γ 20 t)))).2 30 t) re) = 0
      · rw [if_pos h11]
        have hc12 : zC g ((cH_send ((cT_decide γ t re (cH_has γ (γ 5 re) (γ 20 t)))).2 1 t re (γ 20 t) 0)).2 := wH_send hc6 1 t re (γ 20 t) 0 ⟨by omega, by omega⟩ (ztx_fr hp0 (kT_decide (γ := γ) t re (cH_has γ (γ 5 re) (γ 20 t)) (c := 0) (by decide) (by decide))) ⟨by omega, by omega⟩ ⟨by omega, by omega⟩ ⟨by omega, by omega⟩ 
        exact hc12
      · rw [if_neg h11]
        have hc14 : zC g ((cH_send ((cT_decide γ t re (cH_has γ (γ 5 re) (γ 20 t)))).2 1 t re (γ 20 t) 1)).2 := wH_send hc6 1 t re (γ 20 t) 1 ⟨by omega, by omega⟩ (ztx_fr hp0 (kT_decide (γ := γ) t re (cH_has γ (γ 5 re) (γ 20 t)) (c := 0) (by decide) (by decide))) ⟨by omega, by omega⟩ ⟨by omega, by omega⟩ ⟨by omega, by omega⟩ 
        exact hc14
    · rw [if_neg h9]
      by_cases h16 : fa ≠ 0
      · rw [if_pos h16]
        have g17 : 0 ≤ γ 20 t ∧ γ 20 t ≤ 3 := hc.1 20 t (by decide)
        by_cases h18 : (cH_has ((cT_decide γ t re (cH_has γ (γ 5 re) (γ 20 t)))).2 (((cT_decide γ t re (cH_has γ (γ 5 re) (γ 20 t)))).2 30 t) re) = 0
        · rw [if_pos h18]
          have hc19 : zC g ((cH_send ((cT_decide γ t re (cH_has γ (γ 5 re) (γ 20 t)))).2 1 t re (γ 20 t) 0)).2 := wH_send hc6 1 t re (γ 20 t) 0 ⟨by omega, by omega⟩ (ztx_fr hp0 (kT_decide (γ := γ) t re (cH_has γ (γ 5 re) (γ 20 t)) (c := 0) (by decide) (by decide))) ⟨by omega, by omega⟩ ⟨by omega, by omega⟩ ⟨by omega, by omega⟩ 
          exact hc19
        · rw [if_neg h18]
          have hc21 : zC g ((cH_send ((cT_decide γ t re (cH_has γ (γ 5 re) (γ 20 t)))).2 1 t re (γ 20 t) 1)).2 := wH_send hc6 1 t re (γ 20 t) 1 ⟨by omega, by omega⟩ (ztx_fr hp0 (kT_decide (γ := γ) t re (cH_has γ (γ 5 re) (γ 20 t)) (c := 0) (by decide) (by decide))) ⟨by omega, by omega⟩ ⟨by omega, by omega⟩ ⟨by omega, by omega⟩ 
          exact hc21
      · rw [if_neg h16]
        have g23 : 0 ≤ γ 24 t ∧ γ 24 t ≤ 1048575 := hc.1 24 t (by decide)
        have hc24 : zC g ((cN_fetch ((cT_decide γ t re (cH_has γ (γ 5 re) (γ 20 t)))).2 re (γ 24 t))).2 := wN_fetch hc6 re (γ 24 t) ⟨by omega, by omega⟩ ⟨by omega, by omega⟩ 
        have g25 : 0 ≤ ((cN_fetch ((cT_decide γ t re (cH_has γ (γ 5 re) (γ 20 t)))).2 re (γ 24 t))).2 20 t ∧ ((cN_fetch ((cT_decide γ t re (cH_has γ (γ 5 re) (γ 20 t)))).2 re (γ 24 t))).2 20 t ≤ 3 := hc24.1 20 t (by decide)
        by_cases h26 : (cH_has ((cT_decide γ t re (cH_has γ (γ 5 re) (γ 20 t)))).2 (((cT_decide γ t re (cH_has γ (γ 5 re) (γ 20 t)))).2 30 t) re) = 0
        · rw [if_pos h26]
          have hc27 : zC g ((cH_send ((cN_fetch ((cT_decide γ t re (cH_has γ (γ 5 re) (γ 20 t)))).2 re (γ 24 t))).2 1 t re (((cN_fetch ((cT_decide γ t re (cH_has γ (γ 5 re) (γ 20 t)))).2 re (γ 24 t))).2 20 t) 0)).2 := wH_send hc24 1 t re (((cN_fetch ((cT_decide γ t re (cH_has γ (γ 5 re) (γ 20 t)))).2 re (γ 24 t))).2 20 t) 0 ⟨by omega, by omega⟩ (ztx_fr (ztx_fr hp0 (kT_decide (γ := γ) t re (cH_has γ (γ 5 re) (γ 20 t)) (c := 0) (by decide) (by decide))) (kN_fetch (γ := ((cT_decide γ t re (cH_has γ (γ 5 re) (γ 20 t)))).2) re (γ 24 t) (c := 0) (by decide) (by decide))) ⟨by omega, by omega⟩ ⟨by omega, by omega⟩ ⟨by omega, by omega⟩ 
          exact hc27
        · rw [if_neg h26]
          have hc29 : zC g ((cH_send ((cN_fetch ((cT_decide γ t re (cH_has γ (γ 5 re) (γ 20 t)))).2 re (γ 24 t))).2 1 t re (((cN_fetch ((cT_decide γ t re (cH_has γ (γ 5 re) (γ 20 t)))).2 re (γ 24 t))).2 20 t) 1)).2 := wH_send hc24 1 t re (((cN_fetch ((cT_decide γ t re (cH_has γ (γ 5 re) (γ 20 t)))).2 re (γ 24 t))).2 20 t) 1 ⟨by omega, by omega⟩ (ztx_fr (ztx_fr hp0 (kT_decide (γ := γ) t re (cH_has γ (γ 5 re) (γ 20 t)) (c := 0) (by decide) (by decide))) (kN_fetch (γ := ((cT_decide γ t re (cH_has γ (γ 5 re) (γ 20 t)))).2) re (γ 24 t) (c := 0) (by decide) (by decide))) ⟨by omega, by omega⟩ ⟨by omega, by omega⟩ ⟨by omega, by omega⟩ 
          exact hc29
  · rw [if_neg h2]
    exact hc

theorem kH_receiveAsk {γ : z_Sg} (t re fa : Int) {c : Nat} (h0 : c ≠ 29) (h1 : c ≠ 30) (h2 : c ≠ 4) (h3 : c ≠ 2) (h4 : c ≠ 7) (h5 : c ≠ 6) : (cH_receiveAsk γ t re fa).2 c = γ c := by
  unfold cH_receiveAsk
  repeat' split
  all_goals first | rfl | (simp only [z_up_n h0, z_up_n h1, z_up_n h2, z_up_n h3, z_up_n h4, z_up_n h5, kT_decide _ _ _ h0 h1, kN_fetch _ _ h2 h3, kH_send _ _ _ _ _ h4 h5])

def cH_receiveReply (γ : z_Sg) (t se co fa : Int) : Int × z_Sg := if (γ 25 t) ≠ 1 then (1, γ) else if (cH_has γ (γ 28 t) se) = 0 then if co ≠ 0 then if (zand (γ 26 t) (zxor (zor (γ 28 t) (cH_bit γ se)) (-1))) ≠ 0 then if fa ≠ 0 then (2, γ) else (2, (z_up (z_up γ 28 t (zor (γ 28 t) (cH_bit γ se))) 25 t 1)) else if fa ≠ 0 then (2, ((cH_sendNotarise γ t)).2) else (2, (z_up (z_up ((cH_sendNotarise γ t)).2 28 t (zor (γ 28 t) (cH_bit γ se))) 25 t 2)) else if fa ≠ 0 then (2, γ) else (2, (z_up γ 25 t 4)) else (1, γ)
set_option maxRecDepth 100000 in
set_option maxHeartbeats 4000000 in
theorem sH_receiveReply {g : z_Gl} {γ ρ : z_Sg} (hc : zC g γ) (t se co fa : Int) (hp0 : 0 ≤ t ∧ t < γ 0 0) (hp1 : 0 ≤ se ∧ se ≤ 3) (hp2 : z_rg co) (hp3 : 0 ≤ fa ∧ fa ≤ 1) : z_Sp mH_receiveReply (4, 89) 0 0 [.ref (0), .ref (g.1 t), zi se, zi co, zi fa] (zH g γ ρ) (fun r M' => r = some (zi (cH_receiveReply γ t se co fa).1) ∧ M' = zH g (cH_receiveReply γ t se co fa).2 ρ) := by
  refine z_Sp_of (L := [.ref (0), .ref (g.1 t), zi se, zi co, zi fa, .float 0, .float 0]) (by decide) rfl rfl rfl (Nat.le_of_ble_eq_true rfl) ?_
  have g0 : 0 ≤ γ 0 0 ∧ γ 0 0 ≤ 20 := hc.1 0 0 (by decide)
  refine ev_aload_n 1 (q := 1) dH_receiveReply_0 rfl (by rfl) rfl ?_
  refine ev_get (q := 4) (v := zi (γ 25 t)) dH_receiveReply_1 fH_68 (at_T hc.2.1 hp0) rfl rfl ?_
  have g1 : 0 ≤ γ 25 t ∧ γ 25 t ≤ 9 := hc.1 25 t (by decide)
  refine ev_iconst (v := iI 1) (q := 5) dH_receiveReply_4 rfl rfl ?_
  refine zr_icmp_ne (t := 19) (q := 8) dH_receiveReply_5 rfl rfl ⟨by omega, by omega⟩ ⟨by omega, by omega⟩ (fun h2 => ?_) (fun h2 => ?_)
  · refine ev_iconst (v := iI 1) (q := 20) dH_receiveReply_19 rfl rfl ?_
    exact zr_iret dH_receiveReply_20 rfl ⟨by rw [cH_receiveReply, if_pos h2], by rw [cH_receiveReply, if_pos h2]⟩
  · refine ev_aload_n 1 (q := 9) dH_receiveReply_8 rfl (by rfl) rfl ?_
    refine ev_get (q := 12) (v := zi (γ 28 t)) dH_receiveReply_9 fH_193 (at_T hc.2.1 hp0) rfl rfl ?_
    have g3 : 0 ≤ γ 28 t ∧ γ 28 t ≤ 15 := hc.1 28 t (by decide)
    refine ev_iload_n 2 (q := 13) dH_receiveReply_12 rfl (by rfl) rfl ?_
    refine cv_S (As := [_, _]) (q := 16) dH_receiveReply_13 kH_77 rfl (Nat.le_of_ble_eq_true rfl) rfl rfl rfl (by decide) (sH_has hc (γ 28 t) se ⟨by omega, by omega⟩ ⟨by omega, by omega⟩ ) ?_
    have g4 : (cH_has γ (γ 28 t) se) = 0 ∨ (cH_has γ (γ 28 t) se) = 1 := bH_has _ _ _
    refine zr_if_eq (t := 21) (q := 19) dH_receiveReply_16 rfl rfl ⟨by omega, by omega⟩ (fun h5 => ?_) (fun h5 => ?_)
    · refine ev_iload_n 3 (q := 22) dH_receiveReply_21 rfl (by rfl) rfl ?_
      refine zr_if_ne (t := 37) (q := 25) dH_receiveReply_22 rfl rfl ⟨by omega, by omega⟩ (fun h6 => ?_) (fun h6 => ?_)
      · refine ev_aload_n 1 (q := 38) dH_receiveReply_37 rfl (by rfl) rfl ?_
        refine ev_get (q := 41) (v := zi (γ 28 t)) dH_receiveReply_38 fH_193 (at_T hc.2.1 hp0) rfl rfl ?_
        have g7 : 0 ≤ γ 28 t ∧ γ 28 t ≤ 15 := hc.1 28 t (by decide)
        refine ev_iload_n 2 (q := 42) dH_receiveReply_41 rfl (by rfl) rfl ?_
        refine cv_S (As := [_]) (q := 45) dH_receiveReply_42 kH_186 rfl (Nat.le_of_ble_eq_true rfl) rfl rfl rfl (by decide) (sH_bit hc se ⟨by omega, by omega⟩ ) ?_
        have g8 := bH_bit γ (p := se) ⟨by omega, by omega⟩
        refine zr_ior (q := 46) dH_receiveReply_45 rfl ?_
        have g9 : z_rg (zor (γ 28 t) (cH_bit γ se)) := iI_rg _
        have g10 := zor_15 (a := (γ 28 t)) (b := (cH_bit γ se)) ⟨by omega, by omega⟩ ⟨by omega, by omega⟩
        refine ev_istore (q := 48) dH_receiveReply_46 (by decide) rfl rfl ?_
        dsimp only [List.set]
        refine ev_aload_n 1 (q := 49) dH_receiveReply_48 rfl (by rfl) rfl ?_
        refine ev_get (q := 52) (v := zi (γ 26 t)) dH_receiveReply_49 fH_156 (at_T hc.2.1 hp0) rfl rfl ?_
        have g11 : 0 ≤ γ 26 t ∧ γ 26 t ≤ 15 := hc.1 26 t (by decide)
        refine ev_iload (q := 54) dH_receiveReply_52 (by rfl) rfl ?_
        refine ev_iconst (v := iI (-1)) (q := 55) dH_receiveReply_54 rfl rfl ?_
        refine zr_ixor (q := 56) dH_receiveReply_55 rfl ?_
        have g12 : z_rg (zxor (zor (γ 28 t) (cH_bit γ se)) (-1)) := iI_rg _
        refine zr_iand (q := 57) dH_receiveReply_56 rfl ?_
        have g13 : z_rg (zand (γ 26 t) (zxor (zor (γ 28 t) (cH_bit γ se)) (-1))) := iI_rg _
        have g14 := zand_nn (a := (γ 26 t)) (b := (zxor (zor (γ 28 t) (cH_bit γ se)) (-1))) ⟨by omega, by omega⟩
        refine zr_if_ne (t := 64) (q := 60) dH_receiveReply_57 rfl rfl ⟨by omega, by omega⟩ (fun h15 => ?_) (fun h15 => ?_)
        · refine ev_iconst (v := iI 0) (q := 65) dH_receiveReply_64 rfl rfl ?_
          refine ev_istore (q := 67) dH_receiveReply_65 (by decide) rfl rfl ?_
          dsimp only [List.set]
          refine ev_iload (q := 69) dH_receiveReply_67 (by rfl) rfl ?_
          refine zr_if_eq (t := 78) (q := 72) dH_receiveReply_69 rfl rfl ⟨by omega, by omega⟩ (fun h16 => ?_) (fun h16 => ?_)
          · refine ev_iload (q := 80) dH_receiveReply_78 (by rfl) rfl ?_
            refine zr_if_ne (t := 103) (q := 83) dH_receiveReply_80 rfl rfl ⟨by omega, by omega⟩ (fun h17 => ?_) (fun h17 => ?_)
            · refine ev_iconst (v := iI 2) (q := 104) dH_receiveReply_103 rfl rfl ?_
              exact zr_iret dH_receiveReply_104 rfl ⟨by rw [cH_receiveReply, if_neg (fun z => z h2), if_pos h5, if_pos h6, if_pos h15, if_pos h17], by rw [cH_receiveReply, if_neg (fun z => z h2), if_pos h5, if_pos h6, if_pos h15, if_pos h17]⟩
            · refine ev_aload_n 1 (q := 84) dH_receiveReply_83 rfl (by rfl) rfl ?_
              refine ev_iload (q := 86) dH_receiveReply_84 (by rfl) rfl ?_
              refine zr_puti (q := 89) dH_receiveReply_86 gH_193 (at_T hc.2.1 hp0) (Nat.le_of_ble_eq_true rfl) rfl (ct_signed hc.2.1 hp0) rfl ?_
              have hc18 : zC g (z_up γ 28 t (zor (γ 28 t) (cH_bit γ se))) := zC_up hc (by decide) (by decide) (by decide) (show (0 : Int) ≤ (zor (γ 28 t) (cH_bit γ se)) by omega) (show (zor (γ 28 t) (cH_bit γ se)) ≤ (15 : Int) by omega)
              refine ev_aload_n 1 (q := 90) dH_receiveReply_89 rfl (by rfl) rfl ?_
              refine ev_iload (q := 92) dH_receiveReply_90 (by rfl) rfl ?_
              refine zr_if_eq (t := 99) (q := 95) dH_receiveReply_92 rfl rfl ⟨by omega, by omega⟩ (fun h19 => ?_) (fun h19 => ?_)
              · refine ev_iconst (v := iI 1) (q := 100) dH_receiveReply_99 rfl rfl ?_
                refine zr_puti (q := 103) dH_receiveReply_100 gH_68 (at_T hc18.2.1 hp0) (Nat.le_of_ble_eq_true rfl) rfl (ct_stage hc18.2.1 hp0) rfl ?_
                have hc20 : zC g (z_up (z_up γ 28 t (zor (γ 28 t) (cH_bit γ se))) 25 t 1) := zC_up hc18 (by decide) (by decide) (by decide) (show (0 : Int) ≤ 1 by omega) (show 1 ≤ (9 : Int) by omega)
                refine ev_iconst (v := iI 2) (q := 104) dH_receiveReply_103 rfl rfl ?_
                exact zr_iret dH_receiveReply_104 rfl ⟨by rw [cH_receiveReply, if_neg (fun z => z h2), if_pos h5, if_pos h6, if_pos h15, if_neg (fun z => z h17)], by rw [cH_receiveReply, if_neg (fun z => z h2), if_pos h5, if_pos h6, if_pos h15, if_neg (fun z => z h17)]⟩
              · exfalso
                omega
          · exfalso
            omega
        · refine ev_iconst (v := iI 1) (q := 61) dH_receiveReply_60 rfl rfl ?_
          refine ev_goto (t := 65) (q := 65) dH_receiveReply_61 rfl rfl ?_
          refine ev_istore (q := 67) dH_receiveReply_65 (by decide) rfl rfl ?_
          dsimp only [List.set]
          refine ev_iload (q := 69) dH_receiveReply_67 (by rfl) rfl ?_
          refine zr_if_eq (t := 78) (q := 72) dH_receiveReply_69 rfl rfl ⟨by omega, by omega⟩ (fun h21 => ?_) (fun h21 => ?_)
          · exfalso
            omega
          · refine ev_aload_n 0 (q := 73) dH_receiveReply_72 rfl (by rfl) rfl ?_
            refine ev_aload_n 1 (q := 74) dH_receiveReply_73 rfl (by rfl) rfl ?_
            refine cv_V (As := [_]) (q := 77) dH_receiveReply_74 kH_152 at_H rfl rfl (Nat.le_of_ble_eq_true rfl) rfl rfl rfl (by decide) (sH_sendNotarise hc t hp0 ) ?_
            have hc22 : zC g ((cH_sendNotarise γ t)).2 := wH_sendNotarise hc t hp0 
            refine ev_pop (q := 78) dH_receiveReply_77 rfl rfl ?_
            refine ev_iload (q := 80) dH_receiveReply_78 (by rfl) rfl ?_
            refine zr_if_ne (t := 103) (q := 83) dH_receiveReply_80 rfl rfl ⟨by omega, by omega⟩ (fun h24 => ?_) (fun h24 => ?_)
            · refine ev_iconst (v := iI 2) (q := 104) dH_receiveReply_103 rfl rfl ?_
              exact zr_iret dH_receiveReply_104 rfl ⟨by rw [cH_receiveReply, if_neg (fun z => z h2), if_pos h5, if_pos h6, if_neg (fun z => z h15), if_pos h24], by rw [cH_receiveReply, if_neg (fun z => z h2), if_pos h5, if_pos h6, if_neg (fun z => z h15), if_pos h24]⟩
            · refine ev_aload_n 1 (q := 84) dH_receiveReply_83 rfl (by rfl) rfl ?_
              refine ev_iload (q := 86) dH_receiveReply_84 (by rfl) rfl ?_
              refine zr_puti (q := 89) dH_receiveReply_86 gH_193 (at_T hc22.2.1 (ztx_fr hp0 (kH_sendNotarise (γ := γ) t (c := 0) (by decide) (by decide)))) (Nat.le_of_ble_eq_true rfl) rfl (ct_signed hc22.2.1 (ztx_fr hp0 (kH_sendNotarise (γ := γ) t (c := 0) (by decide) (by decide)))) rfl ?_
              have hc25 : zC g (z_up ((cH_sendNotarise γ t)).2 28 t (zor (γ 28 t) (cH_bit γ se))) := zC_up hc22 (by decide) (by decide) (by decide) (show (0 : Int) ≤ (zor (γ 28 t) (cH_bit γ se)) by omega) (show (zor (γ 28 t) (cH_bit γ se)) ≤ (15 : Int) by omega)
              refine ev_aload_n 1 (q := 90) dH_receiveReply_89 rfl (by rfl) rfl ?_
              refine ev_iload (q := 92) dH_receiveReply_90 (by rfl) rfl ?_
              refine zr_if_eq (t := 99) (q := 95) dH_receiveReply_92 rfl rfl ⟨by omega, by omega⟩ (fun h26 => ?_) (fun h26 => ?_)
              · exfalso
                omega
              · refine ev_iconst (v := iI 2) (q := 96) dH_receiveReply_95 rfl rfl ?_
                refine ev_goto (t := 100) (q := 100) dH_receiveReply_96 rfl rfl ?_
                refine zr_puti (q := 103) dH_receiveReply_100 gH_68 (at_T hc25.2.1 (ztx_fr hp0 (kH_sendNotarise (γ := γ) t (c := 0) (by decide) (by decide)))) (Nat.le_of_ble_eq_true rfl) rfl (ct_stage hc25.2.1 (ztx_fr hp0 (kH_sendNotarise (γ := γ) t (c := 0) (by decide) (by decide)))) rfl ?_
                have hc27 : zC g (z_up (z_up ((cH_sendNotarise γ t)).2 28 t (zor (γ 28 t) (cH_bit γ se))) 25 t 2) := zC_up hc25 (by decide) (by decide) (by decide) (show (0 : Int) ≤ 2 by omega) (show 2 ≤ (9 : Int) by omega)
                refine ev_iconst (v := iI 2) (q := 104) dH_receiveReply_103 rfl rfl ?_
                exact zr_iret dH_receiveReply_104 rfl ⟨by rw [cH_receiveReply, if_neg (fun z => z h2), if_pos h5, if_pos h6, if_neg (fun z => z h15), if_neg (fun z => z h24)], by rw [cH_receiveReply, if_neg (fun z => z h2), if_pos h5, if_pos h6, if_neg (fun z => z h15), if_neg (fun z => z h24)]⟩
      · refine ev_iload (q := 27) dH_receiveReply_25 (by rfl) rfl ?_
        refine zr_if_ne (t := 35) (q := 30) dH_receiveReply_27 rfl rfl ⟨by omega, by omega⟩ (fun h28 => ?_) (fun h28 => ?_)
        · refine ev_iconst (v := iI 2) (q := 36) dH_receiveReply_35 rfl rfl ?_
          exact zr_iret dH_receiveReply_36 rfl ⟨by rw [cH_receiveReply, if_neg (fun z => z h2), if_pos h5, if_neg (fun z => z h6), if_pos h28], by rw [cH_receiveReply, if_neg (fun z => z h2), if_pos h5, if_neg (fun z => z h6), if_pos h28]⟩
        · refine ev_aload_n 1 (q := 31) dH_receiveReply_30 rfl (by rfl) rfl ?_
          refine ev_iconst (v := iI 4) (q := 32) dH_receiveReply_31 rfl rfl ?_
          refine zr_puti (q := 35) dH_receiveReply_32 gH_68 (at_T hc.2.1 hp0) (Nat.le_of_ble_eq_true rfl) rfl (ct_stage hc.2.1 hp0) rfl ?_
          have hc29 : zC g (z_up γ 25 t 4) := zC_up hc (by decide) (by decide) (by decide) (show (0 : Int) ≤ 4 by omega) (show 4 ≤ (9 : Int) by omega)
          refine ev_iconst (v := iI 2) (q := 36) dH_receiveReply_35 rfl rfl ?_
          exact zr_iret dH_receiveReply_36 rfl ⟨by rw [cH_receiveReply, if_neg (fun z => z h2), if_pos h5, if_neg (fun z => z h6), if_neg (fun z => z h28)], by rw [cH_receiveReply, if_neg (fun z => z h2), if_pos h5, if_neg (fun z => z h6), if_neg (fun z => z h28)]⟩
    · refine ev_iconst (v := iI 1) (q := 20) dH_receiveReply_19 rfl rfl ?_
      exact zr_iret dH_receiveReply_20 rfl ⟨by rw [cH_receiveReply, if_neg (fun z => z h2), if_neg h5], by rw [cH_receiveReply, if_neg (fun z => z h2), if_neg h5]⟩
set_option maxRecDepth 100000 in
set_option maxHeartbeats 4000000 in
theorem wH_receiveReply {g : z_Gl} {γ : z_Sg} (hc : zC g γ) (t se co fa : Int) (hp0 : 0 ≤ t ∧ t < γ 0 0) (hp1 : 0 ≤ se ∧ se ≤ 3) (hp2 : z_rg co) (hp3 : 0 ≤ fa ∧ fa ≤ 1) : zC g (cH_receiveReply γ t se co fa).2 := by
  rw [cH_receiveReply]
  have g1 : 0 ≤ γ 25 t ∧ γ 25 t ≤ 9 := hc.1 25 t (by decide)
  by_cases h2 : (γ 25 t) ≠ 1
  · rw [if_pos h2]
    exact hc
  · rw [if_neg h2]
    have g3 : 0 ≤ γ 28 t ∧ γ 28 t ≤ 15 := hc.1 28 t (by decide)
    have g4 : (cH_has γ (γ 28 t) se) = 0 ∨ (cH_has γ (γ 28 t) se) = 1 := bH_has _ _ _
    by_cases h5 : (cH_has γ (γ 28 t) se) = 0
    · rw [if_pos h5]
      by_cases h6 : co ≠ 0
      · rw [if_pos h6]
        have g7 : 0 ≤ γ 28 t ∧ γ 28 t ≤ 15 := hc.1 28 t (by decide)
        have g8 := bH_bit γ (p := se) ⟨by omega, by omega⟩
        have g9 : z_rg (zor (γ 28 t) (cH_bit γ se)) := iI_rg _
        have g10 := zor_15 (a := (γ 28 t)) (b := (cH_bit γ se)) ⟨by omega, by omega⟩ ⟨by omega, by omega⟩
        have g11 : 0 ≤ γ 26 t ∧ γ 26 t ≤ 15 := hc.1 26 t (by decide)
        have g12 : z_rg (zxor (zor (γ 28 t) (cH_bit γ se)) (-1)) := iI_rg _
        have g13 : z_rg (zand (γ 26 t) (zxor (zor (γ 28 t) (cH_bit γ se)) (-1))) := iI_rg _
        have g14 := zand_nn (a := (γ 26 t)) (b := (zxor (zor (γ 28 t) (cH_bit γ se)) (-1))) ⟨by omega, by omega⟩
        by_cases h15 : (zand (γ 26 t) (zxor (zor (γ 28 t) (cH_bit γ se)) (-1))) ≠ 0
        · rw [if_pos h15]
          by_cases h17 : fa ≠ 0
          · rw [if_pos h17]
            exact hc
          · rw [if_neg h17]
            have hc18 : zC g (z_up γ 28 t (zor (γ 28 t) (cH_bit γ se))) := zC_up hc (by decide) (by decide) (by decide) (show (0 : Int) ≤ (zor (γ 28 t) (cH_bit γ se)) by omega) (show (zor (γ 28 t) (cH_bit γ se)) ≤ (15 : Int) by omega)
            have hc20 : zC g (z_up (z_up γ 28 t (zor (γ 28 t) (cH_bit γ se))) 25 t 1) := zC_up hc18 (by decide) (by decide) (by decide) (show (0 : Int) ≤ 1 by omega) (show 1 ≤ (9 : Int) by omega)
            exact hc20
        · rw [if_neg h15]
          have hc22 : zC g ((cH_sendNotarise γ t)).2 := wH_sendNotarise hc t hp0 
          by_cases h24 : fa ≠ 0
          · rw [if_pos h24]
            exact hc22
          · rw [if_neg h24]
            have hc25 : zC g (z_up ((cH_sendNotarise γ t)).2 28 t (zor (γ 28 t) (cH_bit γ se))) := zC_up hc22 (by decide) (by decide) (by decide) (show (0 : Int) ≤ (zor (γ 28 t) (cH_bit γ se)) by omega) (show (zor (γ 28 t) (cH_bit γ se)) ≤ (15 : Int) by omega)
            have hc27 : zC g (z_up (z_up ((cH_sendNotarise γ t)).2 28 t (zor (γ 28 t) (cH_bit γ se))) 25 t 2) := zC_up hc25 (by decide) (by decide) (by decide) (show (0 : Int) ≤ 2 by omega) (show 2 ≤ (9 : Int) by omega)
            exact hc27
      · rw [if_neg h6]
        by_cases h28 : fa ≠ 0
        · rw [if_pos h28]
          exact hc
        · rw [if_neg h28]
          have hc29 : zC g (z_up γ 25 t 4) := zC_up hc (by decide) (by decide) (by decide) (show (0 : Int) ≤ 4 by omega) (show 4 ≤ (9 : Int) by omega)
          exact hc29
    · rw [if_neg h5]
      exact hc

theorem kH_receiveReply {γ : z_Sg} (t se co fa : Int) {c : Nat} (h0 : c ≠ 25) (h1 : c ≠ 28) (h2 : c ≠ 7) (h3 : c ≠ 6) : (cH_receiveReply γ t se co fa).2 c = γ c := by
  unfold cH_receiveReply
  repeat' split
  all_goals first | rfl | (simp only [z_up_n h0, z_up_n h1, z_up_n h2, z_up_n h3, kH_sendNotarise _ h2 h3])

def cH_receiveNotarise (γ : z_Sg) (t : Int) : Int × z_Sg := if (γ 31 t) ≠ 0 then (2, ((cH_send γ 3 t (γ 21 t) (γ 20 t) (γ 31 t))).2) else if (cH_judge γ t) ≠ 1 then (2, ((cH_send (z_up γ 31 t (cH_judge γ t)) 3 t (γ 21 t) (γ 20 t) (cH_judge γ t))).2) else (2, ((cH_send ((cH_useUpInputs (z_up γ 31 t (cH_judge γ t)) t)).2 3 t (γ 21 t) (γ 20 t) (cH_judge γ t))).2)
set_option maxRecDepth 100000 in
set_option maxHeartbeats 4000000 in
theorem sH_receiveNotarise {g : z_Gl} {γ ρ : z_Sg} (hc : zC g γ) (t : Int) (hp0 : 0 ≤ t ∧ t < γ 0 0) : z_Sp mH_receiveNotarise (3, 68) 0 0 [.ref (0), .ref (g.1 t)] (zH g γ ρ) (fun r M' => r = some (zi (cH_receiveNotarise γ t).1) ∧ M' = zH g (cH_receiveNotarise γ t).2 ρ) := by
  refine z_Sp_of (L := [.ref (0), .ref (g.1 t)]) (by decide) rfl rfl rfl (Nat.le_of_ble_eq_true rfl) ?_
  have g0 : 0 ≤ γ 0 0 ∧ γ 0 0 ≤ 20 := hc.1 0 0 (by decide)
  refine ev_aload_n 1 (q := 1) dH_receiveNotarise_0 rfl (by rfl) rfl ?_
  refine ev_get (q := 4) (v := zi (γ 31 t)) dH_receiveNotarise_1 fH_196 (at_T hc.2.1 hp0) rfl rfl ?_
  have g1 : 0 ≤ γ 31 t ∧ γ 31 t ≤ 4 := hc.1 31 t (by decide)
  refine zr_if_ne (t := 29) (q := 7) dH_receiveNotarise_4 rfl rfl ⟨by omega, by omega⟩ (fun h2 => ?_) (fun h2 => ?_)
  · refine ev_aload_n 0 (q := 30) dH_receiveNotarise_29 rfl (by rfl) rfl ?_
    refine ev_iconst (v := iI 3) (q := 31) dH_receiveNotarise_30 rfl rfl ?_
    refine ev_aload_n 1 (q := 32) dH_receiveNotarise_31 rfl (by rfl) rfl ?_
    refine ev_aload_n 1 (q := 33) dH_receiveNotarise_32 rfl (by rfl) rfl ?_
    refine ev_get (q := 36) (v := zi (γ 21 t)) dH_receiveNotarise_33 fH_81 (at_T hc.2.1 hp0) rfl rfl ?_
    have g3 : 0 ≤ γ 21 t ∧ γ 21 t ≤ 5 := hc.1 21 t (by decide)
    refine ev_aload_n 1 (q := 37) dH_receiveNotarise_36 rfl (by rfl) rfl ?_
    refine ev_get (q := 40) (v := zi (γ 20 t)) dH_receiveNotarise_37 fH_71 (at_T hc.2.1 hp0) rfl rfl ?_
    have g4 : 0 ≤ γ 20 t ∧ γ 20 t ≤ 3 := hc.1 20 t (by decide)
    refine ev_aload_n 1 (q := 41) dH_receiveNotarise_40 rfl (by rfl) rfl ?_
    refine ev_get (q := 44) (v := zi (γ 31 t)) dH_receiveNotarise_41 fH_196 (at_T hc.2.1 hp0) rfl rfl ?_
    have g5 : 0 ≤ γ 31 t ∧ γ 31 t ≤ 4 := hc.1 31 t (by decide)
    refine cv_V (As := [_, _, _, _, _]) (q := 47) dH_receiveNotarise_44 kH_264 at_H rfl rfl (Nat.le_of_ble_eq_true rfl) rfl rfl rfl (by decide) (sH_send hc 3 t (γ 21 t) (γ 20 t) (γ 31 t) ⟨by omega, by omega⟩ hp0 ⟨by omega, by omega⟩ ⟨by omega, by omega⟩ ⟨by omega, by omega⟩ ) ?_
    have hc6 : zC g ((cH_send γ 3 t (γ 21 t) (γ 20 t) (γ 31 t))).2 := wH_send hc 3 t (γ 21 t) (γ 20 t) (γ 31 t) ⟨by omega, by omega⟩ hp0 ⟨by omega, by omega⟩ ⟨by omega, by omega⟩ ⟨by omega, by omega⟩ 
    refine ev_pop (q := 48) dH_receiveNotarise_47 rfl rfl ?_
    refine ev_iconst (v := iI 2) (q := 49) dH_receiveNotarise_48 rfl rfl ?_
    exact zr_iret dH_receiveNotarise_49 rfl ⟨by rw [cH_receiveNotarise, if_pos h2], by rw [cH_receiveNotarise, if_pos h2]⟩
  · refine ev_aload_n 1 (q := 8) dH_receiveNotarise_7 rfl (by rfl) rfl ?_
    refine ev_aload_n 0 (q := 9) dH_receiveNotarise_8 rfl (by rfl) rfl ?_
    refine ev_aload_n 1 (q := 10) dH_receiveNotarise_9 rfl (by rfl) rfl ?_
    refine cv_V (As := [_]) (q := 13) dH_receiveNotarise_10 kH_268 at_H rfl rfl (Nat.le_of_ble_eq_true rfl) rfl rfl rfl (by decide) (sH_judge hc t hp0 ) ?_
    have g8 := bH_judge hc t hp0 
    refine zr_puti (q := 16) dH_receiveNotarise_13 gH_196 (at_T hc.2.1 hp0) (Nat.le_of_ble_eq_true rfl) rfl (ct_verdict hc.2.1 hp0) rfl ?_
    have hc9 : zC g (z_up γ 31 t (cH_judge γ t)) := zC_up hc (by decide) (by decide) (by decide) (show (0 : Int) ≤ (cH_judge γ t) by omega) (show (cH_judge γ t) ≤ (4 : Int) by omega)
    refine ev_aload_n 1 (q := 17) dH_receiveNotarise_16 rfl (by rfl) rfl ?_
    refine ev_get (q := 20) (v := zi ((z_up γ 31 t (cH_judge γ t)) 31 t)) dH_receiveNotarise_17 fH_196 (at_T hc9.2.1 hp0) rfl rfl ?_
    rw [show (z_up γ 31 t (cH_judge γ t)) 31 t = (cH_judge γ t) from by rw [z_up_s, zup_s]]
    refine ev_iconst (v := iI 1) (q := 21) dH_receiveNotarise_20 rfl rfl ?_
    refine zr_icmp_ne (t := 29) (q := 24) dH_receiveNotarise_21 rfl rfl ⟨by omega, by omega⟩ ⟨by omega, by omega⟩ (fun h10 => ?_) (fun h10 => ?_)
    · refine ev_aload_n 0 (q := 30) dH_receiveNotarise_29 rfl (by rfl) rfl ?_
      refine ev_iconst (v := iI 3) (q := 31) dH_receiveNotarise_30 rfl rfl ?_
      refine ev_aload_n 1 (q := 32) dH_receiveNotarise_31 rfl (by rfl) rfl ?_
      refine ev_aload_n 1 (q := 33) dH_receiveNotarise_32 rfl (by rfl) rfl ?_
      refine ev_get (q := 36) (v := zi (γ 21 t)) dH_receiveNotarise_33 fH_81 (at_T hc9.2.1 hp0) rfl rfl ?_
      have g11 : 0 ≤ γ 21 t ∧ γ 21 t ≤ 5 := hc.1 21 t (by decide)
      refine ev_aload_n 1 (q := 37) dH_receiveNotarise_36 rfl (by rfl) rfl ?_
      refine ev_get (q := 40) (v := zi (γ 20 t)) dH_receiveNotarise_37 fH_71 (at_T hc9.2.1 hp0) rfl rfl ?_
      have g12 : 0 ≤ γ 20 t ∧ γ 20 t ≤ 3 := hc.1 20 t (by decide)
      refine ev_aload_n 1 (q := 41) dH_receiveNotarise_40 rfl (by rfl) rfl ?_
      refine ev_get (q := 44) (v := zi ((z_up γ 31 t (cH_judge γ t)) 31 t)) dH_receiveNotarise_41 fH_196 (at_T hc9.2.1 hp0) rfl rfl ?_
      rw [show (z_up γ 31 t (cH_judge γ t)) 31 t = (cH_judge γ t) from by rw [z_up_s, zup_s]]
      refine cv_V (As := [_, _, _, _, _]) (q := 47) dH_receiveNotarise_44 kH_264 at_H rfl rfl (Nat.le_of_ble_eq_true rfl) rfl rfl rfl (by decide) (sH_send hc9 3 t (γ 21 t) (γ 20 t) (cH_judge γ t) ⟨by omega, by omega⟩ hp0 ⟨by omega, by omega⟩ ⟨by omega, by omega⟩ ⟨by omega, by omega⟩ ) ?_
      have hc13 : zC g ((cH_send (z_up γ 31 t (cH_judge γ t)) 3 t (γ 21 t) (γ 20 t) (cH_judge γ t))).2 := wH_send hc9 3 t (γ 21 t) (γ 20 t) (cH_judge γ t) ⟨by omega, by omega⟩ hp0 ⟨by omega, by omega⟩ ⟨by omega, by omega⟩ ⟨by omega, by omega⟩ 
      refine ev_pop (q := 48) dH_receiveNotarise_47 rfl rfl ?_
      refine ev_iconst (v := iI 2) (q := 49) dH_receiveNotarise_48 rfl rfl ?_
      exact zr_iret dH_receiveNotarise_49 rfl ⟨by rw [cH_receiveNotarise, if_neg (fun z => z h2), if_pos h10], by rw [cH_receiveNotarise, if_neg (fun z => z h2), if_pos h10]⟩
    · refine ev_aload_n 0 (q := 25) dH_receiveNotarise_24 rfl (by rfl) rfl ?_
      refine ev_aload_n 1 (q := 26) dH_receiveNotarise_25 rfl (by rfl) rfl ?_
      refine cv_Vv (As := [_]) (q := 29) dH_receiveNotarise_26 kH_271 at_H rfl rfl (Nat.le_of_ble_eq_true rfl) rfl rfl rfl (by decide) (sH_useUpInputs hc9 t hp0 ) ?_
      have hc15 : zC g ((cH_useUpInputs (z_up γ 31 t (cH_judge γ t)) t)).2 := wH_useUpInputs hc9 t hp0 
      refine ev_aload_n 0 (q := 30) dH_receiveNotarise_29 rfl (by rfl) rfl ?_
      refine ev_iconst (v := iI 3) (q := 31) dH_receiveNotarise_30 rfl rfl ?_
      refine ev_aload_n 1 (q := 32) dH_receiveNotarise_31 rfl (by rfl) rfl ?_
      refine ev_aload_n 1 (q := 33) dH_receiveNotarise_32 rfl (by rfl) rfl ?_
      refine ev_get (q := 36) (v := zi (((cH_useUpInputs (z_up γ 31 t (cH_judge γ t)) t)).2 21 t)) dH_receiveNotarise_33 fH_81 (at_T hc15.2.1 (ztx_fr hp0 (kH_useUpInputs (γ := (z_up γ 31 t (cH_judge γ t))) t (c := 0) (by decide)))) rfl rfl ?_
      rw [show ((cH_useUpInputs (z_up γ 31 t (cH_judge γ t)) t)).2 21 t = (γ 21 t) from (congrFun (kH_useUpInputs (γ := (z_up γ 31 t (cH_judge γ t))) t (c := 21) (by decide)) t).trans rfl]
      have g16 : 0 ≤ γ 21 t ∧ γ 21 t ≤ 5 := hc.1 21 t (by decide)
      refine ev_aload_n 1 (q := 37) dH_receiveNotarise_36 rfl (by rfl) rfl ?_
      refine ev_get (q := 40) (v := zi (((cH_useUpInputs (z_up γ 31 t (cH_judge γ t)) t)).2 20 t)) dH_receiveNotarise_37 fH_71 (at_T hc15.2.1 (ztx_fr hp0 (kH_useUpInputs (γ := (z_up γ 31 t (cH_judge γ t))) t (c := 0) (by decide)))) rfl rfl ?_
      rw [show ((cH_useUpInputs (z_up γ 31 t (cH_judge γ t)) t)).2 20 t = (γ 20 t) from (congrFun (kH_useUpInputs (γ := (z_up γ 31 t (cH_judge γ t))) t (c := 20) (by decide)) t).trans rfl]
      have g17 : 0 ≤ γ 20 t ∧ γ 20 t ≤ 3 := hc.1 20 t (by decide)
      refine ev_aload_n 1 (q := 41) dH_receiveNotarise_40 rfl (by rfl) rfl ?_
      refine ev_get (q := 44) (v := zi (((cH_useUpInputs (z_up γ 31 t (cH_judge γ t)) t)).2 31 t)) dH_receiveNotarise_41 fH_196 (at_T hc15.2.1 (ztx_fr hp0 (kH_useUpInputs (γ := (z_up γ 31 t (cH_judge γ t))) t (c := 0) (by decide)))) rfl rfl ?_
      rw [show ((cH_useUpInputs (z_up γ 31 t (cH_judge γ t)) t)).2 31 t = (cH_judge γ t) from (congrFun (kH_useUpInputs (γ := (z_up γ 31 t (cH_judge γ t))) t (c := 31) (by decide)) t).trans (by rw [z_up_s, zup_s])]
      refine cv_V (As := [_, _, _, _, _]) (q := 47) dH_receiveNotarise_44 kH_264 at_H rfl rfl (Nat.le_of_ble_eq_true rfl) rfl rfl rfl (by decide) (sH_send hc15 3 t (γ 21 t) (γ 20 t) (cH_judge γ t) ⟨by omega, by omega⟩ (ztx_fr hp0 (kH_useUpInputs (γ := (z_up γ 31 t (cH_judge γ t))) t (c := 0) (by decide))) ⟨by omega, by omega⟩ ⟨by omega, by omega⟩ ⟨by omega, by omega⟩ ) ?_
      have hc18 : zC g ((cH_send ((cH_useUpInputs (z_up γ 31 t (cH_judge γ t)) t)).2 3 t (γ 21 t) (γ 20 t) (cH_judge γ t))).2 := wH_send hc15 3 t (γ 21 t) (γ 20 t) (cH_judge γ t) ⟨by omega, by omega⟩ (ztx_fr hp0 (kH_useUpInputs (γ := (z_up γ 31 t (cH_judge γ t))) t (c := 0) (by decide))) ⟨by omega, by omega⟩ ⟨by omega, by omega⟩ ⟨by omega, by omega⟩ 
      refine ev_pop (q := 48) dH_receiveNotarise_47 rfl rfl ?_
      refine ev_iconst (v := iI 2) (q := 49) dH_receiveNotarise_48 rfl rfl ?_
      exact zr_iret dH_receiveNotarise_49 rfl ⟨by rw [cH_receiveNotarise, if_neg (fun z => z h2), if_neg (fun z => z h10)], by rw [cH_receiveNotarise, if_neg (fun z => z h2), if_neg (fun z => z h10)]⟩
set_option maxRecDepth 100000 in
set_option maxHeartbeats 4000000 in
theorem wH_receiveNotarise {g : z_Gl} {γ : z_Sg} (hc : zC g γ) (t : Int) (hp0 : 0 ≤ t ∧ t < γ 0 0) : zC g (cH_receiveNotarise γ t).2 := by
  rw [cH_receiveNotarise]
  have g1 : 0 ≤ γ 31 t ∧ γ 31 t ≤ 4 := hc.1 31 t (by decide)
  by_cases h2 : (γ 31 t) ≠ 0
  · rw [if_pos h2]
    have g3 : 0 ≤ γ 21 t ∧ γ 21 t ≤ 5 := hc.1 21 t (by decide)
    have g4 : 0 ≤ γ 20 t ∧ γ 20 t ≤ 3 := hc.1 20 t (by decide)
    have g5 : 0 ≤ γ 31 t ∧ γ 31 t ≤ 4 := hc.1 31 t (by decide)
    have hc6 : zC g ((cH_send γ 3 t (γ 21 t) (γ 20 t) (γ 31 t))).2 := wH_send hc 3 t (γ 21 t) (γ 20 t) (γ 31 t) ⟨by omega, by omega⟩ hp0 ⟨by omega, by omega⟩ ⟨by omega, by omega⟩ ⟨by omega, by omega⟩ 
    exact hc6
  · rw [if_neg h2]
    have g8 := bH_judge hc t hp0 
    have hc9 : zC g (z_up γ 31 t (cH_judge γ t)) := zC_up hc (by decide) (by decide) (by decide) (show (0 : Int) ≤ (cH_judge γ t) by omega) (show (cH_judge γ t) ≤ (4 : Int) by omega)
    by_cases h10 : (cH_judge γ t) ≠ 1
    · rw [if_pos h10]
      have g11 : 0 ≤ γ 21 t ∧ γ 21 t ≤ 5 := hc.1 21 t (by decide)
      have g12 : 0 ≤ γ 20 t ∧ γ 20 t ≤ 3 := hc.1 20 t (by decide)
      have hc13 : zC g ((cH_send (z_up γ 31 t (cH_judge γ t)) 3 t (γ 21 t) (γ 20 t) (cH_judge γ t))).2 := wH_send hc9 3 t (γ 21 t) (γ 20 t) (cH_judge γ t) ⟨by omega, by omega⟩ hp0 ⟨by omega, by omega⟩ ⟨by omega, by omega⟩ ⟨by omega, by omega⟩ 
      exact hc13
    · rw [if_neg h10]
      have hc15 : zC g ((cH_useUpInputs (z_up γ 31 t (cH_judge γ t)) t)).2 := wH_useUpInputs hc9 t hp0 
      have g16 : 0 ≤ γ 21 t ∧ γ 21 t ≤ 5 := hc.1 21 t (by decide)
      have g17 : 0 ≤ γ 20 t ∧ γ 20 t ≤ 3 := hc.1 20 t (by decide)
      have hc18 : zC g ((cH_send ((cH_useUpInputs (z_up γ 31 t (cH_judge γ t)) t)).2 3 t (γ 21 t) (γ 20 t) (cH_judge γ t))).2 := wH_send hc15 3 t (γ 21 t) (γ 20 t) (cH_judge γ t) ⟨by omega, by omega⟩ (ztx_fr hp0 (kH_useUpInputs (γ := (z_up γ 31 t (cH_judge γ t))) t (c := 0) (by decide))) ⟨by omega, by omega⟩ ⟨by omega, by omega⟩ ⟨by omega, by omega⟩ 
      exact hc18

theorem kH_receiveNotarise {γ : z_Sg} (t : Int) {c : Nat} (h0 : c ≠ 31) (h1 : c ≠ 8) (h2 : c ≠ 7) (h3 : c ≠ 6) : (cH_receiveNotarise γ t).2 c = γ c := by
  unfold cH_receiveNotarise
  repeat' split
  all_goals first | rfl | (simp only [z_up_n h0, z_up_n h1, z_up_n h2, z_up_n h3, kH_useUpInputs _ h1, kH_send _ _ _ _ _ h2 h3])

def cH_receiveVerdict (γ : z_Sg) (t co fa : Int) : Int × z_Sg := if (γ 25 t) ≠ 1 then if (γ 25 t) = 2 then if co ≠ 1 then if fa ≠ 0 then (2, γ) else (2, ((cH_settle γ t co)).2) else if fa ≠ 0 then (2, ((cH_sendToOthers γ 4 t (zor (γ 26 t) (cT_concerned γ t)))).2) else (2, ((cH_settle ((cH_sendToOthers γ 4 t (zor (γ 26 t) (cT_concerned γ t)))).2 t co)).2) else (1, γ) else (0, γ)
set_option maxRecDepth 100000 in
set_option maxHeartbeats 4000000 in
theorem sH_receiveVerdict {g : z_Gl} {γ ρ : z_Sg} (hc : zC g γ) (t co fa : Int) (hp0 : 0 ≤ t ∧ t < γ 0 0) (hp1 : z_rg co) (hp2 : 0 ≤ fa ∧ fa ≤ 1) : z_Sp mH_receiveVerdict (4, 93) 0 0 [.ref (0), .ref (g.1 t), zi co, zi fa] (zH g γ ρ) (fun r M' => r = some (zi (cH_receiveVerdict γ t co fa).1) ∧ M' = zH g (cH_receiveVerdict γ t co fa).2 ρ) := by
  refine z_Sp_of (L := [.ref (0), .ref (g.1 t), zi co, zi fa]) (by decide) rfl rfl rfl (Nat.le_of_ble_eq_true rfl) ?_
  have g0 : 0 ≤ γ 0 0 ∧ γ 0 0 ≤ 20 := hc.1 0 0 (by decide)
  refine ev_aload_n 1 (q := 1) dH_receiveVerdict_0 rfl (by rfl) rfl ?_
  refine ev_get (q := 4) (v := zi (γ 25 t)) dH_receiveVerdict_1 fH_68 (at_T hc.2.1 hp0) rfl rfl ?_
  have g1 : 0 ≤ γ 25 t ∧ γ 25 t ≤ 9 := hc.1 25 t (by decide)
  refine ev_iconst (v := iI 1) (q := 5) dH_receiveVerdict_4 rfl rfl ?_
  refine zr_icmp_ne (t := 10) (q := 8) dH_receiveVerdict_5 rfl rfl ⟨by omega, by omega⟩ ⟨by omega, by omega⟩ (fun h2 => ?_) (fun h2 => ?_)
  · refine ev_aload_n 1 (q := 11) dH_receiveVerdict_10 rfl (by rfl) rfl ?_
    refine ev_get (q := 14) (v := zi (γ 25 t)) dH_receiveVerdict_11 fH_68 (at_T hc.2.1 hp0) rfl rfl ?_
    have g3 : 0 ≤ γ 25 t ∧ γ 25 t ≤ 9 := hc.1 25 t (by decide)
    refine ev_iconst (v := iI 2) (q := 15) dH_receiveVerdict_14 rfl rfl ?_
    refine zr_icmp_eq (t := 20) (q := 18) dH_receiveVerdict_15 rfl rfl ⟨by omega, by omega⟩ ⟨by omega, by omega⟩ (fun h4 => ?_) (fun h4 => ?_)
    · refine ev_iload_n 2 (q := 21) dH_receiveVerdict_20 rfl (by rfl) rfl ?_
      refine ev_iconst (v := iI 1) (q := 22) dH_receiveVerdict_21 rfl rfl ?_
      refine zr_icmp_ne (t := 41) (q := 25) dH_receiveVerdict_22 rfl rfl ⟨by omega, by omega⟩ ⟨by omega, by omega⟩ (fun h5 => ?_) (fun h5 => ?_)
      · refine ev_iload_n 3 (q := 42) dH_receiveVerdict_41 rfl (by rfl) rfl ?_
        refine zr_if_ne (t := 51) (q := 45) dH_receiveVerdict_42 rfl rfl ⟨by omega, by omega⟩ (fun h6 => ?_) (fun h6 => ?_)
        · refine ev_iconst (v := iI 2) (q := 52) dH_receiveVerdict_51 rfl rfl ?_
          exact zr_iret dH_receiveVerdict_52 rfl ⟨by rw [cH_receiveVerdict, if_pos h2, if_pos h4, if_pos h5, if_pos h6], by rw [cH_receiveVerdict, if_pos h2, if_pos h4, if_pos h5, if_pos h6]⟩
        · refine ev_aload_n 0 (q := 46) dH_receiveVerdict_45 rfl (by rfl) rfl ?_
          refine ev_aload_n 1 (q := 47) dH_receiveVerdict_46 rfl (by rfl) rfl ?_
          refine ev_iload_n 2 (q := 48) dH_receiveVerdict_47 rfl (by rfl) rfl ?_
          refine cv_Vv (As := [_, _]) (q := 51) dH_receiveVerdict_48 kH_278 at_H rfl rfl (Nat.le_of_ble_eq_true rfl) rfl rfl rfl (by decide) (sH_settle hc t co hp0 ⟨by omega, by omega⟩ ) ?_
          have hc7 : zC g ((cH_settle γ t co)).2 := wH_settle hc t co hp0 ⟨by omega, by omega⟩ 
          refine ev_iconst (v := iI 2) (q := 52) dH_receiveVerdict_51 rfl rfl ?_
          exact zr_iret dH_receiveVerdict_52 rfl ⟨by rw [cH_receiveVerdict, if_pos h2, if_pos h4, if_pos h5, if_neg (fun z => z h6)], by rw [cH_receiveVerdict, if_pos h2, if_pos h4, if_pos h5, if_neg (fun z => z h6)]⟩
      · refine ev_aload_n 0 (q := 26) dH_receiveVerdict_25 rfl (by rfl) rfl ?_
        refine ev_iconst (v := iI 4) (q := 27) dH_receiveVerdict_26 rfl rfl ?_
        refine ev_aload_n 1 (q := 28) dH_receiveVerdict_27 rfl (by rfl) rfl ?_
        refine ev_aload_n 1 (q := 29) dH_receiveVerdict_28 rfl (by rfl) rfl ?_
        refine ev_get (q := 32) (v := zi (γ 26 t)) dH_receiveVerdict_29 fH_156 (at_T hc.2.1 hp0) rfl rfl ?_
        have g8 : 0 ≤ γ 26 t ∧ γ 26 t ≤ 15 := hc.1 26 t (by decide)
        refine ev_aload_n 1 (q := 33) dH_receiveVerdict_32 rfl (by rfl) rfl ?_
        refine cv_V (As := []) (q := 36) dH_receiveVerdict_33 kH_275 (at_T hc.2.1 hp0) rfl rfl (Nat.le_of_ble_eq_true rfl) rfl rfl rfl (by decide) (sT_concerned hc t hp0 ) ?_
        have g9 := bT_concerned hc t hp0 
        refine zr_ior (q := 37) dH_receiveVerdict_36 rfl ?_
        have g10 : z_rg (zor (γ 26 t) (cT_concerned γ t)) := iI_rg _
        have g11 := zor_15 (a := (γ 26 t)) (b := (cT_concerned γ t)) ⟨by omega, by omega⟩ ⟨by omega, by omega⟩
        refine cv_V (As := [_, _, _]) (q := 40) dH_receiveVerdict_37 kH_159 at_H rfl rfl (Nat.le_of_ble_eq_true rfl) rfl rfl rfl (by decide) (sH_sendToOthers hc 4 t (zor (γ 26 t) (cT_concerned γ t)) ⟨by omega, by omega⟩ hp0 ⟨by omega, by omega⟩ ) ?_
        have hc12 : zC g ((cH_sendToOthers γ 4 t (zor (γ 26 t) (cT_concerned γ t)))).2 := wH_sendToOthers hc 4 t (zor (γ 26 t) (cT_concerned γ t)) ⟨by omega, by omega⟩ hp0 ⟨by omega, by omega⟩ 
        refine ev_pop (q := 41) dH_receiveVerdict_40 rfl rfl ?_
        refine ev_iload_n 3 (q := 42) dH_receiveVerdict_41 rfl (by rfl) rfl ?_
        refine zr_if_ne (t := 51) (q := 45) dH_receiveVerdict_42 rfl rfl ⟨by omega, by omega⟩ (fun h14 => ?_) (fun h14 => ?_)
        · refine ev_iconst (v := iI 2) (q := 52) dH_receiveVerdict_51 rfl rfl ?_
          exact zr_iret dH_receiveVerdict_52 rfl ⟨by rw [cH_receiveVerdict, if_pos h2, if_pos h4, if_neg (fun z => z h5), if_pos h14], by rw [cH_receiveVerdict, if_pos h2, if_pos h4, if_neg (fun z => z h5), if_pos h14]⟩
        · refine ev_aload_n 0 (q := 46) dH_receiveVerdict_45 rfl (by rfl) rfl ?_
          refine ev_aload_n 1 (q := 47) dH_receiveVerdict_46 rfl (by rfl) rfl ?_
          refine ev_iload_n 2 (q := 48) dH_receiveVerdict_47 rfl (by rfl) rfl ?_
          refine cv_Vv (As := [_, _]) (q := 51) dH_receiveVerdict_48 kH_278 at_H rfl rfl (Nat.le_of_ble_eq_true rfl) rfl rfl rfl (by decide) (sH_settle hc12 t co (ztx_fr hp0 (kH_sendToOthers (γ := γ) 4 t (zor (γ 26 t) (cT_concerned γ t)) (c := 0) (by decide) (by decide))) ⟨by omega, by omega⟩ ) ?_
          have hc15 : zC g ((cH_settle ((cH_sendToOthers γ 4 t (zor (γ 26 t) (cT_concerned γ t)))).2 t co)).2 := wH_settle hc12 t co (ztx_fr hp0 (kH_sendToOthers (γ := γ) 4 t (zor (γ 26 t) (cT_concerned γ t)) (c := 0) (by decide) (by decide))) ⟨by omega, by omega⟩ 
          refine ev_iconst (v := iI 2) (q := 52) dH_receiveVerdict_51 rfl rfl ?_
          exact zr_iret dH_receiveVerdict_52 rfl ⟨by rw [cH_receiveVerdict, if_pos h2, if_pos h4, if_neg (fun z => z h5), if_neg (fun z => z h14)], by rw [cH_receiveVerdict, if_pos h2, if_pos h4, if_neg (fun z => z h5), if_neg (fun z => z h14)]⟩
    · refine ev_iconst (v := iI 1) (q := 19) dH_receiveVerdict_18 rfl rfl ?_
      exact zr_iret dH_receiveVerdict_19 rfl ⟨by rw [cH_receiveVerdict, if_pos h2, if_neg h4], by rw [cH_receiveVerdict, if_pos h2, if_neg h4]⟩
  · refine ev_iconst (v := iI 0) (q := 9) dH_receiveVerdict_8 rfl rfl ?_
    exact zr_iret dH_receiveVerdict_9 rfl ⟨by rw [cH_receiveVerdict, if_neg (fun z => z h2)], by rw [cH_receiveVerdict, if_neg (fun z => z h2)]⟩
set_option maxRecDepth 100000 in
set_option maxHeartbeats 4000000 in
theorem wH_receiveVerdict {g : z_Gl} {γ : z_Sg} (hc : zC g γ) (t co fa : Int) (hp0 : 0 ≤ t ∧ t < γ 0 0) (hp1 : z_rg co) (hp2 : 0 ≤ fa ∧ fa ≤ 1) : zC g (cH_receiveVerdict γ t co fa).2 := by
  rw [cH_receiveVerdict]
  have g1 : 0 ≤ γ 25 t ∧ γ 25 t ≤ 9 := hc.1 25 t (by decide)
  by_cases h2 : (γ 25 t) ≠ 1
  · rw [if_pos h2]
    have g3 : 0 ≤ γ 25 t ∧ γ 25 t ≤ 9 := hc.1 25 t (by decide)
    by_cases h4 : (γ 25 t) = 2
    · rw [if_pos h4]
      by_cases h5 : co ≠ 1
      · rw [if_pos h5]
        by_cases h6 : fa ≠ 0
        · rw [if_pos h6]
          exact hc
        · rw [if_neg h6]
          have hc7 : zC g ((cH_settle γ t co)).2 := wH_settle hc t co hp0 ⟨by omega, by omega⟩ 
          exact hc7
      · rw [if_neg h5]
        have g8 : 0 ≤ γ 26 t ∧ γ 26 t ≤ 15 := hc.1 26 t (by decide)
        have g9 := bT_concerned hc t hp0 
        have g10 : z_rg (zor (γ 26 t) (cT_concerned γ t)) := iI_rg _
        have g11 := zor_15 (a := (γ 26 t)) (b := (cT_concerned γ t)) ⟨by omega, by omega⟩ ⟨by omega, by omega⟩
        have hc12 : zC g ((cH_sendToOthers γ 4 t (zor (γ 26 t) (cT_concerned γ t)))).2 := wH_sendToOthers hc 4 t (zor (γ 26 t) (cT_concerned γ t)) ⟨by omega, by omega⟩ hp0 ⟨by omega, by omega⟩ 
        by_cases h14 : fa ≠ 0
        · rw [if_pos h14]
          exact hc12
        · rw [if_neg h14]
          have hc15 : zC g ((cH_settle ((cH_sendToOthers γ 4 t (zor (γ 26 t) (cT_concerned γ t)))).2 t co)).2 := wH_settle hc12 t co (ztx_fr hp0 (kH_sendToOthers (γ := γ) 4 t (zor (γ 26 t) (cT_concerned γ t)) (c := 0) (by decide) (by decide))) ⟨by omega, by omega⟩ 
          exact hc15
    · rw [if_neg h4]
      exact hc
  · rw [if_neg h2]
    exact hc

theorem kH_receiveVerdict {γ : z_Sg} (t co fa : Int) {c : Nat} (h0 : c ≠ 7) (h1 : c ≠ 6) (h2 : c ≠ 25) (h3 : c ≠ 2) (h4 : c ≠ 3) : (cH_receiveVerdict γ t co fa).2 c = γ c := by
  unfold cH_receiveVerdict
  repeat' split
  all_goals first | rfl | (simp only [z_up_n h0, z_up_n h1, z_up_n h2, z_up_n h3, z_up_n h4, kH_sendToOthers _ _ _ h0 h1, kH_settle _ _ h2 h3 h4])

def cH_receiveFinality (γ : z_Sg) (t re fa : Int) : Int × z_Sg := if (cH_isNode γ re) ≠ 0 then if (cH_has γ (γ 3 re) t) = 0 then if (γ 27 t) ≠ 0 then if fa ≠ 0 then (2, γ) else (2, ((cN_enter ((cN_fetch γ re (γ 24 t))).2 re t)).2) else (3, γ) else (1, γ) else ((-1), γ)
set_option maxRecDepth 100000 in
set_option maxHeartbeats 4000000 in
theorem sH_receiveFinality {g : z_Gl} {γ ρ : z_Sg} (hc : zC g γ) (t re fa : Int) (hp0 : 0 ≤ t ∧ t < γ 0 0) (hp1 : z_rg re) (hp2 : 0 ≤ fa ∧ fa ≤ 1) : z_Sp mH_receiveFinality (2, 41) 0 0 [.ref (0), .ref (g.1 t), zi re, zi fa] (zH g γ ρ) (fun r M' => r = some (zi (cH_receiveFinality γ t re fa).1) ∧ M' = zH g (cH_receiveFinality γ t re fa).2 ρ) := by
  refine z_Sp_of (L := [.ref (0), .ref (g.1 t), zi re, zi fa, .float 0]) (by decide) rfl rfl rfl (Nat.le_of_ble_eq_true rfl) ?_
  have g0 : 0 ≤ γ 0 0 ∧ γ 0 0 ≤ 20 := hc.1 0 0 (by decide)
  refine ev_iload_n 2 (q := 1) dH_receiveFinality_0 rfl (by rfl) rfl ?_
  refine cv_S (As := [_]) (q := 4) dH_receiveFinality_1 kH_45 rfl (Nat.le_of_ble_eq_true rfl) rfl rfl rfl (by decide) (sH_isNode hc re ⟨by omega, by omega⟩ ) ?_
  have g1 : (cH_isNode γ re) = 0 ∨ (cH_isNode γ re) = 1 := bH_isNode _ _
  refine zr_if_ne (t := 9) (q := 7) dH_receiveFinality_4 rfl rfl ⟨by omega, by omega⟩ (fun h2 => ?_) (fun h2 => ?_)
  · have f12 := tH_isNode hc h2
    refine ev_aload_n 0 (q := 10) dH_receiveFinality_9 rfl (by rfl) rfl ?_
    refine ev_get (q := 13) dH_receiveFinality_10 fH_17 at_H (by rfl) rfl ?_
    refine ev_iload_n 2 (q := 14) dH_receiveFinality_13 rfl (by rfl) rfl ?_
    refine zr_aald (q := 15) dH_receiveFinality_14 (fun _ => ⟨_, rfl⟩) at_nodes (by decide) ⟨by omega, by omega⟩ (if_pos ⟨by omega, by omega⟩) rfl ?_
    refine ev_astore (q := 17) dH_receiveFinality_15 (by decide) rfl rfl ?_
    dsimp only [List.set]
    refine ev_aload (q := 19) dH_receiveFinality_17 (by rfl) rfl ?_
    refine ev_get (q := 22) (v := zi (γ 3 re)) dH_receiveFinality_19 fH_199 (at_N ⟨by omega, by omega⟩) rfl rfl ?_
    have g3 : 0 ≤ γ 3 re ∧ γ 3 re ≤ 1048575 := hc.1 3 re (by decide)
    refine ev_aload_n 1 (q := 23) dH_receiveFinality_22 rfl (by rfl) rfl ?_
    refine ev_get (q := 26) dH_receiveFinality_23 fH_281 (at_T hc.2.1 hp0) (by rfl) rfl ?_
    refine cv_S (As := [_, _]) (q := 29) dH_receiveFinality_26 kH_77 rfl (Nat.le_of_ble_eq_true rfl) rfl rfl rfl (by decide) (sH_has hc (γ 3 re) t ⟨by omega, by omega⟩ ⟨by omega, by omega⟩ ) ?_
    have g4 : (cH_has γ (γ 3 re) t) = 0 ∨ (cH_has γ (γ 3 re) t) = 1 := bH_has _ _ _
    refine zr_if_eq (t := 34) (q := 32) dH_receiveFinality_29 rfl rfl ⟨by omega, by omega⟩ (fun h5 => ?_) (fun h5 => ?_)
    · refine ev_aload_n 1 (q := 35) dH_receiveFinality_34 rfl (by rfl) rfl ?_
      refine ev_get (q := 38) (v := zi (γ 27 t)) dH_receiveFinality_35 fH_282 (at_T hc.2.1 hp0) rfl rfl ?_
      have g6 : 0 ≤ γ 27 t ∧ γ 27 t ≤ 1 := hc.1 27 t (by decide)
      refine zr_if_ne (t := 43) (q := 41) dH_receiveFinality_38 rfl rfl ⟨by omega, by omega⟩ (fun h7 => ?_) (fun h7 => ?_)
      · refine ev_iload_n 3 (q := 44) dH_receiveFinality_43 rfl (by rfl) rfl ?_
        refine zr_if_ne (t := 65) (q := 47) dH_receiveFinality_44 rfl rfl ⟨by omega, by omega⟩ (fun h8 => ?_) (fun h8 => ?_)
        · refine ev_iconst (v := iI 2) (q := 66) dH_receiveFinality_65 rfl rfl ?_
          exact zr_iret dH_receiveFinality_66 rfl ⟨by rw [cH_receiveFinality, if_pos h2, if_pos h5, if_pos h7, if_pos h8], by rw [cH_receiveFinality, if_pos h2, if_pos h5, if_pos h7, if_pos h8]⟩
        · refine ev_aload (q := 49) dH_receiveFinality_47 (by rfl) rfl ?_
          refine ev_aload_n 1 (q := 50) dH_receiveFinality_49 rfl (by rfl) rfl ?_
          refine ev_get (q := 53) (v := zi (γ 24 t)) dH_receiveFinality_50 fH_258 (at_T hc.2.1 hp0) rfl rfl ?_
          have g9 : 0 ≤ γ 24 t ∧ γ 24 t ≤ 1048575 := hc.1 24 t (by decide)
          refine cv_Vv (As := [_]) (q := 56) dH_receiveFinality_53 kH_261 (at_N ⟨by omega, by omega⟩) rfl rfl (Nat.le_of_ble_eq_true rfl) rfl rfl rfl (by decide) (sN_fetch hc re (γ 24 t) ⟨by omega, by omega⟩ ⟨by omega, by omega⟩ ) ?_
          have hc10 : zC g ((cN_fetch γ re (γ 24 t))).2 := wN_fetch hc re (γ 24 t) ⟨by omega, by omega⟩ ⟨by omega, by omega⟩ 
          refine ev_aload (q := 58) dH_receiveFinality_56 (by rfl) rfl ?_
          refine ev_aload_n 1 (q := 59) dH_receiveFinality_58 rfl (by rfl) rfl ?_
          refine ev_get (q := 62) dH_receiveFinality_59 fH_281 (at_T hc10.2.1 (ztx_fr hp0 (kN_fetch (γ := γ) re (γ 24 t) (c := 0) (by decide) (by decide)))) (by rfl) rfl ?_
          refine cv_Vv (As := [_]) (q := 65) dH_receiveFinality_62 kH_286 (at_N ⟨by omega, by omega⟩) rfl rfl (Nat.le_of_ble_eq_true rfl) rfl rfl rfl (by decide) (sN_enter hc10 re t ⟨by omega, by omega⟩ ⟨by omega, by omega⟩ ) ?_
          have hc11 : zC g ((cN_enter ((cN_fetch γ re (γ 24 t))).2 re t)).2 := wN_enter hc10 re t ⟨by omega, by omega⟩ ⟨by omega, by omega⟩ 
          refine ev_iconst (v := iI 2) (q := 66) dH_receiveFinality_65 rfl rfl ?_
          exact zr_iret dH_receiveFinality_66 rfl ⟨by rw [cH_receiveFinality, if_pos h2, if_pos h5, if_pos h7, if_neg (fun z => z h8)], by rw [cH_receiveFinality, if_pos h2, if_pos h5, if_pos h7, if_neg (fun z => z h8)]⟩
      · refine ev_iconst (v := iI 3) (q := 42) dH_receiveFinality_41 rfl rfl ?_
        exact zr_iret dH_receiveFinality_42 rfl ⟨by rw [cH_receiveFinality, if_pos h2, if_pos h5, if_neg (fun z => z h7)], by rw [cH_receiveFinality, if_pos h2, if_pos h5, if_neg (fun z => z h7)]⟩
    · refine ev_iconst (v := iI 1) (q := 33) dH_receiveFinality_32 rfl rfl ?_
      exact zr_iret dH_receiveFinality_33 rfl ⟨by rw [cH_receiveFinality, if_pos h2, if_neg h5], by rw [cH_receiveFinality, if_pos h2, if_neg h5]⟩
  · refine ev_iconst (v := iI (-1)) (q := 8) dH_receiveFinality_7 rfl rfl ?_
    exact zr_iret dH_receiveFinality_8 rfl ⟨by rw [cH_receiveFinality, if_neg (fun z => z h2)], by rw [cH_receiveFinality, if_neg (fun z => z h2)]⟩
set_option maxRecDepth 100000 in
set_option maxHeartbeats 4000000 in
theorem wH_receiveFinality {g : z_Gl} {γ : z_Sg} (hc : zC g γ) (t re fa : Int) (hp0 : 0 ≤ t ∧ t < γ 0 0) (hp1 : z_rg re) (hp2 : 0 ≤ fa ∧ fa ≤ 1) : zC g (cH_receiveFinality γ t re fa).2 := by
  rw [cH_receiveFinality]
  have g0 : 0 ≤ γ 0 0 ∧ γ 0 0 ≤ 20 := hc.1 0 0 (by decide)
  have g1 : (cH_isNode γ re) = 0 ∨ (cH_isNode γ re) = 1 := bH_isNode _ _
  by_cases h2 : (cH_isNode γ re) ≠ 0
  · rw [if_pos h2]
    have f12 := tH_isNode hc h2
    have g3 : 0 ≤ γ 3 re ∧ γ 3 re ≤ 1048575 := hc.1 3 re (by decide)
    have g4 : (cH_has γ (γ 3 re) t) = 0 ∨ (cH_has γ (γ 3 re) t) = 1 := bH_has _ _ _
    by_cases h5 : (cH_has γ (γ 3 re) t) = 0
    · rw [if_pos h5]
      have g6 : 0 ≤ γ 27 t ∧ γ 27 t ≤ 1 := hc.1 27 t (by decide)
      by_cases h7 : (γ 27 t) ≠ 0
      · rw [if_pos h7]
        by_cases h8 : fa ≠ 0
        · rw [if_pos h8]
          exact hc
        · rw [if_neg h8]
          have g9 : 0 ≤ γ 24 t ∧ γ 24 t ≤ 1048575 := hc.1 24 t (by decide)
          have hc10 : zC g ((cN_fetch γ re (γ 24 t))).2 := wN_fetch hc re (γ 24 t) ⟨by omega, by omega⟩ ⟨by omega, by omega⟩ 
          have hc11 : zC g ((cN_enter ((cN_fetch γ re (γ 24 t))).2 re t)).2 := wN_enter hc10 re t ⟨by omega, by omega⟩ ⟨by omega, by omega⟩ 
          exact hc11
      · rw [if_neg h7]
        exact hc
    · rw [if_neg h5]
      exact hc
  · rw [if_neg h2]
    exact hc

theorem kH_receiveFinality {γ : z_Sg} (t re fa : Int) {c : Nat} (h0 : c ≠ 4) (h1 : c ≠ 2) (h2 : c ≠ 3) : (cH_receiveFinality γ t re fa).2 c = γ c := by
  unfold cH_receiveFinality
  repeat' split
  all_goals first | rfl | (simp only [z_up_n h0, z_up_n h1, z_up_n h2, kN_fetch _ _ h0 h1, kN_enter _ _ h1 h2])
