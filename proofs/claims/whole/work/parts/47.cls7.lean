theorem vH_receiveAsk (γ : z_Sg) (t re fa : Int) : -1 ≤ (cH_receiveAsk γ t re fa).1 ∧ (cH_receiveAsk γ t re fa).1 ≤ 3 := by
  unfold cH_receiveAsk
  repeat' split
  all_goals (constructor <;> (dsimp only; omega))

theorem vH_receiveReply (γ : z_Sg) (t se co fa : Int) : -1 ≤ (cH_receiveReply γ t se co fa).1 ∧ (cH_receiveReply γ t se co fa).1 ≤ 3 := by
  unfold cH_receiveReply
  repeat' split
  all_goals (constructor <;> (dsimp only; omega))

theorem vH_receiveNotarise (γ : z_Sg) (t : Int) : -1 ≤ (cH_receiveNotarise γ t).1 ∧ (cH_receiveNotarise γ t).1 ≤ 3 := by
  unfold cH_receiveNotarise
  repeat' split
  all_goals (constructor <;> (dsimp only; omega))

theorem vH_receiveVerdict (γ : z_Sg) (t co fa : Int) : -1 ≤ (cH_receiveVerdict γ t co fa).1 ∧ (cH_receiveVerdict γ t co fa).1 ≤ 3 := by
  unfold cH_receiveVerdict
  repeat' split
  all_goals (constructor <;> (dsimp only; omega))

theorem vH_receiveFinality (γ : z_Sg) (t re fa : Int) : -1 ≤ (cH_receiveFinality γ t re fa).1 ∧ (cH_receiveFinality γ t re fa).1 ≤ 3 := by
  unfold cH_receiveFinality
  repeat' split
  all_goals (constructor <;> (dsimp only; omega))

def cH_receive (γ : z_Sg) (m fa : Int) : Int × z_Sg := if 0 ≤ (cB_transactionOf γ m) ∧ (cB_transactionOf γ m) < (γ 0 0) then if ((cB_kindOf γ m) < 0 ∨ 3 < (cB_kindOf γ m)) then (((cH_receiveFinality γ (cB_transactionOf γ m) (cB_receiverOf γ m) fa)).1, ((cH_receiveFinality γ (cB_transactionOf γ m) (cB_receiverOf γ m) fa)).2) else if (cB_kindOf γ m) = 0 then (((cH_receiveAsk γ (cB_transactionOf γ m) (cB_receiverOf γ m) fa)).1, ((cH_receiveAsk γ (cB_transactionOf γ m) (cB_receiverOf γ m) fa)).2) else if (cB_kindOf γ m) = 1 then (((cH_receiveReply γ (cB_transactionOf γ m) (cB_senderOf γ m) (cB_contentOf γ m) fa)).1, ((cH_receiveReply γ (cB_transactionOf γ m) (cB_senderOf γ m) (cB_contentOf γ m) fa)).2) else if (cB_kindOf γ m) = 2 then (((cH_receiveNotarise γ (cB_transactionOf γ m))).1, ((cH_receiveNotarise γ (cB_transactionOf γ m))).2) else (((cH_receiveVerdict γ (cB_transactionOf γ m) (cB_contentOf γ m) fa)).1, ((cH_receiveVerdict γ (cB_transactionOf γ m) (cB_contentOf γ m) fa)).2) else ((-1), γ)
set_option maxRecDepth 100000 in
set_option maxHeartbeats 4000000 in
theorem sH_receive {g : z_Gl} {γ ρ : z_Sg} (hc : zC g γ) (m fa : Int) (hp0 : 0 ≤ m ∧ m ≤ 131071) (hp1 : 0 ≤ fa ∧ fa ≤ 1) (he0 : (cB_kindOf γ m = 1 → cB_senderOf γ m ≤ 3)) : z_Sp mH_receive (5, 116) 0 0 [.ref (0), zi m, zi fa] (zH g γ ρ) (fun r M' => r = some (zi (cH_receive γ m fa).1) ∧ M' = zH g (cH_receive γ m fa).2 ρ) := by
  refine z_Sp_of (L := [.ref (0), zi m, zi fa, .float 0, .float 0, .float 0]) (by decide) rfl rfl rfl (Nat.le_of_ble_eq_true rfl) ?_
  have g0 : 0 ≤ γ 0 0 ∧ γ 0 0 ≤ 20 := hc.1 0 0 (by decide)
  refine ev_aload_n 0 (q := 1) dH_receive_0 rfl (by rfl) rfl ?_
  refine ev_iload_n 1 (q := 2) dH_receive_1 rfl (by rfl) rfl ?_
  refine cv_S (As := [_]) (q := 5) dH_receive_2 kH_219 rfl (Nat.le_of_ble_eq_true rfl) rfl rfl rfl (by decide) (sB_transactionOf hc m ⟨by omega, by omega⟩ ) ?_
  have g1 := bB_transactionOf γ m
  by_cases h2 : 0 ≤ (cB_transactionOf γ m) ∧ (cB_transactionOf γ m) < (γ 0 0)
  · refine cv_V (As := [_]) (q := 8) dH_receive_5 kH_60 at_H rfl rfl (Nat.le_of_ble_eq_true rfl) rfl rfl rfl (by decide) (sH_find_s hc (cB_transactionOf γ m)  h2) ?_
    refine ev_astore_n 3 (q := 9) dH_receive_8 rfl (by decide) rfl rfl ?_
    dsimp only [List.set]
    refine ev_iload_n 1 (q := 10) dH_receive_9 rfl (by rfl) rfl ?_
    refine cv_S (As := [_]) (q := 13) dH_receive_10 kH_222 rfl (Nat.le_of_ble_eq_true rfl) rfl rfl rfl (by decide) (sB_receiverOf hc m ⟨by omega, by omega⟩ ) ?_
    have g3 := bB_receiverOf γ m
    refine ev_istore (q := 15) dH_receive_13 (by decide) rfl rfl ?_
    dsimp only [List.set]
    refine ev_iload_n 1 (q := 16) dH_receive_15 rfl (by rfl) rfl ?_
    refine cv_S (As := [_]) (q := 19) dH_receive_16 kH_225 rfl (Nat.le_of_ble_eq_true rfl) rfl rfl rfl (by decide) (sB_contentOf hc m ⟨by omega, by omega⟩ ) ?_
    have g4 := bB_contentOf γ m
    refine ev_istore (q := 21) dH_receive_19 (by decide) rfl rfl ?_
    dsimp only [List.set]
    refine ev_aload_n 3 (q := 22) dH_receive_21 rfl (by rfl) rfl ?_
    refine ev_ifnonnull (t := 27) (q := 27) dH_receive_22 rfl rfl ?_
    refine ev_iload_n 1 (q := 28) dH_receive_27 rfl (by rfl) rfl ?_
    refine cv_S (As := [_]) (q := 31) dH_receive_28 kH_228 rfl (Nat.le_of_ble_eq_true rfl) rfl rfl rfl (by decide) (sB_kindOf hc m ⟨by omega, by omega⟩ ) ?_
    have g5 := bB_kindOf γ m
    by_cases h6 : ((cB_kindOf γ m) < 0 ∨ 3 < (cB_kindOf γ m))
    · refine ev_tableOut (t := 97) (q := 97) dH_receive_31 (by rw [iI_toInt ⟨by omega, by omega⟩]; omega) rfl rfl ?_
      refine ev_aload_n 0 (q := 98) dH_receive_97 rfl (by rfl) rfl ?_
      refine ev_aload_n 3 (q := 99) dH_receive_98 rfl (by rfl) rfl ?_
      refine ev_iload (q := 101) dH_receive_99 (by rfl) rfl ?_
      refine ev_iload_n 2 (q := 102) dH_receive_101 rfl (by rfl) rfl ?_
      refine cv_V (As := [_, _, _]) (q := 105) dH_receive_102 kH_248 at_H rfl rfl (Nat.le_of_ble_eq_true rfl) rfl rfl rfl (by decide) (sH_receiveFinality hc (cB_transactionOf γ m) (cB_receiverOf γ m) fa h2 ⟨by omega, by omega⟩ ⟨by omega, by omega⟩ ) ?_
      have hc7 : zC g ((cH_receiveFinality γ (cB_transactionOf γ m) (cB_receiverOf γ m) fa)).2 := wH_receiveFinality hc (cB_transactionOf γ m) (cB_receiverOf γ m) fa h2 ⟨by omega, by omega⟩ ⟨by omega, by omega⟩ 
      exact zr_iret dH_receive_105 rfl ⟨by rw [cH_receive, if_pos h2, if_pos h6], by rw [cH_receive, if_pos h2, if_pos h6]⟩
    · by_cases h9 : (cB_kindOf γ m) = 0
      · refine ev_tableIn (t := 60) (q := 60) (off := 29) dH_receive_31 (by rw [iI_toInt ⟨by omega, by omega⟩]; omega) (by rw [iI_toInt ⟨by omega, by omega⟩]; omega) (by rw [iI_toInt ⟨by omega, by omega⟩]; rw [show (cB_kindOf γ m) = 0 by omega]; rfl) rfl rfl ?_
        refine ev_aload_n 0 (q := 61) dH_receive_60 rfl (by rfl) rfl ?_
        refine ev_aload_n 3 (q := 62) dH_receive_61 rfl (by rfl) rfl ?_
        refine ev_iload (q := 64) dH_receive_62 (by rfl) rfl ?_
        refine ev_iload_n 2 (q := 65) dH_receive_64 rfl (by rfl) rfl ?_
        refine cv_V (As := [_, _, _]) (q := 68) dH_receive_65 kH_231 at_H rfl rfl (Nat.le_of_ble_eq_true rfl) rfl rfl rfl (by decide) (sH_receiveAsk hc (cB_transactionOf γ m) (cB_receiverOf γ m) fa h2 ⟨by omega, by omega⟩ ⟨by omega, by omega⟩ ) ?_
        have hc10 : zC g ((cH_receiveAsk γ (cB_transactionOf γ m) (cB_receiverOf γ m) fa)).2 := wH_receiveAsk hc (cB_transactionOf γ m) (cB_receiverOf γ m) fa h2 ⟨by omega, by omega⟩ ⟨by omega, by omega⟩ 
        exact zr_iret dH_receive_68 rfl ⟨by rw [cH_receive, if_pos h2, if_neg h6, if_pos h9], by rw [cH_receive, if_pos h2, if_neg h6, if_pos h9]⟩
      · by_cases h12 : (cB_kindOf γ m) = 1
        · refine ev_tableIn (t := 69) (q := 69) (off := 38) dH_receive_31 (by rw [iI_toInt ⟨by omega, by omega⟩]; omega) (by rw [iI_toInt ⟨by omega, by omega⟩]; omega) (by rw [iI_toInt ⟨by omega, by omega⟩]; rw [show (cB_kindOf γ m) = 1 by omega]; rfl) rfl rfl ?_
          have d1 := he0 (by omega)
          refine ev_aload_n 0 (q := 70) dH_receive_69 rfl (by rfl) rfl ?_
          refine ev_aload_n 3 (q := 71) dH_receive_70 rfl (by rfl) rfl ?_
          refine ev_iload_n 1 (q := 72) dH_receive_71 rfl (by rfl) rfl ?_
          refine cv_S (As := [_]) (q := 75) dH_receive_72 kH_235 rfl (Nat.le_of_ble_eq_true rfl) rfl rfl rfl (by decide) (sB_senderOf hc m ⟨by omega, by omega⟩ ) ?_
          have g13 := bB_senderOf γ m
          refine ev_iload (q := 77) dH_receive_75 (by rfl) rfl ?_
          refine ev_iload_n 2 (q := 78) dH_receive_77 rfl (by rfl) rfl ?_
          refine cv_V (As := [_, _, _, _]) (q := 81) dH_receive_78 kH_238 at_H rfl rfl (Nat.le_of_ble_eq_true rfl) rfl rfl rfl (by decide) (sH_receiveReply hc (cB_transactionOf γ m) (cB_senderOf γ m) (cB_contentOf γ m) fa h2 ⟨by omega, by omega⟩ ⟨by omega, by omega⟩ ⟨by omega, by omega⟩ ) ?_
          have hc14 : zC g ((cH_receiveReply γ (cB_transactionOf γ m) (cB_senderOf γ m) (cB_contentOf γ m) fa)).2 := wH_receiveReply hc (cB_transactionOf γ m) (cB_senderOf γ m) (cB_contentOf γ m) fa h2 ⟨by omega, by omega⟩ ⟨by omega, by omega⟩ ⟨by omega, by omega⟩ 
          exact zr_iret dH_receive_81 rfl ⟨by rw [cH_receive, if_pos h2, if_neg h6, if_neg h9, if_pos h12], by rw [cH_receive, if_pos h2, if_neg h6, if_neg h9, if_pos h12]⟩
        · by_cases h16 : (cB_kindOf γ m) = 2
          · refine ev_tableIn (t := 82) (q := 82) (off := 51) dH_receive_31 (by rw [iI_toInt ⟨by omega, by omega⟩]; omega) (by rw [iI_toInt ⟨by omega, by omega⟩]; omega) (by rw [iI_toInt ⟨by omega, by omega⟩]; rw [show (cB_kindOf γ m) = 2 by omega]; rfl) rfl rfl ?_
            refine ev_aload_n 0 (q := 83) dH_receive_82 rfl (by rfl) rfl ?_
            refine ev_aload_n 3 (q := 84) dH_receive_83 rfl (by rfl) rfl ?_
            refine cv_V (As := [_]) (q := 87) dH_receive_84 kH_242 at_H rfl rfl (Nat.le_of_ble_eq_true rfl) rfl rfl rfl (by decide) (sH_receiveNotarise hc (cB_transactionOf γ m) h2 ) ?_
            have hc17 : zC g ((cH_receiveNotarise γ (cB_transactionOf γ m))).2 := wH_receiveNotarise hc (cB_transactionOf γ m) h2 
            exact zr_iret dH_receive_87 rfl ⟨by rw [cH_receive, if_pos h2, if_neg h6, if_neg h9, if_neg h12, if_pos h16], by rw [cH_receive, if_pos h2, if_neg h6, if_neg h9, if_neg h12, if_pos h16]⟩
          · refine ev_tableIn (t := 88) (q := 88) (off := 57) dH_receive_31 (by rw [iI_toInt ⟨by omega, by omega⟩]; omega) (by rw [iI_toInt ⟨by omega, by omega⟩]; omega) (by rw [iI_toInt ⟨by omega, by omega⟩]; rw [show (cB_kindOf γ m) = 3 by omega]; rfl) rfl rfl ?_
            refine ev_aload_n 0 (q := 89) dH_receive_88 rfl (by rfl) rfl ?_
            refine ev_aload_n 3 (q := 90) dH_receive_89 rfl (by rfl) rfl ?_
            refine ev_iload (q := 92) dH_receive_90 (by rfl) rfl ?_
            refine ev_iload_n 2 (q := 93) dH_receive_92 rfl (by rfl) rfl ?_
            refine cv_V (As := [_, _, _]) (q := 96) dH_receive_93 kH_245 at_H rfl rfl (Nat.le_of_ble_eq_true rfl) rfl rfl rfl (by decide) (sH_receiveVerdict hc (cB_transactionOf γ m) (cB_contentOf γ m) fa h2 ⟨by omega, by omega⟩ ⟨by omega, by omega⟩ ) ?_
            have hc19 : zC g ((cH_receiveVerdict γ (cB_transactionOf γ m) (cB_contentOf γ m) fa)).2 := wH_receiveVerdict hc (cB_transactionOf γ m) (cB_contentOf γ m) fa h2 ⟨by omega, by omega⟩ ⟨by omega, by omega⟩ 
            exact zr_iret dH_receive_96 rfl ⟨by rw [cH_receive, if_pos h2, if_neg h6, if_neg h9, if_neg h12, if_neg h16], by rw [cH_receive, if_pos h2, if_neg h6, if_neg h9, if_neg h12, if_neg h16]⟩
  · refine cv_V (As := [_]) (q := 8) dH_receive_5 kH_60 at_H rfl rfl (Nat.le_of_ble_eq_true rfl) rfl rfl rfl (by decide) (sH_find_n hc (cB_transactionOf γ m) ⟨by omega, by omega⟩ h2) ?_
    refine ev_astore_nN 3 (q := 9) dH_receive_8 rfl (by decide) rfl rfl ?_
    dsimp only [List.set]
    refine ev_iload_n 1 (q := 10) dH_receive_9 rfl (by rfl) rfl ?_
    refine cv_S (As := [_]) (q := 13) dH_receive_10 kH_222 rfl (Nat.le_of_ble_eq_true rfl) rfl rfl rfl (by decide) (sB_receiverOf hc m ⟨by omega, by omega⟩ ) ?_
    have g21 := bB_receiverOf γ m
    refine ev_istore (q := 15) dH_receive_13 (by decide) rfl rfl ?_
    dsimp only [List.set]
    refine ev_iload_n 1 (q := 16) dH_receive_15 rfl (by rfl) rfl ?_
    refine cv_S (As := [_]) (q := 19) dH_receive_16 kH_225 rfl (Nat.le_of_ble_eq_true rfl) rfl rfl rfl (by decide) (sB_contentOf hc m ⟨by omega, by omega⟩ ) ?_
    have g22 := bB_contentOf γ m
    refine ev_istore (q := 21) dH_receive_19 (by decide) rfl rfl ?_
    dsimp only [List.set]
    refine ev_aload_nN 3 (q := 22) dH_receive_21 rfl (by rfl) rfl ?_
    refine ev_ifnonnullN (q := 25) dH_receive_22 rfl ?_
    refine ev_iconst (v := iI (-1)) (q := 26) dH_receive_25 rfl rfl ?_
    exact zr_iret dH_receive_26 rfl ⟨by rw [cH_receive, if_neg h2], by rw [cH_receive, if_neg h2]⟩
set_option maxRecDepth 100000 in
set_option maxHeartbeats 4000000 in
theorem wH_receive {g : z_Gl} {γ : z_Sg} (hc : zC g γ) (m fa : Int) (hp0 : 0 ≤ m ∧ m ≤ 131071) (hp1 : 0 ≤ fa ∧ fa ≤ 1) (he0 : (cB_kindOf γ m = 1 → cB_senderOf γ m ≤ 3)) : zC g (cH_receive γ m fa).2 := by
  rw [cH_receive]
  have g1 := bB_transactionOf γ m
  by_cases h2 : 0 ≤ (cB_transactionOf γ m) ∧ (cB_transactionOf γ m) < (γ 0 0)
  · rw [if_pos h2]
    have g3 := bB_receiverOf γ m
    have g4 := bB_contentOf γ m
    have g5 := bB_kindOf γ m
    by_cases h6 : ((cB_kindOf γ m) < 0 ∨ 3 < (cB_kindOf γ m))
    · rw [if_pos h6]
      have hc7 : zC g ((cH_receiveFinality γ (cB_transactionOf γ m) (cB_receiverOf γ m) fa)).2 := wH_receiveFinality hc (cB_transactionOf γ m) (cB_receiverOf γ m) fa h2 ⟨by omega, by omega⟩ ⟨by omega, by omega⟩ 
      exact hc7
    · rw [if_neg h6]
      by_cases h9 : (cB_kindOf γ m) = 0
      · rw [if_pos h9]
        have hc10 : zC g ((cH_receiveAsk γ (cB_transactionOf γ m) (cB_receiverOf γ m) fa)).2 := wH_receiveAsk hc (cB_transactionOf γ m) (cB_receiverOf γ m) fa h2 ⟨by omega, by omega⟩ ⟨by omega, by omega⟩ 
        exact hc10
      · rw [if_neg h9]
        by_cases h12 : (cB_kindOf γ m) = 1
        · rw [if_pos h12]
          have d1 := he0 (by omega)
          have g13 := bB_senderOf γ m
          have hc14 : zC g ((cH_receiveReply γ (cB_transactionOf γ m) (cB_senderOf γ m) (cB_contentOf γ m) fa)).2 := wH_receiveReply hc (cB_transactionOf γ m) (cB_senderOf γ m) (cB_contentOf γ m) fa h2 ⟨by omega, by omega⟩ ⟨by omega, by omega⟩ ⟨by omega, by omega⟩ 
          exact hc14
        · rw [if_neg h12]
          by_cases h16 : (cB_kindOf γ m) = 2
          · rw [if_pos h16]
            have hc17 : zC g ((cH_receiveNotarise γ (cB_transactionOf γ m))).2 := wH_receiveNotarise hc (cB_transactionOf γ m) h2 
            exact hc17
          · rw [if_neg h16]
            have hc19 : zC g ((cH_receiveVerdict γ (cB_transactionOf γ m) (cB_contentOf γ m) fa)).2 := wH_receiveVerdict hc (cB_transactionOf γ m) (cB_contentOf γ m) fa h2 ⟨by omega, by omega⟩ ⟨by omega, by omega⟩ 
            exact hc19
  · rw [if_neg h2]
    have g21 := bB_receiverOf γ m
    have g22 := bB_contentOf γ m
    exact hc

theorem kH_receive {γ : z_Sg} (m fa : Int) {c : Nat} (h0 : c ≠ 29) (h1 : c ≠ 30) (h2 : c ≠ 4) (h3 : c ≠ 2) (h4 : c ≠ 7) (h5 : c ≠ 6) (h6 : c ≠ 25) (h7 : c ≠ 28) (h8 : c ≠ 31) (h9 : c ≠ 8) (h10 : c ≠ 3) : (cH_receive γ m fa).2 c = γ c := by
  unfold cH_receive
  repeat' split
  all_goals first | rfl | (simp only [z_up_n h0, z_up_n h1, z_up_n h2, z_up_n h3, z_up_n h4, z_up_n h5, z_up_n h6, z_up_n h7, z_up_n h8, z_up_n h9, z_up_n h10, kH_receiveAsk _ _ _ h0 h1 h2 h3 h4 h5, kH_receiveReply _ _ _ _ h6 h7 h4 h5, kH_receiveNotarise _ h8 h9 h4 h5, kH_receiveVerdict _ _ _ h4 h5 h6 h3 h10, kH_receiveFinality _ _ _ h2 h3 h10])

theorem vH_receive (γ : z_Sg) (m fa : Int) : -1 ≤ (cH_receive γ m fa).1 ∧ (cH_receive γ m fa).1 ≤ 3 := by
  unfold cH_receive
  split
  · split
    · exact vH_receiveFinality _ _ _ _
    · split
      · exact vH_receiveAsk _ _ _ _
      · split
        · exact vH_receiveReply _ _ _ _ _
        · split
          · exact vH_receiveNotarise _ _
          · exact vH_receiveVerdict _ _ _ _
  · constructor <;> (dsimp only; omega)

def cH_deliver (γ : z_Sg) (k fa : Int) : Int × z_Sg := if (cB_holdsPlace γ k) ≠ 0 then if fa ≠ 0 then (((cH_receive γ (γ 7 k) fa)).1, ((cH_receive γ (γ 7 k) fa)).2) else if ((cH_receive γ (γ 7 k) fa)).1 = 0 then (((cH_receive γ (γ 7 k) fa)).1, ((cH_receive γ (γ 7 k) fa)).2) else (((cH_receive γ (γ 7 k) fa)).1, ((cB_removeAt ((cH_receive γ (γ 7 k) fa)).2 k)).2) else ((-1), γ)
set_option maxRecDepth 100000 in
set_option maxHeartbeats 4000000 in
theorem sH_deliver {g : z_Gl} {γ ρ : z_Sg} (hc : zC g γ) (k fa : Int) (hp0 : z_rg k) (hp1 : 0 ≤ fa ∧ fa ≤ 1) (he0 : (0 ≤ k → k < γ 6 0 → cB_kindOf γ (γ 7 k) = 1 → cB_senderOf γ (γ 7 k) ≤ 3)) : z_Sp mH_deliver (6, 141) 0 0 [.ref (0), zi k, zi fa] (zH g γ ρ) (fun r M' => r = some (zi (cH_deliver γ k fa).1) ∧ M' = zH g (cH_deliver γ k fa).2 ρ) := by
  refine z_Sp_of (L := [.ref (0), zi k, zi fa, .float 0]) (by decide) rfl rfl rfl (Nat.le_of_ble_eq_true rfl) ?_
  have g0 : 0 ≤ γ 0 0 ∧ γ 0 0 ≤ 20 := hc.1 0 0 (by decide)
  refine ev_aload_n 0 (q := 1) dH_deliver_0 rfl (by rfl) rfl ?_
  refine ev_get (q := 4) dH_deliver_1 fH_25 at_H (by rfl) rfl ?_
  refine ev_iload_n 1 (q := 5) dH_deliver_4 rfl (by rfl) rfl ?_
  refine cv_V (As := [_]) (q := 8) dH_deliver_5 kH_163 at_B rfl rfl (Nat.le_of_ble_eq_true rfl) rfl rfl rfl (by decide) (sB_holdsPlace hc k ⟨by omega, by omega⟩ ) ?_
  have g1 : (cB_holdsPlace γ k) = 0 ∨ (cB_holdsPlace γ k) = 1 := bB_holdsPlace _ _
  refine zr_if_ne (t := 13) (q := 11) dH_deliver_8 rfl rfl ⟨by omega, by omega⟩ (fun h2 => ?_) (fun h2 => ?_)
  · have f10 := tB_holdsPlace hc h2
    refine ev_aload_n 0 (q := 14) dH_deliver_13 rfl (by rfl) rfl ?_
    refine ev_aload_n 0 (q := 15) dH_deliver_14 rfl (by rfl) rfl ?_
    refine ev_get (q := 18) dH_deliver_15 fH_25 at_H (by rfl) rfl ?_
    refine ev_get (q := 21) dH_deliver_18 fH_166 at_B (by rfl) rfl ?_
    refine ev_iload_n 1 (q := 22) dH_deliver_21 rfl (by rfl) rfl ?_
    refine zr_iald (q := 23) (g := γ 7) dH_deliver_22 at_codes (by decide) ⟨by omega, by omega⟩ rfl ?_
    have g3 : 0 ≤ γ 7 k ∧ γ 7 k ≤ 131071 := hc.1 7 k (by decide)
    refine ev_iload_n 2 (q := 24) dH_deliver_23 rfl (by rfl) rfl ?_
    refine cv_V (As := [_, _]) (q := 27) dH_deliver_24 kH_169 at_H rfl rfl (Nat.le_of_ble_eq_true rfl) rfl rfl rfl (by decide) (sH_receive hc (γ 7 k) fa ⟨by omega, by omega⟩ ⟨by omega, by omega⟩ (he0 (by omega) (by omega))) ?_
    have hc4 : zC g ((cH_receive γ (γ 7 k) fa)).2 := wH_receive hc (γ 7 k) fa ⟨by omega, by omega⟩ ⟨by omega, by omega⟩ (he0 (by omega) (by omega))
    have u5 := vH_receive γ (γ 7 k) fa
    refine ev_istore_n 3 (q := 28) dH_deliver_27 rfl (by decide) rfl rfl ?_
    dsimp only [List.set]
    refine ev_iload_n 2 (q := 29) dH_deliver_28 rfl (by rfl) rfl ?_
    refine zr_if_ne (t := 44) (q := 32) dH_deliver_29 rfl rfl ⟨by omega, by omega⟩ (fun h7 => ?_) (fun h7 => ?_)
    · refine ev_iload_n 3 (q := 45) dH_deliver_44 rfl (by rfl) rfl ?_
      exact zr_iret dH_deliver_45 rfl ⟨by rw [cH_deliver, if_pos h2, if_pos h7], by rw [cH_deliver, if_pos h2, if_pos h7]⟩
    · refine ev_iload_n 3 (q := 33) dH_deliver_32 rfl (by rfl) rfl ?_
      refine zr_if_eq (t := 44) (q := 36) dH_deliver_33 rfl rfl ⟨by omega, by omega⟩ (fun h8 => ?_) (fun h8 => ?_)
      · refine ev_iload_n 3 (q := 45) dH_deliver_44 rfl (by rfl) rfl ?_
        exact zr_iret dH_deliver_45 rfl ⟨by rw [cH_deliver, if_pos h2, if_neg (fun z => z h7), if_pos h8], by rw [cH_deliver, if_pos h2, if_neg (fun z => z h7), if_pos h8]⟩
      · refine ev_aload_n 0 (q := 37) dH_deliver_36 rfl (by rfl) rfl ?_
        refine ev_get (q := 40) dH_deliver_37 fH_25 at_H (by rfl) rfl ?_
        refine ev_iload_n 1 (q := 41) dH_deliver_40 rfl (by rfl) rfl ?_
        refine cv_Vv (As := [_]) (q := 44) dH_deliver_41 kH_173 at_B rfl rfl (Nat.le_of_ble_eq_true rfl) rfl rfl rfl (by decide) (sB_removeAt hc4 k ⟨by omega, by omega⟩ ) ?_
        have hc9 : zC g ((cB_removeAt ((cH_receive γ (γ 7 k) fa)).2 k)).2 := wB_removeAt hc4 k ⟨by omega, by omega⟩ 
        refine ev_iload_n 3 (q := 45) dH_deliver_44 rfl (by rfl) rfl ?_
        exact zr_iret dH_deliver_45 rfl ⟨by rw [cH_deliver, if_pos h2, if_neg (fun z => z h7), if_neg h8], by rw [cH_deliver, if_pos h2, if_neg (fun z => z h7), if_neg h8]⟩
  · refine ev_iconst (v := iI (-1)) (q := 12) dH_deliver_11 rfl rfl ?_
    exact zr_iret dH_deliver_12 rfl ⟨by rw [cH_deliver, if_neg (fun z => z h2)], by rw [cH_deliver, if_neg (fun z => z h2)]⟩
set_option maxRecDepth 100000 in
set_option maxHeartbeats 4000000 in
theorem wH_deliver {g : z_Gl} {γ : z_Sg} (hc : zC g γ) (k fa : Int) (hp0 : z_rg k) (hp1 : 0 ≤ fa ∧ fa ≤ 1) (he0 : (0 ≤ k → k < γ 6 0 → cB_kindOf γ (γ 7 k) = 1 → cB_senderOf γ (γ 7 k) ≤ 3)) : zC g (cH_deliver γ k fa).2 := by
  rw [cH_deliver]
  have g1 : (cB_holdsPlace γ k) = 0 ∨ (cB_holdsPlace γ k) = 1 := bB_holdsPlace _ _
  by_cases h2 : (cB_holdsPlace γ k) ≠ 0
  · rw [if_pos h2]
    have f10 := tB_holdsPlace hc h2
    have g3 : 0 ≤ γ 7 k ∧ γ 7 k ≤ 131071 := hc.1 7 k (by decide)
    have hc4 : zC g ((cH_receive γ (γ 7 k) fa)).2 := wH_receive hc (γ 7 k) fa ⟨by omega, by omega⟩ ⟨by omega, by omega⟩ (he0 (by omega) (by omega))
    have u5 := vH_receive γ (γ 7 k) fa
    by_cases h7 : fa ≠ 0
    · rw [if_pos h7]
      exact hc4
    · rw [if_neg h7]
      by_cases h8 : ((cH_receive γ (γ 7 k) fa)).1 = 0
      · rw [if_pos h8]
        exact hc4
      · rw [if_neg h8]
        have hc9 : zC g ((cB_removeAt ((cH_receive γ (γ 7 k) fa)).2 k)).2 := wB_removeAt hc4 k ⟨by omega, by omega⟩ 
        exact hc9
  · rw [if_neg h2]
    exact hc

theorem kH_deliver {γ : z_Sg} (k fa : Int) {c : Nat} (h0 : c ≠ 29) (h1 : c ≠ 30) (h2 : c ≠ 4) (h3 : c ≠ 2) (h4 : c ≠ 7) (h5 : c ≠ 6) (h6 : c ≠ 25) (h7 : c ≠ 28) (h8 : c ≠ 31) (h9 : c ≠ 8) (h10 : c ≠ 3) : (cH_deliver γ k fa).2 c = γ c := by
  unfold cH_deliver
  repeat' split
  all_goals first | rfl | (simp only [z_up_n h0, z_up_n h1, z_up_n h2, z_up_n h3, z_up_n h4, z_up_n h5, z_up_n h6, z_up_n h7, z_up_n h8, z_up_n h9, z_up_n h10, kH_receive _ _ h0 h1 h2 h3 h4 h5 h6 h7 h8 h9 h10, kB_removeAt _ h4 h5])

def cH_propose (γ : z_Sg) (t ha : Int) : Int × z_Sg := if 0 ≤ t ∧ t < (γ 0 0) then if (γ 25 t) = 0 then if ha ≠ 0 then if ha ≠ 0 then (((cH_sendNotarise (z_up ((cT_seal γ t ha)).2 25 t 2) t)).1, ((cH_sendNotarise (z_up ((cT_seal γ t ha)).2 25 t 2) t)).2) else if (cT_needsNobodyElse ((cT_seal γ t ha)).2 t) = 0 then (((cH_sendToOthers (z_up ((cT_seal γ t ha)).2 25 t 1) 0 t (((cT_seal γ t ha)).2 26 t))).1, ((cH_sendToOthers (z_up ((cT_seal γ t ha)).2 25 t 1) 0 t (((cT_seal γ t ha)).2 26 t))).2) else (((cH_sendNotarise (z_up ((cT_seal γ t ha)).2 25 t 2) t)).1, ((cH_sendNotarise (z_up ((cT_seal γ t ha)).2 25 t 2) t)).2) else if (cT_isValid γ t) ≠ 0 then if ha ≠ 0 then (((cH_sendNotarise (z_up ((cT_seal γ t ha)).2 25 t 2) t)).1, ((cH_sendNotarise (z_up ((cT_seal γ t ha)).2 25 t 2) t)).2) else if (cT_needsNobodyElse ((cT_seal γ t ha)).2 t) = 0 then (((cH_sendToOthers (z_up ((cT_seal γ t ha)).2 25 t 1) 0 t (((cT_seal γ t ha)).2 26 t))).1, ((cH_sendToOthers (z_up ((cT_seal γ t ha)).2 25 t 1) 0 t (((cT_seal γ t ha)).2 26 t))).2) else (((cH_sendNotarise (z_up ((cT_seal γ t ha)).2 25 t 2) t)).1, ((cH_sendNotarise (z_up ((cT_seal γ t ha)).2 25 t 2) t)).2) else ((-8), γ) else ((-2), γ) else ((-1), γ)
set_option maxRecDepth 100000 in
set_option maxHeartbeats 4000000 in
theorem sH_propose {g : z_Gl} {γ ρ : z_Sg} (hc : zC g γ) (t ha : Int) (hp0 : z_rg t) (hp1 : 0 ≤ ha ∧ ha ≤ 1) : z_Sp mH_propose (6, 134) 0 0 [.ref (0), zi t, zi ha] (zH g γ ρ) (fun r M' => r = some (zi (cH_propose γ t ha).1) ∧ M' = zH g (cH_propose γ t ha).2 ρ) := by
  refine z_Sp_of (L := [.ref (0), zi t, zi ha, .float 0]) (by decide) rfl rfl rfl (Nat.le_of_ble_eq_true rfl) ?_
  have g0 : 0 ≤ γ 0 0 ∧ γ 0 0 ≤ 20 := hc.1 0 0 (by decide)
  refine ev_aload_n 0 (q := 1) dH_propose_0 rfl (by rfl) rfl ?_
  refine ev_iload_n 1 (q := 2) dH_propose_1 rfl (by rfl) rfl ?_
  by_cases h1 : 0 ≤ t ∧ t < (γ 0 0)
  · refine cv_V (As := [_]) (q := 5) dH_propose_2 kH_60 at_H rfl rfl (Nat.le_of_ble_eq_true rfl) rfl rfl rfl (by decide) (sH_find_s hc t  h1) ?_
    refine ev_astore_n 3 (q := 6) dH_propose_5 rfl (by decide) rfl rfl ?_
    dsimp only [List.set]
    refine ev_aload_n 3 (q := 7) dH_propose_6 rfl (by rfl) rfl ?_
    refine ev_ifnonnull (t := 12) (q := 12) dH_propose_7 rfl rfl ?_
    refine ev_aload_n 3 (q := 13) dH_propose_12 rfl (by rfl) rfl ?_
    refine ev_get (q := 16) (v := zi (γ 25 t)) dH_propose_13 fH_68 (at_T hc.2.1 h1) rfl rfl ?_
    have g2 : 0 ≤ γ 25 t ∧ γ 25 t ≤ 9 := hc.1 25 t (by decide)
    refine zr_if_eq (t := 22) (q := 19) dH_propose_16 rfl rfl ⟨by omega, by omega⟩ (fun h3 => ?_) (fun h3 => ?_)
    · refine ev_iload_n 2 (q := 23) dH_propose_22 rfl (by rfl) rfl ?_
      refine zr_if_ne (t := 36) (q := 26) dH_propose_23 rfl rfl ⟨by omega, by omega⟩ (fun h4 => ?_) (fun h4 => ?_)
      · refine ev_aload_n 3 (q := 37) dH_propose_36 rfl (by rfl) rfl ?_
        refine ev_iload_n 2 (q := 38) dH_propose_37 rfl (by rfl) rfl ?_
        refine cv_Vv (As := [_]) (q := 41) dH_propose_38 kH_145 (at_T hc.2.1 h1) rfl rfl (Nat.le_of_ble_eq_true rfl) rfl rfl rfl (by decide) (sT_seal hc t ha h1 ⟨by omega, by omega⟩ ) ?_
        have hc5 : zC g ((cT_seal γ t ha)).2 := wT_seal hc t ha h1 ⟨by omega, by omega⟩ 
        refine ev_iload_n 2 (q := 42) dH_propose_41 rfl (by rfl) rfl ?_
        refine zr_if_ne (t := 52) (q := 45) dH_propose_42 rfl rfl ⟨by omega, by omega⟩ (fun h6 => ?_) (fun h6 => ?_)
        · refine ev_aload_n 3 (q := 53) dH_propose_52 rfl (by rfl) rfl ?_
          refine ev_iconst (v := iI 2) (q := 54) dH_propose_53 rfl rfl ?_
          refine zr_puti (q := 57) dH_propose_54 gH_68 (at_T hc5.2.1 (ztx_fr h1 (kT_seal (γ := γ) t ha (c := 0) (by decide) (by decide) (by decide)))) (Nat.le_of_ble_eq_true rfl) rfl (ct_stage hc5.2.1 (ztx_fr h1 (kT_seal (γ := γ) t ha (c := 0) (by decide) (by decide) (by decide)))) rfl ?_
          have hc7 : zC g (z_up ((cT_seal γ t ha)).2 25 t 2) := zC_up hc5 (by decide) (by decide) (by decide) (show (0 : Int) ≤ 2 by omega) (show 2 ≤ (9 : Int) by omega)
          refine ev_aload_n 0 (q := 58) dH_propose_57 rfl (by rfl) rfl ?_
          refine ev_aload_n 3 (q := 59) dH_propose_58 rfl (by rfl) rfl ?_
          refine cv_V (As := [_]) (q := 62) dH_propose_59 kH_152 at_H rfl rfl (Nat.le_of_ble_eq_true rfl) rfl rfl rfl (by decide) (sH_sendNotarise hc7 t (ztx_fr h1 (kT_seal (γ := γ) t ha (c := 0) (by decide) (by decide) (by decide))) ) ?_
          have hc8 : zC g ((cH_sendNotarise (z_up ((cT_seal γ t ha)).2 25 t 2) t)).2 := wH_sendNotarise hc7 t (ztx_fr h1 (kT_seal (γ := γ) t ha (c := 0) (by decide) (by decide) (by decide))) 
          exact zr_iret dH_propose_62 rfl ⟨by rw [cH_propose, if_pos h1, if_pos h3, if_pos h4, if_pos h6], by rw [cH_propose, if_pos h1, if_pos h3, if_pos h4, if_pos h6]⟩
        · refine ev_aload_n 3 (q := 46) dH_propose_45 rfl (by rfl) rfl ?_
          refine cv_V (As := []) (q := 49) dH_propose_46 kH_149 (at_T hc5.2.1 (ztx_fr h1 (kT_seal (γ := γ) t ha (c := 0) (by decide) (by decide) (by decide)))) rfl rfl (Nat.le_of_ble_eq_true rfl) rfl rfl rfl (by decide) (sT_needsNobodyElse hc5 t (ztx_fr h1 (kT_seal (γ := γ) t ha (c := 0) (by decide) (by decide) (by decide))) ) ?_
          have g10 : (cT_needsNobodyElse ((cT_seal γ t ha)).2 t) = 0 ∨ (cT_needsNobodyElse ((cT_seal γ t ha)).2 t) = 1 := bT_needsNobodyElse _ _
          refine zr_if_eq (t := 63) (q := 52) dH_propose_49 rfl rfl ⟨by omega, by omega⟩ (fun h11 => ?_) (fun h11 => ?_)
          · refine ev_aload_n 3 (q := 64) dH_propose_63 rfl (by rfl) rfl ?_
            refine ev_iconst (v := iI 1) (q := 65) dH_propose_64 rfl rfl ?_
            refine zr_puti (q := 68) dH_propose_65 gH_68 (at_T hc5.2.1 (ztx_fr h1 (kT_seal (γ := γ) t ha (c := 0) (by decide) (by decide) (by decide)))) (Nat.le_of_ble_eq_true rfl) rfl (ct_stage hc5.2.1 (ztx_fr h1 (kT_seal (γ := γ) t ha (c := 0) (by decide) (by decide) (by decide)))) rfl ?_
            have hc12 : zC g (z_up ((cT_seal γ t ha)).2 25 t 1) := zC_up hc5 (by decide) (by decide) (by decide) (show (0 : Int) ≤ 1 by omega) (show 1 ≤ (9 : Int) by omega)
            refine ev_aload_n 0 (q := 69) dH_propose_68 rfl (by rfl) rfl ?_
            refine ev_iconst (v := iI 0) (q := 70) dH_propose_69 rfl rfl ?_
            refine ev_aload_n 3 (q := 71) dH_propose_70 rfl (by rfl) rfl ?_
            refine ev_aload_n 3 (q := 72) dH_propose_71 rfl (by rfl) rfl ?_
            refine ev_get (q := 75) (v := zi (((cT_seal γ t ha)).2 26 t)) dH_propose_72 fH_156 (at_T hc12.2.1 (ztx_fr h1 (kT_seal (γ := γ) t ha (c := 0) (by decide) (by decide) (by decide)))) rfl rfl ?_
            have g13 : 0 ≤ ((cT_seal γ t ha)).2 26 t ∧ ((cT_seal γ t ha)).2 26 t ≤ 15 := hc5.1 26 t (by decide)
            refine cv_V (As := [_, _, _]) (q := 78) dH_propose_75 kH_159 at_H rfl rfl (Nat.le_of_ble_eq_true rfl) rfl rfl rfl (by decide) (sH_sendToOthers hc12 0 t (((cT_seal γ t ha)).2 26 t) ⟨by omega, by omega⟩ (ztx_fr h1 (kT_seal (γ := γ) t ha (c := 0) (by decide) (by decide) (by decide))) ⟨by omega, by omega⟩ ) ?_
            have hc14 : zC g ((cH_sendToOthers (z_up ((cT_seal γ t ha)).2 25 t 1) 0 t (((cT_seal γ t ha)).2 26 t))).2 := wH_sendToOthers hc12 0 t (((cT_seal γ t ha)).2 26 t) ⟨by omega, by omega⟩ (ztx_fr h1 (kT_seal (γ := γ) t ha (c := 0) (by decide) (by decide) (by decide))) ⟨by omega, by omega⟩ 
            exact zr_iret dH_propose_78 rfl ⟨by rw [cH_propose, if_pos h1, if_pos h3, if_pos h4, if_neg (fun z => z h6), if_pos h11], by rw [cH_propose, if_pos h1, if_pos h3, if_pos h4, if_neg (fun z => z h6), if_pos h11]⟩
          · refine ev_aload_n 3 (q := 53) dH_propose_52 rfl (by rfl) rfl ?_
            refine ev_iconst (v := iI 2) (q := 54) dH_propose_53 rfl rfl ?_
            refine zr_puti (q := 57) dH_propose_54 gH_68 (at_T hc5.2.1 (ztx_fr h1 (kT_seal (γ := γ) t ha (c := 0) (by decide) (by decide) (by decide)))) (Nat.le_of_ble_eq_true rfl) rfl (ct_stage hc5.2.1 (ztx_fr h1 (kT_seal (γ := γ) t ha (c := 0) (by decide) (by decide) (by decide)))) rfl ?_
            have hc16 : zC g (z_up ((cT_seal γ t ha)).2 25 t 2) := zC_up hc5 (by decide) (by decide) (by decide) (show (0 : Int) ≤ 2 by omega) (show 2 ≤ (9 : Int) by omega)
            refine ev_aload_n 0 (q := 58) dH_propose_57 rfl (by rfl) rfl ?_
            refine ev_aload_n 3 (q := 59) dH_propose_58 rfl (by rfl) rfl ?_
            refine cv_V (As := [_]) (q := 62) dH_propose_59 kH_152 at_H rfl rfl (Nat.le_of_ble_eq_true rfl) rfl rfl rfl (by decide) (sH_sendNotarise hc16 t (ztx_fr h1 (kT_seal (γ := γ) t ha (c := 0) (by decide) (by decide) (by decide))) ) ?_
            have hc17 : zC g ((cH_sendNotarise (z_up ((cT_seal γ t ha)).2 25 t 2) t)).2 := wH_sendNotarise hc16 t (ztx_fr h1 (kT_seal (γ := γ) t ha (c := 0) (by decide) (by decide) (by decide))) 
            exact zr_iret dH_propose_62 rfl ⟨by rw [cH_propose, if_pos h1, if_pos h3, if_pos h4, if_neg (fun z => z h6), if_neg h11], by rw [cH_propose, if_pos h1, if_pos h3, if_pos h4, if_neg (fun z => z h6), if_neg h11]⟩
      · refine ev_aload_n 3 (q := 27) dH_propose_26 rfl (by rfl) rfl ?_
        refine cv_V (As := []) (q := 30) dH_propose_27 kH_141 (at_T hc.2.1 h1) rfl rfl (Nat.le_of_ble_eq_true rfl) rfl rfl rfl (by decide) (sT_isValid hc t h1 ) ?_
        have g19 : (cT_isValid γ t) = 0 ∨ (cT_isValid γ t) = 1 := bT_isValid _ _
        refine zr_if_ne (t := 36) (q := 33) dH_propose_30 rfl rfl ⟨by omega, by omega⟩ (fun h20 => ?_) (fun h20 => ?_)
        · refine ev_aload_n 3 (q := 37) dH_propose_36 rfl (by rfl) rfl ?_
          refine ev_iload_n 2 (q := 38) dH_propose_37 rfl (by rfl) rfl ?_
          refine cv_Vv (As := [_]) (q := 41) dH_propose_38 kH_145 (at_T hc.2.1 h1) rfl rfl (Nat.le_of_ble_eq_true rfl) rfl rfl rfl (by decide) (sT_seal hc t ha h1 ⟨by omega, by omega⟩ ) ?_
          have hc21 : zC g ((cT_seal γ t ha)).2 := wT_seal hc t ha h1 ⟨by omega, by omega⟩ 
          refine ev_iload_n 2 (q := 42) dH_propose_41 rfl (by rfl) rfl ?_
          refine zr_if_ne (t := 52) (q := 45) dH_propose_42 rfl rfl ⟨by omega, by omega⟩ (fun h22 => ?_) (fun h22 => ?_)
          · refine ev_aload_n 3 (q := 53) dH_propose_52 rfl (by rfl) rfl ?_
            refine ev_iconst (v := iI 2) (q := 54) dH_propose_53 rfl rfl ?_
            refine zr_puti (q := 57) dH_propose_54 gH_68 (at_T hc21.2.1 (ztx_fr h1 (kT_seal (γ := γ) t ha (c := 0) (by decide) (by decide) (by decide)))) (Nat.le_of_ble_eq_true rfl) rfl (ct_stage hc21.2.1 (ztx_fr h1 (kT_seal (γ := γ) t ha (c := 0) (by decide) (by decide) (by decide)))) rfl ?_
            have hc23 : zC g (z_up ((cT_seal γ t ha)).2 25 t 2) := zC_up hc21 (by decide) (by decide) (by decide) (show (0 : Int) ≤ 2 by omega) (show 2 ≤ (9 : Int) by omega)
            refine ev_aload_n 0 (q := 58) dH_propose_57 rfl (by rfl) rfl ?_
            refine ev_aload_n 3 (q := 59) dH_propose_58 rfl (by rfl) rfl ?_
            refine cv_V (As := [_]) (q := 62) dH_propose_59 kH_152 at_H rfl rfl (Nat.le_of_ble_eq_true rfl) rfl rfl rfl (by decide) (sH_sendNotarise hc23 t (ztx_fr h1 (kT_seal (γ := γ) t ha (c := 0) (by decide) (by decide) (by decide))) ) ?_
            have hc24 : zC g ((cH_sendNotarise (z_up ((cT_seal γ t ha)).2 25 t 2) t)).2 := wH_sendNotarise hc23 t (ztx_fr h1 (kT_seal (γ := γ) t ha (c := 0) (by decide) (by decide) (by decide))) 
            exact zr_iret dH_propose_62 rfl ⟨by rw [cH_propose, if_pos h1, if_pos h3, if_neg (fun z => z h4), if_pos h20, if_pos h22], by rw [cH_propose, if_pos h1, if_pos h3, if_neg (fun z => z h4), if_pos h20, if_pos h22]⟩
          · refine ev_aload_n 3 (q := 46) dH_propose_45 rfl (by rfl) rfl ?_
            refine cv_V (As := []) (q := 49) dH_propose_46 kH_149 (at_T hc21.2.1 (ztx_fr h1 (kT_seal (γ := γ) t ha (c := 0) (by decide) (by decide) (by decide)))) rfl rfl (Nat.le_of_ble_eq_true rfl) rfl rfl rfl (by decide) (sT_needsNobodyElse hc21 t (ztx_fr h1 (kT_seal (γ := γ) t ha (c := 0) (by decide) (by decide) (by decide))) ) ?_
            have g26 : (cT_needsNobodyElse ((cT_seal γ t ha)).2 t) = 0 ∨ (cT_needsNobodyElse ((cT_seal γ t ha)).2 t) = 1 := bT_needsNobodyElse _ _
            refine zr_if_eq (t := 63) (q := 52) dH_propose_49 rfl rfl ⟨by omega, by omega⟩ (fun h27 => ?_) (fun h27 => ?_)
            · refine ev_aload_n 3 (q := 64) dH_propose_63 rfl (by rfl) rfl ?_
              refine ev_iconst (v := iI 1) (q := 65) dH_propose_64 rfl rfl ?_
              refine zr_puti (q := 68) dH_propose_65 gH_68 (at_T hc21.2.1 (ztx_fr h1 (kT_seal (γ := γ) t ha (c := 0) (by decide) (by decide) (by decide)))) (Nat.le_of_ble_eq_true rfl) rfl (ct_stage hc21.2.1 (ztx_fr h1 (kT_seal (γ := γ) t ha (c := 0) (by decide) (by decide) (by decide)))) rfl ?_
              have hc28 : zC g (z_up ((cT_seal γ t ha)).2 25 t 1) := zC_up hc21 (by decide) (by decide) (by decide) (show (0 : Int) ≤ 1 by omega) (show 1 ≤ (9 : Int) by omega)
              refine ev_aload_n 0 (q := 69) dH_propose_68 rfl (by rfl) rfl ?_
              refine ev_iconst (v := iI 0) (q := 70) dH_propose_69 rfl rfl ?_
              refine ev_aload_n 3 (q := 71) dH_propose_70 rfl (by rfl) rfl ?_
              refine ev_aload_n 3 (q := 72) dH_propose_71 rfl (by rfl) rfl ?_
              refine ev_get (q := 75) (v := zi (((cT_seal γ t ha)).2 26 t)) dH_propose_72 fH_156 (at_T hc28.2.1 (ztx_fr h1 (kT_seal (γ := γ) t ha (c := 0) (by decide) (by decide) (by decide)))) rfl rfl ?_
              have g29 : 0 ≤ ((cT_seal γ t ha)).2 26 t ∧ ((cT_seal γ t ha)).2 26 t ≤ 15 := hc21.1 26 t (by decide)
              refine cv_V (As := [_, _, _]) (q := 78) dH_propose_75 kH_159 at_H rfl rfl (Nat.le_of_ble_eq_true rfl) rfl rfl rfl (by decide) (sH_sendToOthers hc28 0 t (((cT_seal γ t ha)).2 26 t) ⟨by omega, by omega⟩ (ztx_fr h1 (kT_seal (γ := γ) t ha (c := 0) (by decide) (by decide) (by decide))) ⟨by omega, by omega⟩ ) ?_
              have hc30 : zC g ((cH_sendToOthers (z_up ((cT_seal γ t ha)).2 25 t 1) 0 t (((cT_seal γ t ha)).2 26 t))).2 := wH_sendToOthers hc28 0 t (((cT_seal γ t ha)).2 26 t) ⟨by omega, by omega⟩ (ztx_fr h1 (kT_seal (γ := γ) t ha (c := 0) (by decide) (by decide) (by decide))) ⟨by omega, by omega⟩ 
              exact zr_iret dH_propose_78 rfl ⟨by rw [cH_propose, if_pos h1, if_pos h3, if_neg (fun z => z h4), if_pos h20, if_neg (fun z => z h22), if_pos h27], by rw [cH_propose, if_pos h1, if_pos h3, if_neg (fun z => z h4), if_pos h20, if_neg (fun z => z h22), if_pos h27]⟩
            · refine ev_aload_n 3 (q := 53) dH_propose_52 rfl (by rfl) rfl ?_
              refine ev_iconst (v := iI 2) (q := 54) dH_propose_53 rfl rfl ?_
              refine zr_puti (q := 57) dH_propose_54 gH_68 (at_T hc21.2.1 (ztx_fr h1 (kT_seal (γ := γ) t ha (c := 0) (by decide) (by decide) (by decide)))) (Nat.le_of_ble_eq_true rfl) rfl (ct_stage hc21.2.1 (ztx_fr h1 (kT_seal (γ := γ) t ha (c := 0) (by decide) (by decide) (by decide)))) rfl ?_
              have hc32 : zC g (z_up ((cT_seal γ t ha)).2 25 t 2) := zC_up hc21 (by decide) (by decide) (by decide) (show (0 : Int) ≤ 2 by omega) (show 2 ≤ (9 : Int) by omega)
              refine ev_aload_n 0 (q := 58) dH_propose_57 rfl (by rfl) rfl ?_
              refine ev_aload_n 3 (q := 59) dH_propose_58 rfl (by rfl) rfl ?_
              refine cv_V (As := [_]) (q := 62) dH_propose_59 kH_152 at_H rfl rfl (Nat.le_of_ble_eq_true rfl) rfl rfl rfl (by decide) (sH_sendNotarise hc32 t (ztx_fr h1 (kT_seal (γ := γ) t ha (c := 0) (by decide) (by decide) (by decide))) ) ?_
              have hc33 : zC g ((cH_sendNotarise (z_up ((cT_seal γ t ha)).2 25 t 2) t)).2 := wH_sendNotarise hc32 t (ztx_fr h1 (kT_seal (γ := γ) t ha (c := 0) (by decide) (by decide) (by decide))) 
              exact zr_iret dH_propose_62 rfl ⟨by rw [cH_propose, if_pos h1, if_pos h3, if_neg (fun z => z h4), if_pos h20, if_neg (fun z => z h22), if_neg h27], by rw [cH_propose, if_pos h1, if_pos h3, if_neg (fun z => z h4), if_pos h20, if_neg (fun z => z h22), if_neg h27]⟩
        · refine ev_bipush (v := iI (-8)) (q := 35) dH_propose_33 (by decide) rfl ?_
          exact zr_iret dH_propose_35 rfl ⟨by rw [cH_propose, if_pos h1, if_pos h3, if_neg (fun z => z h4), if_neg (fun z => z h20)], by rw [cH_propose, if_pos h1, if_pos h3, if_neg (fun z => z h4), if_neg (fun z => z h20)]⟩
    · refine ev_bipush (v := iI (-2)) (q := 21) dH_propose_19 (by decide) rfl ?_
      exact zr_iret dH_propose_21 rfl ⟨by rw [cH_propose, if_pos h1, if_neg h3], by rw [cH_propose, if_pos h1, if_neg h3]⟩
  · refine cv_V (As := [_]) (q := 5) dH_propose_2 kH_60 at_H rfl rfl (Nat.le_of_ble_eq_true rfl) rfl rfl rfl (by decide) (sH_find_n hc t ⟨by omega, by omega⟩ h1) ?_
    refine ev_astore_nN 3 (q := 6) dH_propose_5 rfl (by decide) rfl rfl ?_
    dsimp only [List.set]
    refine ev_aload_nN 3 (q := 7) dH_propose_6 rfl (by rfl) rfl ?_
    refine ev_ifnonnullN (q := 10) dH_propose_7 rfl ?_
    refine ev_iconst (v := iI (-1)) (q := 11) dH_propose_10 rfl rfl ?_
    exact zr_iret dH_propose_11 rfl ⟨by rw [cH_propose, if_neg h1], by rw [cH_propose, if_neg h1]⟩
set_option maxRecDepth 100000 in
set_option maxHeartbeats 4000000 in
theorem wH_propose {g : z_Gl} {γ : z_Sg} (hc : zC g γ) (t ha : Int) (hp0 : z_rg t) (hp1 : 0 ≤ ha ∧ ha ≤ 1) : zC g (cH_propose γ t ha).2 := by
  rw [cH_propose]
  by_cases h1 : 0 ≤ t ∧ t < (γ 0 0)
  · rw [if_pos h1]
    have g2 : 0 ≤ γ 25 t ∧ γ 25 t ≤ 9 := hc.1 25 t (by decide)
    by_cases h3 : (γ 25 t) = 0
    · rw [if_pos h3]
      by_cases h4 : ha ≠ 0
      · rw [if_pos h4]
        have hc5 : zC g ((cT_seal γ t ha)).2 := wT_seal hc t ha h1 ⟨by omega, by omega⟩ 
        by_cases h6 : ha ≠ 0
        · rw [if_pos h6]
          have hc7 : zC g (z_up ((cT_seal γ t ha)).2 25 t 2) := zC_up hc5 (by decide) (by decide) (by decide) (show (0 : Int) ≤ 2 by omega) (show 2 ≤ (9 : Int) by omega)
          have hc8 : zC g ((cH_sendNotarise (z_up ((cT_seal γ t ha)).2 25 t 2) t)).2 := wH_sendNotarise hc7 t (ztx_fr h1 (kT_seal (γ := γ) t ha (c := 0) (by decide) (by decide) (by decide))) 
          exact hc8
        · rw [if_neg h6]
          have g10 : (cT_needsNobodyElse ((cT_seal γ t ha)).2 t) = 0 ∨ (cT_needsNobodyElse ((cT_seal γ t ha)).2 t) = 1 := bT_needsNobodyElse _ _
          by_cases h11 : (cT_needsNobodyElse ((cT_seal γ t ha)).2 t) = 0
          · rw [if_pos h11]
            have hc12 : zC g (z_up ((cT_seal γ t ha)).2 25 t 1) := zC_up hc5 (by decide) (by decide) (by decide) (show (0 : Int) ≤ 1 by omega) (show 1 ≤ (9 : Int) by omega)
            have g13 : 0 ≤ ((cT_seal γ t ha)).2 26 t ∧ ((cT_seal γ t ha)).2 26 t ≤ 15 := hc5.1 26 t (by decide)
            have hc14 : zC g ((cH_sendToOthers (z_up ((cT_seal γ t ha)).2 25 t 1) 0 t (((cT_seal γ t ha)).2 26 t))).2 := wH_sendToOthers hc12 0 t (((cT_seal γ t ha)).2 26 t) ⟨by omega, by omega⟩ (ztx_fr h1 (kT_seal (γ := γ) t ha (c := 0) (by decide) (by decide) (by decide))) ⟨by omega, by omega⟩ 
            exact hc14
          · rw [if_neg h11]
            have hc16 : zC g (z_up ((cT_seal γ t ha)).2 25 t 2) := zC_up hc5 (by decide) (by decide) (by decide) (show (0 : Int) ≤ 2 by omega) (show 2 ≤ (9 : Int) by omega)
            have hc17 : zC g ((cH_sendNotarise (z_up ((cT_seal γ t ha)).2 25 t 2) t)).2 := wH_sendNotarise hc16 t (ztx_fr h1 (kT_seal (γ := γ) t ha (c := 0) (by decide) (by decide) (by decide))) 
            exact hc17
      · rw [if_neg h4]
        have g19 : (cT_isValid γ t) = 0 ∨ (cT_isValid γ t) = 1 := bT_isValid _ _
        by_cases h20 : (cT_isValid γ t) ≠ 0
        · rw [if_pos h20]
          have hc21 : zC g ((cT_seal γ t ha)).2 := wT_seal hc t ha h1 ⟨by omega, by omega⟩ 
          by_cases h22 : ha ≠ 0
          · rw [if_pos h22]
            have hc23 : zC g (z_up ((cT_seal γ t ha)).2 25 t 2) := zC_up hc21 (by decide) (by decide) (by decide) (show (0 : Int) ≤ 2 by omega) (show 2 ≤ (9 : Int) by omega)
            have hc24 : zC g ((cH_sendNotarise (z_up ((cT_seal γ t ha)).2 25 t 2) t)).2 := wH_sendNotarise hc23 t (ztx_fr h1 (kT_seal (γ := γ) t ha (c := 0) (by decide) (by decide) (by decide))) 
            exact hc24
          · rw [if_neg h22]
            have g26 : (cT_needsNobodyElse ((cT_seal γ t ha)).2 t) = 0 ∨ (cT_needsNobodyElse ((cT_seal γ t ha)).2 t) = 1 := bT_needsNobodyElse _ _
            by_cases h27 : (cT_needsNobodyElse ((cT_seal γ t ha)).2 t) = 0
            · rw [if_pos h27]
              have hc28 : zC g (z_up ((cT_seal γ t ha)).2 25 t 1) := zC_up hc21 (by decide) (by decide) (by decide) (show (0 : Int) ≤ 1 by omega) (show 1 ≤ (9 : Int) by omega)
              have g29 : 0 ≤ ((cT_seal γ t ha)).2 26 t ∧ ((cT_seal γ t ha)).2 26 t ≤ 15 := hc21.1 26 t (by decide)
              have hc30 : zC g ((cH_sendToOthers (z_up ((cT_seal γ t ha)).2 25 t 1) 0 t (((cT_seal γ t ha)).2 26 t))).2 := wH_sendToOthers hc28 0 t (((cT_seal γ t ha)).2 26 t) ⟨by omega, by omega⟩ (ztx_fr h1 (kT_seal (γ := γ) t ha (c := 0) (by decide) (by decide) (by decide))) ⟨by omega, by omega⟩ 
              exact hc30
            · rw [if_neg h27]
              have hc32 : zC g (z_up ((cT_seal γ t ha)).2 25 t 2) := zC_up hc21 (by decide) (by decide) (by decide) (show (0 : Int) ≤ 2 by omega) (show 2 ≤ (9 : Int) by omega)
              have hc33 : zC g ((cH_sendNotarise (z_up ((cT_seal γ t ha)).2 25 t 2) t)).2 := wH_sendNotarise hc32 t (ztx_fr h1 (kT_seal (γ := γ) t ha (c := 0) (by decide) (by decide) (by decide))) 
              exact hc33
        · rw [if_neg h20]
          exact hc
    · rw [if_neg h3]
      exact hc
  · rw [if_neg h1]
    exact hc

theorem kH_propose {γ : z_Sg} (t ha : Int) {c : Nat} (h0 : c ≠ 28) (h1 : c ≠ 26) (h2 : c ≠ 27) (h3 : c ≠ 25) (h4 : c ≠ 7) (h5 : c ≠ 6) : (cH_propose γ t ha).2 c = γ c := by
  unfold cH_propose
  repeat' split
  all_goals first | rfl | (simp only [z_up_n h0, z_up_n h1, z_up_n h2, z_up_n h3, z_up_n h4, z_up_n h5, kT_seal _ _ h0 h1 h2, kH_sendNotarise _ h4 h5, kH_sendToOthers _ _ _ h4 h5])
