def c_0 : z_Sg := fun c i => match c with
  | 5 => 15
  | 8 => if 0 ≤ i ∧ i < 80 then -1 else 0
  | _ => 0

set_option maxRecDepth 100000 in
set_option maxHeartbeats 4000000 in
theorem sH_init {a : Int → Nat} : z_Sp mH_init (2, 40) 11 438 [.ref 0] [.inr (0, [.null, zi 0, .null, .null, .null, .null, .null, zi 0])] (fun r M' => r = none ∧ M' = fixC c_0 a) := by
  have hn : (fun _ : Int => (none : Option Nat)) = (fun i : Int => if 0 ≤ i ∧ i < 0 then some (a i) else none) := by
    funext i
    rw [if_neg (by omega)]
  have ht : (zup (zup (zup (zup (fun _ => none) 0 (some 3)) 1 (some 4)) 2 (some 5)) 3 (some 6)) = (fun i : Int => if 0 ≤ i ∧ i < 4 then some (3 + i.toNat) else none) := by
    funext i
    by_cases h : 0 ≤ i ∧ i < 4
    · have hc : i = 0 ∨ i = 1 ∨ i = 2 ∨ i = 3 := by omega
      rcases hc with rfl | rfl | rfl | rfl <;> rfl
    · rw [if_neg h, zup_n (by omega), zup_n (by omega), zup_n (by omega), zup_n (by omega)]
  refine z_Sp_of (L := [.ref 0, .float 0]) (by decide) rfl rfl rfl (Nat.le_of_ble_eq_true rfl) ?_
  refine ev_aload_n 0 (q := 1) dH_init_0 rfl (by rfl) rfl ?_
  refine ev_obj (q := 4) dH_init_1 wmH_3 wiJO_init woJO_init (Nat.le_of_ble_eq_true rfl) rfl (by decide) rfl ?_
  refine ev_aload_n 0 (q := 5) dH_init_4 rfl (by rfl) rfl ?_
  refine ev_bipush (v := iI 20) (q := 7) dH_init_5 (by decide) rfl ?_
  refine zr_newq (n := 20) (t := 2) (kc := 10) (ks := 418) (q := 10) dH_init_7 wcH_9 (by decide) (fun _ => rfl) (by decide) rfl ?_
  show z_Ev mH_init (2, 40) 10 418 10 [.ref 0, .float 0] [.ref 1, .ref 0] [.inr (0, [.null, zi 0, .null, .null, .null, .null, .null, zi 0]), zP 2 20 (fun _ => none)] _
  refine ev_putF (v := .ref 1) (k := 0) (M' := [.inr (0, [.ref 1, zi 0, .null, .null, .null, .null, .null, zi 0]), zP 2 20 (fun _ => none)]) (q := 13) dH_init_10 gH_11 rfl rfl (by rfl) (fun _ _ => ⟨rfl, rfl⟩) (Nat.le_of_ble_eq_true rfl) rfl rfl rfl ?_
  refine ev_aload_n 0 (q := 14) dH_init_13 rfl (by rfl) rfl ?_
  refine ev_iconst (v := iI 4) (q := 15) dH_init_14 rfl rfl ?_
  refine zr_newq (n := 4) (t := 4) (kc := 9) (ks := 414) (q := 18) dH_init_15 wcH_15 (by decide) (fun _ => rfl) (by decide) rfl ?_
  show z_Ev mH_init (2, 40) 9 414 18 [.ref 0, .float 0] [.ref 2, .ref 0] [.inr (0, [.ref 1, zi 0, .null, .null, .null, .null, .null, zi 0]), zP 2 20 (fun _ => none), zP 4 4 (fun _ => none)] _
  refine ev_putF (v := .ref 2) (k := 0) (M' := [.inr (0, [.ref 1, zi 0, .ref 2, .null, .null, .null, .null, zi 0]), zP 2 20 (fun _ => none), zP 4 4 (fun _ => none)]) (q := 21) dH_init_18 gH_17 rfl rfl (by rfl) (fun _ _ => ⟨rfl, rfl⟩) (Nat.le_of_ble_eq_true rfl) rfl rfl rfl ?_
  refine ev_iconst (v := iI 0) (q := 22) dH_init_21 rfl rfl ?_
  refine ev_istore_n 1 (q := 23) dH_init_22 rfl (by decide) rfl rfl ?_
  dsimp only [List.set]
  refine ev_iload_n 1 (q := 24) dH_init_23 rfl (by rfl) rfl ?_
  refine ev_iconst (v := iI 4) (q := 25) dH_init_24 rfl rfl ?_
  refine zr_icmp_ge (t := 47) (q := 28) dH_init_25 rfl rfl ⟨by omega, by omega⟩ ⟨by omega, by omega⟩ (fun h => absurd h (by decide)) (fun h => ?_)
  refine ev_aload_n 0 (q := 29) dH_init_28 rfl (by rfl) rfl ?_
  refine ev_get (k := 0) (q := 32) (v := .ref 2) dH_init_29 fH_17 (by rfl) rfl rfl ?_
  refine ev_iload_n 1 (q := 33) dH_init_32 rfl (by rfl) rfl ?_
  refine ev_new (n := 4) (kc := 8) (ks := 410) (q := 36) dH_init_33 nH_15 rfl ?_
  show z_Ev mH_init (2, 40) 8 410 36 [.ref 0, zi 0] [.ref 3, zi 0, .ref 2] [.inr (0, [.ref 1, zi 0, .ref 2, .null, .null, .null, .null, zi 0]), zP 2 20 (fun _ => none), zP 4 4 (fun _ => none), .inr (1, [zi 0, zi 0, zi 0, zi 0])] _
  refine ev_dup (q := 37) dH_init_36 rfl rfl ?_
  refine cv_I (As := []) (M1 := [.inr (0, [.ref 1, zi 0, .ref 2, .null, .null, .null, .null, zi 0]), zP 2 20 (fun _ => none), zP 4 4 (fun _ => none)] ++ [.inr (1, [zi 0, zi 0, zi 0, zi 15])]) (kc := 8) (ks := 410) (q := 40) dH_init_37 kH_21 rfl (Nat.le_of_ble_eq_true rfl) rfl rfl rfl (Nat.zero_add _) (Nat.zero_add _) (by decide) (sN_init (B := [.inr (0, [.ref 1, zi 0, .ref 2, .null, .null, .null, .null, zi 0]), zP 2 20 (fun _ => none), zP 4 4 (fun _ => none)]) rfl) ?_
  show z_Ev mH_init (2, 40) 8 410 40 [.ref 0, zi 0] [.ref 3, zi 0, .ref 2] [.inr (0, [.ref 1, zi 0, .ref 2, .null, .null, .null, .null, zi 0]), zP 2 20 (fun _ => none), zP 4 4 (fun _ => none), .inr (1, [zi 0, zi 0, zi 0, zi 15])] _
  refine zr_aast (M' := [.inr (0, [.ref 1, zi 0, .ref 2, .null, .null, .null, .null, zi 0]), zP 2 20 (fun _ => none), zP 4 4 (zup (fun _ => none) 0 (some 3)), .inr (1, [zi 0, zi 0, zi 0, zi 15])]) (q := 41) (f := (fun _ => none)) dH_init_40 (fun _ => ⟨_, rfl, rfl⟩) (k := 2) (by rfl) (v := 3) (by rfl) (by decide) ⟨by omega, by omega⟩ rfl rfl ?_
  refine zr_iinc (q := 44) dH_init_41 (by rfl) (by decide) rfl rfl ?_
  refine ev_goto (t := 23) (q := 23) dH_init_44 rfl rfl ?_
  show z_Ev mH_init (2, 40) 8 410 23 [.ref 0, zi 1] [] [.inr (0, [.ref 1, zi 0, .ref 2, .null, .null, .null, .null, zi 0]), zP 2 20 (fun _ => none), zP 4 4 (zup (fun _ => none) 0 (some 3)), .inr (1, [zi 0, zi 0, zi 0, zi 15])] _
  refine ev_iload_n 1 (q := 24) dH_init_23 rfl (by rfl) rfl ?_
  refine ev_iconst (v := iI 4) (q := 25) dH_init_24 rfl rfl ?_
  refine zr_icmp_ge (t := 47) (q := 28) dH_init_25 rfl rfl ⟨by omega, by omega⟩ ⟨by omega, by omega⟩ (fun h => absurd h (by decide)) (fun h => ?_)
  refine ev_aload_n 0 (q := 29) dH_init_28 rfl (by rfl) rfl ?_
  refine ev_get (k := 0) (q := 32) (v := .ref 2) dH_init_29 fH_17 (by rfl) rfl rfl ?_
  refine ev_iload_n 1 (q := 33) dH_init_32 rfl (by rfl) rfl ?_
  refine ev_new (n := 4) (kc := 7) (ks := 406) (q := 36) dH_init_33 nH_15 rfl ?_
  show z_Ev mH_init (2, 40) 7 406 36 [.ref 0, zi 1] [.ref 4, zi 1, .ref 2] [.inr (0, [.ref 1, zi 0, .ref 2, .null, .null, .null, .null, zi 0]), zP 2 20 (fun _ => none), zP 4 4 (zup (fun _ => none) 0 (some 3)), .inr (1, [zi 0, zi 0, zi 0, zi 15]), .inr (1, [zi 0, zi 0, zi 0, zi 0])] _
  refine ev_dup (q := 37) dH_init_36 rfl rfl ?_
  refine cv_I (As := []) (M1 := [.inr (0, [.ref 1, zi 0, .ref 2, .null, .null, .null, .null, zi 0]), zP 2 20 (fun _ => none), zP 4 4 (zup (fun _ => none) 0 (some 3)), .inr (1, [zi 0, zi 0, zi 0, zi 15])] ++ [.inr (1, [zi 0, zi 0, zi 0, zi 15])]) (kc := 7) (ks := 406) (q := 40) dH_init_37 kH_21 rfl (Nat.le_of_ble_eq_true rfl) rfl rfl rfl (Nat.zero_add _) (Nat.zero_add _) (by decide) (sN_init (B := [.inr (0, [.ref 1, zi 0, .ref 2, .null, .null, .null, .null, zi 0]), zP 2 20 (fun _ => none), zP 4 4 (zup (fun _ => none) 0 (some 3)), .inr (1, [zi 0, zi 0, zi 0, zi 15])]) rfl) ?_
  show z_Ev mH_init (2, 40) 7 406 40 [.ref 0, zi 1] [.ref 4, zi 1, .ref 2] [.inr (0, [.ref 1, zi 0, .ref 2, .null, .null, .null, .null, zi 0]), zP 2 20 (fun _ => none), zP 4 4 (zup (fun _ => none) 0 (some 3)), .inr (1, [zi 0, zi 0, zi 0, zi 15]), .inr (1, [zi 0, zi 0, zi 0, zi 15])] _
  refine zr_aast (M' := [.inr (0, [.ref 1, zi 0, .ref 2, .null, .null, .null, .null, zi 0]), zP 2 20 (fun _ => none), zP 4 4 (zup (zup (fun _ => none) 0 (some 3)) 1 (some 4)), .inr (1, [zi 0, zi 0, zi 0, zi 15]), .inr (1, [zi 0, zi 0, zi 0, zi 15])]) (q := 41) (f := (zup (fun _ => none) 0 (some 3))) dH_init_40 (fun _ => ⟨_, rfl, rfl⟩) (k := 2) (by rfl) (v := 4) (by rfl) (by decide) ⟨by omega, by omega⟩ rfl rfl ?_
  refine zr_iinc (q := 44) dH_init_41 (by rfl) (by decide) rfl rfl ?_
  refine ev_goto (t := 23) (q := 23) dH_init_44 rfl rfl ?_
  show z_Ev mH_init (2, 40) 7 406 23 [.ref 0, zi 2] [] [.inr (0, [.ref 1, zi 0, .ref 2, .null, .null, .null, .null, zi 0]), zP 2 20 (fun _ => none), zP 4 4 (zup (zup (fun _ => none) 0 (some 3)) 1 (some 4)), .inr (1, [zi 0, zi 0, zi 0, zi 15]), .inr (1, [zi 0, zi 0, zi 0, zi 15])] _
  refine ev_iload_n 1 (q := 24) dH_init_23 rfl (by rfl) rfl ?_
  refine ev_iconst (v := iI 4) (q := 25) dH_init_24 rfl rfl ?_
  refine zr_icmp_ge (t := 47) (q := 28) dH_init_25 rfl rfl ⟨by omega, by omega⟩ ⟨by omega, by omega⟩ (fun h => absurd h (by decide)) (fun h => ?_)
  refine ev_aload_n 0 (q := 29) dH_init_28 rfl (by rfl) rfl ?_
  refine ev_get (k := 0) (q := 32) (v := .ref 2) dH_init_29 fH_17 (by rfl) rfl rfl ?_
  refine ev_iload_n 1 (q := 33) dH_init_32 rfl (by rfl) rfl ?_
  refine ev_new (n := 4) (kc := 6) (ks := 402) (q := 36) dH_init_33 nH_15 rfl ?_
  show z_Ev mH_init (2, 40) 6 402 36 [.ref 0, zi 2] [.ref 5, zi 2, .ref 2] [.inr (0, [.ref 1, zi 0, .ref 2, .null, .null, .null, .null, zi 0]), zP 2 20 (fun _ => none), zP 4 4 (zup (zup (fun _ => none) 0 (some 3)) 1 (some 4)), .inr (1, [zi 0, zi 0, zi 0, zi 15]), .inr (1, [zi 0, zi 0, zi 0, zi 15]), .inr (1, [zi 0, zi 0, zi 0, zi 0])] _
  refine ev_dup (q := 37) dH_init_36 rfl rfl ?_
  refine cv_I (As := []) (M1 := [.inr (0, [.ref 1, zi 0, .ref 2, .null, .null, .null, .null, zi 0]), zP 2 20 (fun _ => none), zP 4 4 (zup (zup (fun _ => none) 0 (some 3)) 1 (some 4)), .inr (1, [zi 0, zi 0, zi 0, zi 15]), .inr (1, [zi 0, zi 0, zi 0, zi 15])] ++ [.inr (1, [zi 0, zi 0, zi 0, zi 15])]) (kc := 6) (ks := 402) (q := 40) dH_init_37 kH_21 rfl (Nat.le_of_ble_eq_true rfl) rfl rfl rfl (Nat.zero_add _) (Nat.zero_add _) (by decide) (sN_init (B := [.inr (0, [.ref 1, zi 0, .ref 2, .null, .null, .null, .null, zi 0]), zP 2 20 (fun _ => none), zP 4 4 (zup (zup (fun _ => none) 0 (some 3)) 1 (some 4)), .inr (1, [zi 0, zi 0, zi 0, zi 15]), .inr (1, [zi 0, zi 0, zi 0, zi 15])]) rfl) ?_
  show z_Ev mH_init (2, 40) 6 402 40 [.ref 0, zi 2] [.ref 5, zi 2, .ref 2] [.inr (0, [.ref 1, zi 0, .ref 2, .null, .null, .null, .null, zi 0]), zP 2 20 (fun _ => none), zP 4 4 (zup (zup (fun _ => none) 0 (some 3)) 1 (some 4)), .inr (1, [zi 0, zi 0, zi 0, zi 15]), .inr (1, [zi 0, zi 0, zi 0, zi 15]), .inr (1, [zi 0, zi 0, zi 0, zi 15])] _
  refine zr_aast (M' := [.inr (0, [.ref 1, zi 0, .ref 2, .null, .null, .null, .null, zi 0]), zP 2 20 (fun _ => none), zP 4 4 (zup (zup (zup (fun _ => none) 0 (some 3)) 1 (some 4)) 2 (some 5)), .inr (1, [zi 0, zi 0, zi 0, zi 15]), .inr (1, [zi 0, zi 0, zi 0, zi 15]), .inr (1, [zi 0, zi 0, zi 0, zi 15])]) (q := 41) (f := (zup (zup (fun _ => none) 0 (some 3)) 1 (some 4))) dH_init_40 (fun _ => ⟨_, rfl, rfl⟩) (k := 2) (by rfl) (v := 5) (by rfl) (by decide) ⟨by omega, by omega⟩ rfl rfl ?_
  refine zr_iinc (q := 44) dH_init_41 (by rfl) (by decide) rfl rfl ?_
  refine ev_goto (t := 23) (q := 23) dH_init_44 rfl rfl ?_
  show z_Ev mH_init (2, 40) 6 402 23 [.ref 0, zi 3] [] [.inr (0, [.ref 1, zi 0, .ref 2, .null, .null, .null, .null, zi 0]), zP 2 20 (fun _ => none), zP 4 4 (zup (zup (zup (fun _ => none) 0 (some 3)) 1 (some 4)) 2 (some 5)), .inr (1, [zi 0, zi 0, zi 0, zi 15]), .inr (1, [zi 0, zi 0, zi 0, zi 15]), .inr (1, [zi 0, zi 0, zi 0, zi 15])] _
  refine ev_iload_n 1 (q := 24) dH_init_23 rfl (by rfl) rfl ?_
  refine ev_iconst (v := iI 4) (q := 25) dH_init_24 rfl rfl ?_
  refine zr_icmp_ge (t := 47) (q := 28) dH_init_25 rfl rfl ⟨by omega, by omega⟩ ⟨by omega, by omega⟩ (fun h => absurd h (by decide)) (fun h => ?_)
  refine ev_aload_n 0 (q := 29) dH_init_28 rfl (by rfl) rfl ?_
  refine ev_get (k := 0) (q := 32) (v := .ref 2) dH_init_29 fH_17 (by rfl) rfl rfl ?_
  refine ev_iload_n 1 (q := 33) dH_init_32 rfl (by rfl) rfl ?_
  refine ev_new (n := 4) (kc := 5) (ks := 398) (q := 36) dH_init_33 nH_15 rfl ?_
  show z_Ev mH_init (2, 40) 5 398 36 [.ref 0, zi 3] [.ref 6, zi 3, .ref 2] [.inr (0, [.ref 1, zi 0, .ref 2, .null, .null, .null, .null, zi 0]), zP 2 20 (fun _ => none), zP 4 4 (zup (zup (zup (fun _ => none) 0 (some 3)) 1 (some 4)) 2 (some 5)), .inr (1, [zi 0, zi 0, zi 0, zi 15]), .inr (1, [zi 0, zi 0, zi 0, zi 15]), .inr (1, [zi 0, zi 0, zi 0, zi 15]), .inr (1, [zi 0, zi 0, zi 0, zi 0])] _
  refine ev_dup (q := 37) dH_init_36 rfl rfl ?_
  refine cv_I (As := []) (M1 := [.inr (0, [.ref 1, zi 0, .ref 2, .null, .null, .null, .null, zi 0]), zP 2 20 (fun _ => none), zP 4 4 (zup (zup (zup (fun _ => none) 0 (some 3)) 1 (some 4)) 2 (some 5)), .inr (1, [zi 0, zi 0, zi 0, zi 15]), .inr (1, [zi 0, zi 0, zi 0, zi 15]), .inr (1, [zi 0, zi 0, zi 0, zi 15])] ++ [.inr (1, [zi 0, zi 0, zi 0, zi 15])]) (kc := 5) (ks := 398) (q := 40) dH_init_37 kH_21 rfl (Nat.le_of_ble_eq_true rfl) rfl rfl rfl (Nat.zero_add _) (Nat.zero_add _) (by decide) (sN_init (B := [.inr (0, [.ref 1, zi 0, .ref 2, .null, .null, .null, .null, zi 0]), zP 2 20 (fun _ => none), zP 4 4 (zup (zup (zup (fun _ => none) 0 (some 3)) 1 (some 4)) 2 (some 5)), .inr (1, [zi 0, zi 0, zi 0, zi 15]), .inr (1, [zi 0, zi 0, zi 0, zi 15]), .inr (1, [zi 0, zi 0, zi 0, zi 15])]) rfl) ?_
  show z_Ev mH_init (2, 40) 5 398 40 [.ref 0, zi 3] [.ref 6, zi 3, .ref 2] [.inr (0, [.ref 1, zi 0, .ref 2, .null, .null, .null, .null, zi 0]), zP 2 20 (fun _ => none), zP 4 4 (zup (zup (zup (fun _ => none) 0 (some 3)) 1 (some 4)) 2 (some 5)), .inr (1, [zi 0, zi 0, zi 0, zi 15]), .inr (1, [zi 0, zi 0, zi 0, zi 15]), .inr (1, [zi 0, zi 0, zi 0, zi 15]), .inr (1, [zi 0, zi 0, zi 0, zi 15])] _
  refine zr_aast (M' := [.inr (0, [.ref 1, zi 0, .ref 2, .null, .null, .null, .null, zi 0]), zP 2 20 (fun _ => none), zP 4 4 (zup (zup (zup (zup (fun _ => none) 0 (some 3)) 1 (some 4)) 2 (some 5)) 3 (some 6)), .inr (1, [zi 0, zi 0, zi 0, zi 15]), .inr (1, [zi 0, zi 0, zi 0, zi 15]), .inr (1, [zi 0, zi 0, zi 0, zi 15]), .inr (1, [zi 0, zi 0, zi 0, zi 15])]) (q := 41) (f := (zup (zup (zup (fun _ => none) 0 (some 3)) 1 (some 4)) 2 (some 5))) dH_init_40 (fun _ => ⟨_, rfl, rfl⟩) (k := 2) (by rfl) (v := 6) (by rfl) (by decide) ⟨by omega, by omega⟩ rfl rfl ?_
  refine zr_iinc (q := 44) dH_init_41 (by rfl) (by decide) rfl rfl ?_
  refine ev_goto (t := 23) (q := 23) dH_init_44 rfl rfl ?_
  show z_Ev mH_init (2, 40) 5 398 23 [.ref 0, zi 4] [] [.inr (0, [.ref 1, zi 0, .ref 2, .null, .null, .null, .null, zi 0]), zP 2 20 (fun _ => none), zP 4 4 (zup (zup (zup (zup (fun _ => none) 0 (some 3)) 1 (some 4)) 2 (some 5)) 3 (some 6)), .inr (1, [zi 0, zi 0, zi 0, zi 15]), .inr (1, [zi 0, zi 0, zi 0, zi 15]), .inr (1, [zi 0, zi 0, zi 0, zi 15]), .inr (1, [zi 0, zi 0, zi 0, zi 15])] _
  refine ev_iload_n 1 (q := 24) dH_init_23 rfl (by rfl) rfl ?_
  refine ev_iconst (v := iI 4) (q := 25) dH_init_24 rfl rfl ?_
  refine zr_icmp_ge (t := 47) (q := 28) dH_init_25 rfl rfl ⟨by omega, by omega⟩ ⟨by omega, by omega⟩ (fun h => ?_) (fun h => absurd h (by decide))
  refine ev_aload_n 0 (q := 48) dH_init_47 rfl (by rfl) rfl ?_
  refine ev_new (n := 2) (kc := 4) (ks := 396) (q := 51) dH_init_48 nH_22 rfl ?_
  show z_Ev mH_init (2, 40) 4 396 51 [.ref 0, zi 4] [.ref 7, .ref 0] [.inr (0, [.ref 1, zi 0, .ref 2, .null, .null, .null, .null, zi 0]), zP 2 20 (fun _ => none), zP 4 4 (zup (zup (zup (zup (fun _ => none) 0 (some 3)) 1 (some 4)) 2 (some 5)) 3 (some 6)), .inr (1, [zi 0, zi 0, zi 0, zi 15]), .inr (1, [zi 0, zi 0, zi 0, zi 15]), .inr (1, [zi 0, zi 0, zi 0, zi 15]), .inr (1, [zi 0, zi 0, zi 0, zi 15]), .inr (2, [.null, zi 0])] _
  refine ev_dup (q := 52) dH_init_51 rfl rfl ?_
  refine cv_I (As := []) (kc := 3) (ks := 176) (q := 55) dH_init_52 kH_24 rfl (Nat.le_of_ble_eq_true rfl) rfl rfl rfl rfl rfl (by decide) (sB_init (B := [.inr (0, [.ref 1, zi 0, .ref 2, .null, .null, .null, .null, zi 0]), zP 2 20 (fun _ => none), zP 4 4 (zup (zup (zup (zup (fun _ => none) 0 (some 3)) 1 (some 4)) 2 (some 5)) 3 (some 6)), .inr (1, [zi 0, zi 0, zi 0, zi 15]), .inr (1, [zi 0, zi 0, zi 0, zi 15]), .inr (1, [zi 0, zi 0, zi 0, zi 15]), .inr (1, [zi 0, zi 0, zi 0, zi 15])]) rfl) ?_
  show z_Ev mH_init (2, 40) 3 176 55 [.ref 0, zi 4] [.ref 7, .ref 0] [.inr (0, [.ref 1, zi 0, .ref 2, .null, .null, .null, .null, zi 0]), zP 2 20 (fun _ => none), zP 4 4 (zup (zup (zup (zup (fun _ => none) 0 (some 3)) 1 (some 4)) 2 (some 5)) 3 (some 6)), .inr (1, [zi 0, zi 0, zi 0, zi 15]), .inr (1, [zi 0, zi 0, zi 0, zi 15]), .inr (1, [zi 0, zi 0, zi 0, zi 15]), .inr (1, [zi 0, zi 0, zi 0, zi 15]), .inr (2, [.ref 8, zi 0]), zA 0 220 (fun _ => 0)] _
  refine ev_putF (v := .ref 7) (k := 0) (M' := [.inr (0, [.ref 1, zi 0, .ref 2, .ref 7, .null, .null, .null, zi 0]), zP 2 20 (fun _ => none), zP 4 4 (zup (zup (zup (zup (fun _ => none) 0 (some 3)) 1 (some 4)) 2 (some 5)) 3 (some 6)), .inr (1, [zi 0, zi 0, zi 0, zi 15]), .inr (1, [zi 0, zi 0, zi 0, zi 15]), .inr (1, [zi 0, zi 0, zi 0, zi 15]), .inr (1, [zi 0, zi 0, zi 0, zi 15]), .inr (2, [.ref 8, zi 0]), zA 0 220 (fun _ => 0)]) (q := 58) dH_init_55 gH_25 rfl rfl (by rfl) (fun _ _ => ⟨rfl, rfl⟩) (Nat.le_of_ble_eq_true rfl) rfl rfl rfl ?_
  refine ev_aload_n 0 (q := 59) dH_init_58 rfl (by rfl) rfl ?_
  refine ev_bipush (v := iI 80) (q := 61) dH_init_59 (by decide) rfl ?_
  refine zr_newi (n := 80) (kc := 2) (ks := 96) (q := 63) dH_init_61 wa_int (by decide) rfl ?_
  show z_Ev mH_init (2, 40) 2 96 63 [.ref 0, zi 4] [.ref 9, .ref 0] [.inr (0, [.ref 1, zi 0, .ref 2, .ref 7, .null, .null, .null, zi 0]), zP 2 20 (fun _ => none), zP 4 4 (zup (zup (zup (zup (fun _ => none) 0 (some 3)) 1 (some 4)) 2 (some 5)) 3 (some 6)), .inr (1, [zi 0, zi 0, zi 0, zi 15]), .inr (1, [zi 0, zi 0, zi 0, zi 15]), .inr (1, [zi 0, zi 0, zi 0, zi 15]), .inr (1, [zi 0, zi 0, zi 0, zi 15]), .inr (2, [.ref 8, zi 0]), zA 0 220 (fun _ => 0), zA 0 80 (fun _ => 0)] _
  refine ev_putF (v := .ref 9) (k := 0) (M' := [.inr (0, [.ref 1, zi 0, .ref 2, .ref 7, .ref 9, .null, .null, zi 0]), zP 2 20 (fun _ => none), zP 4 4 (zup (zup (zup (zup (fun _ => none) 0 (some 3)) 1 (some 4)) 2 (some 5)) 3 (some 6)), .inr (1, [zi 0, zi 0, zi 0, zi 15]), .inr (1, [zi 0, zi 0, zi 0, zi 15]), .inr (1, [zi 0, zi 0, zi 0, zi 15]), .inr (1, [zi 0, zi 0, zi 0, zi 15]), .inr (2, [.ref 8, zi 0]), zA 0 220 (fun _ => 0), zA 0 80 (fun _ => 0)]) (q := 66) dH_init_63 gH_29 rfl rfl (by rfl) (fun _ _ => ⟨rfl, rfl⟩) (Nat.le_of_ble_eq_true rfl) rfl rfl rfl ?_
  refine ev_aload_n 0 (q := 67) dH_init_66 rfl (by rfl) rfl ?_
  refine ev_get (k := 0) (q := 70) (v := .ref 9) dH_init_67 fH_29 (by rfl) rfl rfl ?_
  refine ev_iconst (v := iI (-1)) (q := 71) dH_init_70 rfl rfl ?_
  refine cv_Sv (As := [_, _]) (q := 74) dH_init_71 kH_33 rfl (Nat.le_of_ble_eq_true rfl) rfl rfl rfl (by decide) (sJA_fill (M := [.inr (0, [.ref 1, zi 0, .ref 2, .ref 7, .ref 9, .null, .null, zi 0]), zP 2 20 (fun _ => none), zP 4 4 (zup (zup (zup (zup (fun _ => none) 0 (some 3)) 1 (some 4)) 2 (some 5)) 3 (some 6)), .inr (1, [zi 0, zi 0, zi 0, zi 15]), .inr (1, [zi 0, zi 0, zi 0, zi 15]), .inr (1, [zi 0, zi 0, zi 0, zi 15]), .inr (1, [zi 0, zi 0, zi 0, zi 15]), .inr (2, [.ref 8, zi 0]), zA 0 220 (fun _ => 0), zA 0 80 (fun _ => 0)]) (k := 9) (Nat.le_of_ble_eq_true rfl) (-1) (fun _ => 0) rfl) ?_
  show z_Ev mH_init (2, 40) 2 96 74 [.ref 0, zi 4] [] [.inr (0, [.ref 1, zi 0, .ref 2, .ref 7, .ref 9, .null, .null, zi 0]), zP 2 20 (fun _ => none), zP 4 4 (zup (zup (zup (zup (fun _ => none) 0 (some 3)) 1 (some 4)) 2 (some 5)) 3 (some 6)), .inr (1, [zi 0, zi 0, zi 0, zi 15]), .inr (1, [zi 0, zi 0, zi 0, zi 15]), .inr (1, [zi 0, zi 0, zi 0, zi 15]), .inr (1, [zi 0, zi 0, zi 0, zi 15]), .inr (2, [.ref 8, zi 0]), zA 0 220 (fun _ => 0), zA 0 80 (fun x => if 0 ≤ x ∧ x < 80 then -1 else 0)] _
  refine ev_aload_n 0 (q := 75) dH_init_74 rfl (by rfl) rfl ?_
  refine ev_bipush (v := iI 80) (q := 77) dH_init_75 (by decide) rfl ?_
  refine zr_newi (n := 80) (kc := 1) (ks := 16) (q := 79) dH_init_77 wa_int (by decide) rfl ?_
  show z_Ev mH_init (2, 40) 1 16 79 [.ref 0, zi 4] [.ref 10, .ref 0] [.inr (0, [.ref 1, zi 0, .ref 2, .ref 7, .ref 9, .null, .null, zi 0]), zP 2 20 (fun _ => none), zP 4 4 (zup (zup (zup (zup (fun _ => none) 0 (some 3)) 1 (some 4)) 2 (some 5)) 3 (some 6)), .inr (1, [zi 0, zi 0, zi 0, zi 15]), .inr (1, [zi 0, zi 0, zi 0, zi 15]), .inr (1, [zi 0, zi 0, zi 0, zi 15]), .inr (1, [zi 0, zi 0, zi 0, zi 15]), .inr (2, [.ref 8, zi 0]), zA 0 220 (fun _ => 0), zA 0 80 (fun x => if 0 ≤ x ∧ x < 80 then -1 else 0), zA 0 80 (fun _ => 0)] _
  refine ev_putF (v := .ref 10) (k := 0) (M' := [.inr (0, [.ref 1, zi 0, .ref 2, .ref 7, .ref 9, .ref 10, .null, zi 0]), zP 2 20 (fun _ => none), zP 4 4 (zup (zup (zup (zup (fun _ => none) 0 (some 3)) 1 (some 4)) 2 (some 5)) 3 (some 6)), .inr (1, [zi 0, zi 0, zi 0, zi 15]), .inr (1, [zi 0, zi 0, zi 0, zi 15]), .inr (1, [zi 0, zi 0, zi 0, zi 15]), .inr (1, [zi 0, zi 0, zi 0, zi 15]), .inr (2, [.ref 8, zi 0]), zA 0 220 (fun _ => 0), zA 0 80 (fun x => if 0 ≤ x ∧ x < 80 then -1 else 0), zA 0 80 (fun _ => 0)]) (q := 82) dH_init_79 gH_39 rfl rfl (by rfl) (fun _ _ => ⟨rfl, rfl⟩) (Nat.le_of_ble_eq_true rfl) rfl rfl rfl ?_
  refine ev_aload_n 0 (q := 83) dH_init_82 rfl (by rfl) rfl ?_
  refine ev_bipush (v := iI 16) (q := 85) dH_init_83 (by decide) rfl ?_
  refine zr_newi (n := 16) (kc := 0) (ks := 0) (q := 87) dH_init_85 wa_int (by decide) rfl ?_
  show z_Ev mH_init (2, 40) 0 0 87 [.ref 0, zi 4] [.ref 11, .ref 0] [.inr (0, [.ref 1, zi 0, .ref 2, .ref 7, .ref 9, .ref 10, .null, zi 0]), zP 2 20 (fun _ => none), zP 4 4 (zup (zup (zup (zup (fun _ => none) 0 (some 3)) 1 (some 4)) 2 (some 5)) 3 (some 6)), .inr (1, [zi 0, zi 0, zi 0, zi 15]), .inr (1, [zi 0, zi 0, zi 0, zi 15]), .inr (1, [zi 0, zi 0, zi 0, zi 15]), .inr (1, [zi 0, zi 0, zi 0, zi 15]), .inr (2, [.ref 8, zi 0]), zA 0 220 (fun _ => 0), zA 0 80 (fun x => if 0 ≤ x ∧ x < 80 then -1 else 0), zA 0 80 (fun _ => 0), zA 0 16 (fun _ => 0)] _
  refine ev_putF (v := .ref 11) (k := 0) (M' := [.inr (0, [.ref 1, zi 0, .ref 2, .ref 7, .ref 9, .ref 10, .ref 11, zi 0]), zP 2 20 (fun _ => none), zP 4 4 (zup (zup (zup (zup (fun _ => none) 0 (some 3)) 1 (some 4)) 2 (some 5)) 3 (some 6)), .inr (1, [zi 0, zi 0, zi 0, zi 15]), .inr (1, [zi 0, zi 0, zi 0, zi 15]), .inr (1, [zi 0, zi 0, zi 0, zi 15]), .inr (1, [zi 0, zi 0, zi 0, zi 15]), .inr (2, [.ref 8, zi 0]), zA 0 220 (fun _ => 0), zA 0 80 (fun x => if 0 ≤ x ∧ x < 80 then -1 else 0), zA 0 80 (fun _ => 0), zA 0 16 (fun _ => 0)]) (q := 90) dH_init_87 gH_42 rfl rfl (by rfl) (fun _ _ => ⟨rfl, rfl⟩) (Nat.le_of_ble_eq_true rfl) rfl rfl rfl ?_
  refine ev_ret dH_init_90 rfl ⟨rfl, ?_⟩
  rw [show (zup (zup (zup (zup (fun _ => none) 0 (some 3)) 1 (some 4)) 2 (some 5)) 3 (some 6)) = (fun i : Int => if 0 ≤ i ∧ i < 4 then some (3 + i.toNat) else none) from ht, show (fun _ : Int => (none : Option Nat)) = (fun i : Int => if 0 ≤ i ∧ i < 0 then some (a i) else none) from hn]
  rfl

def g_0 : z_Gl := (fun _ => 0, fun _ => 0, fun _ => 0, [])
theorem zC_0 : zC g_0 c_0 ∧ zLog g_0 c_0 := by
  refine ⟨⟨?_, ⟨List.nodup_nil, ?_, ?_, ?_⟩, ?_, ?_⟩, ?_⟩
  · intro c i hne
    by_cases h5 : c = 5
    · subst h5
      exact ⟨by show (0 : Int) ≤ 15; decide, by show (15 : Int) ≤ 15; decide⟩
    · by_cases h8 : c = 8
      · subst h8
        show (-1 : Int) ≤ (if 0 ≤ i ∧ i < 80 then -1 else 0) ∧ (if 0 ≤ i ∧ i < 80 then -1 else 0) ≤ (19 : Int)
        split <;> omega
      · have e : c_0 c i = 0 := by
          unfold c_0
          split
          · exact absurd rfl h5
          · exact absurd rfl h8
          · rfl
        rw [e]
        by_cases hc : c < 39
        · have key : ∀ c : Fin 39, c_lo c ≤ 0 ∧ 0 ≤ c_hi c := by decide
          exact key ⟨c, hc⟩
        · obtain ⟨d, rfl⟩ : ∃ d, c = d + 39 := ⟨c - 39, by omega⟩
          exact ⟨by show (-2147483648 : Int) ≤ 0; decide, by show (0 : Int) ≤ 2147483647; decide⟩
  · intro t h0 h1
    have h1 : t < 0 := h1
    omega
  · intro l h0 h1
    have h1 : l < 2 * 0 := h1
    omega
  · rintro s ⟨h0, h1, _⟩
    have h1 : s / 4 < 0 := h1
    omega
  · intro l i h0 h1
    have h1 : l < 2 * 0 := h1
    omega
  · intro t i h0 h1
    have h1 : t < 0 := h1
    omega
  · intro x hx
    have hx : x ∈ [] := hx
    exact absurd hx (List.not_mem_nil)
