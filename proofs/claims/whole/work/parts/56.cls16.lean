theorem ln1 (B : List va_E) (c : va_E) : (B ++ [c]).length = B.length + 1 := by simp
theorem ln3 (B : List va_E) (a b c : va_E) : (B ++ [a, b, c]).length = B.length + 3 := by simp
theorem at0 (B C : List va_E) (c : va_E) : (B ++ c :: C)[B.length]? = some c := by simp
theorem set0 (B C : List va_E) (c c' : va_E) : (B ++ c :: C).set B.length c' = B ++ c' :: C := by simp

set_option maxRecDepth 100000 in
set_option maxHeartbeats 4000000 in
theorem sL_init {B : List va_E} {k : Nat} (hk : B.length = k) : z_Sp mL_init (1, 20) 1 4 [.ref k] (B ++ [.inr (4, [.null, zi 0])]) (fun r M' => r = none ∧ M' = B ++ [.inr (4, [.ref (k + 1), zi 0]), zP 3 4 (fun _ => none)]) := by
  subst hk
  refine z_Sp_of (L := [.ref B.length]) (by decide) rfl rfl rfl (Nat.le_of_ble_eq_true rfl) ?_
  refine ev_aload_n 0 (q := 1) dL_init_0 rfl (by rfl) rfl ?_
  refine ev_obj (q := 4) dL_init_1 wmL_3 wiJO_init woJO_init (Nat.le_of_ble_eq_true rfl) rfl (by decide) rfl ?_
  refine ev_aload_n 0 (q := 5) dL_init_4 rfl (by rfl) rfl ?_
  refine ev_iconst (v := iI 4) (q := 6) dL_init_5 rfl rfl ?_
  refine zr_newq (n := 4) (t := 3) (kc := 0) (ks := 0) (q := 9) dL_init_6 wcL_9 (by decide) (fun _ => rfl) (by decide) rfl ?_
  rw [ln1, List.append_assoc]
  refine ev_putF (v := .ref (B.length + 1)) (M' := B ++ [.inr (4, [.ref (B.length + 1), zi 0]), zP 3 4 (fun _ => none)]) (q := 12) dL_init_9 gL_11 rfl rfl (at0 _ _ _) (fun _ _ => ⟨rfl, rfl⟩) (Nat.le_of_ble_eq_true rfl) rfl (set0 _ _ _ _) rfl ?_
  exact ev_ret dL_init_12 rfl ⟨rfl, rfl⟩

set_option maxRecDepth 100000 in
set_option maxHeartbeats 4000000 in
theorem sT_init {B : List va_E} {k : Nat} (hk : B.length = k) (t nd no fr un : Int) : z_Sp mT_init (2, 40) 4 12 [.ref k, zi t, zi nd, zi no, zi fr, zi un] (B ++ [.inr (3, [zi 0, zi 0, zi 0, zi 0, zi 0, .null, .null, zi 0, zi 0, zi 0, zi 0, zi 0, zi 0, zi 0, zi 0])]) (fun r M' => r = none ∧ M' = B ++ [.inr (3, [zi t, zi nd, zi no, zi fr, zi un, .ref (k + 1), .ref (k + 3), zi 0, zi 0, zi 0, zi 0, zi 0, zi 0, zi 0, zi 0]), .inr (4, [.ref (k + 1 + 1), zi 0]), zP 3 4 (fun _ => none), .inr (4, [.ref (k + 3 + 1), zi 0]), zP 3 4 (fun _ => none)]) := by
  subst hk
  refine z_Sp_of (L := [.ref B.length, zi t, zi nd, zi no, zi fr, zi un]) (by decide) rfl rfl rfl (Nat.le_of_ble_eq_true rfl) ?_
  refine ev_aload_n 0 (q := 1) dT_init_0 rfl (by rfl) rfl ?_
  refine ev_obj (q := 4) dT_init_1 wmT_3 wiJO_init woJO_init (Nat.le_of_ble_eq_true rfl) rfl (by decide) rfl ?_
  refine ev_aload_n 0 (q := 5) dT_init_4 rfl (by rfl) rfl ?_
  refine ev_iload_n 1 (q := 6) dT_init_5 rfl (by rfl) rfl ?_
  refine ev_putF (v := zi t) (M' := B ++ [.inr (3, [zi t, zi 0, zi 0, zi 0, zi 0, .null, .null, zi 0, zi 0, zi 0, zi 0, zi 0, zi 0, zi 0, zi 0])]) (q := 9) dT_init_6 gT_9 rfl rfl (at0 _ _ _) (fun _ _ => ⟨rfl, rfl⟩) (Nat.le_of_ble_eq_true rfl) rfl (set0 _ _ _ _) rfl ?_
  refine ev_aload_n 0 (q := 10) dT_init_9 rfl (by rfl) rfl ?_
  refine ev_iload_n 2 (q := 11) dT_init_10 rfl (by rfl) rfl ?_
  refine ev_putF (v := zi nd) (M' := B ++ [.inr (3, [zi t, zi nd, zi 0, zi 0, zi 0, .null, .null, zi 0, zi 0, zi 0, zi 0, zi 0, zi 0, zi 0, zi 0])]) (q := 14) dT_init_11 gT_15 rfl rfl (at0 _ _ _) (fun _ _ => ⟨rfl, rfl⟩) (Nat.le_of_ble_eq_true rfl) rfl (set0 _ _ _ _) rfl ?_
  refine ev_aload_n 0 (q := 15) dT_init_14 rfl (by rfl) rfl ?_
  refine ev_iload_n 3 (q := 16) dT_init_15 rfl (by rfl) rfl ?_
  refine ev_putF (v := zi no) (M' := B ++ [.inr (3, [zi t, zi nd, zi no, zi 0, zi 0, .null, .null, zi 0, zi 0, zi 0, zi 0, zi 0, zi 0, zi 0, zi 0])]) (q := 19) dT_init_16 gT_18 rfl rfl (at0 _ _ _) (fun _ _ => ⟨rfl, rfl⟩) (Nat.le_of_ble_eq_true rfl) rfl (set0 _ _ _ _) rfl ?_
  refine ev_aload_n 0 (q := 20) dT_init_19 rfl (by rfl) rfl ?_
  refine ev_iload (q := 22) dT_init_20 (by rfl) rfl ?_
  refine ev_putF (v := zi fr) (M' := B ++ [.inr (3, [zi t, zi nd, zi no, zi fr, zi 0, .null, .null, zi 0, zi 0, zi 0, zi 0, zi 0, zi 0, zi 0, zi 0])]) (q := 25) dT_init_22 gT_21 rfl rfl (at0 _ _ _) (fun _ _ => ⟨rfl, rfl⟩) (Nat.le_of_ble_eq_true rfl) rfl (set0 _ _ _ _) rfl ?_
  refine ev_aload_n 0 (q := 26) dT_init_25 rfl (by rfl) rfl ?_
  refine ev_iload (q := 28) dT_init_26 (by rfl) rfl ?_
  refine ev_putF (v := zi un) (M' := B ++ [.inr (3, [zi t, zi nd, zi no, zi fr, zi un, .null, .null, zi 0, zi 0, zi 0, zi 0, zi 0, zi 0, zi 0, zi 0])]) (q := 31) dT_init_28 gT_24 rfl rfl (at0 _ _ _) (fun _ _ => ⟨rfl, rfl⟩) (Nat.le_of_ble_eq_true rfl) rfl (set0 _ _ _ _) rfl ?_
  refine ev_aload_n 0 (q := 32) dT_init_31 rfl (by rfl) rfl ?_
  refine ev_new (n := 2) (kc := 3) (ks := 10) (q := 35) dT_init_32 nT_27 rfl ?_
  rw [ln1]
  refine ev_dup (q := 36) dT_init_35 rfl rfl ?_
  refine cv_I (As := []) (kc := 2) (ks := 6) (q := 39) dT_init_36 kT_29 rfl (Nat.le_of_ble_eq_true rfl) rfl rfl rfl rfl rfl (by decide) (sL_init (ln1 _ _)) ?_
  rw [List.append_assoc]
  refine ev_putF (v := .ref (B.length + 1)) (M' := B ++ [.inr (3, [zi t, zi nd, zi no, zi fr, zi un, .ref (B.length + 1), .null, zi 0, zi 0, zi 0, zi 0, zi 0, zi 0, zi 0, zi 0]), .inr (4, [.ref (B.length + 1 + 1), zi 0]), zP 3 4 (fun _ => none)]) (q := 42) dT_init_39 gT_30 rfl rfl (at0 _ _ _) (fun _ _ => ⟨rfl, rfl⟩) (Nat.le_of_ble_eq_true rfl) rfl (set0 _ _ _ _) rfl ?_
  refine ev_aload_n 0 (q := 43) dT_init_42 rfl (by rfl) rfl ?_
  refine ev_new (n := 2) (kc := 1) (ks := 4) (q := 46) dT_init_43 nT_27 rfl ?_
  rw [ln3]
  refine ev_dup (q := 47) dT_init_46 rfl rfl ?_
  refine cv_I (As := []) (kc := 0) (ks := 0) (q := 50) dT_init_47 kT_29 rfl (Nat.le_of_ble_eq_true rfl) rfl rfl rfl rfl rfl (by decide) (sL_init (ln3 _ _ _ _)) ?_
  rw [List.append_assoc]
  refine ev_putF (v := .ref (B.length + 3)) (M' := B ++ [.inr (3, [zi t, zi nd, zi no, zi fr, zi un, .ref (B.length + 1), .ref (B.length + 3), zi 0, zi 0, zi 0, zi 0, zi 0, zi 0, zi 0, zi 0]), .inr (4, [.ref (B.length + 1 + 1), zi 0]), zP 3 4 (fun _ => none), .inr (4, [.ref (B.length + 3 + 1), zi 0]), zP 3 4 (fun _ => none)]) (q := 53) dT_init_50 gT_34 rfl rfl (at0 _ _ _) (fun _ _ => ⟨rfl, rfl⟩) (Nat.le_of_ble_eq_true rfl) rfl (set0 _ _ _ _) rfl ?_
  refine ev_aload_n 0 (q := 54) dT_init_53 rfl (by rfl) rfl ?_
  refine ev_iconst (v := iI 0) (q := 55) dT_init_54 rfl rfl ?_
  refine zr_puti (M' := B ++ [.inr (3, [zi t, zi nd, zi no, zi fr, zi un, .ref (B.length + 1), .ref (B.length + 3), zi 0, zi 0, zi 0, zi 0, zi 0, zi 0, zi 0, zi 0]), .inr (4, [.ref (B.length + 1 + 1), zi 0]), zP 3 4 (fun _ => none), .inr (4, [.ref (B.length + 3 + 1), zi 0]), zP 3 4 (fun _ => none)]) (q := 58) dT_init_55 gT_37 (at0 _ _ _) (Nat.le_of_ble_eq_true rfl) rfl (set0 _ _ _ _) rfl ?_
  refine ev_aload_n 0 (q := 59) dT_init_58 rfl (by rfl) rfl ?_
  refine ev_iconst (v := iI 0) (q := 60) dT_init_59 rfl rfl ?_
  refine zr_puti (M' := B ++ [.inr (3, [zi t, zi nd, zi no, zi fr, zi un, .ref (B.length + 1), .ref (B.length + 3), zi 0, zi 0, zi 0, zi 0, zi 0, zi 0, zi 0, zi 0]), .inr (4, [.ref (B.length + 1 + 1), zi 0]), zP 3 4 (fun _ => none), .inr (4, [.ref (B.length + 3 + 1), zi 0]), zP 3 4 (fun _ => none)]) (q := 63) dT_init_60 gT_40 (at0 _ _ _) (Nat.le_of_ble_eq_true rfl) rfl (set0 _ _ _ _) rfl ?_
  exact ev_ret dT_init_63 rfl ⟨rfl, rfl⟩
