theorem cv_Sv {Y Y' : z_MD} {d d' : Nat × Nat} {kc ks pc q idx n : Nat} {L S S0 As : List Value} {M M1 : List va_E} {Q : Option Value → List va_E → Prop} (hd : decode Y.2.1 pc = .ok (.invokestatic idx, 3)) (hl : z_LS Y.1.cls idx Y' n) (hn : As.length = n) (hS8 : S.length ≤ 8) (hSr : S.all z_real = true) (hst : As.reverse ++ S = S0) (hq : pc + 3 = q) (hdd : d'.1 + 1 ≤ d.1 ∧ 8 + (Y'.2.2.1 + 11) + d'.2 ≤ d.2) (hM : z_Sp Y' d' 0 0 As M (fun r M' => r = none ∧ M' = M1)) (kk : z_Ev Y d kc ks q L S M1 Q) : z_Ev Y d kc ks pc L S0 M Q := by
  have h := ev_callS (kc := kc) (ks := ks) hd hl.1 hl.2.1 hl.2.2 hn hS8 hSr hst hq hdd hM (Q := Q) (L := L) (fun r M' h => by obtain ⟨rfl, rfl⟩ := h; exact kk)
  rwa [Nat.zero_add, Nat.zero_add] at h

set_option maxRecDepth 100000 in
set_option maxHeartbeats 4000000 in
theorem sH_bitM {M : List va_E} (p : Int) : z_Sp mH_bit (0, 0) 0 0 [zi p] M (fun r M' => r = some (zi (zshl 1 p)) ∧ M' = M) := by
  refine z_Sp_of (L := [zi p]) (by decide) rfl rfl rfl (Nat.le_of_ble_eq_true rfl) ?_
  refine ev_iconst (v := iI 1) (q := 1) dH_bit_0 rfl rfl ?_
  refine ev_iload_n 0 (q := 2) dH_bit_1 rfl (by rfl) rfl ?_
  refine zr_ishl (q := 3) dH_bit_2 rfl ?_
  exact zr_iret dH_bit_3 rfl ⟨rfl, rfl⟩

set_option maxRecDepth 100000 in
set_option maxHeartbeats 4000000 in
theorem sN_init {B : List va_E} {k : Nat} (hk : B.length = k) : z_Sp mN_init (1, 20) 0 0 [.ref k] (B ++ [.inr (1, [zi 0, zi 0, zi 0, zi 0])]) (fun r M' => r = none ∧ M' = B ++ [.inr (1, [zi 0, zi 0, zi 0, zi 15])]) := by
  subst hk
  refine z_Sp_of (L := [.ref B.length]) (by decide) rfl rfl rfl (Nat.le_of_ble_eq_true rfl) ?_
  refine ev_aload_n 0 (q := 1) dN_init_0 rfl (by rfl) rfl ?_
  refine ev_obj (q := 4) dN_init_1 wmN_3 wiJO_init woJO_init (Nat.le_of_ble_eq_true rfl) rfl (by decide) rfl ?_
  refine ev_aload_n 0 (q := 5) dN_init_4 rfl (by rfl) rfl ?_
  refine ev_iconst (v := iI 4) (q := 6) dN_init_5 rfl rfl ?_
  refine cv_N (As := [_]) (q := 9) dN_init_6 kN_9 rfl (Nat.le_of_ble_eq_true rfl) rfl rfl rfl (by decide) (sH_bitM 4) ?_
  refine ev_iconst (v := iI 1) (q := 10) dN_init_9 rfl rfl ?_
  refine zr_isub (q := 11) dN_init_10 rfl ?_
  rw [show zshl 1 4 - 1 = 15 from by decide]
  refine zr_puti (M' := B ++ [.inr (1, [zi 0, zi 0, zi 0, zi 15])]) (q := 14) dN_init_11 gN_13 (at0 _ _ _) (Nat.le_of_ble_eq_true rfl) rfl (set0 _ _ _ _) rfl ?_
  exact ev_ret dN_init_14 rfl ⟨rfl, rfl⟩

set_option maxRecDepth 100000 in
set_option maxHeartbeats 4000000 in
theorem sB_init {B : List va_E} {k : Nat} (hk : B.length = k) : z_Sp mB_init (1, 20) 1 220 [.ref k] (B ++ [.inr (2, [.null, zi 0])]) (fun r M' => r = none ∧ M' = B ++ [.inr (2, [.ref (k + 1), zi 0]), zA 0 220 (fun _ => 0)]) := by
  subst hk
  refine z_Sp_of (L := [.ref B.length]) (by decide) rfl rfl rfl (Nat.le_of_ble_eq_true rfl) ?_
  refine ev_aload_n 0 (q := 1) dB_init_0 rfl (by rfl) rfl ?_
  refine ev_obj (q := 4) dB_init_1 wmB_3 wiJO_init woJO_init (Nat.le_of_ble_eq_true rfl) rfl (by decide) rfl ?_
  refine ev_aload_n 0 (q := 5) dB_init_4 rfl (by rfl) rfl ?_
  refine ev_sipush (v := iI 220) (q := 8) dB_init_5 (by decide) rfl ?_
  refine zr_newi (n := 220) (kc := 0) (ks := 0) (q := 10) dB_init_8 wa_int (by decide) rfl ?_
  rw [ln1, List.append_assoc]
  refine ev_putF (v := .ref (B.length + 1)) (M' := B ++ [.inr (2, [.ref (B.length + 1), zi 0]), zA 0 220 (fun _ => 0)]) (q := 13) dB_init_10 gB_9 rfl rfl (at0 _ _ _) (fun _ _ => ⟨rfl, rfl⟩) (Nat.le_of_ble_eq_true rfl) rfl (set0 _ _ _ _) rfl ?_
  exact ev_ret dB_init_13 rfl ⟨rfl, rfl⟩

set_option maxRecDepth 100000 in
set_option maxHeartbeats 4000000 in
theorem eJA_fill {M : List va_E} {k : Nat} (hk : k < M.length) (v : Int) : ∀ (j : Nat) (i : Int) (f : Int → Int), 0 ≤ i → i + j = 80 → z_Ev mJA_fill (0, 0) 0 0 5 [.ref k, zi v, zi i, zi 80] [] (M.set k (zA 0 80 f)) (fun r M' => r = none ∧ M' = M.set k (zA 0 80 (fun x => if i ≤ x ∧ x < 80 then v else f x))) := by
  intro j
  induction j with
  | zero =>
    intro i f h0 h1
    refine ev_iload_n 2 (q := 6) dJA_fill_5 rfl (by rfl) rfl ?_
    refine ev_iload_n 3 (q := 7) dJA_fill_6 rfl (by rfl) rfl ?_
    refine zr_icmp_ge (t := 20) (q := 10) dJA_fill_7 rfl rfl ⟨by omega, by omega⟩ ⟨by omega, by omega⟩ (fun h => ?_) (fun h => ?_)
    · refine ev_ret dJA_fill_20 rfl ⟨rfl, ?_⟩
      congr 2
      funext x
      rw [if_neg (by omega)]
    · exfalso
      omega
  | succ j ih =>
    intro i f h0 h1
    refine ev_iload_n 2 (q := 6) dJA_fill_5 rfl (by rfl) rfl ?_
    refine ev_iload_n 3 (q := 7) dJA_fill_6 rfl (by rfl) rfl ?_
    refine zr_icmp_ge (t := 20) (q := 10) dJA_fill_7 rfl rfl ⟨by omega, by omega⟩ ⟨by omega, by omega⟩ (fun h => ?_) (fun h => ?_)
    · exfalso
      omega
    · refine ev_aload_n 0 (q := 11) dJA_fill_10 rfl (by rfl) rfl ?_
      refine ev_iload_n 2 (q := 12) dJA_fill_11 rfl (by rfl) rfl ?_
      refine ev_iload_n 1 (q := 13) dJA_fill_12 rfl (by rfl) rfl ?_
      refine zr_iast (n := 80) (g := f) (q := 14) dJA_fill_13 (List.getElem?_set_self hk) (by decide) ⟨by omega, by omega⟩ (List.set_set _) rfl ?_
      refine zr_iinc (q := 17) dJA_fill_14 (by rfl) (by decide) rfl rfl ?_
      dsimp only [List.set]
      refine ev_goto (t := 5) (q := 5) dJA_fill_17 rfl rfl ?_
      have e : (fun x => if i ≤ x ∧ x < 80 then v else f x) = (fun x => if i + 1 ≤ x ∧ x < 80 then v else zup f i v x) := by
        funext x
        by_cases hx : x = i
        · subst hx
          rw [if_pos ⟨by omega, by omega⟩, if_neg (by omega), zup_s]
        · rw [zup_n hx]
          by_cases h2 : i ≤ x ∧ x < 80
          · rw [if_pos h2, if_pos ⟨by omega, by omega⟩]
          · rw [if_neg h2, if_neg (by omega)]
      rw [e]
      exact ih (i + 1) (zup f i v) (by omega) (by omega)
theorem sJA_fill {M M0 : List va_E} {k : Nat} (hk : k < M.length) (v : Int) (f : Int → Int) (hM : M.set k (zA 0 80 f) = M0) : z_Sp mJA_fill (0, 0) 0 0 [.ref k, zi v] M0 (fun r M' => r = none ∧ M' = M.set k (zA 0 80 (fun x => if 0 ≤ x ∧ x < 80 then v else f x))) := by
  subst hM
  refine z_Sp_of (L := [.ref k, zi v, .float 0, .float 0]) (by decide) rfl rfl rfl (Nat.le_of_ble_eq_true rfl) ?_
  refine ev_iconst (v := iI 0) (q := 1) dJA_fill_0 rfl rfl ?_
  refine ev_istore_n 2 (q := 2) dJA_fill_1 rfl (by decide) rfl rfl ?_
  dsimp only [List.set]
  refine ev_aload_n 0 (q := 3) dJA_fill_2 rfl (by rfl) rfl ?_
  refine ev_alen (q := 4) dJA_fill_3 (List.getElem?_set_self hk) rfl ?_
  refine ev_istore_n 3 (q := 5) dJA_fill_4 rfl (by decide) rfl rfl ?_
  dsimp only [List.set]
  exact eJA_fill hk v 80 0 f (by decide) (by decide)
