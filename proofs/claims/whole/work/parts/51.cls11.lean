theorem aT_32 (γ : z_Sg) (t s u : Int) : (cT_addInput γ t s u).2 32 (2 * t) = γ 32 (2 * t) + 1 := by
  show aL (z_up γ 24 t _) (2 * t) s 32 (2 * t) = _
  rw [aL_32, zup_s, z_up_n (by decide)]
theorem aT_32n (γ : z_Sg) (t s u l : Int) (h : l ≠ 2 * t) : (cT_addInput γ t s u).2 32 l = γ 32 l := by
  show aL (z_up γ 24 t _) (2 * t) s 32 l = _
  rw [aL_32, zup_n h, z_up_n (by decide)]

def lH_takeCoins_2 (γ : z_Sg) (t tk : Int) (j : Nat) (k : Int) : z_Sg := match j with
  | 0 => γ
  | j + 1 => if 0 ≤ (γ 9 k) ∧ (γ 9 k) / 4 < (γ 0 0) ∧ (γ 9 k) % 4 < γ 32 (2 * ((γ 9 k) / 4) + 1) then lH_takeCoins_2 ((cT_addInput γ t (γ 9 k) (cS_source γ (γ 9 k)))).2 t tk j (k + 1) else lH_takeCoins_2 γ t tk j (k + 1)
set_option maxRecDepth 100000 in
set_option maxHeartbeats 4000000 in
theorem eH_takeCoins_2 {g : z_Gl} {γ ρ : z_Sg} {Q : Option Value → List va_E → Prop} (hc : zC g γ) (t tk : Int)  (hp0 : 0 ≤ t ∧ t < γ 0 0) (hp1 : 0 ≤ tk ∧ tk ≤ 4) : ∀ (j : Nat) (k : Int) (x4 : Value), 0 ≤ k → k + j = tk → γ 32 (2 * t) + j ≤ 4 → (∀ (y3 y4 : Value), z_Ev mH_takeCoins (3, 65) 0 0 47 [.ref (0), .ref (g.1 t), zi tk, y3, y4] [] (zH g (lH_takeCoins_2 γ t tk j k) ρ) Q) → z_Ev mH_takeCoins (3, 65) 0 0 2 [.ref (0), .ref (g.1 t), zi tk, zi k, x4] [] (zH g γ ρ) Q := by
  intro j
  induction j generalizing γ with
  | zero =>
    intro k  x4 c0 c1 c2 hk
    refine ev_iload_n 3 (q := 3) dH_takeCoins_2 rfl (by rfl) rfl ?_
    refine ev_iload_n 2 (q := 4) dH_takeCoins_3 rfl (by rfl) rfl ?_
    refine zr_icmp_ge (t := 47) (q := 7) dH_takeCoins_4 rfl rfl ⟨by omega, by omega⟩ ⟨by omega, by omega⟩ (fun h1 => ?_) (fun h1 => ?_)
    · exact hk _ _
    · exfalso
      omega
  | succ j ih =>
    intro k  x4 c0 c1 c2 hk
    have g0 : 0 ≤ γ 0 0 ∧ γ 0 0 ≤ 20 := hc.1 0 0 (by decide)
    have g1 : 0 ≤ γ 32 (2 * t) ∧ γ 32 (2 * t) ≤ 4 := hc.1 32 _ (by decide)
    refine ev_iload_n 3 (q := 3) dH_takeCoins_2 rfl (by rfl) rfl ?_
    refine ev_iload_n 2 (q := 4) dH_takeCoins_3 rfl (by rfl) rfl ?_
    refine zr_icmp_ge (t := 47) (q := 7) dH_takeCoins_4 rfl rfl ⟨by omega, by omega⟩ ⟨by omega, by omega⟩ (fun h1 => ?_) (fun h1 => ?_)
    · exfalso
      omega
    · refine ev_aload_n 0 (q := 8) dH_takeCoins_7 rfl (by rfl) rfl ?_
      refine ev_aload_n 0 (q := 9) dH_takeCoins_8 rfl (by rfl) rfl ?_
      refine ev_get (q := 12) dH_takeCoins_9 fH_39 at_H (by rfl) rfl ?_
      refine ev_iload_n 3 (q := 13) dH_takeCoins_12 rfl (by rfl) rfl ?_
      refine zr_iald (q := 14) (g := γ 9) dH_takeCoins_13 at_coins (by decide) ⟨by omega, by omega⟩ rfl ?_
      have g2 : 0 ≤ γ 9 k ∧ γ 9 k ≤ 79 := hc.1 9 k (by decide)
      by_cases h3 : 0 ≤ (γ 9 k) ∧ (γ 9 k) / 4 < (γ 0 0) ∧ (γ 9 k) % 4 < γ 32 (2 * ((γ 9 k) / 4) + 1)
      · refine cv_V (As := [_]) (q := 17) dH_takeCoins_14 kH_126 at_H rfl rfl (Nat.le_of_ble_eq_true rfl) rfl rfl rfl (by decide) (sH_stateNumbered_s hc (γ 9 k)  h3) ?_
        refine ev_astore (q := 19) dH_takeCoins_17 (by decide) rfl rfl ?_
        dsimp only [List.set]
        refine ev_aload (q := 21) dH_takeCoins_19 (by rfl) rfl ?_
        refine ev_ifnull (q := 24) dH_takeCoins_21 rfl ?_
        refine ev_aload_n 1 (q := 25) dH_takeCoins_24 rfl (by rfl) rfl ?_
        refine ev_aload (q := 27) dH_takeCoins_25 (by rfl) rfl ?_
        refine ev_aload_n 0 (q := 28) dH_takeCoins_27 rfl (by rfl) rfl ?_
        refine ev_get (q := 31) dH_takeCoins_28 fH_11 at_H (by rfl) rfl ?_
        refine ev_aload (q := 33) dH_takeCoins_31 (by rfl) rfl ?_
        refine cv_V (As := []) (q := 36) dH_takeCoins_33 kH_311 (at_S hc.2.1 h3) rfl rfl (Nat.le_of_ble_eq_true rfl) rfl rfl rfl (by decide) (sS_source hc (γ 9 k) h3 ) ?_
        have g4 := bS_source hc (γ 9 k) h3 
        refine zr_aald (q := 37) dH_takeCoins_36 (fun _ => ⟨_, rfl⟩) at_txs (by decide) ⟨by omega, by omega⟩ (if_pos ⟨by omega, by omega⟩) rfl ?_
        have t5 : 0 ≤ (cS_source γ (γ 9 k)) ∧ (cS_source γ (γ 9 k)) < γ 0 0 := ⟨by omega, by omega⟩
        refine cv_V (As := [_, _]) (q := 40) dH_takeCoins_37 kH_101 (at_T hc.2.1 hp0) rfl rfl (Nat.le_of_ble_eq_true rfl) rfl rfl rfl (by decide) (sT_addInput hc t (γ 9 k) (cS_source γ (γ 9 k)) hp0 h3 t5 (by omega)) ?_
        have hc6 : zC g ((cT_addInput γ t (γ 9 k) (cS_source γ (γ 9 k)))).2 := wT_addInput hc t (γ 9 k) (cS_source γ (γ 9 k)) hp0 h3 t5 (by omega)
        have u7 := aT_32 γ t (γ 9 k) (cS_source γ (γ 9 k))
        refine ev_pop (q := 41) dH_takeCoins_40 rfl rfl ?_
        refine zr_iinc (q := 44) dH_takeCoins_41 (by rfl) (by decide) rfl rfl ?_
        dsimp only [List.set]
        refine ev_goto (t := 2) (q := 2) dH_takeCoins_44 rfl rfl ?_
        rw [show lH_takeCoins_2 γ t tk (j + 1) k = lH_takeCoins_2 ((cT_addInput γ t (γ 9 k) (cS_source γ (γ 9 k)))).2 t tk j (k + 1) from by rw [lH_takeCoins_2, if_pos h3]] at hk
        exact ih hc6 (ztx_fr hp0 (kT_addInput (γ := γ) t (γ 9 k) (cS_source γ (γ 9 k)) (c := 0) (by decide) (by decide) (by decide)))  (k + 1)  (.ref (g.2.2.1 (γ 9 k))) (by omega) (by omega) (by omega) hk
      · refine cv_V (As := [_]) (q := 17) dH_takeCoins_14 kH_126 at_H rfl rfl (Nat.le_of_ble_eq_true rfl) rfl rfl rfl (by decide) (sH_stateNumbered_n hc (γ 9 k) ⟨by omega, by omega⟩ h3) ?_
        refine ev_astoreN (q := 19) dH_takeCoins_17 (by decide) rfl rfl ?_
        dsimp only [List.set]
        refine ev_aloadN (q := 21) dH_takeCoins_19 (by rfl) rfl ?_
        refine ev_ifnullN (t := 41) (q := 41) dH_takeCoins_21 rfl rfl ?_
        refine zr_iinc (q := 44) dH_takeCoins_41 (by rfl) (by decide) rfl rfl ?_
        dsimp only [List.set]
        refine ev_goto (t := 2) (q := 2) dH_takeCoins_44 rfl rfl ?_
        rw [show lH_takeCoins_2 γ t tk (j + 1) k = lH_takeCoins_2 γ t tk j (k + 1) from by rw [lH_takeCoins_2, if_neg h3]] at hk
        exact ih hc hp0  (k + 1)  (.null) (by omega) (by omega) (by omega) hk
set_option maxRecDepth 100000 in
set_option maxHeartbeats 4000000 in
theorem wlH_takeCoins_2 {g : z_Gl} {γ : z_Sg} (hc : zC g γ) (t tk : Int)  (hp0 : 0 ≤ t ∧ t < γ 0 0) (hp1 : 0 ≤ tk ∧ tk ≤ 4) : ∀ (j : Nat) (k : Int), 0 ≤ k → k + j = tk → γ 32 (2 * t) + j ≤ 4 → zC g (lH_takeCoins_2 γ t tk j k) := by
  intro j
  induction j generalizing γ with
  | zero =>
    intro k  c0 c1 c2
    rw [lH_takeCoins_2]
    exact hc
  | succ j ihw =>
    intro k  c0 c1 c2
    rw [lH_takeCoins_2]
    have g0 : 0 ≤ γ 0 0 ∧ γ 0 0 ≤ 20 := hc.1 0 0 (by decide)
    have g1 : 0 ≤ γ 32 (2 * t) ∧ γ 32 (2 * t) ≤ 4 := hc.1 32 _ (by decide)
    have g2 : 0 ≤ γ 9 k ∧ γ 9 k ≤ 79 := hc.1 9 k (by decide)
    by_cases h3 : 0 ≤ (γ 9 k) ∧ (γ 9 k) / 4 < (γ 0 0) ∧ (γ 9 k) % 4 < γ 32 (2 * ((γ 9 k) / 4) + 1)
    · rw [if_pos h3]
      have g4 := bS_source hc (γ 9 k) h3 
      have t5 : 0 ≤ (cS_source γ (γ 9 k)) ∧ (cS_source γ (γ 9 k)) < γ 0 0 := ⟨by omega, by omega⟩
      have hc6 : zC g ((cT_addInput γ t (γ 9 k) (cS_source γ (γ 9 k)))).2 := wT_addInput hc t (γ 9 k) (cS_source γ (γ 9 k)) hp0 h3 t5 (by omega)
      have u7 := aT_32 γ t (γ 9 k) (cS_source γ (γ 9 k))
      exact ihw hc6 (ztx_fr hp0 (kT_addInput (γ := γ) t (γ 9 k) (cS_source γ (γ 9 k)) (c := 0) (by decide) (by decide) (by decide)))  (k + 1)  (by omega) (by omega) (by omega)
    · rw [if_neg h3]
      exact ihw hc hp0  (k + 1)  (by omega) (by omega) (by omega)
theorem kH_takeCoins_2 {γ : z_Sg} (t tk : Int) (j : Nat) (k : Int) {c : Nat} (h0 : c ≠ 24) (h1 : c ≠ 32) (h2 : c ≠ 33) : lH_takeCoins_2 γ t tk j k c = γ c := by
  induction j generalizing γ k with
  | zero => rfl
  | succ j ih =>
    rw [lH_takeCoins_2]
    repeat' split
    all_goals (rw [ih]; try rw [kT_addInput _ _ _ h0 h1 h2])
def cH_takeCoins (γ : z_Sg) (t tk : Int) : Int × z_Sg := (0, (lH_takeCoins_2 γ t tk (tk).toNat 0))
set_option maxRecDepth 100000 in
set_option maxHeartbeats 4000000 in
theorem sH_takeCoins {g : z_Gl} {γ ρ : z_Sg} (hc : zC g γ) (t tk : Int) (hp0 : 0 ≤ t ∧ t < γ 0 0) (hp1 : 0 ≤ tk ∧ tk ≤ 4) (he0 : γ 32 (2 * t) + tk ≤ 4) : z_Sp mH_takeCoins (3, 65) 0 0 [.ref (0), .ref (g.1 t), zi tk] (zH g γ ρ) (fun r M' => r = none ∧ M' = zH g (cH_takeCoins γ t tk).2 ρ) := by
  refine z_Sp_of (L := [.ref (0), .ref (g.1 t), zi tk, .float 0, .float 0]) (by decide) rfl rfl rfl (Nat.le_of_ble_eq_true rfl) ?_
  refine ev_iconst (v := iI 0) (q := 1) dH_takeCoins_0 rfl rfl ?_
  refine ev_istore_n 3 (q := 2) dH_takeCoins_1 rfl (by decide) rfl rfl ?_
  dsimp only [List.set]
  refine eH_takeCoins_2 hc t tk hp0 hp1 (tk).toNat 0  (.float 0) (by omega) (by omega) (by omega) (fun y1 y2 => ?_)
  have hw3 : zC g (lH_takeCoins_2 γ t tk (tk).toNat 0) := wlH_takeCoins_2 hc t tk hp0 hp1 (tk).toNat 0  (by omega) (by omega) (by omega)
  exact ev_ret dH_takeCoins_47 rfl ⟨rfl, by rw [cH_takeCoins]⟩
set_option maxRecDepth 100000 in
set_option maxHeartbeats 4000000 in
theorem wH_takeCoins {g : z_Gl} {γ : z_Sg} (hc : zC g γ) (t tk : Int) (hp0 : 0 ≤ t ∧ t < γ 0 0) (hp1 : 0 ≤ tk ∧ tk ≤ 4) (he0 : γ 32 (2 * t) + tk ≤ 4) : zC g (cH_takeCoins γ t tk).2 := by
  rw [cH_takeCoins]
  have hw3 : zC g (lH_takeCoins_2 γ t tk (tk).toNat 0) := wlH_takeCoins_2 hc t tk hp0 hp1 (tk).toNat 0  (by omega) (by omega) (by omega)
  exact hw3

theorem kH_takeCoins {γ : z_Sg} (t tk : Int) {c : Nat} (h0 : c ≠ 24) (h1 : c ≠ 32) (h2 : c ≠ 33) : (cH_takeCoins γ t tk).2 c = γ c := by
  unfold cH_takeCoins
  repeat' split
  all_goals first | rfl | (simp only [z_up_n h0, z_up_n h1, z_up_n h2, kH_takeCoins_2 _ _ _ _ h0 h1 h2])
