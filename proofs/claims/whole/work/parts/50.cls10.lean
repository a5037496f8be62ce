def cL_add (γ : z_Sg) (l s : Int) : Int × z_Sg := (γ 32 l, aL γ l s)
theorem sL_add {g : z_Gl} {γ ρ : z_Sg} (hc : zC g γ) (l s : Int) (hl : 0 ≤ l ∧ l < 2 * γ 0 0) (hs : zEx γ s) (he0 : γ 32 l ≤ 3) (he1 : l % 2 = 0) : z_Sp mL_add (0, 0) 0 0 [.ref (g.2.1 l), .ref (g.2.2.1 s)] (zH g γ ρ) (fun r M' => r = some (zi (cL_add γ l s).1) ∧ M' = zH g (cL_add γ l s).2 ρ) := sL_add0 hc l s hl (at_S hc.2.1 hs) he0
theorem aL_n {γ : z_Sg} {l s : Int} {c : Nat} (h0 : c ≠ 32) (h1 : c ≠ 33) : aL γ l s c = γ c := by
  unfold aL
  rw [z_up_n h0, z_up_n h1]
theorem aL_32 {γ : z_Sg} {l s : Int} : aL γ l s 32 = zup (γ 32) l (γ 32 l + 1) := rfl
theorem aL_33 {γ : z_Sg} {l s : Int} : aL γ l s 33 = zup (γ 33) (4 * l + γ 32 l) s := rfl
theorem kL_add {γ : z_Sg} (l s : Int) {c : Nat} (h0 : c ≠ 32) (h1 : c ≠ 33) : (cL_add γ l s).2 c = γ c := aL_n h0 h1
theorem zEx_aL {γ : z_Sg} {l s x : Int} (h : l % 2 = 0) : zEx (aL γ l s) x ↔ zEx γ x := by
  unfold zEx
  rw [aL_n (c := 0) (by decide) (by decide), aL_32, zup_n (by omega)]
theorem wL_add {g : z_Gl} {γ : z_Sg} (hc : zC g γ) (l s : Int) (hl : 0 ≤ l ∧ l < 2 * γ 0 0) (hs : zEx γ s) (he0 : γ 32 l ≤ 3) (he1 : l % 2 = 0) : zC g (cL_add γ l s).2 := by
  have g79 := zEx_79 hc hs
  have gl : 0 ≤ γ 32 l ∧ γ 32 l ≤ 4 := hc.1 32 l (by decide)
  show zC g (aL γ l s)
  refine ⟨?_, ?_, ?_, ?_⟩
  · intro c i hne
    by_cases e2 : c = 32
    · subst e2
      rw [aL_32]
      unfold zup
      split
      · exact ⟨by show (0 : Int) ≤ _; omega, by show _ ≤ (4 : Int); omega⟩
      · exact hc.1 32 i hne
    · by_cases e3 : c = 33
      · subst e3
        rw [aL_33]
        unfold zup
        split
        · exact ⟨by show (0 : Int) ≤ _; omega, by show _ ≤ (79 : Int); omega⟩
        · exact hc.1 33 i hne
      · rw [aL_n e2 e3]
        exact hc.1 c i hne
  · obtain ⟨h1, h2, h3, h4⟩ := hc.2.1
    unfold zLay
    rw [aL_n (c := 0) (by decide) (by decide)]
    exact ⟨h1, h2, h3, fun x hx => h4 x ((zEx_aL he1).mp hx)⟩
  · intro l' k a1 a2 a3 a4
    rw [aL_n (c := 0) (by decide) (by decide)] at a2
    rw [aL_32] at a4
    rw [zEx_aL he1, aL_33]
    have gl' : 0 ≤ γ 32 l' ∧ γ 32 l' ≤ 4 := hc.1 32 l' (by decide)
    by_cases e : l' = l
    · subst e
      rw [zup_s] at a4
      by_cases ek : k = γ 32 l'
      · rw [ek, zup_s]
        exact hs
      · rw [zup_n (by omega)]
        exact hc.2.2.1 l' k a1 a2 a3 (by omega)
    · rw [zup_n e] at a4
      rw [zup_n (by omega)]
      exact hc.2.2.1 l' k a1 a2 a3 a4
  · intro t k a1 a2 a3 a4
    rw [aL_n (c := 0) (by decide) (by decide)] at a2
    rw [aL_32, zup_n (by omega)] at a4
    have gl' : 0 ≤ γ 32 (2 * t + 1) ∧ γ 32 (2 * t + 1) ≤ 4 := hc.1 32 _ (by decide)
    rw [aL_33, zup_n (by omega)]
    exact hc.2.2.2 t k a1 a2 a3 a4
theorem tL_hasRoomFor {g : z_Gl} {γ : z_Sg} (hc : zC g γ) {l n : Int} (h : cL_hasRoomFor γ l n ≠ 0) : n + γ 32 l ≤ 4 ∧ n ≤ 4 := by
  have gl : 0 ≤ γ 32 l ∧ γ 32 l ≤ 4 := hc.1 32 l (by decide)
  unfold cL_hasRoomFor at h
  split at h
  · exact absurd rfl h
  · omega

def cT_addInput (γ : z_Sg) (t s u : Int) : Int × z_Sg := (((cL_add (z_up γ 24 t (zor (γ 24 t) (zor (cH_bit γ u) (γ 24 u)))) (2 * t) s)).1, ((cL_add (z_up γ 24 t (zor (γ 24 t) (zor (cH_bit γ u) (γ 24 u)))) (2 * t) s)).2)
set_option maxRecDepth 100000 in
set_option maxHeartbeats 4000000 in
theorem sT_addInput {g : z_Gl} {γ ρ : z_Sg} (hc : zC g γ) (t s u : Int) (hp0 : 0 ≤ t ∧ t < γ 0 0) (hp1 : zEx γ s) (hp2 : 0 ≤ u ∧ u < γ 0 0) (he0 : γ 32 (2 * t) ≤ 3) : z_Sp mT_addInput (1, 21) 0 0 [.ref (g.1 t), .ref (g.2.2.1 s), .ref (g.1 u)] (zH g γ ρ) (fun r M' => r = some (zi (cT_addInput γ t s u).1) ∧ M' = zH g (cT_addInput γ t s u).2 ρ) := by
  refine z_Sp_of (L := [.ref (g.1 t), .ref (g.2.2.1 s), .ref (g.1 u)]) (by decide) rfl rfl rfl (Nat.le_of_ble_eq_true rfl) ?_
  have g0 : 0 ≤ γ 0 0 ∧ γ 0 0 ≤ 20 := hc.1 0 0 (by decide)
  refine ev_aload_n 0 (q := 1) dT_addInput_0 rfl (by rfl) rfl ?_
  refine ev_dup (q := 2) dT_addInput_1 rfl rfl ?_
  refine ev_get (q := 5) (v := zi (γ 24 t)) dT_addInput_2 fT_43 (at_T hc.2.1 hp0) rfl rfl ?_
  have g1 : 0 ≤ γ 24 t ∧ γ 24 t ≤ 1048575 := hc.1 24 t (by decide)
  refine ev_aload_n 2 (q := 6) dT_addInput_5 rfl (by rfl) rfl ?_
  refine ev_get (q := 9) dT_addInput_6 fT_9 (at_T hc.2.1 hp2) (by rfl) rfl ?_
  refine cv_N (As := [_]) (q := 12) dT_addInput_9 kT_46 rfl (Nat.le_of_ble_eq_true rfl) rfl rfl rfl (by decide) (sH_bit hc u ⟨by omega, by omega⟩ ) ?_
  have g2 := bH_bit γ (p := u) ⟨by omega, by omega⟩
  refine ev_aload_n 2 (q := 13) dT_addInput_12 rfl (by rfl) rfl ?_
  refine ev_get (q := 16) (v := zi (γ 24 u)) dT_addInput_13 fT_43 (at_T hc.2.1 hp2) rfl rfl ?_
  have g3 : 0 ≤ γ 24 u ∧ γ 24 u ≤ 1048575 := hc.1 24 u (by decide)
  refine zr_ior (q := 17) dT_addInput_16 rfl ?_
  have g4 : z_rg (zor (cH_bit γ u) (γ 24 u)) := iI_rg _
  have g5 := zor_20 (a := (cH_bit γ u)) (b := (γ 24 u)) ⟨by omega, by omega⟩ ⟨by omega, by omega⟩
  refine zr_ior (q := 18) dT_addInput_17 rfl ?_
  have g6 : z_rg (zor (γ 24 t) (zor (cH_bit γ u) (γ 24 u))) := iI_rg _
  have g7 := zor_20 (a := (γ 24 t)) (b := (zor (cH_bit γ u) (γ 24 u))) ⟨by omega, by omega⟩ ⟨by omega, by omega⟩
  refine zr_puti (q := 21) dT_addInput_18 gT_43 (at_T hc.2.1 hp0) (Nat.le_of_ble_eq_true rfl) rfl (ct_ancestors hc.2.1 hp0) rfl ?_
  have hc8 : zC g (z_up γ 24 t (zor (γ 24 t) (zor (cH_bit γ u) (γ 24 u)))) := zC_up hc (by decide) (by decide) (by decide) (show (0 : Int) ≤ (zor (γ 24 t) (zor (cH_bit γ u) (γ 24 u))) by omega) (show (zor (γ 24 t) (zor (cH_bit γ u) (γ 24 u))) ≤ (1048575 : Int) by omega)
  refine ev_aload_n 0 (q := 22) dT_addInput_21 rfl (by rfl) rfl ?_
  refine ev_get (q := 25) dT_addInput_22 fT_30 (at_T hc8.2.1 hp0) (by rfl) rfl ?_
  refine ev_aload_n 1 (q := 26) dT_addInput_25 rfl (by rfl) rfl ?_
  refine cv_V (As := [_]) (q := 29) dT_addInput_26 kT_50 (at_L hc8.2.1 (zl0 hp0)) rfl rfl (Nat.le_of_ble_eq_true rfl) rfl rfl rfl (by decide) (sL_add hc8 (2 * t) s (zl0 hp0) hp1 (show γ 32 (2 * t) ≤ 3 by omega) (by omega)) ?_
  have hc9 : zC g ((cL_add (z_up γ 24 t (zor (γ 24 t) (zor (cH_bit γ u) (γ 24 u)))) (2 * t) s)).2 := wL_add hc8 (2 * t) s (zl0 hp0) hp1 (show γ 32 (2 * t) ≤ 3 by omega) (by omega)
  exact zr_iret dT_addInput_29 rfl ⟨by rw [cT_addInput], by rw [cT_addInput]⟩
set_option maxRecDepth 100000 in
set_option maxHeartbeats 4000000 in
theorem wT_addInput {g : z_Gl} {γ : z_Sg} (hc : zC g γ) (t s u : Int) (hp0 : 0 ≤ t ∧ t < γ 0 0) (hp1 : zEx γ s) (hp2 : 0 ≤ u ∧ u < γ 0 0) (he0 : γ 32 (2 * t) ≤ 3) : zC g (cT_addInput γ t s u).2 := by
  rw [cT_addInput]
  have g0 : 0 ≤ γ 0 0 ∧ γ 0 0 ≤ 20 := hc.1 0 0 (by decide)
  have g1 : 0 ≤ γ 24 t ∧ γ 24 t ≤ 1048575 := hc.1 24 t (by decide)
  have g2 := bH_bit γ (p := u) ⟨by omega, by omega⟩
  have g3 : 0 ≤ γ 24 u ∧ γ 24 u ≤ 1048575 := hc.1 24 u (by decide)
  have g4 : z_rg (zor (cH_bit γ u) (γ 24 u)) := iI_rg _
  have g5 := zor_20 (a := (cH_bit γ u)) (b := (γ 24 u)) ⟨by omega, by omega⟩ ⟨by omega, by omega⟩
  have g6 : z_rg (zor (γ 24 t) (zor (cH_bit γ u) (γ 24 u))) := iI_rg _
  have g7 := zor_20 (a := (γ 24 t)) (b := (zor (cH_bit γ u) (γ 24 u))) ⟨by omega, by omega⟩ ⟨by omega, by omega⟩
  have hc8 : zC g (z_up γ 24 t (zor (γ 24 t) (zor (cH_bit γ u) (γ 24 u)))) := zC_up hc (by decide) (by decide) (by decide) (show (0 : Int) ≤ (zor (γ 24 t) (zor (cH_bit γ u) (γ 24 u))) by omega) (show (zor (γ 24 t) (zor (cH_bit γ u) (γ 24 u))) ≤ (1048575 : Int) by omega)
  have hc9 : zC g ((cL_add (z_up γ 24 t (zor (γ 24 t) (zor (cH_bit γ u) (γ 24 u)))) (2 * t) s)).2 := wL_add hc8 (2 * t) s (zl0 hp0) hp1 (show γ 32 (2 * t) ≤ 3 by omega) (by omega)
  exact hc9

theorem kT_addInput {γ : z_Sg} (t s u : Int) {c : Nat} (h0 : c ≠ 24) (h1 : c ≠ 32) (h2 : c ≠ 33) : (cT_addInput γ t s u).2 c = γ c := by
  unfold cT_addInput
  repeat' split
  all_goals first | rfl | (simp only [z_up_n h0, z_up_n h1, z_up_n h2, kL_add _ _ h1 h2])

def cH_consume (γ : z_Sg) (t u o : Int) : Int × z_Sg := if 0 ≤ t ∧ t < (γ 0 0) then if 0 ≤ u ∧ u < (γ 0 0) then if 0 ≤ u ∧ u < (γ 0 0) ∧ 0 ≤ o ∧ o < γ 32 (2 * u + 1) then if (γ 25 t) = 0 then if (cH_has γ (γ 2 (γ 20 t)) u) ≠ 0 then if (γ 21 u) = (γ 21 t) then if (cL_holds γ (2 * t) (4 * u + o)) = 0 then if (cL_hasRoomFor γ (2 * t) 1) ≠ 0 then (((cT_addInput γ t (4 * u + o) u)).1, ((cT_addInput γ t (4 * u + o) u)).2) else ((-6), γ) else ((-5), γ) else ((-4), γ) else ((-3), γ) else ((-2), γ) else ((-1), γ) else if 0 ≤ u ∧ u < (γ 0 0) ∧ 0 ≤ o ∧ o < γ 32 (2 * u + 1) then ((-1), γ) else ((-1), γ) else if 0 ≤ u ∧ u < (γ 0 0) then if 0 ≤ u ∧ u < (γ 0 0) ∧ 0 ≤ o ∧ o < γ 32 (2 * u + 1) then ((-1), γ) else ((-1), γ) else if 0 ≤ u ∧ u < (γ 0 0) ∧ 0 ≤ o ∧ o < γ 32 (2 * u + 1) then ((-1), γ) else ((-1), γ)
set_option maxRecDepth 100000 in
set_option maxHeartbeats 4000000 in
theorem sH_consume {g : z_Gl} {γ ρ : z_Sg} (hc : zC g γ) (t u o : Int) (hp0 : z_rg t) (hp1 : z_rg u) (hp2 : z_rg o) : z_Sp mH_consume (2, 44) 0 0 [.ref (0), zi t, zi u, zi o] (zH g γ ρ) (fun r M' => r = some (zi (cH_consume γ t u o).1) ∧ M' = zH g (cH_consume γ t u o).2 ρ) := by
  refine z_Sp_of (L := [.ref (0), zi t, zi u, zi o, .float 0, .float 0, .float 0]) (by decide) rfl rfl rfl (Nat.le_of_ble_eq_true rfl) ?_
  have g0 : 0 ≤ γ 0 0 ∧ γ 0 0 ≤ 20 := hc.1 0 0 (by decide)
  refine ev_aload_n 0 (q := 1) dH_consume_0 rfl (by rfl) rfl ?_
  refine ev_iload_n 1 (q := 2) dH_consume_1 rfl (by rfl) rfl ?_
  by_cases h1 : 0 ≤ t ∧ t < (γ 0 0)
  · refine cv_V (As := [_]) (q := 5) dH_consume_2 kH_60 at_H rfl rfl (Nat.le_of_ble_eq_true rfl) rfl rfl rfl (by decide) (sH_find_s hc t  h1) ?_
    refine ev_astore (q := 7) dH_consume_5 (by decide) rfl rfl ?_
    dsimp only [List.set]
    refine ev_aload_n 0 (q := 8) dH_consume_7 rfl (by rfl) rfl ?_
    refine ev_iload_n 2 (q := 9) dH_consume_8 rfl (by rfl) rfl ?_
    by_cases h2 : 0 ≤ u ∧ u < (γ 0 0)
    · refine cv_V (As := [_]) (q := 12) dH_consume_9 kH_60 at_H rfl rfl (Nat.le_of_ble_eq_true rfl) rfl rfl rfl (by decide) (sH_find_s hc u  h2) ?_
      refine ev_astore (q := 14) dH_consume_12 (by decide) rfl rfl ?_
      dsimp only [List.set]
      refine ev_aload_n 0 (q := 15) dH_consume_14 rfl (by rfl) rfl ?_
      refine ev_iload_n 2 (q := 16) dH_consume_15 rfl (by rfl) rfl ?_
      refine ev_iload_n 3 (q := 17) dH_consume_16 rfl (by rfl) rfl ?_
      by_cases h3 : 0 ≤ u ∧ u < (γ 0 0) ∧ 0 ≤ o ∧ o < γ 32 (2 * u + 1)
      · refine cv_V (As := [_, _]) (q := 20) dH_consume_17 kH_64 at_H rfl rfl (Nat.le_of_ble_eq_true rfl) rfl rfl rfl (by decide) (sH_findState_s hc u o  h3) ?_
        have g20 : 0 ≤ γ 32 (2 * u + 1) ∧ γ 32 (2 * u + 1) ≤ 4 := hc.1 32 _ (by decide)
        refine ev_astore (q := 22) dH_consume_20 (by decide) rfl rfl ?_
        dsimp only [List.set]
        refine ev_aload (q := 24) dH_consume_22 (by rfl) rfl ?_
        refine ev_ifnull (q := 27) dH_consume_24 rfl ?_
        refine ev_aload (q := 29) dH_consume_27 (by rfl) rfl ?_
        refine ev_ifnull (q := 32) dH_consume_29 rfl ?_
        refine ev_aload (q := 34) dH_consume_32 (by rfl) rfl ?_
        refine ev_ifnonnull (t := 39) (q := 39) dH_consume_34 rfl rfl ?_
        refine ev_aload (q := 41) dH_consume_39 (by rfl) rfl ?_
        refine ev_get (q := 44) (v := zi (γ 25 t)) dH_consume_41 fH_68 (at_T hc.2.1 h1) rfl rfl ?_
        have g4 : 0 ≤ γ 25 t ∧ γ 25 t ≤ 9 := hc.1 25 t (by decide)
        refine zr_if_eq (t := 50) (q := 47) dH_consume_44 rfl rfl ⟨by omega, by omega⟩ (fun h5 => ?_) (fun h5 => ?_)
        · refine ev_aload_n 0 (q := 51) dH_consume_50 rfl (by rfl) rfl ?_
          refine ev_get (q := 54) dH_consume_51 fH_17 at_H (by rfl) rfl ?_
          refine ev_aload (q := 56) dH_consume_54 (by rfl) rfl ?_
          refine ev_get (q := 59) (v := zi (γ 20 t)) dH_consume_56 fH_71 (at_T hc.2.1 h1) rfl rfl ?_
          have g6 : 0 ≤ γ 20 t ∧ γ 20 t ≤ 3 := hc.1 20 t (by decide)
          refine zr_aald (q := 60) dH_consume_59 (fun _ => ⟨_, rfl⟩) at_nodes (by decide) ⟨by omega, by omega⟩ (if_pos ⟨by omega, by omega⟩) rfl ?_
          refine ev_get (q := 63) (v := zi (γ 2 (γ 20 t))) dH_consume_60 fH_74 (at_N ⟨by omega, by omega⟩) rfl rfl ?_
          have g7 : 0 ≤ γ 2 (γ 20 t) ∧ γ 2 (γ 20 t) ≤ 1048575 := hc.1 2 (γ 20 t) (by decide)
          refine ev_iload_n 2 (q := 64) dH_consume_63 rfl (by rfl) rfl ?_
          refine cv_S (As := [_, _]) (q := 67) dH_consume_64 kH_77 rfl (Nat.le_of_ble_eq_true rfl) rfl rfl rfl (by decide) (sH_has hc (γ 2 (γ 20 t)) u ⟨by omega, by omega⟩ ⟨by omega, by omega⟩ ) ?_
          have g8 : (cH_has γ (γ 2 (γ 20 t)) u) = 0 ∨ (cH_has γ (γ 2 (γ 20 t)) u) = 1 := bH_has _ _ _
          refine zr_if_ne (t := 73) (q := 70) dH_consume_67 rfl rfl ⟨by omega, by omega⟩ (fun h9 => ?_) (fun h9 => ?_)
          · refine ev_aload (q := 75) dH_consume_73 (by rfl) rfl ?_
            refine ev_get (q := 78) (v := zi (γ 21 u)) dH_consume_75 fH_81 (at_T hc.2.1 h2) rfl rfl ?_
            have g10 : 0 ≤ γ 21 u ∧ γ 21 u ≤ 5 := hc.1 21 u (by decide)
            refine ev_aload (q := 80) dH_consume_78 (by rfl) rfl ?_
            refine ev_get (q := 83) (v := zi (γ 21 t)) dH_consume_80 fH_81 (at_T hc.2.1 h1) rfl rfl ?_
            have g11 : 0 ≤ γ 21 t ∧ γ 21 t ≤ 5 := hc.1 21 t (by decide)
            refine zr_icmp_eq (t := 89) (q := 86) dH_consume_83 rfl rfl ⟨by omega, by omega⟩ ⟨by omega, by omega⟩ (fun h12 => ?_) (fun h12 => ?_)
            · refine ev_aload (q := 91) dH_consume_89 (by rfl) rfl ?_
              refine ev_get (q := 94) dH_consume_91 fH_84 (at_T hc.2.1 h1) (by rfl) rfl ?_
              refine ev_aload (q := 96) dH_consume_94 (by rfl) rfl ?_
              refine ev_get (q := 99) dH_consume_96 fH_88 (at_S hc.2.1 (zEx_of hc h3)) (by rfl) rfl ?_
              refine cv_V (As := [_]) (q := 102) dH_consume_99 kH_93 (at_L hc.2.1 (zl0 h1)) rfl rfl (Nat.le_of_ble_eq_true rfl) rfl rfl rfl (by decide) (sL_holds hc (2 * t) (4 * u + o) (zl0 h1) ⟨by omega, by omega⟩ ) ?_
              have g13 : (cL_holds γ (2 * t) (4 * u + o)) = 0 ∨ (cL_holds γ (2 * t) (4 * u + o)) = 1 := bL_holds _ _ _
              refine zr_if_eq (t := 108) (q := 105) dH_consume_102 rfl rfl ⟨by omega, by omega⟩ (fun h14 => ?_) (fun h14 => ?_)
              · refine ev_aload (q := 110) dH_consume_108 (by rfl) rfl ?_
                refine ev_get (q := 113) dH_consume_110 fH_84 (at_T hc.2.1 h1) (by rfl) rfl ?_
                refine ev_iconst (v := iI 1) (q := 114) dH_consume_113 rfl rfl ?_
                refine cv_V (As := [_]) (q := 117) dH_consume_114 kH_98 (at_L hc.2.1 (zl0 h1)) rfl rfl (Nat.le_of_ble_eq_true rfl) rfl rfl rfl (by decide) (sL_hasRoomFor hc (2 * t) 1 (zl0 h1) ⟨by omega, by omega⟩ ) ?_
                have g15 : (cL_hasRoomFor γ (2 * t) 1) = 0 ∨ (cL_hasRoomFor γ (2 * t) 1) = 1 := bL_hasRoomFor _ _ _
                refine zr_if_ne (t := 123) (q := 120) dH_consume_117 rfl rfl ⟨by omega, by omega⟩ (fun h16 => ?_) (fun h16 => ?_)
                · have f19 := tL_hasRoomFor hc h16
                  refine ev_aload (q := 125) dH_consume_123 (by rfl) rfl ?_
                  refine ev_aload (q := 127) dH_consume_125 (by rfl) rfl ?_
                  refine ev_aload (q := 129) dH_consume_127 (by rfl) rfl ?_
                  refine cv_V (As := [_, _]) (q := 132) dH_consume_129 kH_101 (at_T hc.2.1 h1) rfl rfl (Nat.le_of_ble_eq_true rfl) rfl rfl rfl (by decide) (sT_addInput hc t (4 * u + o) u h1 (zEx_of hc h3) h2 (by omega)) ?_
                  have hc17 : zC g ((cT_addInput γ t (4 * u + o) u)).2 := wT_addInput hc t (4 * u + o) u h1 (zEx_of hc h3) h2 (by omega)
                  exact zr_iret dH_consume_132 rfl ⟨by rw [cH_consume, if_pos h1, if_pos h2, if_pos h3, if_pos h5, if_pos h9, if_pos h12, if_pos h14, if_pos h16], by rw [cH_consume, if_pos h1, if_pos h2, if_pos h3, if_pos h5, if_pos h9, if_pos h12, if_pos h14, if_pos h16]⟩
                · refine ev_bipush (v := iI (-6)) (q := 122) dH_consume_120 (by decide) rfl ?_
                  exact zr_iret dH_consume_122 rfl ⟨by rw [cH_consume, if_pos h1, if_pos h2, if_pos h3, if_pos h5, if_pos h9, if_pos h12, if_pos h14, if_neg (fun z => z h16)], by rw [cH_consume, if_pos h1, if_pos h2, if_pos h3, if_pos h5, if_pos h9, if_pos h12, if_pos h14, if_neg (fun z => z h16)]⟩
              · refine ev_bipush (v := iI (-5)) (q := 107) dH_consume_105 (by decide) rfl ?_
                exact zr_iret dH_consume_107 rfl ⟨by rw [cH_consume, if_pos h1, if_pos h2, if_pos h3, if_pos h5, if_pos h9, if_pos h12, if_neg h14], by rw [cH_consume, if_pos h1, if_pos h2, if_pos h3, if_pos h5, if_pos h9, if_pos h12, if_neg h14]⟩
            · refine ev_bipush (v := iI (-4)) (q := 88) dH_consume_86 (by decide) rfl ?_
              exact zr_iret dH_consume_88 rfl ⟨by rw [cH_consume, if_pos h1, if_pos h2, if_pos h3, if_pos h5, if_pos h9, if_neg h12], by rw [cH_consume, if_pos h1, if_pos h2, if_pos h3, if_pos h5, if_pos h9, if_neg h12]⟩
          · refine ev_bipush (v := iI (-3)) (q := 72) dH_consume_70 (by decide) rfl ?_
            exact zr_iret dH_consume_72 rfl ⟨by rw [cH_consume, if_pos h1, if_pos h2, if_pos h3, if_pos h5, if_neg (fun z => z h9)], by rw [cH_consume, if_pos h1, if_pos h2, if_pos h3, if_pos h5, if_neg (fun z => z h9)]⟩
        · refine ev_bipush (v := iI (-2)) (q := 49) dH_consume_47 (by decide) rfl ?_
          exact zr_iret dH_consume_49 rfl ⟨by rw [cH_consume, if_pos h1, if_pos h2, if_pos h3, if_neg h5], by rw [cH_consume, if_pos h1, if_pos h2, if_pos h3, if_neg h5]⟩
      · refine cv_V (As := [_, _]) (q := 20) dH_consume_17 kH_64 at_H rfl rfl (Nat.le_of_ble_eq_true rfl) rfl rfl rfl (by decide) (sH_findState_n hc u o ⟨by omega, by omega⟩ ⟨by omega, by omega⟩ h3) ?_
        refine ev_astoreN (q := 22) dH_consume_20 (by decide) rfl rfl ?_
        dsimp only [List.set]
        refine ev_aload (q := 24) dH_consume_22 (by rfl) rfl ?_
        refine ev_ifnull (q := 27) dH_consume_24 rfl ?_
        refine ev_aload (q := 29) dH_consume_27 (by rfl) rfl ?_
        refine ev_ifnull (q := 32) dH_consume_29 rfl ?_
        refine ev_aloadN (q := 34) dH_consume_32 (by rfl) rfl ?_
        refine ev_ifnonnullN (q := 37) dH_consume_34 rfl ?_
        refine ev_iconst (v := iI (-1)) (q := 38) dH_consume_37 rfl rfl ?_
        exact zr_iret dH_consume_38 rfl ⟨by rw [cH_consume, if_pos h1, if_pos h2, if_neg h3], by rw [cH_consume, if_pos h1, if_pos h2, if_neg h3]⟩
    · refine cv_V (As := [_]) (q := 12) dH_consume_9 kH_60 at_H rfl rfl (Nat.le_of_ble_eq_true rfl) rfl rfl rfl (by decide) (sH_find_n hc u ⟨by omega, by omega⟩ h2) ?_
      refine ev_astoreN (q := 14) dH_consume_12 (by decide) rfl rfl ?_
      dsimp only [List.set]
      refine ev_aload_n 0 (q := 15) dH_consume_14 rfl (by rfl) rfl ?_
      refine ev_iload_n 2 (q := 16) dH_consume_15 rfl (by rfl) rfl ?_
      refine ev_iload_n 3 (q := 17) dH_consume_16 rfl (by rfl) rfl ?_
      by_cases h21 : 0 ≤ u ∧ u < (γ 0 0) ∧ 0 ≤ o ∧ o < γ 32 (2 * u + 1)
      · refine cv_V (As := [_, _]) (q := 20) dH_consume_17 kH_64 at_H rfl rfl (Nat.le_of_ble_eq_true rfl) rfl rfl rfl (by decide) (sH_findState_s hc u o  h21) ?_
        have g22 : 0 ≤ γ 32 (2 * u + 1) ∧ γ 32 (2 * u + 1) ≤ 4 := hc.1 32 _ (by decide)
        refine ev_astore (q := 22) dH_consume_20 (by decide) rfl rfl ?_
        dsimp only [List.set]
        refine ev_aload (q := 24) dH_consume_22 (by rfl) rfl ?_
        refine ev_ifnull (q := 27) dH_consume_24 rfl ?_
        refine ev_aloadN (q := 29) dH_consume_27 (by rfl) rfl ?_
        refine ev_ifnullN (t := 37) (q := 37) dH_consume_29 rfl rfl ?_
        refine ev_iconst (v := iI (-1)) (q := 38) dH_consume_37 rfl rfl ?_
        exact zr_iret dH_consume_38 rfl ⟨by rw [cH_consume, if_pos h1, if_neg h2, if_pos h21], by rw [cH_consume, if_pos h1, if_neg h2, if_pos h21]⟩
      · refine cv_V (As := [_, _]) (q := 20) dH_consume_17 kH_64 at_H rfl rfl (Nat.le_of_ble_eq_true rfl) rfl rfl rfl (by decide) (sH_findState_n hc u o ⟨by omega, by omega⟩ ⟨by omega, by omega⟩ h21) ?_
        refine ev_astoreN (q := 22) dH_consume_20 (by decide) rfl rfl ?_
        dsimp only [List.set]
        refine ev_aload (q := 24) dH_consume_22 (by rfl) rfl ?_
        refine ev_ifnull (q := 27) dH_consume_24 rfl ?_
        refine ev_aloadN (q := 29) dH_consume_27 (by rfl) rfl ?_
        refine ev_ifnullN (t := 37) (q := 37) dH_consume_29 rfl rfl ?_
        refine ev_iconst (v := iI (-1)) (q := 38) dH_consume_37 rfl rfl ?_
        exact zr_iret dH_consume_38 rfl ⟨by rw [cH_consume, if_pos h1, if_neg h2, if_neg h21], by rw [cH_consume, if_pos h1, if_neg h2, if_neg h21]⟩
  · refine cv_V (As := [_]) (q := 5) dH_consume_2 kH_60 at_H rfl rfl (Nat.le_of_ble_eq_true rfl) rfl rfl rfl (by decide) (sH_find_n hc t ⟨by omega, by omega⟩ h1) ?_
    refine ev_astoreN (q := 7) dH_consume_5 (by decide) rfl rfl ?_
    dsimp only [List.set]
    refine ev_aload_n 0 (q := 8) dH_consume_7 rfl (by rfl) rfl ?_
    refine ev_iload_n 2 (q := 9) dH_consume_8 rfl (by rfl) rfl ?_
    by_cases h23 : 0 ≤ u ∧ u < (γ 0 0)
    · refine cv_V (As := [_]) (q := 12) dH_consume_9 kH_60 at_H rfl rfl (Nat.le_of_ble_eq_true rfl) rfl rfl rfl (by decide) (sH_find_s hc u  h23) ?_
      refine ev_astore (q := 14) dH_consume_12 (by decide) rfl rfl ?_
      dsimp only [List.set]
      refine ev_aload_n 0 (q := 15) dH_consume_14 rfl (by rfl) rfl ?_
      refine ev_iload_n 2 (q := 16) dH_consume_15 rfl (by rfl) rfl ?_
      refine ev_iload_n 3 (q := 17) dH_consume_16 rfl (by rfl) rfl ?_
      by_cases h24 : 0 ≤ u ∧ u < (γ 0 0) ∧ 0 ≤ o ∧ o < γ 32 (2 * u + 1)
      · refine cv_V (As := [_, _]) (q := 20) dH_consume_17 kH_64 at_H rfl rfl (Nat.le_of_ble_eq_true rfl) rfl rfl rfl (by decide) (sH_findState_s hc u o  h24) ?_
        have g25 : 0 ≤ γ 32 (2 * u + 1) ∧ γ 32 (2 * u + 1) ≤ 4 := hc.1 32 _ (by decide)
        refine ev_astore (q := 22) dH_consume_20 (by decide) rfl rfl ?_
        dsimp only [List.set]
        refine ev_aloadN (q := 24) dH_consume_22 (by rfl) rfl ?_
        refine ev_ifnullN (t := 37) (q := 37) dH_consume_24 rfl rfl ?_
        refine ev_iconst (v := iI (-1)) (q := 38) dH_consume_37 rfl rfl ?_
        exact zr_iret dH_consume_38 rfl ⟨by rw [cH_consume, if_neg h1, if_pos h23, if_pos h24], by rw [cH_consume, if_neg h1, if_pos h23, if_pos h24]⟩
      · refine cv_V (As := [_, _]) (q := 20) dH_consume_17 kH_64 at_H rfl rfl (Nat.le_of_ble_eq_true rfl) rfl rfl rfl (by decide) (sH_findState_n hc u o ⟨by omega, by omega⟩ ⟨by omega, by omega⟩ h24) ?_
        refine ev_astoreN (q := 22) dH_consume_20 (by decide) rfl rfl ?_
        dsimp only [List.set]
        refine ev_aloadN (q := 24) dH_consume_22 (by rfl) rfl ?_
        refine ev_ifnullN (t := 37) (q := 37) dH_consume_24 rfl rfl ?_
        refine ev_iconst (v := iI (-1)) (q := 38) dH_consume_37 rfl rfl ?_
        exact zr_iret dH_consume_38 rfl ⟨by rw [cH_consume, if_neg h1, if_pos h23, if_neg h24], by rw [cH_consume, if_neg h1, if_pos h23, if_neg h24]⟩
    · refine cv_V (As := [_]) (q := 12) dH_consume_9 kH_60 at_H rfl rfl (Nat.le_of_ble_eq_true rfl) rfl rfl rfl (by decide) (sH_find_n hc u ⟨by omega, by omega⟩ h23) ?_
      refine ev_astoreN (q := 14) dH_consume_12 (by decide) rfl rfl ?_
      dsimp only [List.set]
      refine ev_aload_n 0 (q := 15) dH_consume_14 rfl (by rfl) rfl ?_
      refine ev_iload_n 2 (q := 16) dH_consume_15 rfl (by rfl) rfl ?_
      refine ev_iload_n 3 (q := 17) dH_consume_16 rfl (by rfl) rfl ?_
      by_cases h26 : 0 ≤ u ∧ u < (γ 0 0) ∧ 0 ≤ o ∧ o < γ 32 (2 * u + 1)
      · refine cv_V (As := [_, _]) (q := 20) dH_consume_17 kH_64 at_H rfl rfl (Nat.le_of_ble_eq_true rfl) rfl rfl rfl (by decide) (sH_findState_s hc u o  h26) ?_
        have g27 : 0 ≤ γ 32 (2 * u + 1) ∧ γ 32 (2 * u + 1) ≤ 4 := hc.1 32 _ (by decide)
        refine ev_astore (q := 22) dH_consume_20 (by decide) rfl rfl ?_
        dsimp only [List.set]
        refine ev_aloadN (q := 24) dH_consume_22 (by rfl) rfl ?_
        refine ev_ifnullN (t := 37) (q := 37) dH_consume_24 rfl rfl ?_
        refine ev_iconst (v := iI (-1)) (q := 38) dH_consume_37 rfl rfl ?_
        exact zr_iret dH_consume_38 rfl ⟨by rw [cH_consume, if_neg h1, if_neg h23, if_pos h26], by rw [cH_consume, if_neg h1, if_neg h23, if_pos h26]⟩
      · refine cv_V (As := [_, _]) (q := 20) dH_consume_17 kH_64 at_H rfl rfl (Nat.le_of_ble_eq_true rfl) rfl rfl rfl (by decide) (sH_findState_n hc u o ⟨by omega, by omega⟩ ⟨by omega, by omega⟩ h26) ?_
        refine ev_astoreN (q := 22) dH_consume_20 (by decide) rfl rfl ?_
        dsimp only [List.set]
        refine ev_aloadN (q := 24) dH_consume_22 (by rfl) rfl ?_
        refine ev_ifnullN (t := 37) (q := 37) dH_consume_24 rfl rfl ?_
        refine ev_iconst (v := iI (-1)) (q := 38) dH_consume_37 rfl rfl ?_
        exact zr_iret dH_consume_38 rfl ⟨by rw [cH_consume, if_neg h1, if_neg h23, if_neg h26], by rw [cH_consume, if_neg h1, if_neg h23, if_neg h26]⟩
set_option maxRecDepth 100000 in
set_option maxHeartbeats 4000000 in
theorem wH_consume {g : z_Gl} {γ : z_Sg} (hc : zC g γ) (t u o : Int) (hp0 : z_rg t) (hp1 : z_rg u) (hp2 : z_rg o) : zC g (cH_consume γ t u o).2 := by
  rw [cH_consume]
  have g0 : 0 ≤ γ 0 0 ∧ γ 0 0 ≤ 20 := hc.1 0 0 (by decide)
  by_cases h1 : 0 ≤ t ∧ t < (γ 0 0)
  · rw [if_pos h1]
    by_cases h2 : 0 ≤ u ∧ u < (γ 0 0)
    · rw [if_pos h2]
      by_cases h3 : 0 ≤ u ∧ u < (γ 0 0) ∧ 0 ≤ o ∧ o < γ 32 (2 * u + 1)
      · rw [if_pos h3]
        have g20 : 0 ≤ γ 32 (2 * u + 1) ∧ γ 32 (2 * u + 1) ≤ 4 := hc.1 32 _ (by decide)
        have g4 : 0 ≤ γ 25 t ∧ γ 25 t ≤ 9 := hc.1 25 t (by decide)
        by_cases h5 : (γ 25 t) = 0
        · rw [if_pos h5]
          have g6 : 0 ≤ γ 20 t ∧ γ 20 t ≤ 3 := hc.1 20 t (by decide)
          have g7 : 0 ≤ γ 2 (γ 20 t) ∧ γ 2 (γ 20 t) ≤ 1048575 := hc.1 2 (γ 20 t) (by decide)
          have g8 : (cH_has γ (γ 2 (γ 20 t)) u) = 0 ∨ (cH_has γ (γ 2 (γ 20 t)) u) = 1 := bH_has _ _ _
          by_cases h9 : (cH_has γ (γ 2 (γ 20 t)) u) ≠ 0
          · rw [if_pos h9]
            have g10 : 0 ≤ γ 21 u ∧ γ 21 u ≤ 5 := hc.1 21 u (by decide)
            have g11 : 0 ≤ γ 21 t ∧ γ 21 t ≤ 5 := hc.1 21 t (by decide)
            by_cases h12 : (γ 21 u) = (γ 21 t)
            · rw [if_pos h12]
              have g13 : (cL_holds γ (2 * t) (4 * u + o)) = 0 ∨ (cL_holds γ (2 * t) (4 * u + o)) = 1 := bL_holds _ _ _
              by_cases h14 : (cL_holds γ (2 * t) (4 * u + o)) = 0
              · rw [if_pos h14]
                have g15 : (cL_hasRoomFor γ (2 * t) 1) = 0 ∨ (cL_hasRoomFor γ (2 * t) 1) = 1 := bL_hasRoomFor _ _ _
                by_cases h16 : (cL_hasRoomFor γ (2 * t) 1) ≠ 0
                · rw [if_pos h16]
                  have f19 := tL_hasRoomFor hc h16
                  have hc17 : zC g ((cT_addInput γ t (4 * u + o) u)).2 := wT_addInput hc t (4 * u + o) u h1 (zEx_of hc h3) h2 (by omega)
                  exact hc17
                · rw [if_neg h16]
                  exact hc
              · rw [if_neg h14]
                exact hc
            · rw [if_neg h12]
              exact hc
          · rw [if_neg h9]
            exact hc
        · rw [if_neg h5]
          exact hc
      · rw [if_neg h3]
        exact hc
    · rw [if_neg h2]
      by_cases h21 : 0 ≤ u ∧ u < (γ 0 0) ∧ 0 ≤ o ∧ o < γ 32 (2 * u + 1)
      · rw [if_pos h21]
        have g22 : 0 ≤ γ 32 (2 * u + 1) ∧ γ 32 (2 * u + 1) ≤ 4 := hc.1 32 _ (by decide)
        exact hc
      · rw [if_neg h21]
        exact hc
  · rw [if_neg h1]
    by_cases h23 : 0 ≤ u ∧ u < (γ 0 0)
    · rw [if_pos h23]
      by_cases h24 : 0 ≤ u ∧ u < (γ 0 0) ∧ 0 ≤ o ∧ o < γ 32 (2 * u + 1)
      · rw [if_pos h24]
        have g25 : 0 ≤ γ 32 (2 * u + 1) ∧ γ 32 (2 * u + 1) ≤ 4 := hc.1 32 _ (by decide)
        exact hc
      · rw [if_neg h24]
        exact hc
    · rw [if_neg h23]
      by_cases h26 : 0 ≤ u ∧ u < (γ 0 0) ∧ 0 ≤ o ∧ o < γ 32 (2 * u + 1)
      · rw [if_pos h26]
        have g27 : 0 ≤ γ 32 (2 * u + 1) ∧ γ 32 (2 * u + 1) ≤ 4 := hc.1 32 _ (by decide)
        exact hc
      · rw [if_neg h26]
        exact hc

theorem kH_consume {γ : z_Sg} (t u o : Int) {c : Nat} (h0 : c ≠ 24) (h1 : c ≠ 32) (h2 : c ≠ 33) : (cH_consume γ t u o).2 c = γ c := by
  unfold cH_consume
  repeat' split
  all_goals first | rfl | (simp only [z_up_n h0, z_up_n h1, z_up_n h2, kT_addInput _ _ _ h0 h1 h2])
