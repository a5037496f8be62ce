theorem tH_isAmount {g : z_Gl} {γ : z_Sg} (hc : zC g γ) {n : Int} (h : cH_isAmount γ n ≠ 0) : 1 ≤ n ∧ n ≤ 1000 := by
  unfold cH_isAmount at h
  repeat' split at h
  all_goals first | exact absurd rfl h | omega
theorem tH_isContent {g : z_Gl} {γ : z_Sg} (hc : zC g γ) {kd x y : Int} (h : cH_isContent γ kd x y ≠ 0) : (0 ≤ kd ∧ kd ≤ 2) ∧ (0 ≤ x ∧ x ≤ 3) ∧ (0 ≤ y ∧ y ≤ 3) := by
  have h1 : cH_isNode γ x ≠ 0 → 0 ≤ x ∧ x ≤ 3 := tH_isNode hc
  have h2 : cH_isNode γ y ≠ 0 → 0 ≤ y ∧ y ≤ 3 := tH_isNode hc
  unfold cH_isContent at h
  repeat' split at h
  all_goals first | exact absurd rfl h | (refine ⟨⟨by omega, by omega⟩, ?_, ?_⟩ <;> first | (exact h1 (by assumption)) | (exact h2 (by assumption)) | omega)
/-- the hall stands in the heap -/
def zOk (γ ρ : z_Sg) (M : List va_E) : Prop := ∃ g, M = zH g γ ρ ∧ zC g γ ∧ zLog g γ
theorem zLog_of {g : z_Gl} {γ γ' : z_Sg} (h : zLog g γ) (h0 : γ' 0 0 = γ 0 0) (h2 : ∀ t : Int, γ' 32 (2 * t + 1) = γ 32 (2 * t + 1)) : zLog g γ' := by
  intro x hx
  unfold zEx
  rw [h0, h2]
  exact h x hx
theorem zLog_fr {g : z_Gl} {γ γ' : z_Sg} (h : zLog g γ) (h0 : γ' 0 = γ 0) (h2 : γ' 32 = γ 32) : zLog g γ' := zLog_of h (congrFun h0 0) (fun t => congrFun h2 _)

def cH_produce (γ : z_Sg) (t kd x y am : Int) : Int × z_Sg := if 0 ≤ t ∧ t < (γ 0 0) then if (cH_isContent γ kd x y) = 0 then ((-1), γ) else if (cH_isAmount γ am) ≠ 0 then if (γ 25 t) = 0 then if (cL_hasRoomFor γ (2 * t + 1) 1) ≠ 0 then (γ 32 (2 * t + 1), aO γ t kd x y am) else ((-6), γ) else ((-2), γ) else ((-1), γ) else ((-1), γ)
set_option maxRecDepth 100000 in
set_option maxHeartbeats 4000000 in
theorem sH_produce {g : z_Gl} {γ ρ : z_Sg} (hc : zC g γ) (hg : zLog g γ) (t kd x y am : Int) (hp0 : z_rg t) (hp1 : z_rg kd) (hp2 : z_rg x) (hp3 : z_rg y) (hp4 : z_rg am) : z_Sp mH_produce (3, 69) 1 6 [.ref (0), zi t, zi kd, zi x, zi y, zi am] (zH g γ ρ) (fun r M' => r = some (zi (cH_produce γ t kd x y am).1) ∧ zOk (cH_produce γ t kd x y am).2 ρ M') := by
  refine z_Sp_of (L := [.ref (0), zi t, zi kd, zi x, zi y, zi am, .float 0]) (by decide) rfl rfl rfl (Nat.le_of_ble_eq_true rfl) ?_
  have g0 : 0 ≤ γ 0 0 ∧ γ 0 0 ≤ 20 := hc.1 0 0 (by decide)
  refine ev_aload_n 0 (q := 1) dH_produce_0 rfl (by rfl) rfl ?_
  refine ev_iload_n 1 (q := 2) dH_produce_1 rfl (by rfl) rfl ?_
  by_cases h1 : 0 ≤ t ∧ t < (γ 0 0)
  · refine cv_V (As := [_]) (q := 5) dH_produce_2 kH_60 at_H rfl rfl (Nat.le_of_ble_eq_true rfl) rfl rfl rfl (by decide) (sH_find_s hc t  h1) ?_
    refine ev_astore (q := 7) dH_produce_5 (by decide) rfl rfl ?_
    dsimp only [List.set]
    refine ev_aload (q := 9) dH_produce_7 (by rfl) rfl ?_
    refine ev_ifnull (q := 12) dH_produce_9 rfl ?_
    refine ev_iload_n 2 (q := 13) dH_produce_12 rfl (by rfl) rfl ?_
    refine ev_iload_n 3 (q := 14) dH_produce_13 rfl (by rfl) rfl ?_
    refine ev_iload (q := 16) dH_produce_14 (by rfl) rfl ?_
    refine cv_S (As := [_, _, _]) (q := 19) dH_produce_16 kH_105 rfl (Nat.le_of_ble_eq_true rfl) rfl rfl rfl (by decide) (sH_isContent hc kd x y ⟨by omega, by omega⟩ ⟨by omega, by omega⟩ ⟨by omega, by omega⟩ ) ?_
    have g2 : (cH_isContent γ kd x y) = 0 ∨ (cH_isContent γ kd x y) = 1 := bH_isContent _ _ _ _
    refine zr_if_eq (t := 30) (q := 22) dH_produce_19 rfl rfl ⟨by omega, by omega⟩ (fun h3 => ?_) (fun h3 => ?_)
    · refine ev_iconst (v := iI (-1)) (q := 31) dH_produce_30 rfl rfl ?_
      exact zr_iret dH_produce_31 rfl ⟨by rw [cH_produce, if_pos h1, if_pos h3], by rw [cH_produce, if_pos h1, if_pos h3]; exact ⟨g, rfl, hc, hg⟩⟩
    · have f12 := tH_isContent hc h3
      refine ev_iload (q := 24) dH_produce_22 (by rfl) rfl ?_
      refine cv_S (As := [_]) (q := 27) dH_produce_24 kH_109 rfl (Nat.le_of_ble_eq_true rfl) rfl rfl rfl (by decide) (sH_isAmount hc am ⟨by omega, by omega⟩ ) ?_
      have g4 : (cH_isAmount γ am) = 0 ∨ (cH_isAmount γ am) = 1 := bH_isAmount _ _
      refine zr_if_ne (t := 32) (q := 30) dH_produce_27 rfl rfl ⟨by omega, by omega⟩ (fun h5 => ?_) (fun h5 => ?_)
      · have f11 := tH_isAmount hc h5
        refine ev_aload (q := 34) dH_produce_32 (by rfl) rfl ?_
        refine ev_get (q := 37) (v := zi (γ 25 t)) dH_produce_34 fH_68 (at_T hc.2.1 h1) rfl rfl ?_
        have g6 : 0 ≤ γ 25 t ∧ γ 25 t ≤ 9 := hc.1 25 t (by decide)
        refine zr_if_eq (t := 43) (q := 40) dH_produce_37 rfl rfl ⟨by omega, by omega⟩ (fun h7 => ?_) (fun h7 => ?_)
        · refine ev_aload (q := 45) dH_produce_43 (by rfl) rfl ?_
          refine ev_get (q := 48) dH_produce_45 fH_112 (at_T hc.2.1 h1) (by rfl) rfl ?_
          refine ev_iconst (v := iI 1) (q := 49) dH_produce_48 rfl rfl ?_
          refine cv_V (As := [_]) (q := 52) dH_produce_49 kH_98 (at_L hc.2.1 (zl1 h1)) rfl rfl (Nat.le_of_ble_eq_true rfl) rfl rfl rfl (by decide) (sL_hasRoomFor hc (2 * t + 1) 1 (zl1 h1) ⟨by omega, by omega⟩ ) ?_
          have g8 : (cL_hasRoomFor γ (2 * t + 1) 1) = 0 ∨ (cL_hasRoomFor γ (2 * t + 1) 1) = 1 := bL_hasRoomFor _ _ _
          refine zr_if_ne (t := 58) (q := 55) dH_produce_52 rfl rfl ⟨by omega, by omega⟩ (fun h9 => ?_) (fun h9 => ?_)
          · have f10 := tL_hasRoomFor hc h9
            refine ev_aload (q := 60) dH_produce_58 (by rfl) rfl ?_
            refine ev_iload_n 2 (q := 61) dH_produce_60 rfl (by rfl) rfl ?_
            refine ev_iload_n 3 (q := 62) dH_produce_61 rfl (by rfl) rfl ?_
            refine ev_iload (q := 64) dH_produce_62 (by rfl) rfl ?_
            refine ev_iload (q := 66) dH_produce_64 (by rfl) rfl ?_
            refine cv_Va (As := [_, _, _, _]) (kc := 0) (ks := 0) (q := 69) dH_produce_66 kH_115 (at_T hc.2.1 h1) rfl rfl (Nat.le_of_ble_eq_true rfl) rfl rfl rfl rfl rfl (by decide) (sT_addOutput hc hg t kd x y am h1 ⟨by omega, by omega⟩ ⟨by omega, by omega⟩ ⟨by omega, by omega⟩ ⟨by omega, by omega⟩ (by omega)) ?_
            exact zr_iret dH_produce_69 rfl ⟨by rw [cH_produce, if_pos h1, if_neg h3, if_pos h5, if_pos h7, if_pos h9], by rw [cH_produce, if_pos h1, if_neg h3, if_pos h5, if_pos h7, if_pos h9]; exact ⟨_, rfl, wT_addOutput hc hg t kd x y am h1 ⟨by omega, by omega⟩ ⟨by omega, by omega⟩ ⟨by omega, by omega⟩ ⟨by omega, by omega⟩ (by omega)⟩⟩
          · refine ev_bipush (v := iI (-6)) (q := 57) dH_produce_55 (by decide) rfl ?_
            exact zr_iret dH_produce_57 rfl ⟨by rw [cH_produce, if_pos h1, if_neg h3, if_pos h5, if_pos h7, if_neg (fun z => z h9)], by rw [cH_produce, if_pos h1, if_neg h3, if_pos h5, if_pos h7, if_neg (fun z => z h9)]; exact ⟨g, rfl, hc, hg⟩⟩
        · refine ev_bipush (v := iI (-2)) (q := 42) dH_produce_40 (by decide) rfl ?_
          exact zr_iret dH_produce_42 rfl ⟨by rw [cH_produce, if_pos h1, if_neg h3, if_pos h5, if_neg h7], by rw [cH_produce, if_pos h1, if_neg h3, if_pos h5, if_neg h7]; exact ⟨g, rfl, hc, hg⟩⟩
      · refine ev_iconst (v := iI (-1)) (q := 31) dH_produce_30 rfl rfl ?_
        exact zr_iret dH_produce_31 rfl ⟨by rw [cH_produce, if_pos h1, if_neg h3, if_neg (fun z => z h5)], by rw [cH_produce, if_pos h1, if_neg h3, if_neg (fun z => z h5)]; exact ⟨g, rfl, hc, hg⟩⟩
  · refine cv_V (As := [_]) (q := 5) dH_produce_2 kH_60 at_H rfl rfl (Nat.le_of_ble_eq_true rfl) rfl rfl rfl (by decide) (sH_find_n hc t ⟨by omega, by omega⟩ h1) ?_
    refine ev_astoreN (q := 7) dH_produce_5 (by decide) rfl rfl ?_
    dsimp only [List.set]
    refine ev_aloadN (q := 9) dH_produce_7 (by rfl) rfl ?_
    refine ev_ifnullN (t := 30) (q := 30) dH_produce_9 rfl rfl ?_
    refine ev_iconst (v := iI (-1)) (q := 31) dH_produce_30 rfl rfl ?_
    exact zr_iret dH_produce_31 rfl ⟨by rw [cH_produce, if_neg h1], by rw [cH_produce, if_neg h1]; exact ⟨g, rfl, hc, hg⟩⟩
