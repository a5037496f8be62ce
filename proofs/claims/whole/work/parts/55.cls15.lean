theorem kH_takeCoins_odd {γ : z_Sg} (t tk u : Int) : (cH_takeCoins γ t tk).2 32 (2 * u + 1) = γ 32 (2 * u + 1) := by
  have key : ∀ (j : Nat) (γ : z_Sg) (i : Int), lH_takeCoins_2 γ t tk j i 32 (2 * u + 1) = γ 32 (2 * u + 1) := by
    intro j
    induction j with
    | zero => intro γ i; rfl
    | succ j ih =>
      intro γ i
      rw [lH_takeCoins_2]
      split
      · rw [ih, aT_32n _ _ _ _ _ (by omega)]
      · exact ih γ _
  exact key _ γ _
/-- what is paid, and what comes back -/
def tH_pay (γ : z_Sg) (t iss to am tt : Int) : z_Sg := if tt ≤ am then aO γ t 0 iss to am else aO (aO γ t 0 iss to am) t 0 iss (γ 20 t) (tt - am)

set_option maxRecDepth 100000 in
set_option maxHeartbeats 4000000 in
theorem eH_pay_182 {g : z_Gl} {γ ρ : z_Sg} (hc : zC g γ) (hg : zLog g γ) (t iss to am tk tt : Int) (x8 x9 : Value) (ht : 0 ≤ t ∧ t < γ 0 0) (hi : 0 ≤ iss ∧ iss ≤ 3) (ho : 0 ≤ to ∧ to ≤ 3) (ha : 1 ≤ am ∧ am ≤ 1000) (htt : am ≤ tt ∧ tt ≤ am + 999) (hn1 : γ 32 (2 * t + 1) ≤ 3) (hn2 : am < tt → γ 32 (2 * t + 1) ≤ 2) : z_Ev mH_pay (5, 109) 2 12 182 [.ref 0, zi t, zi iss, zi to, zi am, .ref (g.1 t), zi tk, zi tt, x8, x9] [] (zH g γ ρ) (fun r M' => r = some (zi tk) ∧ zOk (tH_pay γ t iss to am tt) ρ M') := by
  have w1 := wT_addOutput hc hg t 0 iss to am ht ⟨by omega, by omega⟩ hi ho ⟨by omega, by omega⟩ hn1
  have gi : 0 ≤ γ 20 t ∧ γ 20 t ≤ 3 := hc.1 20 t (by decide)
  refine ev_aload (q := 184) dH_pay_182 (by rfl) rfl ?_
  refine ev_iconst (v := iI 0) (q := 185) dH_pay_184 rfl rfl ?_
  refine ev_iload_n 2 (q := 186) dH_pay_185 rfl (by rfl) rfl ?_
  refine ev_iload_n 3 (q := 187) dH_pay_186 rfl (by rfl) rfl ?_
  refine ev_iload (q := 189) dH_pay_187 (by rfl) rfl ?_
  refine cv_Va (As := [_, _, _, _]) (kc := 1) (ks := 6) (q := 192) dH_pay_189 kH_115 (at_T hc.2.1 ht) rfl rfl (Nat.le_of_ble_eq_true rfl) rfl rfl rfl rfl rfl (by decide) (sT_addOutput hc hg t 0 iss to am ht ⟨by omega, by omega⟩ hi ho ⟨by omega, by omega⟩ hn1) ?_
  refine ev_pop (q := 193) dH_pay_192 rfl rfl ?_
  refine ev_iload (q := 195) dH_pay_193 (by rfl) rfl ?_
  refine ev_iload (q := 197) dH_pay_195 (by rfl) rfl ?_
  refine zr_icmp_le (t := 218) (q := 200) dH_pay_197 rfl rfl ⟨by omega, by omega⟩ ⟨by omega, by omega⟩ (fun h => ?_) (fun h => ?_)
  · refine ev_iload (q := 220) dH_pay_218 (by rfl) rfl ?_
    exact zr_iret dH_pay_220 rfl ⟨rfl, by rw [tH_pay, if_pos h]; exact ⟨_, rfl, w1⟩⟩
  · have ht2 : 0 ≤ t ∧ t < aO γ t 0 iss to am 0 0 := ht
    have hn3 : aO γ t 0 iss to am 32 (2 * t + 1) ≤ 3 := by
      rw [aO_32, zup_s]
      have := hn2 h
      omega
    have e20 : aO γ t 0 iss to am 20 t = γ 20 t := rfl
    have w2 := wT_addOutput w1.1 w1.2 t 0 iss (γ 20 t) (tt - am) ht2 ⟨by omega, by omega⟩ hi gi ⟨by omega, by omega⟩ hn3
    refine ev_aload (q := 202) dH_pay_200 (by rfl) rfl ?_
    refine ev_iconst (v := iI 0) (q := 203) dH_pay_202 rfl rfl ?_
    refine ev_iload_n 2 (q := 204) dH_pay_203 rfl (by rfl) rfl ?_
    refine ev_aload (q := 206) dH_pay_204 (by rfl) rfl ?_
    refine ev_get (q := 209) (v := zi (γ 20 t)) dH_pay_206 fH_71 (at_T w1.1.2.1 ht2) rfl rfl ?_
    refine ev_iload (q := 211) dH_pay_209 (by rfl) rfl ?_
    refine ev_iload (q := 213) dH_pay_211 (by rfl) rfl ?_
    refine zr_isub (q := 214) dH_pay_213 rfl ?_
    refine cv_Va (As := [_, _, _, _]) (kc := 0) (ks := 0) (q := 217) dH_pay_214 kH_115 (at_T w1.1.2.1 ht2) rfl rfl (Nat.le_of_ble_eq_true rfl) rfl rfl rfl rfl rfl (by decide) (sT_addOutput w1.1 w1.2 t 0 iss (γ 20 t) (tt - am) ht2 ⟨by omega, by omega⟩ hi gi ⟨by omega, by omega⟩ hn3) ?_
    refine ev_pop (q := 218) dH_pay_217 rfl rfl ?_
    refine ev_iload (q := 220) dH_pay_218 (by rfl) rfl ?_
    exact zr_iret dH_pay_220 rfl ⟨rfl, by rw [tH_pay, if_neg (Int.not_le.mpr h)]; exact ⟨_, rfl, w2⟩⟩

def lH_pay_56 (γ : z_Sg) (t iss to am : Int) (j : Nat) (k tk tt : Int) : Int × Int × z_Sg := match j with
  | 0 => (tk, tt, γ)
  | j + 1 => if am ≤ tt then (tk, tt, γ) else if 0 ≤ k ∧ k / 4 < (γ 0 0) ∧ k % 4 < γ 32 (2 * (k / 4) + 1) then if (cH_isCoin γ k iss t) = 0 then lH_pay_56 γ t iss to am j (k + 1) tk tt else lH_pay_56 (z_up γ 9 tk k) t iss to am j (k + 1) (tk + 1) (tt + (γ 37 k)) else lH_pay_56 γ t iss to am j (k + 1) tk tt
set_option maxRecDepth 100000 in
set_option maxHeartbeats 4000000 in
theorem eH_pay_56 {kc ks : Nat} {g : z_Gl} {γ ρ : z_Sg} {Q : Option Value → List va_E → Prop} (hc : zC g γ) (t iss to am : Int)  (hp0 : z_rg t) (hp1 : z_rg iss) (hp2 : z_rg to) (hp3 : z_rg am) : ∀ (j : Nat) (k tk tt : Int) (x9 : Value), 0 ≤ k → k + j = γ 0 0 * 4 → (0 ≤ tk ∧ tk ≤ k) → (0 ≤ tt ∧ tt ≤ am + 999) → (0 ≤ t ∧ t < γ 0 0) → (1 ≤ am ∧ am ≤ 1000) → (0 ≤ iss ∧ iss ≤ 3) → (∀ (y8 y9 : Value), z_Ev mH_pay (5, 109) kc ks 125 [.ref (0), zi t, zi iss, zi to, zi am, .ref (g.1 t), zi ((lH_pay_56 γ t iss to am j k tk tt).1), zi ((lH_pay_56 γ t iss to am j k tk tt).2.1), y8, y9] [] (zH g (lH_pay_56 γ t iss to am j k tk tt).2.2 ρ) Q) → z_Ev mH_pay (5, 109) kc ks 56 [.ref (0), zi t, zi iss, zi to, zi am, .ref (g.1 t), zi tk, zi tt, zi k, x9] [] (zH g γ ρ) Q := by
  intro j
  induction j generalizing γ with
  | zero =>
    intro k tk tt  x9 c0 c1 c2 c3 c4 c5 c6 hk
    have g0 : 0 ≤ γ 0 0 ∧ γ 0 0 ≤ 20 := hc.1 0 0 (by decide)
    refine ev_iload (q := 58) dH_pay_56 (by rfl) rfl ?_
    refine ev_aload_n 0 (q := 59) dH_pay_58 rfl (by rfl) rfl ?_
    refine cv_V (As := []) (q := 62) dH_pay_59 kH_122 at_H rfl rfl (Nat.le_of_ble_eq_true rfl) rfl rfl rfl (by decide) (sH_stateNumbersEnd hc   ) ?_
    have g1 := bH_stateNumbersEnd γ
    refine zr_icmp_ge (t := 125) (q := 65) dH_pay_62 rfl rfl ⟨by omega, by omega⟩ ⟨by omega, by omega⟩ (fun h2 => ?_) (fun h2 => ?_)
    · exact hk _ _
    · exfalso
      omega
  | succ j ih =>
    intro k tk tt  x9 c0 c1 c2 c3 c4 c5 c6 hk
    have g0 : 0 ≤ γ 0 0 ∧ γ 0 0 ≤ 20 := hc.1 0 0 (by decide)
    refine ev_iload (q := 58) dH_pay_56 (by rfl) rfl ?_
    refine ev_aload_n 0 (q := 59) dH_pay_58 rfl (by rfl) rfl ?_
    refine cv_V (As := []) (q := 62) dH_pay_59 kH_122 at_H rfl rfl (Nat.le_of_ble_eq_true rfl) rfl rfl rfl (by decide) (sH_stateNumbersEnd hc   ) ?_
    have g1 := bH_stateNumbersEnd γ
    refine zr_icmp_ge (t := 125) (q := 65) dH_pay_62 rfl rfl ⟨by omega, by omega⟩ ⟨by omega, by omega⟩ (fun h2 => ?_) (fun h2 => ?_)
    · exfalso
      omega
    · refine ev_iload (q := 67) dH_pay_65 (by rfl) rfl ?_
      refine ev_iload (q := 69) dH_pay_67 (by rfl) rfl ?_
      refine zr_icmp_ge (t := 125) (q := 72) dH_pay_69 rfl rfl ⟨by omega, by omega⟩ ⟨by omega, by omega⟩ (fun h3 => ?_) (fun h3 => ?_)
      · rw [show lH_pay_56 γ t iss to am (j + 1) k tk tt = (tk, tt, γ) from by rw [lH_pay_56, if_pos h3]] at hk
        exact hk _ _
      · refine ev_aload_n 0 (q := 73) dH_pay_72 rfl (by rfl) rfl ?_
        refine ev_iload (q := 75) dH_pay_73 (by rfl) rfl ?_
        by_cases h4 : 0 ≤ k ∧ k / 4 < (γ 0 0) ∧ k % 4 < γ 32 (2 * (k / 4) + 1)
        · refine cv_V (As := [_]) (q := 78) dH_pay_75 kH_126 at_H rfl rfl (Nat.le_of_ble_eq_true rfl) rfl rfl rfl (by decide) (sH_stateNumbered_s hc k  h4) ?_
          refine ev_astore (q := 80) dH_pay_78 (by decide) rfl rfl ?_
          dsimp only [List.set]
          refine ev_aload (q := 82) dH_pay_80 (by rfl) rfl ?_
          refine ev_ifnull (q := 85) dH_pay_82 rfl ?_
          refine ev_aload_n 0 (q := 86) dH_pay_85 rfl (by rfl) rfl ?_
          refine ev_aload (q := 88) dH_pay_86 (by rfl) rfl ?_
          refine ev_iload_n 2 (q := 89) dH_pay_88 rfl (by rfl) rfl ?_
          refine ev_aload (q := 91) dH_pay_89 (by rfl) rfl ?_
          refine cv_V (As := [_, _, _]) (q := 94) dH_pay_91 kH_130 at_H rfl rfl (Nat.le_of_ble_eq_true rfl) rfl rfl rfl (by decide) (sH_isCoin hc k iss t h4 ⟨by omega, by omega⟩ c4 ) ?_
          have g5 : (cH_isCoin γ k iss t) = 0 ∨ (cH_isCoin γ k iss t) = 1 := bH_isCoin _ _ _ _
          refine zr_if_eq (t := 119) (q := 97) dH_pay_94 rfl rfl ⟨by omega, by omega⟩ (fun h6 => ?_) (fun h6 => ?_)
          · refine zr_iinc (q := 122) dH_pay_119 (by rfl) (by decide) rfl rfl ?_
            dsimp only [List.set]
            refine ev_goto (t := 56) (q := 56) dH_pay_122 rfl rfl ?_
            rw [show lH_pay_56 γ t iss to am (j + 1) k tk tt = lH_pay_56 γ t iss to am j (k + 1) tk tt from by rw [lH_pay_56, if_neg (Int.not_le.mpr h3), if_pos h4, if_pos h6]] at hk
            exact ih hc   (k + 1) tk tt  (.ref (g.2.2.1 k)) (by omega) (by omega) (by omega) (by omega) c4 c5 c6 hk
          · refine ev_aload_n 0 (q := 98) dH_pay_97 rfl (by rfl) rfl ?_
            refine ev_get (q := 101) dH_pay_98 fH_39 at_H (by rfl) rfl ?_
            refine ev_iload (q := 103) dH_pay_101 (by rfl) rfl ?_
            refine ev_iload (q := 105) dH_pay_103 (by rfl) rfl ?_
            refine zr_iast (q := 106) dH_pay_105 at_coins (by decide) ⟨by omega, by omega⟩ ct_coins rfl ?_
            have hc7 : zC g (z_up γ 9 tk k) := zC_up hc (by decide) (by decide) (by decide) (show (0 : Int) ≤ k by omega) (show k ≤ (79 : Int) by omega)
            refine zr_iinc (q := 109) dH_pay_106 (by rfl) (by decide) rfl rfl ?_
            dsimp only [List.set]
            refine ev_iload (q := 111) dH_pay_109 (by rfl) rfl ?_
            refine ev_aload (q := 113) dH_pay_111 (by rfl) rfl ?_
            refine ev_get (q := 116) (v := zi (γ 37 k)) dH_pay_113 fH_134 (at_S hc7.2.1 h4) rfl rfl ?_
            have g8 : 0 ≤ γ 37 k ∧ γ 37 k ≤ 1000 := hc.1 37 k (by decide)
            refine zr_iadd (q := 117) dH_pay_116 rfl ?_
            refine ev_istore (q := 119) dH_pay_117 (by decide) rfl rfl ?_
            dsimp only [List.set]
            refine zr_iinc (q := 122) dH_pay_119 (by rfl) (by decide) rfl rfl ?_
            dsimp only [List.set]
            refine ev_goto (t := 56) (q := 56) dH_pay_122 rfl rfl ?_
            rw [show lH_pay_56 γ t iss to am (j + 1) k tk tt = lH_pay_56 (z_up γ 9 tk k) t iss to am j (k + 1) (tk + 1) (tt + (γ 37 k)) from by rw [lH_pay_56, if_neg (Int.not_le.mpr h3), if_pos h4, if_neg h6]] at hk
            exact ih hc7   (k + 1) (tk + 1) (tt + (γ 37 k))  (.ref (g.2.2.1 k)) (by omega) (by have e9 : (z_up γ 9 tk k) 0 0 = γ 0 0 := rfl; omega) (by omega) (by omega) c4 c5 c6 hk
        · refine cv_V (As := [_]) (q := 78) dH_pay_75 kH_126 at_H rfl rfl (Nat.le_of_ble_eq_true rfl) rfl rfl rfl (by decide) (sH_stateNumbered_n hc k ⟨by omega, by omega⟩ h4) ?_
          refine ev_astoreN (q := 80) dH_pay_78 (by decide) rfl rfl ?_
          dsimp only [List.set]
          refine ev_aloadN (q := 82) dH_pay_80 (by rfl) rfl ?_
          refine ev_ifnullN (t := 119) (q := 119) dH_pay_82 rfl rfl ?_
          refine zr_iinc (q := 122) dH_pay_119 (by rfl) (by decide) rfl rfl ?_
          dsimp only [List.set]
          refine ev_goto (t := 56) (q := 56) dH_pay_122 rfl rfl ?_
          rw [show lH_pay_56 γ t iss to am (j + 1) k tk tt = lH_pay_56 γ t iss to am j (k + 1) tk tt from by rw [lH_pay_56, if_neg (Int.not_le.mpr h3), if_neg h4]] at hk
          exact ih hc   (k + 1) tk tt  (.null) (by omega) (by omega) (by omega) (by omega) c4 c5 c6 hk
set_option maxRecDepth 100000 in
set_option maxHeartbeats 4000000 in
theorem wlH_pay_56 {g : z_Gl} {γ : z_Sg} (hc : zC g γ) (t iss to am : Int)  (hp0 : z_rg t) (hp1 : z_rg iss) (hp2 : z_rg to) (hp3 : z_rg am) : ∀ (j : Nat) (k tk tt : Int), 0 ≤ k → k + j = γ 0 0 * 4 → (0 ≤ tk ∧ tk ≤ k) → (0 ≤ tt ∧ tt ≤ am + 999) → (0 ≤ t ∧ t < γ 0 0) → (1 ≤ am ∧ am ≤ 1000) → (0 ≤ iss ∧ iss ≤ 3) → zC g (lH_pay_56 γ t iss to am j k tk tt).2.2 := by
  intro j
  induction j generalizing γ with
  | zero =>
    intro k tk tt  c0 c1 c2 c3 c4 c5 c6
    rw [lH_pay_56]
    have g0 : 0 ≤ γ 0 0 ∧ γ 0 0 ≤ 20 := hc.1 0 0 (by decide)
    have g1 := bH_stateNumbersEnd γ
    exact hc
  | succ j ihw =>
    intro k tk tt  c0 c1 c2 c3 c4 c5 c6
    rw [lH_pay_56]
    have g0 : 0 ≤ γ 0 0 ∧ γ 0 0 ≤ 20 := hc.1 0 0 (by decide)
    have g1 := bH_stateNumbersEnd γ
    by_cases h3 : am ≤ tt
    · rw [if_pos h3]
      exact hc
    · rw [if_neg h3]
      by_cases h4 : 0 ≤ k ∧ k / 4 < (γ 0 0) ∧ k % 4 < γ 32 (2 * (k / 4) + 1)
      · rw [if_pos h4]
        have g5 : (cH_isCoin γ k iss t) = 0 ∨ (cH_isCoin γ k iss t) = 1 := bH_isCoin _ _ _ _
        by_cases h6 : (cH_isCoin γ k iss t) = 0
        · rw [if_pos h6]
          exact ihw hc   (k + 1) tk tt  (by omega) (by omega) (by omega) (by omega) c4 c5 c6
        · rw [if_neg h6]
          have hc7 : zC g (z_up γ 9 tk k) := zC_up hc (by decide) (by decide) (by decide) (show (0 : Int) ≤ k by omega) (show k ≤ (79 : Int) by omega)
          have g8 : 0 ≤ γ 37 k ∧ γ 37 k ≤ 1000 := hc.1 37 k (by decide)
          exact ihw hc7   (k + 1) (tk + 1) (tt + (γ 37 k))  (by omega) (by have e9 : (z_up γ 9 tk k) 0 0 = γ 0 0 := rfl; omega) (by omega) (by omega) c4 c5 c6
      · rw [if_neg h4]
        exact ihw hc   (k + 1) tk tt  (by omega) (by omega) (by omega) (by omega) c4 c5 c6
theorem kH_pay_56 {γ : z_Sg} (t iss to am : Int) (j : Nat) (k tk tt : Int) {c : Nat} (h0 : c ≠ 9) : (lH_pay_56 γ t iss to am j k tk tt).2.2 c = γ c := by
  induction j generalizing γ k tk tt with
  | zero => rfl
  | succ j ih =>
    rw [lH_pay_56]
    repeat' split
    all_goals first | rfl | (rw [ih]; try rw [z_up_n h0])
theorem fH_pay_56 {g : z_Gl} {γ : z_Sg} (hc : zC g γ) (t iss to am : Int) (ham : 1 ≤ am ∧ am ≤ 1000) : ∀ (j : Nat) (k tk tt : Int), 0 ≤ k → k + j ≤ 80 → (0 ≤ tk ∧ tk ≤ k) → (0 ≤ tt ∧ tt ≤ am + 999) → (0 ≤ (lH_pay_56 γ t iss to am j k tk tt).1 ∧ (lH_pay_56 γ t iss to am j k tk tt).1 ≤ 80) ∧ (0 ≤ (lH_pay_56 γ t iss to am j k tk tt).2.1 ∧ (lH_pay_56 γ t iss to am j k tk tt).2.1 ≤ am + 999) := by
  intro j
  induction j generalizing γ with
  | zero =>
    intro k tk tt h0 h1 h2 h3
    exact ⟨⟨h2.1, by show tk ≤ 80; omega⟩, h3⟩
  | succ j ih =>
    intro k tk tt h0 h1 h2 h3
    have gk : 0 ≤ γ 37 k ∧ γ 37 k ≤ 1000 := hc.1 37 k (by decide)
    rw [lH_pay_56]
    repeat' split
    all_goals first
      | exact ⟨⟨h2.1, by show tk ≤ 80; omega⟩, h3⟩
      | exact ih hc _ _ _ (by omega) (by omega) ⟨by omega, by omega⟩ ⟨by omega, by omega⟩
      | exact ih (zC_up hc (by decide) (by decide) (by decide) (show (0 : Int) ≤ k by omega) (show k ≤ (79 : Int) by omega)) _ _ _ (by omega) (by omega) ⟨by omega, by omega⟩ ⟨by omega, by omega⟩

def cH_pay (γ : z_Sg) (t iss to am : Int) : Int × z_Sg := if 0 ≤ t ∧ t < (γ 0 0) then if (cH_isNode γ iss) = 0 then ((-1), γ) else if (cH_isNode γ to) = 0 then ((-1), γ) else if (cH_isAmount γ am) ≠ 0 then if (γ 25 t) = 0 then if am ≤ (lH_pay_56 γ t iss to am (γ 0 0 * 4).toNat 0 0 0).2.1 then if (cL_hasRoomFor (lH_pay_56 γ t iss to am (γ 0 0 * 4).toNat 0 0 0).2.2 (2 * t) ((lH_pay_56 γ t iss to am (γ 0 0 * 4).toNat 0 0 0).1)) = 0 then ((-6), (lH_pay_56 γ t iss to am (γ 0 0 * 4).toNat 0 0 0).2.2) else if (lH_pay_56 γ t iss to am (γ 0 0 * 4).toNat 0 0 0).2.1 ≤ am then if (cL_hasRoomFor (lH_pay_56 γ t iss to am (γ 0 0 * 4).toNat 0 0 0).2.2 (2 * t + 1) 1) ≠ 0 then ((lH_pay_56 γ t iss to am (γ 0 0 * 4).toNat 0 0 0).1, tH_pay ((cH_takeCoins (lH_pay_56 γ t iss to am (γ 0 0 * 4).toNat 0 0 0).2.2 t ((lH_pay_56 γ t iss to am (γ 0 0 * 4).toNat 0 0 0).1))).2 t iss to am ((lH_pay_56 γ t iss to am (γ 0 0 * 4).toNat 0 0 0).2.1)) else ((-6), (lH_pay_56 γ t iss to am (γ 0 0 * 4).toNat 0 0 0).2.2) else if (cL_hasRoomFor (lH_pay_56 γ t iss to am (γ 0 0 * 4).toNat 0 0 0).2.2 (2 * t + 1) 2) ≠ 0 then ((lH_pay_56 γ t iss to am (γ 0 0 * 4).toNat 0 0 0).1, tH_pay ((cH_takeCoins (lH_pay_56 γ t iss to am (γ 0 0 * 4).toNat 0 0 0).2.2 t ((lH_pay_56 γ t iss to am (γ 0 0 * 4).toNat 0 0 0).1))).2 t iss to am ((lH_pay_56 γ t iss to am (γ 0 0 * 4).toNat 0 0 0).2.1)) else ((-6), (lH_pay_56 γ t iss to am (γ 0 0 * 4).toNat 0 0 0).2.2) else ((-7), (lH_pay_56 γ t iss to am (γ 0 0 * 4).toNat 0 0 0).2.2) else ((-2), γ) else ((-1), γ) else ((-1), γ)
set_option maxRecDepth 100000 in
set_option maxHeartbeats 4000000 in
theorem sH_pay {g : z_Gl} {γ ρ : z_Sg} (hc : zC g γ) (hg : zLog g γ) (t iss to am : Int) (hp0 : z_rg t) (hp1 : z_rg iss) (hp2 : z_rg to) (hp3 : z_rg am) : z_Sp mH_pay (5, 109) 2 12 [.ref (0), zi t, zi iss, zi to, zi am] (zH g γ ρ) (fun r M' => r = some (zi (cH_pay γ t iss to am).1) ∧ zOk (cH_pay γ t iss to am).2 ρ M') := by
  refine z_Sp_of (L := [.ref (0), zi t, zi iss, zi to, zi am, .float 0, .float 0, .float 0, .float 0, .float 0]) (by decide) rfl rfl rfl (Nat.le_of_ble_eq_true rfl) ?_
  have g0 : 0 ≤ γ 0 0 ∧ γ 0 0 ≤ 20 := hc.1 0 0 (by decide)
  refine ev_aload_n 0 (q := 1) dH_pay_0 rfl (by rfl) rfl ?_
  refine ev_iload_n 1 (q := 2) dH_pay_1 rfl (by rfl) rfl ?_
  by_cases h1 : 0 ≤ t ∧ t < (γ 0 0)
  · refine cv_V (As := [_]) (q := 5) dH_pay_2 kH_60 at_H rfl rfl (Nat.le_of_ble_eq_true rfl) rfl rfl rfl (by decide) (sH_find_s hc t  h1) ?_
    refine ev_astore (q := 7) dH_pay_5 (by decide) rfl rfl ?_
    dsimp only [List.set]
    refine ev_aload (q := 9) dH_pay_7 (by rfl) rfl ?_
    refine ev_ifnull (q := 12) dH_pay_9 rfl ?_
    refine ev_iload_n 2 (q := 13) dH_pay_12 rfl (by rfl) rfl ?_
    refine cv_S (As := [_]) (q := 16) dH_pay_13 kH_45 rfl (Nat.le_of_ble_eq_true rfl) rfl rfl rfl (by decide) (sH_isNode hc iss ⟨by omega, by omega⟩ ) ?_
    have g2 : (cH_isNode γ iss) = 0 ∨ (cH_isNode γ iss) = 1 := bH_isNode _ _
    refine zr_if_eq (t := 34) (q := 19) dH_pay_16 rfl rfl ⟨by omega, by omega⟩ (fun h3 => ?_) (fun h3 => ?_)
    · refine ev_iconst (v := iI (-1)) (q := 35) dH_pay_34 rfl rfl ?_
      exact zr_iret dH_pay_35 rfl ⟨by rw [cH_pay, if_pos h1, if_pos h3], by rw [cH_pay, if_pos h1, if_pos h3]; exact ⟨g, rfl, hc, hg⟩⟩
    · have f32 := tH_isNode hc h3
      refine ev_iload_n 3 (q := 20) dH_pay_19 rfl (by rfl) rfl ?_
      refine cv_S (As := [_]) (q := 23) dH_pay_20 kH_45 rfl (Nat.le_of_ble_eq_true rfl) rfl rfl rfl (by decide) (sH_isNode hc to ⟨by omega, by omega⟩ ) ?_
      have g4 : (cH_isNode γ to) = 0 ∨ (cH_isNode γ to) = 1 := bH_isNode _ _
      refine zr_if_eq (t := 34) (q := 26) dH_pay_23 rfl rfl ⟨by omega, by omega⟩ (fun h5 => ?_) (fun h5 => ?_)
      · refine ev_iconst (v := iI (-1)) (q := 35) dH_pay_34 rfl rfl ?_
        exact zr_iret dH_pay_35 rfl ⟨by rw [cH_pay, if_pos h1, if_neg h3, if_pos h5], by rw [cH_pay, if_pos h1, if_neg h3, if_pos h5]; exact ⟨g, rfl, hc, hg⟩⟩
      · have f31 := tH_isNode hc h5
        refine ev_iload (q := 28) dH_pay_26 (by rfl) rfl ?_
        refine cv_S (As := [_]) (q := 31) dH_pay_28 kH_109 rfl (Nat.le_of_ble_eq_true rfl) rfl rfl rfl (by decide) (sH_isAmount hc am ⟨by omega, by omega⟩ ) ?_
        have g6 : (cH_isAmount γ am) = 0 ∨ (cH_isAmount γ am) = 1 := bH_isAmount _ _
        refine zr_if_ne (t := 36) (q := 34) dH_pay_31 rfl rfl ⟨by omega, by omega⟩ (fun h7 => ?_) (fun h7 => ?_)
        · have f30 := tH_isAmount hc h7
          refine ev_aload (q := 38) dH_pay_36 (by rfl) rfl ?_
          refine ev_get (q := 41) (v := zi (γ 25 t)) dH_pay_38 fH_68 (at_T hc.2.1 h1) rfl rfl ?_
          have g8 : 0 ≤ γ 25 t ∧ γ 25 t ≤ 9 := hc.1 25 t (by decide)
          refine zr_if_eq (t := 47) (q := 44) dH_pay_41 rfl rfl ⟨by omega, by omega⟩ (fun h9 => ?_) (fun h9 => ?_)
          · refine ev_iconst (v := iI 0) (q := 48) dH_pay_47 rfl rfl ?_
            refine ev_istore (q := 50) dH_pay_48 (by decide) rfl rfl ?_
            dsimp only [List.set]
            refine ev_iconst (v := iI 0) (q := 51) dH_pay_50 rfl rfl ?_
            refine ev_istore (q := 53) dH_pay_51 (by decide) rfl rfl ?_
            dsimp only [List.set]
            refine ev_iconst (v := iI 0) (q := 54) dH_pay_53 rfl rfl ?_
            refine ev_istore (q := 56) dH_pay_54 (by decide) rfl rfl ?_
            dsimp only [List.set]
            have g10 : 0 ≤ γ 0 0 ∧ γ 0 0 ≤ 20 := hc.1 0 0 (by decide)
            refine eH_pay_56 hc t iss to am hp0 hp1 hp2 hp3 (γ 0 0 * 4).toNat 0 0 0  (.float 0) (by omega) (by omega) (by omega) (by omega) ⟨by omega, by omega⟩ ⟨by omega, by omega⟩ ⟨by omega, by omega⟩ (fun y11 y12 => ?_)
            have hw13 : zC g (lH_pay_56 γ t iss to am (γ 0 0 * 4).toNat 0 0 0).2.2 := wlH_pay_56 hc t iss to am hp0 hp1 hp2 hp3 (γ 0 0 * 4).toNat 0 0 0  (by omega) (by omega) (by omega) (by omega) ⟨by omega, by omega⟩ ⟨by omega, by omega⟩ ⟨by omega, by omega⟩
            have u29 := fH_pay_56 hc t iss to am ⟨by omega, by omega⟩ (γ 0 0 * 4).toNat 0 0 0 (by omega) (by omega) ⟨by omega, by omega⟩ ⟨by omega, by omega⟩
            refine ev_iload (q := 127) dH_pay_125 (by rfl) rfl ?_
            refine ev_iload (q := 129) dH_pay_127 (by rfl) rfl ?_
            refine zr_icmp_ge (t := 135) (q := 132) dH_pay_129 rfl rfl ⟨by omega, by omega⟩ ⟨by omega, by omega⟩ (fun h14 => ?_) (fun h14 => ?_)
            · refine ev_aload (q := 137) dH_pay_135 (by rfl) rfl ?_
              refine ev_get (q := 140) dH_pay_137 fH_84 (at_T hw13.2.1 (ztx_fr h1 (kH_pay_56 (γ := γ) t iss to am (γ 0 0 * 4).toNat 0 0 0 (c := 0) (by decide)))) (by rfl) rfl ?_
              refine ev_iload (q := 142) dH_pay_140 (by rfl) rfl ?_
              refine cv_V (As := [_]) (q := 145) dH_pay_142 kH_98 (at_L hw13.2.1 (zl0 (ztx_fr h1 (kH_pay_56 (γ := γ) t iss to am (γ 0 0 * 4).toNat 0 0 0 (c := 0) (by decide))))) rfl rfl (Nat.le_of_ble_eq_true rfl) rfl rfl rfl (by decide) (sL_hasRoomFor hw13 (2 * t) ((lH_pay_56 γ t iss to am (γ 0 0 * 4).toNat 0 0 0).1) (zl0 (ztx_fr h1 (kH_pay_56 (γ := γ) t iss to am (γ 0 0 * 4).toNat 0 0 0 (c := 0) (by decide)))) ⟨by omega, by omega⟩ ) ?_
              have g15 : (cL_hasRoomFor (lH_pay_56 γ t iss to am (γ 0 0 * 4).toNat 0 0 0).2.2 (2 * t) ((lH_pay_56 γ t iss to am (γ 0 0 * 4).toNat 0 0 0).1)) = 0 ∨ (cL_hasRoomFor (lH_pay_56 γ t iss to am (γ 0 0 * 4).toNat 0 0 0).2.2 (2 * t) ((lH_pay_56 γ t iss to am (γ 0 0 * 4).toNat 0 0 0).1)) = 1 := bL_hasRoomFor _ _ _
              refine zr_if_eq (t := 171) (q := 148) dH_pay_145 rfl rfl ⟨by omega, by omega⟩ (fun h16 => ?_) (fun h16 => ?_)
              · refine ev_bipush (v := iI (-6)) (q := 173) dH_pay_171 (by decide) rfl ?_
                exact zr_iret dH_pay_173 rfl ⟨by rw [cH_pay, if_pos h1, if_neg h3, if_neg h5, if_pos h7, if_pos h9, if_pos h14, if_pos h16], by rw [cH_pay, if_pos h1, if_neg h3, if_neg h5, if_pos h7, if_pos h9, if_pos h14, if_pos h16]; exact ⟨g, rfl, hw13, (zLog_fr hg (kH_pay_56 (γ := γ) t iss to am (γ 0 0 * 4).toNat 0 0 0 (c := 0) (by decide)) (kH_pay_56 (γ := γ) t iss to am (γ 0 0 * 4).toNat 0 0 0 (c := 32) (by decide)))⟩⟩
              · have f28 := tL_hasRoomFor hw13 h16
                refine ev_aload (q := 150) dH_pay_148 (by rfl) rfl ?_
                refine ev_get (q := 153) dH_pay_150 fH_112 (at_T hw13.2.1 (ztx_fr h1 (kH_pay_56 (γ := γ) t iss to am (γ 0 0 * 4).toNat 0 0 0 (c := 0) (by decide)))) (by rfl) rfl ?_
                refine ev_iload (q := 155) dH_pay_153 (by rfl) rfl ?_
                refine ev_iload (q := 157) dH_pay_155 (by rfl) rfl ?_
                refine zr_icmp_le (t := 164) (q := 160) dH_pay_157 rfl rfl ⟨by omega, by omega⟩ ⟨by omega, by omega⟩ (fun h17 => ?_) (fun h17 => ?_)
                · refine ev_iconst (v := iI 1) (q := 165) dH_pay_164 rfl rfl ?_
                  refine cv_V (As := [_]) (q := 168) dH_pay_165 kH_98 (at_L hw13.2.1 (zl1 (ztx_fr h1 (kH_pay_56 (γ := γ) t iss to am (γ 0 0 * 4).toNat 0 0 0 (c := 0) (by decide))))) rfl rfl (Nat.le_of_ble_eq_true rfl) rfl rfl rfl (by decide) (sL_hasRoomFor hw13 (2 * t + 1) 1 (zl1 (ztx_fr h1 (kH_pay_56 (γ := γ) t iss to am (γ 0 0 * 4).toNat 0 0 0 (c := 0) (by decide)))) ⟨by omega, by omega⟩ ) ?_
                  have g18 : (cL_hasRoomFor (lH_pay_56 γ t iss to am (γ 0 0 * 4).toNat 0 0 0).2.2 (2 * t + 1) 1) = 0 ∨ (cL_hasRoomFor (lH_pay_56 γ t iss to am (γ 0 0 * 4).toNat 0 0 0).2.2 (2 * t + 1) 1) = 1 := bL_hasRoomFor _ _ _
                  refine zr_if_ne (t := 174) (q := 171) dH_pay_168 rfl rfl ⟨by omega, by omega⟩ (fun h19 => ?_) (fun h19 => ?_)
                  · have f22 := tL_hasRoomFor hw13 h19
                    refine ev_aload_n 0 (q := 175) dH_pay_174 rfl (by rfl) rfl ?_
                    refine ev_aload (q := 177) dH_pay_175 (by rfl) rfl ?_
                    refine ev_iload (q := 179) dH_pay_177 (by rfl) rfl ?_
                    refine cv_Vv (As := [_, _]) (q := 182) dH_pay_179 kH_137 at_H rfl rfl (Nat.le_of_ble_eq_true rfl) rfl rfl rfl (by decide) (sH_takeCoins hw13 t ((lH_pay_56 γ t iss to am (γ 0 0 * 4).toNat 0 0 0).1) (ztx_fr h1 (kH_pay_56 (γ := γ) t iss to am (γ 0 0 * 4).toNat 0 0 0 (c := 0) (by decide))) ⟨by omega, by omega⟩ (by omega)) ?_
                    have hc20 : zC g ((cH_takeCoins (lH_pay_56 γ t iss to am (γ 0 0 * 4).toNat 0 0 0).2.2 t ((lH_pay_56 γ t iss to am (γ 0 0 * 4).toNat 0 0 0).1))).2 := wH_takeCoins hw13 t ((lH_pay_56 γ t iss to am (γ 0 0 * 4).toNat 0 0 0).1) (ztx_fr h1 (kH_pay_56 (γ := γ) t iss to am (γ 0 0 * 4).toNat 0 0 0 (c := 0) (by decide))) ⟨by omega, by omega⟩ (by omega)
                    rw [show cH_pay γ t iss to am = ((lH_pay_56 γ t iss to am (γ 0 0 * 4).toNat 0 0 0).1, tH_pay ((cH_takeCoins (lH_pay_56 γ t iss to am (γ 0 0 * 4).toNat 0 0 0).2.2 t ((lH_pay_56 γ t iss to am (γ 0 0 * 4).toNat 0 0 0).1))).2 t iss to am ((lH_pay_56 γ t iss to am (γ 0 0 * 4).toNat 0 0 0).2.1)) from by rw [cH_pay, if_pos h1, if_neg h3, if_neg h5, if_pos h7, if_pos h9, if_pos h14, if_neg h16, if_pos h17, if_pos h19]]
                    have e21 := kH_takeCoins_odd (γ := (lH_pay_56 γ t iss to am (γ 0 0 * 4).toNat 0 0 0).2.2) t ((lH_pay_56 γ t iss to am (γ 0 0 * 4).toNat 0 0 0).1) t
                    exact eH_pay_182 hc20 (zLog_of (zLog_fr hg (kH_pay_56 (γ := γ) t iss to am (γ 0 0 * 4).toNat 0 0 0 (c := 0) (by decide)) (kH_pay_56 (γ := γ) t iss to am (γ 0 0 * 4).toNat 0 0 0 (c := 32) (by decide))) (congrFun (kH_takeCoins (γ := (lH_pay_56 γ t iss to am (γ 0 0 * 4).toNat 0 0 0).2.2) t ((lH_pay_56 γ t iss to am (γ 0 0 * 4).toNat 0 0 0).1) (c := 0) (by decide) (by decide) (by decide)) 0) (fun u => kH_takeCoins_odd (γ := (lH_pay_56 γ t iss to am (γ 0 0 * 4).toNat 0 0 0).2.2) t ((lH_pay_56 γ t iss to am (γ 0 0 * 4).toNat 0 0 0).1) u)) t iss to am ((lH_pay_56 γ t iss to am (γ 0 0 * 4).toNat 0 0 0).1) ((lH_pay_56 γ t iss to am (γ 0 0 * 4).toNat 0 0 0).2.1) y11 y12 (ztx_fr (ztx_fr h1 (kH_pay_56 (γ := γ) t iss to am (γ 0 0 * 4).toNat 0 0 0 (c := 0) (by decide))) (kH_takeCoins (γ := (lH_pay_56 γ t iss to am (γ 0 0 * 4).toNat 0 0 0).2.2) t ((lH_pay_56 γ t iss to am (γ 0 0 * 4).toNat 0 0 0).1) (c := 0) (by decide) (by decide) (by decide))) ⟨by omega, by omega⟩ ⟨by omega, by omega⟩ ⟨by omega, by omega⟩ ⟨by omega, by omega⟩ (by omega) (by omega)
                  · refine ev_bipush (v := iI (-6)) (q := 173) dH_pay_171 (by decide) rfl ?_
                    exact zr_iret dH_pay_173 rfl ⟨by rw [cH_pay, if_pos h1, if_neg h3, if_neg h5, if_pos h7, if_pos h9, if_pos h14, if_neg h16, if_pos h17, if_neg (fun z => z h19)], by rw [cH_pay, if_pos h1, if_neg h3, if_neg h5, if_pos h7, if_pos h9, if_pos h14, if_neg h16, if_pos h17, if_neg (fun z => z h19)]; exact ⟨g, rfl, hw13, (zLog_fr hg (kH_pay_56 (γ := γ) t iss to am (γ 0 0 * 4).toNat 0 0 0 (c := 0) (by decide)) (kH_pay_56 (γ := γ) t iss to am (γ 0 0 * 4).toNat 0 0 0 (c := 32) (by decide)))⟩⟩
                · refine ev_iconst (v := iI 2) (q := 161) dH_pay_160 rfl rfl ?_
                  refine ev_goto (t := 165) (q := 165) dH_pay_161 rfl rfl ?_
                  refine cv_V (As := [_]) (q := 168) dH_pay_165 kH_98 (at_L hw13.2.1 (zl1 (ztx_fr h1 (kH_pay_56 (γ := γ) t iss to am (γ 0 0 * 4).toNat 0 0 0 (c := 0) (by decide))))) rfl rfl (Nat.le_of_ble_eq_true rfl) rfl rfl rfl (by decide) (sL_hasRoomFor hw13 (2 * t + 1) 2 (zl1 (ztx_fr h1 (kH_pay_56 (γ := γ) t iss to am (γ 0 0 * 4).toNat 0 0 0 (c := 0) (by decide)))) ⟨by omega, by omega⟩ ) ?_
                  have g23 : (cL_hasRoomFor (lH_pay_56 γ t iss to am (γ 0 0 * 4).toNat 0 0 0).2.2 (2 * t + 1) 2) = 0 ∨ (cL_hasRoomFor (lH_pay_56 γ t iss to am (γ 0 0 * 4).toNat 0 0 0).2.2 (2 * t + 1) 2) = 1 := bL_hasRoomFor _ _ _
                  refine zr_if_ne (t := 174) (q := 171) dH_pay_168 rfl rfl ⟨by omega, by omega⟩ (fun h24 => ?_) (fun h24 => ?_)
                  · have f27 := tL_hasRoomFor hw13 h24
                    refine ev_aload_n 0 (q := 175) dH_pay_174 rfl (by rfl) rfl ?_
                    refine ev_aload (q := 177) dH_pay_175 (by rfl) rfl ?_
                    refine ev_iload (q := 179) dH_pay_177 (by rfl) rfl ?_
                    refine cv_Vv (As := [_, _]) (q := 182) dH_pay_179 kH_137 at_H rfl rfl (Nat.le_of_ble_eq_true rfl) rfl rfl rfl (by decide) (sH_takeCoins hw13 t ((lH_pay_56 γ t iss to am (γ 0 0 * 4).toNat 0 0 0).1) (ztx_fr h1 (kH_pay_56 (γ := γ) t iss to am (γ 0 0 * 4).toNat 0 0 0 (c := 0) (by decide))) ⟨by omega, by omega⟩ (by omega)) ?_
                    have hc25 : zC g ((cH_takeCoins (lH_pay_56 γ t iss to am (γ 0 0 * 4).toNat 0 0 0).2.2 t ((lH_pay_56 γ t iss to am (γ 0 0 * 4).toNat 0 0 0).1))).2 := wH_takeCoins hw13 t ((lH_pay_56 γ t iss to am (γ 0 0 * 4).toNat 0 0 0).1) (ztx_fr h1 (kH_pay_56 (γ := γ) t iss to am (γ 0 0 * 4).toNat 0 0 0 (c := 0) (by decide))) ⟨by omega, by omega⟩ (by omega)
                    rw [show cH_pay γ t iss to am = ((lH_pay_56 γ t iss to am (γ 0 0 * 4).toNat 0 0 0).1, tH_pay ((cH_takeCoins (lH_pay_56 γ t iss to am (γ 0 0 * 4).toNat 0 0 0).2.2 t ((lH_pay_56 γ t iss to am (γ 0 0 * 4).toNat 0 0 0).1))).2 t iss to am ((lH_pay_56 γ t iss to am (γ 0 0 * 4).toNat 0 0 0).2.1)) from by rw [cH_pay, if_pos h1, if_neg h3, if_neg h5, if_pos h7, if_pos h9, if_pos h14, if_neg h16, if_neg (Int.not_le.mpr h17), if_pos h24]]
                    have e26 := kH_takeCoins_odd (γ := (lH_pay_56 γ t iss to am (γ 0 0 * 4).toNat 0 0 0).2.2) t ((lH_pay_56 γ t iss to am (γ 0 0 * 4).toNat 0 0 0).1) t
                    exact eH_pay_182 hc25 (zLog_of (zLog_fr hg (kH_pay_56 (γ := γ) t iss to am (γ 0 0 * 4).toNat 0 0 0 (c := 0) (by decide)) (kH_pay_56 (γ := γ) t iss to am (γ 0 0 * 4).toNat 0 0 0 (c := 32) (by decide))) (congrFun (kH_takeCoins (γ := (lH_pay_56 γ t iss to am (γ 0 0 * 4).toNat 0 0 0).2.2) t ((lH_pay_56 γ t iss to am (γ 0 0 * 4).toNat 0 0 0).1) (c := 0) (by decide) (by decide) (by decide)) 0) (fun u => kH_takeCoins_odd (γ := (lH_pay_56 γ t iss to am (γ 0 0 * 4).toNat 0 0 0).2.2) t ((lH_pay_56 γ t iss to am (γ 0 0 * 4).toNat 0 0 0).1) u)) t iss to am ((lH_pay_56 γ t iss to am (γ 0 0 * 4).toNat 0 0 0).1) ((lH_pay_56 γ t iss to am (γ 0 0 * 4).toNat 0 0 0).2.1) y11 y12 (ztx_fr (ztx_fr h1 (kH_pay_56 (γ := γ) t iss to am (γ 0 0 * 4).toNat 0 0 0 (c := 0) (by decide))) (kH_takeCoins (γ := (lH_pay_56 γ t iss to am (γ 0 0 * 4).toNat 0 0 0).2.2) t ((lH_pay_56 γ t iss to am (γ 0 0 * 4).toNat 0 0 0).1) (c := 0) (by decide) (by decide) (by decide))) ⟨by omega, by omega⟩ ⟨by omega, by omega⟩ ⟨by omega, by omega⟩ ⟨by omega, by omega⟩ (by omega) (by omega)
                  · refine ev_bipush (v := iI (-6)) (q := 173) dH_pay_171 (by decide) rfl ?_
                    exact zr_iret dH_pay_173 rfl ⟨by rw [cH_pay, if_pos h1, if_neg h3, if_neg h5, if_pos h7, if_pos h9, if_pos h14, if_neg h16, if_neg (Int.not_le.mpr h17), if_neg (fun z => z h24)], by rw [cH_pay, if_pos h1, if_neg h3, if_neg h5, if_pos h7, if_pos h9, if_pos h14, if_neg h16, if_neg (Int.not_le.mpr h17), if_neg (fun z => z h24)]; exact ⟨g, rfl, hw13, (zLog_fr hg (kH_pay_56 (γ := γ) t iss to am (γ 0 0 * 4).toNat 0 0 0 (c := 0) (by decide)) (kH_pay_56 (γ := γ) t iss to am (γ 0 0 * 4).toNat 0 0 0 (c := 32) (by decide)))⟩⟩
            · refine ev_bipush (v := iI (-7)) (q := 134) dH_pay_132 (by decide) rfl ?_
              exact zr_iret dH_pay_134 rfl ⟨by rw [cH_pay, if_pos h1, if_neg h3, if_neg h5, if_pos h7, if_pos h9, if_neg (Int.not_le.mpr h14)], by rw [cH_pay, if_pos h1, if_neg h3, if_neg h5, if_pos h7, if_pos h9, if_neg (Int.not_le.mpr h14)]; exact ⟨g, rfl, hw13, (zLog_fr hg (kH_pay_56 (γ := γ) t iss to am (γ 0 0 * 4).toNat 0 0 0 (c := 0) (by decide)) (kH_pay_56 (γ := γ) t iss to am (γ 0 0 * 4).toNat 0 0 0 (c := 32) (by decide)))⟩⟩
          · refine ev_bipush (v := iI (-2)) (q := 46) dH_pay_44 (by decide) rfl ?_
            exact zr_iret dH_pay_46 rfl ⟨by rw [cH_pay, if_pos h1, if_neg h3, if_neg h5, if_pos h7, if_neg h9], by rw [cH_pay, if_pos h1, if_neg h3, if_neg h5, if_pos h7, if_neg h9]; exact ⟨g, rfl, hc, hg⟩⟩
        · refine ev_iconst (v := iI (-1)) (q := 35) dH_pay_34 rfl rfl ?_
          exact zr_iret dH_pay_35 rfl ⟨by rw [cH_pay, if_pos h1, if_neg h3, if_neg h5, if_neg (fun z => z h7)], by rw [cH_pay, if_pos h1, if_neg h3, if_neg h5, if_neg (fun z => z h7)]; exact ⟨g, rfl, hc, hg⟩⟩
  · refine cv_V (As := [_]) (q := 5) dH_pay_2 kH_60 at_H rfl rfl (Nat.le_of_ble_eq_true rfl) rfl rfl rfl (by decide) (sH_find_n hc t ⟨by omega, by omega⟩ h1) ?_
    refine ev_astoreN (q := 7) dH_pay_5 (by decide) rfl rfl ?_
    dsimp only [List.set]
    refine ev_aloadN (q := 9) dH_pay_7 (by rfl) rfl ?_
    refine ev_ifnullN (t := 34) (q := 34) dH_pay_9 rfl rfl ?_
    refine ev_iconst (v := iI (-1)) (q := 35) dH_pay_34 rfl rfl ?_
    exact zr_iret dH_pay_35 rfl ⟨by rw [cH_pay, if_neg h1], by rw [cH_pay, if_neg h1]; exact ⟨g, rfl, hc, hg⟩⟩
