-- what isInput says
theorem cR_isInput {ρ : z_Sg} (t s : Int) : rR_isInput ρ t s = zb (anyZ (ρ 9 t) (fun k => decide (ρ 11 (4 * t + k) = s))) := by
  by_cases hn : 0 ≤ ρ 9 t
  · have key : ∀ (j : Nat) (k : Int), 0 ≤ k → k + j = ρ 9 t → (∀ i : Int, 0 ≤ i → i < k → ρ 11 (4 * t + i) ≠ s) → lR_isInput_2 ρ t s j k = zb (anyZ (ρ 9 t) (fun k => decide (ρ 11 (4 * t + k) = s))) := by
      intro j
      induction j with
      | zero =>
        intro k c0 c1 c2
        rw [lR_isInput_2, anyZ_f]
        · rfl
        · intro i h0 h1
          exact decide_eq_false (c2 i h0 (by omega))
      | succ j ih =>
        intro k c0 c1 c2
        rw [lR_isInput_2]
        split
        · rename_i h
          exact ih (k + 1) (by omega) (by omega) (z_nf (f := fun i => ρ 11 (4 * t + i)) c2 h)
        · rename_i h
          rw [anyZ_t k c0 (by omega) (decide_eq_true (Decidable.not_not.mp h))]
          rfl
    exact key _ _ (by omega) (by omega) (fun i h0 h1 => by omega)
  · have e : (ρ 9 t).toNat = 0 := by omega
    unfold rR_isInput
    rw [e, lR_isInput_2, anyZ_f]
    · rfl
    · intro i h0 h1
      omega
theorem aI_9 (ρ : z_Sg) (t s : Int) : (rR_addInput ρ t s).2 9 = zup (ρ 9) t (ρ 9 t + 1) := rfl
theorem aI_11 (ρ : z_Sg) (t s : Int) : (rR_addInput ρ t s).2 11 = zup (ρ 11) (4 * t + ρ 9 t) s := rfl
theorem aI_n (ρ : z_Sg) (t s : Int) {c : Nat} (h1 : c ≠ 9) (h2 : c ≠ 11) : (rR_addInput ρ t s).2 c = ρ c := by
  show z_up (z_up ρ 11 _ _) 9 t _ c = ρ c
  rw [z_up_n h1, z_up_n h2]
theorem aI_isInput {ρ : z_Sg} (hw : z_wf ρ) {t s u x : Int} (hx : x ≠ s) (hn : ρ 9 t ≤ 3) : rR_isInput (rR_addInput ρ t s).2 u x = rR_isInput ρ u x := by
  have g : 0 ≤ ρ 9 t ∧ ρ 9 t ≤ 4 := hw 9 t (by decide)
  have gu : 0 ≤ ρ 9 u ∧ ρ 9 u ≤ 4 := hw 9 u (by decide)
  rw [cR_isInput, cR_isInput, aI_9, aI_11]
  congr 1
  by_cases e : u = t
  · subst e
    rw [zup_s, Bool.eq_iff_iff, anyZ_iff, anyZ_iff]
    constructor
    · rintro ⟨k, h0, h1, h2⟩
      have h2 := of_decide_eq_true h2
      by_cases ek : k = ρ 9 u
      · rw [ek, zup_s] at h2
        exact absurd h2.symm hx
      · rw [zup_n (by omega)] at h2
        exact ⟨k, h0, by omega, decide_eq_true h2⟩
    · rintro ⟨k, h0, h1, h2⟩
      have h2 := of_decide_eq_true h2
      refine ⟨k, h0, by omega, decide_eq_true ?_⟩
      rw [zup_n (by omega)]
      exact h2
  · rw [zup_n e]
    apply anyZ_congr
    intro k h0 h1
    rw [zup_n (by omega)]
theorem aI_inVault {ρ : z_Sg} (hw : z_wf ρ) {t s node x : Int} (hx : x ≠ s) (hn : ρ 9 t ≤ 3) : rR_inVault (rR_addInput ρ t s).2 node x = rR_inVault ρ node x := by
  have key : ∀ (j : Nat) (k : Int), lR_inVault_44 (rR_addInput ρ t s).2 node x j k = lR_inVault_44 ρ node x j k := by
    intro j
    induction j with
    | zero => intro k; rfl
    | succ j ih =>
      intro k
      rw [lR_inVault_44, lR_inVault_44, aI_n ρ t s (c := 18) (by decide) (by decide), aI_isInput hw hx hn, ih]
  unfold rR_inVault
  rw [key]
  rfl
theorem aI_held {ρ : z_Sg} (hw : z_wf ρ) {t s node x : Int} (hx : x ≠ s) (hn : ρ 9 t ≤ 3) : rR_held (rR_addInput ρ t s).2 node x = rR_held ρ node x := by
  have key : ∀ (j : Nat) (k : Int), lR_held_2 (rR_addInput ρ t s).2 node x j k = lR_held_2 ρ node x j k := by
    intro j
    induction j with
    | zero => intro k; rfl
    | succ j ih =>
      intro k
      rw [lR_held_2, lR_held_2, aI_n ρ t s (c := 1) (by decide) (by decide), aI_n ρ t s (c := 5) (by decide) (by decide), aI_isInput hw hx hn, ih]
  unfold rR_held
  rw [key]
  rfl
theorem aI_coin {ρ : z_Sg} (hw : z_wf ρ) {t s iss x : Int} (hx : x ≠ s) (hn : ρ 9 t ≤ 3) : rR_coin (rR_addInput ρ t s).2 t iss x = rR_coin ρ t iss x := by
  unfold rR_coin
  rw [aI_n ρ t s (c := 1) (by decide) (by decide), aI_n ρ t s (c := 12) (by decide) (by decide), aI_n ρ t s (c := 13) (by decide) (by decide), aI_n ρ t s (c := 16) (by decide) (by decide), aI_n ρ t s (c := 2) (by decide) (by decide), aI_inVault hw hx hn, aI_held hw hx hn]
/-- how many of the j states from k on are coins -/
def zcnt (ρ : z_Sg) (t iss : Int) : Nat → Int → Int
  | 0, _ => 0
  | j + 1, k => rR_coin ρ t iss k + zcnt ρ t iss j (k + 1)
theorem zcnt_0 (ρ : z_Sg) (t iss : Int) : ∀ (j : Nat) (k : Int), 0 ≤ zcnt ρ t iss j k := by
  intro j
  induction j with
  | zero => intro k; exact Int.le_refl _
  | succ j ih =>
    intro k
    have h1 := ih (k + 1)
    have h2 := bR_coin ρ t iss k
    rw [zcnt]
    omega
theorem zcnt_le (ρ : z_Sg) (t iss : Int) : ∀ (j : Nat) (k : Int), zcnt ρ t iss j k ≤ j := by
  intro j
  induction j with
  | zero => intro k; exact Int.le_refl _
  | succ j ih =>
    intro k
    have h1 := ih (k + 1)
    have h2 := bR_coin ρ t iss k
    rw [zcnt]
    omega
theorem zcnt_last (ρ : z_Sg) (t iss : Int) : ∀ (j : Nat) (k : Int), zcnt ρ t iss (j + 1) k = zcnt ρ t iss j k + rR_coin ρ t iss (k + j) := by
  intro j
  induction j with
  | zero => intro k; simp [zcnt]
  | succ j ih =>
    intro k
    rw [zcnt, ih, zcnt]
    rw [show k + 1 + (j : Int) = k + ((j + 1 : Nat) : Int) by omega]
    omega

theorem aI_9t (ρ : z_Sg) (t s : Int) : (rR_addInput ρ t s).2 9 t = ρ 9 t + 1 := by
  rw [aI_9, zup_s]
theorem aO_10t (ρ : z_Sg) (t kind x y am : Int) : (rR_addOutput ρ t kind x y am).2 10 t = ρ 10 t + 1 := by
  show zup (ρ 10) t (ρ 10 t + 1) t = ρ 10 t + 1
  rw [zup_s]

def lR_pay_61 (ρ : z_Sg) (t iss to am : Int) (j : Nat) (k tt cn : Int) : Int × Int × Int := match j with
  | 0 => (k, tt, cn)
  | j + 1 => if am ≤ tt then (k, tt, cn) else if (rR_coin ρ t iss k) = 0 then lR_pay_61 ρ t iss to am j (k + 1) tt cn else lR_pay_61 ρ t iss to am j (k + 1) (tt + (ρ 15 k)) (cn + 1)
set_option maxRecDepth 100000 in
set_option maxHeartbeats 4000000 in
theorem eR_pay_61 {κ ρ : z_Sg} {a : Int → Nat} {B : List va_E} {Q : Option Value → List va_E → Prop} (hw : z_wf ρ) (t iss to am : Int) (hp0 : z_rg t) (hp1 : z_rg iss) (hp2 : z_rg to) (hp3 : z_rg am) : ∀ (j : Nat) (k tt cn : Int), 0 ≤ k → k + j = 80 → (0 ≤ tt ∧ tt ≤ am + 999) → (0 ≤ cn ∧ cn ≤ k) → (0 ≤ t ∧ t ≤ 19) → (1 ≤ am ∧ am ≤ 1000) → (z_Ev mR_pay (4, 91) 0 0 107 [.ref 12, zi t, zi iss, zi to, zi am, zi ((lR_pay_61 ρ t iss to am j k tt cn).2.1), zi ((lR_pay_61 ρ t iss to am j k tt cn).2.2), zi ((lR_pay_61 ρ t iss to am j k tt cn).1), .float 0, .float 0] [] (zM κ a ρ B) Q) → z_Ev mR_pay (4, 91) 0 0 61 [.ref 12, zi t, zi iss, zi to, zi am, zi tt, zi cn, zi k, .float 0, .float 0] [] (zM κ a ρ B) Q := by
  intro j
  induction j generalizing ρ with
  | zero =>
    intro k tt cn   c0 c1 c2 c3 c4 c5 hk
    refine ev_iload (q := 63) dR_pay_61 (by rfl) rfl ?_
    refine ev_bipush (v := iI 80) (q := 65) dR_pay_63 (by decide) rfl ?_
    refine zr_icmp_ge (t := 107) (q := 68) dR_pay_65 rfl rfl ⟨by omega, by omega⟩ ⟨by omega, by omega⟩ (fun h1 => ?_) (fun h1 => ?_)
    · exact hk 
    · exfalso
      omega
  | succ j ih =>
    intro k tt cn   c0 c1 c2 c3 c4 c5 hk
    refine ev_iload (q := 63) dR_pay_61 (by rfl) rfl ?_
    refine ev_bipush (v := iI 80) (q := 65) dR_pay_63 (by decide) rfl ?_
    refine zr_icmp_ge (t := 107) (q := 68) dR_pay_65 rfl rfl ⟨by omega, by omega⟩ ⟨by omega, by omega⟩ (fun h1 => ?_) (fun h1 => ?_)
    · exfalso
      omega
    · refine ev_iload (q := 70) dR_pay_68 (by rfl) rfl ?_
      refine ev_iload (q := 72) dR_pay_70 (by rfl) rfl ?_
      refine zr_icmp_ge (t := 107) (q := 75) dR_pay_72 rfl rfl ⟨by omega, by omega⟩ ⟨by omega, by omega⟩ (fun h2 => ?_) (fun h2 => ?_)
      · rw [show lR_pay_61 ρ t iss to am (j + 1) k tt cn = (k, tt, cn) from by rw [lR_pay_61, if_pos h2]] at hk
        exact hk 
      · refine ev_aload_n 0 (q := 76) dR_pay_75 rfl (by rfl) rfl ?_
        refine ev_iload_n 1 (q := 77) dR_pay_76 rfl (by rfl) rfl ?_
        refine ev_iload_n 2 (q := 78) dR_pay_77 rfl (by rfl) rfl ?_
        refine ev_iload (q := 80) dR_pay_78 (by rfl) rfl ?_
        refine cv_V (As := [_, _, _]) (q := 83) dR_pay_80 kR_119 atR rfl rfl (Nat.le_of_ble_eq_true rfl) rfl rfl rfl (by decide) (sR_coin hw t iss k ⟨by omega, by omega⟩ ⟨by omega, by omega⟩ ⟨by omega, by omega⟩ ) ?_
        have g3 : (rR_coin ρ t iss k) = 0 ∨ (rR_coin ρ t iss k) = 1 := bR_coin _ _ _ _
        refine zr_if_eq (t := 101) (q := 86) dR_pay_83 rfl rfl ⟨by omega, by omega⟩ (fun h4 => ?_) (fun h4 => ?_)
        · refine zr_iinc (q := 104) dR_pay_101 (by rfl) (by decide) rfl rfl ?_
          dsimp only [List.set]
          refine ev_goto (t := 61) (q := 61) dR_pay_104 rfl rfl ?_
          rw [show lR_pay_61 ρ t iss to am (j + 1) k tt cn = lR_pay_61 ρ t iss to am j (k + 1) tt cn from by rw [lR_pay_61, if_neg (Int.not_le.mpr h2), if_pos h4]] at hk
          exact ih hw  (k + 1) tt cn   (by omega) (by omega) (by omega) (by omega) c4 c5 hk
        · refine ev_iload (q := 88) dR_pay_86 (by rfl) rfl ?_
          refine ev_aload_n 0 (q := 89) dR_pay_88 rfl (by rfl) rfl ?_
          refine ev_get (q := 92) dR_pay_89 fR_53 atR (by rfl) rfl ?_
          refine ev_iload (q := 94) dR_pay_92 (by rfl) rfl ?_
          refine zr_iald (q := 95) (g := ρ 15) dR_pay_94 at_amountOf (by decide) ⟨by omega, by omega⟩ rfl ?_
          have g5 : 0 ≤ ρ 15 k ∧ ρ 15 k ≤ 1000 := hw 15 k (by decide)
          refine zr_iadd (q := 96) dR_pay_95 rfl ?_
          refine ev_istore (q := 98) dR_pay_96 (by decide) rfl rfl ?_
          dsimp only [List.set]
          refine zr_iinc (q := 101) dR_pay_98 (by rfl) (by decide) rfl rfl ?_
          dsimp only [List.set]
          refine zr_iinc (q := 104) dR_pay_101 (by rfl) (by decide) rfl rfl ?_
          dsimp only [List.set]
          refine ev_goto (t := 61) (q := 61) dR_pay_104 rfl rfl ?_
          rw [show lR_pay_61 ρ t iss to am (j + 1) k tt cn = lR_pay_61 ρ t iss to am j (k + 1) (tt + (ρ 15 k)) (cn + 1) from by rw [lR_pay_61, if_neg (Int.not_le.mpr h2), if_neg h4]] at hk
          exact ih hw  (k + 1) (tt + (ρ 15 k)) (cn + 1)   (by omega) (by omega) (by omega) (by omega) c4 c5 hk
theorem fR_pay_61 {ρ : z_Sg} (hw : z_wf ρ) (t iss to am : Int) (ham : 1 ≤ am ∧ am ≤ 1000) : ∀ (j : Nat) (k tt cn : Int), 0 ≤ k → k + j = 80 → (0 ≤ tt ∧ tt ≤ am + 999) → cn = zcnt ρ t iss k.toNat 0 → (0 ≤ (lR_pay_61 ρ t iss to am j k tt cn).1 ∧ (lR_pay_61 ρ t iss to am j k tt cn).1 ≤ 80) ∧ (0 ≤ (lR_pay_61 ρ t iss to am j k tt cn).2.1 ∧ (lR_pay_61 ρ t iss to am j k tt cn).2.1 ≤ am + 999) ∧ (lR_pay_61 ρ t iss to am j k tt cn).2.2 = zcnt ρ t iss (lR_pay_61 ρ t iss to am j k tt cn).1.toNat 0 := by
  intro j
  induction j with
  | zero =>
    intro k tt cn h0 h1 h2 h3
    exact ⟨⟨h0, by show k ≤ 80; omega⟩, h2, h3⟩
  | succ j ih =>
    intro k tt cn h0 h1 h2 h3
    have g : 0 ≤ ρ 15 k ∧ ρ 15 k ≤ 1000 := hw 15 k (by decide)
    have hl := zcnt_last ρ t iss k.toNat 0
    have e1 : (k + 1).toNat = k.toNat + 1 := by omega
    have e2 : (0 : Int) + (k.toNat : Int) = k := by omega
    rw [e2] at hl
    have hb := bR_coin ρ t iss k
    rw [lR_pay_61]
    split
    · exact ⟨⟨h0, by show k ≤ 80; omega⟩, h2, h3⟩
    · split
      · exact ih (k + 1) tt cn (by omega) (by omega) (by omega) (by rw [e1, hl]; omega)
      · exact ih (k + 1) _ _ (by omega) (by omega) (by omega) (by rw [e1, hl]; omega)
def lR_pay_163 (ρ : z_Sg) (t iss to am : Int) (j : Nat) (k : Int) : z_Sg := match j with
  | 0 => ρ
  | j + 1 => if (rR_coin ρ t iss k) = 0 then lR_pay_163 ρ t iss to am j (k + 1) else lR_pay_163 ((rR_addInput ρ t k)).2 t iss to am j (k + 1)
set_option maxRecDepth 100000 in
set_option maxHeartbeats 4000000 in
theorem eR_pay_163 {κ ρ : z_Sg} {a : Int → Nat} {B : List va_E} {Q : Option Value → List va_E → Prop} (hw : z_wf ρ) (t iss to am : Int) (hp0 : z_rg t) (hp1 : z_rg iss) (hp2 : z_rg to) (hp3 : z_rg am) : ∀ (j : Nat) (k : Int) (en : Int) (ρ0 : z_Sg) (x5 : Value) (x6 : Value) (x8 : Value), 0 ≤ k → k + j = en → (0 ≤ t ∧ t ≤ 19) → en ≤ 80 → (∀ s : Int, k ≤ s → s ≤ 79 → rR_coin ρ t iss s = rR_coin ρ0 t iss s) → ρ 9 t + zcnt ρ0 t iss j k ≤ 4 → (∀ (y9 : Value), z_Ev mR_pay (4, 91) 0 0 194 [.ref 12, zi t, zi iss, zi to, zi am, x5, x6, zi en, x8, y9] [] (zM κ a (lR_pay_163 ρ t iss to am j k) B) Q) → z_Ev mR_pay (4, 91) 0 0 163 [.ref 12, zi t, zi iss, zi to, zi am, x5, x6, zi en, x8, zi k] [] (zM κ a ρ B) Q := by
  intro j
  induction j generalizing ρ with
  | zero =>
    intro k en ρ0 x5 x6 x8 c0 c1 c2 c3 c4 c5 hk
    refine ev_iload (q := 165) dR_pay_163 (by rfl) rfl ?_
    refine ev_iload (q := 167) dR_pay_165 (by rfl) rfl ?_
    refine zr_icmp_ge (t := 194) (q := 170) dR_pay_167 rfl rfl ⟨by omega, by omega⟩ ⟨by omega, by omega⟩ (fun h1 => ?_) (fun h1 => ?_)
    · exact hk _
    · exfalso
      omega
  | succ j ih =>
    intro k en ρ0 x5 x6 x8 c0 c1 c2 c3 c4 c5 hk
    have z1 : zcnt ρ0 t iss (j + 1) k = rR_coin ρ0 t iss k + zcnt ρ0 t iss j (k + 1) := rfl
    have z2 := bR_coin ρ0 t iss k
    have z3 := c4 k (by omega) (by omega)
    have z4 := zcnt_0 ρ0 t iss j (k + 1)
    refine ev_iload (q := 165) dR_pay_163 (by rfl) rfl ?_
    refine ev_iload (q := 167) dR_pay_165 (by rfl) rfl ?_
    refine zr_icmp_ge (t := 194) (q := 170) dR_pay_167 rfl rfl ⟨by omega, by omega⟩ ⟨by omega, by omega⟩ (fun h1 => ?_) (fun h1 => ?_)
    · exfalso
      omega
    · refine ev_aload_n 0 (q := 171) dR_pay_170 rfl (by rfl) rfl ?_
      refine ev_iload_n 1 (q := 172) dR_pay_171 rfl (by rfl) rfl ?_
      refine ev_iload_n 2 (q := 173) dR_pay_172 rfl (by rfl) rfl ?_
      refine ev_iload (q := 175) dR_pay_173 (by rfl) rfl ?_
      refine cv_V (As := [_, _, _]) (q := 178) dR_pay_175 kR_119 atR rfl rfl (Nat.le_of_ble_eq_true rfl) rfl rfl rfl (by decide) (sR_coin hw t iss k ⟨by omega, by omega⟩ ⟨by omega, by omega⟩ ⟨by omega, by omega⟩ ) ?_
      have g2 : (rR_coin ρ t iss k) = 0 ∨ (rR_coin ρ t iss k) = 1 := bR_coin _ _ _ _
      refine zr_if_eq (t := 188) (q := 181) dR_pay_178 rfl rfl ⟨by omega, by omega⟩ (fun h3 => ?_) (fun h3 => ?_)
      · refine zr_iinc (q := 191) dR_pay_188 (by rfl) (by decide) rfl rfl ?_
        dsimp only [List.set]
        refine ev_goto (t := 163) (q := 163) dR_pay_191 rfl rfl ?_
        rw [show lR_pay_163 ρ t iss to am (j + 1) k = lR_pay_163 ρ t iss to am j (k + 1) from by rw [lR_pay_163, if_pos h3]] at hk
        exact ih hw  (k + 1) en ρ0 x5 x6 x8 (by omega) (by omega) c2 c3 (by first | exact (fun s h0 h1 => c4 s (by omega) h1) | exact (fun s h0 h1 => (aI_coin hw (by omega) (by omega)).trans (c4 s (by omega) h1))) (by have z9 := aI_9t ρ t k; omega) hk
      · refine ev_aload_n 0 (q := 182) dR_pay_181 rfl (by rfl) rfl ?_
        refine ev_iload_n 1 (q := 183) dR_pay_182 rfl (by rfl) rfl ?_
        refine ev_iload (q := 185) dR_pay_183 (by rfl) rfl ?_
        refine cv_Vv (As := [_, _]) (q := 188) dR_pay_185 kR_102 atR rfl rfl (Nat.le_of_ble_eq_true rfl) rfl rfl rfl (by decide) (sR_addInput hw t k ⟨by omega, by omega⟩ ⟨by omega, by omega⟩ (by omega)) ?_
        have hw4 : z_wf ((rR_addInput ρ t k)).2 := wR_addInput hw t k ⟨by omega, by omega⟩ ⟨by omega, by omega⟩ (by omega)
        refine zr_iinc (q := 191) dR_pay_188 (by rfl) (by decide) rfl rfl ?_
        dsimp only [List.set]
        refine ev_goto (t := 163) (q := 163) dR_pay_191 rfl rfl ?_
        rw [show lR_pay_163 ρ t iss to am (j + 1) k = lR_pay_163 ((rR_addInput ρ t k)).2 t iss to am j (k + 1) from by rw [lR_pay_163, if_neg h3]] at hk
        exact ih hw4  (k + 1) en ρ0 x5 x6 x8 (by omega) (by omega) c2 c3 (by first | exact (fun s h0 h1 => c4 s (by omega) h1) | exact (fun s h0 h1 => (aI_coin hw (by omega) (by omega)).trans (c4 s (by omega) h1))) (by have z9 := aI_9t ρ t k; omega) hk
set_option maxRecDepth 100000 in
set_option maxHeartbeats 4000000 in
theorem wlR_pay_163 {ρ : z_Sg} (hw : z_wf ρ) (t iss to am : Int) (hp0 : z_rg t) (hp1 : z_rg iss) (hp2 : z_rg to) (hp3 : z_rg am) : ∀ (j : Nat) (k : Int) (en : Int) (ρ0 : z_Sg), 0 ≤ k → k + j = en → (0 ≤ t ∧ t ≤ 19) → en ≤ 80 → (∀ s : Int, k ≤ s → s ≤ 79 → rR_coin ρ t iss s = rR_coin ρ0 t iss s) → ρ 9 t + zcnt ρ0 t iss j k ≤ 4 → z_wf (lR_pay_163 ρ t iss to am j k) := by
  intro j
  induction j generalizing ρ with
  | zero =>
    intro k en ρ0 c0 c1 c2 c3 c4 c5
    rw [lR_pay_163]
    exact hw
  | succ j ihw =>
    intro k en ρ0 c0 c1 c2 c3 c4 c5
    rw [lR_pay_163]
    have z1 : zcnt ρ0 t iss (j + 1) k = rR_coin ρ0 t iss k + zcnt ρ0 t iss j (k + 1) := rfl
    have z2 := bR_coin ρ0 t iss k
    have z3 := c4 k (by omega) (by omega)
    have z4 := zcnt_0 ρ0 t iss j (k + 1)
    have g2 : (rR_coin ρ t iss k) = 0 ∨ (rR_coin ρ t iss k) = 1 := bR_coin _ _ _ _
    by_cases h3 : (rR_coin ρ t iss k) = 0
    · rw [if_pos h3]
      exact ihw hw  (k + 1) en ρ0 (by omega) (by omega) c2 c3 (by first | exact (fun s h0 h1 => c4 s (by omega) h1) | exact (fun s h0 h1 => (aI_coin hw (by omega) (by omega)).trans (c4 s (by omega) h1))) (by have z9 := aI_9t ρ t k; omega)
    · rw [if_neg h3]
      have hw4 : z_wf ((rR_addInput ρ t k)).2 := wR_addInput hw t k ⟨by omega, by omega⟩ ⟨by omega, by omega⟩ (by omega)
      exact ihw hw4  (k + 1) en ρ0 (by omega) (by omega) c2 c3 (by first | exact (fun s h0 h1 => c4 s (by omega) h1) | exact (fun s h0 h1 => (aI_coin hw (by omega) (by omega)).trans (c4 s (by omega) h1))) (by have z9 := aI_9t ρ t k; omega)
theorem kR_pay_163 {ρ : z_Sg} (hw : z_wf ρ) (t iss to am : Int) (j : Nat) (k : Int) {c : Nat} (h1 : c ≠ 9) (h2 : c ≠ 11) : lR_pay_163 ρ t iss to am j k c = ρ c := by
  clear hw
  induction j generalizing ρ k with
  | zero => rfl
  | succ j ih =>
    rw [lR_pay_163]
    split
    · exact ih _
    · rw [ih, aI_n ρ t k h1 h2]
def rR_pay (ρ : z_Sg) (t iss to am : Int) : Int × z_Sg := if (rR_isTx ρ t) = 0 then ((-1), ρ) else if (rR_isNode ρ iss) = 0 then ((-1), ρ) else if (rR_isNode ρ to) = 0 then ((-1), ρ) else if am < 1 then ((-1), ρ) else if am ≤ 1000 then if (ρ 5 t) = 0 then if am ≤ (lR_pay_61 ρ t iss to am 80 0 0 0).2.1 then if (lR_pay_61 ρ t iss to am 80 0 0 0).2.1 ≤ am then if 4 < ((ρ 9 t) + (lR_pay_61 ρ t iss to am 80 0 0 0).2.2) then ((-6), ρ) else if ((ρ 10 t) + 1) ≤ 4 then ((lR_pay_61 ρ t iss to am 80 0 0 0).2.2, ((rR_addOutput (lR_pay_163 ρ t iss to am ((lR_pay_61 ρ t iss to am 80 0 0 0).1).toNat 0) t 0 iss to am)).2) else ((-6), ρ) else if 4 < ((ρ 9 t) + (lR_pay_61 ρ t iss to am 80 0 0 0).2.2) then ((-6), ρ) else if ((ρ 10 t) + 2) ≤ 4 then ((lR_pay_61 ρ t iss to am 80 0 0 0).2.2, ((rR_addOutput ((rR_addOutput (lR_pay_163 ρ t iss to am ((lR_pay_61 ρ t iss to am 80 0 0 0).1).toNat 0) t 0 iss to am)).2 t 0 iss (((rR_addOutput (lR_pay_163 ρ t iss to am ((lR_pay_61 ρ t iss to am 80 0 0 0).1).toNat 0) t 0 iss to am)).2 1 t) ((lR_pay_61 ρ t iss to am 80 0 0 0).2.1 - am))).2) else ((-6), ρ) else ((-7), ρ) else ((-2), ρ) else ((-1), ρ)
set_option maxRecDepth 100000 in
set_option maxHeartbeats 4000000 in
theorem sR_pay {κ ρ : z_Sg} {a : Int → Nat} {B : List va_E} (hw : z_wf ρ) (t iss to am : Int) (hp0 : z_rg t) (hp1 : z_rg iss) (hp2 : z_rg to) (hp3 : z_rg am) : z_Sp mR_pay (4, 91) 0 0 [.ref 12, zi t, zi iss, zi to, zi am] (zM κ a ρ B) (fun r M' => r = some (zi (rR_pay ρ t iss to am).1) ∧ M' = zM κ a (rR_pay ρ t iss to am).2 B) := by
  refine z_Sp_of (L := [.ref 12, zi t, zi iss, zi to, zi am, .float 0, .float 0, .float 0, .float 0, .float 0]) (by decide) rfl rfl rfl (Nat.le_of_ble_eq_true rfl) ?_
  refine ev_aload_n 0 (q := 1) dR_pay_0 rfl (by rfl) rfl ?_
  refine ev_iload_n 1 (q := 2) dR_pay_1 rfl (by rfl) rfl ?_
  refine cv_V (As := [_]) (q := 5) dR_pay_2 kR_87 atR rfl rfl (Nat.le_of_ble_eq_true rfl) rfl rfl rfl (by decide) (sR_isTx hw t ⟨by omega, by omega⟩ ) ?_
  have g1 : (rR_isTx ρ t) = 0 ∨ (rR_isTx ρ t) = 1 := bR_isTx _ _
  refine zr_if_eq (t := 38) (q := 8) dR_pay_5 rfl rfl ⟨by omega, by omega⟩ (fun h2 => ?_) (fun h2 => ?_)
  · refine ev_iconst (v := iI (-1)) (q := 39) dR_pay_38 rfl rfl ?_
    exact zr_iret dR_pay_39 rfl ⟨by rw [rR_pay, if_pos h2], by rw [rR_pay, if_pos h2]⟩
  · have f42 := tR_isTx hw h2
    refine ev_aload_n 0 (q := 9) dR_pay_8 rfl (by rfl) rfl ?_
    refine ev_iload_n 2 (q := 10) dR_pay_9 rfl (by rfl) rfl ?_
    refine cv_V (As := [_]) (q := 13) dR_pay_10 kR_91 atR rfl rfl (Nat.le_of_ble_eq_true rfl) rfl rfl rfl (by decide) (sR_isNode hw iss ⟨by omega, by omega⟩ ) ?_
    have g3 : (rR_isNode ρ iss) = 0 ∨ (rR_isNode ρ iss) = 1 := bR_isNode _ _
    refine zr_if_eq (t := 38) (q := 16) dR_pay_13 rfl rfl ⟨by omega, by omega⟩ (fun h4 => ?_) (fun h4 => ?_)
    · refine ev_iconst (v := iI (-1)) (q := 39) dR_pay_38 rfl rfl ?_
      exact zr_iret dR_pay_39 rfl ⟨by rw [rR_pay, if_neg h2, if_pos h4], by rw [rR_pay, if_neg h2, if_pos h4]⟩
    · have f41 := tR_isNode hw h4
      refine ev_aload_n 0 (q := 17) dR_pay_16 rfl (by rfl) rfl ?_
      refine ev_iload_n 3 (q := 18) dR_pay_17 rfl (by rfl) rfl ?_
      refine cv_V (As := [_]) (q := 21) dR_pay_18 kR_91 atR rfl rfl (Nat.le_of_ble_eq_true rfl) rfl rfl rfl (by decide) (sR_isNode hw to ⟨by omega, by omega⟩ ) ?_
      have g5 : (rR_isNode ρ to) = 0 ∨ (rR_isNode ρ to) = 1 := bR_isNode _ _
      refine zr_if_eq (t := 38) (q := 24) dR_pay_21 rfl rfl ⟨by omega, by omega⟩ (fun h6 => ?_) (fun h6 => ?_)
      · refine ev_iconst (v := iI (-1)) (q := 39) dR_pay_38 rfl rfl ?_
        exact zr_iret dR_pay_39 rfl ⟨by rw [rR_pay, if_neg h2, if_neg h4, if_pos h6], by rw [rR_pay, if_neg h2, if_neg h4, if_pos h6]⟩
      · have f40 := tR_isNode hw h6
        refine ev_iload (q := 26) dR_pay_24 (by rfl) rfl ?_
        refine ev_iconst (v := iI 1) (q := 27) dR_pay_26 rfl rfl ?_
        refine zr_icmp_lt (t := 38) (q := 30) dR_pay_27 rfl rfl ⟨by omega, by omega⟩ ⟨by omega, by omega⟩ (fun h7 => ?_) (fun h7 => ?_)
        · refine ev_iconst (v := iI (-1)) (q := 39) dR_pay_38 rfl rfl ?_
          exact zr_iret dR_pay_39 rfl ⟨by rw [rR_pay, if_neg h2, if_neg h4, if_neg h6, if_pos h7], by rw [rR_pay, if_neg h2, if_neg h4, if_neg h6, if_pos h7]⟩
        · refine ev_iload (q := 32) dR_pay_30 (by rfl) rfl ?_
          refine ev_sipush (v := iI 1000) (q := 35) dR_pay_32 (by decide) rfl ?_
          refine zr_icmp_le (t := 40) (q := 38) dR_pay_35 rfl rfl ⟨by omega, by omega⟩ ⟨by omega, by omega⟩ (fun h8 => ?_) (fun h8 => ?_)
          · refine ev_aload_n 0 (q := 41) dR_pay_40 rfl (by rfl) rfl ?_
            refine ev_get (q := 44) dR_pay_41 fR_22 atR (by rfl) rfl ?_
            refine ev_iload_n 1 (q := 45) dR_pay_44 rfl (by rfl) rfl ?_
            refine zr_iald (q := 46) (g := ρ 5) dR_pay_45 at_stageOf (by decide) ⟨by omega, by omega⟩ rfl ?_
            have g9 : 0 ≤ ρ 5 t ∧ ρ 5 t ≤ 9 := hw 5 t (by decide)
            refine zr_if_eq (t := 52) (q := 49) dR_pay_46 rfl rfl ⟨by omega, by omega⟩ (fun h10 => ?_) (fun h10 => ?_)
            · refine ev_iconst (v := iI 0) (q := 53) dR_pay_52 rfl rfl ?_
              refine ev_istore (q := 55) dR_pay_53 (by decide) rfl rfl ?_
              dsimp only [List.set]
              refine ev_iconst (v := iI 0) (q := 56) dR_pay_55 rfl rfl ?_
              refine ev_istore (q := 58) dR_pay_56 (by decide) rfl rfl ?_
              dsimp only [List.set]
              refine ev_iconst (v := iI 0) (q := 59) dR_pay_58 rfl rfl ?_
              refine ev_istore (q := 61) dR_pay_59 (by decide) rfl rfl ?_
              dsimp only [List.set]
              refine eR_pay_61 hw t iss to am hp0 hp1 hp2 hp3 80 0 0 0   (by omega) (by omega) (by omega) (by omega) ⟨by omega, by omega⟩ ⟨by omega, by omega⟩ ?_
              have u37 := fR_pay_61 hw t iss to am ⟨by omega, by omega⟩ 80 0 0 0 (by omega) (by omega) ⟨by omega, by omega⟩ rfl
              have u38 := zcnt_0 ρ t iss ((lR_pay_61 ρ t iss to am 80 0 0 0).1).toNat 0
              have u39 := zcnt_le ρ t iss ((lR_pay_61 ρ t iss to am 80 0 0 0).1).toNat 0
              refine ev_iload (q := 109) dR_pay_107 (by rfl) rfl ?_
              refine ev_iload (q := 111) dR_pay_109 (by rfl) rfl ?_
              refine zr_icmp_ge (t := 117) (q := 114) dR_pay_111 rfl rfl ⟨by omega, by omega⟩ ⟨by omega, by omega⟩ (fun h12 => ?_) (fun h12 => ?_)
              · refine ev_iload (q := 119) dR_pay_117 (by rfl) rfl ?_
                refine ev_iload (q := 121) dR_pay_119 (by rfl) rfl ?_
                refine zr_icmp_le (t := 128) (q := 124) dR_pay_121 rfl rfl ⟨by omega, by omega⟩ ⟨by omega, by omega⟩ (fun h13 => ?_) (fun h13 => ?_)
                · refine ev_iconst (v := iI 1) (q := 129) dR_pay_128 rfl rfl ?_
                  refine ev_istore (q := 131) dR_pay_129 (by decide) rfl rfl ?_
                  dsimp only [List.set]
                  refine ev_aload_n 0 (q := 132) dR_pay_131 rfl (by rfl) rfl ?_
                  refine ev_get (q := 135) dR_pay_132 fR_35 atR (by rfl) rfl ?_
                  refine ev_iload_n 1 (q := 136) dR_pay_135 rfl (by rfl) rfl ?_
                  refine zr_iald (q := 137) (g := ρ 9) dR_pay_136 at_inputs (by decide) ⟨by omega, by omega⟩ rfl ?_
                  have g14 : 0 ≤ ρ 9 t ∧ ρ 9 t ≤ 4 := hw 9 t (by decide)
                  refine ev_iload (q := 139) dR_pay_137 (by rfl) rfl ?_
                  refine zr_iadd (q := 140) dR_pay_139 rfl ?_
                  refine ev_iconst (v := iI 4) (q := 141) dR_pay_140 rfl rfl ?_
                  refine zr_icmp_gt (t := 157) (q := 144) dR_pay_141 rfl rfl ⟨by omega, by omega⟩ ⟨by omega, by omega⟩ (fun h15 => ?_) (fun h15 => ?_)
                  · refine ev_bipush (v := iI (-6)) (q := 159) dR_pay_157 (by decide) rfl ?_
                    exact zr_iret dR_pay_159 rfl ⟨by rw [rR_pay, if_neg h2, if_neg h4, if_neg h6, if_neg (Int.not_lt.mpr h7), if_pos h8, if_pos h10, if_pos h12, if_pos h13, if_pos h15], by rw [rR_pay, if_neg h2, if_neg h4, if_neg h6, if_neg (Int.not_lt.mpr h7), if_pos h8, if_pos h10, if_pos h12, if_pos h13, if_pos h15]⟩
                  · refine ev_aload_n 0 (q := 145) dR_pay_144 rfl (by rfl) rfl ?_
                    refine ev_get (q := 148) dR_pay_145 fR_38 atR (by rfl) rfl ?_
                    refine ev_iload_n 1 (q := 149) dR_pay_148 rfl (by rfl) rfl ?_
                    refine zr_iald (q := 150) (g := ρ 10) dR_pay_149 at_outputs (by decide) ⟨by omega, by omega⟩ rfl ?_
                    have g16 : 0 ≤ ρ 10 t ∧ ρ 10 t ≤ 4 := hw 10 t (by decide)
                    refine ev_iload (q := 152) dR_pay_150 (by rfl) rfl ?_
                    refine zr_iadd (q := 153) dR_pay_152 rfl ?_
                    refine ev_iconst (v := iI 4) (q := 154) dR_pay_153 rfl rfl ?_
                    refine zr_icmp_le (t := 160) (q := 157) dR_pay_154 rfl rfl ⟨by omega, by omega⟩ ⟨by omega, by omega⟩ (fun h17 => ?_) (fun h17 => ?_)
                    · refine ev_iconst (v := iI 0) (q := 161) dR_pay_160 rfl rfl ?_
                      refine ev_istore (q := 163) dR_pay_161 (by decide) rfl rfl ?_
                      dsimp only [List.set]
                      refine eR_pay_163 hw t iss to am hp0 hp1 hp2 hp3 ((lR_pay_61 ρ t iss to am 80 0 0 0).1).toNat 0 ((lR_pay_61 ρ t iss to am 80 0 0 0).1) ρ (zi ((lR_pay_61 ρ t iss to am 80 0 0 0).2.1)) (zi ((lR_pay_61 ρ t iss to am 80 0 0 0).2.2)) (zi 1) (by omega) (by omega) ⟨by omega, by omega⟩ (by omega) (fun _ _ _ => rfl) (by omega) (fun y18 => ?_)
                      have hw19 : z_wf (lR_pay_163 ρ t iss to am ((lR_pay_61 ρ t iss to am 80 0 0 0).1).toNat 0) := wlR_pay_163 hw t iss to am hp0 hp1 hp2 hp3 ((lR_pay_61 ρ t iss to am 80 0 0 0).1).toNat 0 ((lR_pay_61 ρ t iss to am 80 0 0 0).1) ρ (by omega) (by omega) ⟨by omega, by omega⟩ (by omega) (fun _ _ _ => rfl) (by omega)
                      have u23 := congrFun (kR_pay_163 hw t iss to am ((lR_pay_61 ρ t iss to am 80 0 0 0).1).toNat 0 (c := 10) (by decide) (by decide)) t
                      refine ev_aload_n 0 (q := 195) dR_pay_194 rfl (by rfl) rfl ?_
                      refine ev_iload_n 1 (q := 196) dR_pay_195 rfl (by rfl) rfl ?_
                      refine ev_iconst (v := iI 0) (q := 197) dR_pay_196 rfl rfl ?_
                      refine ev_iload_n 2 (q := 198) dR_pay_197 rfl (by rfl) rfl ?_
                      refine ev_iload_n 3 (q := 199) dR_pay_198 rfl (by rfl) rfl ?_
                      refine ev_iload (q := 201) dR_pay_199 (by rfl) rfl ?_
                      refine cv_Vv (As := [_, _, _, _, _]) (q := 204) dR_pay_201 kR_106 atR rfl rfl (Nat.le_of_ble_eq_true rfl) rfl rfl rfl (by decide) (sR_addOutput hw19 t 0 iss to am ⟨by omega, by omega⟩ ⟨by omega, by omega⟩ ⟨by omega, by omega⟩ ⟨by omega, by omega⟩ ⟨by omega, by omega⟩ (by omega)) ?_
                      have hw20 : z_wf ((rR_addOutput (lR_pay_163 ρ t iss to am ((lR_pay_61 ρ t iss to am 80 0 0 0).1).toNat 0) t 0 iss to am)).2 := wR_addOutput hw19 t 0 iss to am ⟨by omega, by omega⟩ ⟨by omega, by omega⟩ ⟨by omega, by omega⟩ ⟨by omega, by omega⟩ ⟨by omega, by omega⟩ (by omega)
                      have u21 := aO_10t (lR_pay_163 ρ t iss to am ((lR_pay_61 ρ t iss to am 80 0 0 0).1).toNat 0) t 0 iss to am
                      refine ev_iload (q := 206) dR_pay_204 (by rfl) rfl ?_
                      refine ev_iconst (v := iI 2) (q := 207) dR_pay_206 rfl rfl ?_
                      refine zr_icmp_ne (t := 228) (q := 210) dR_pay_207 rfl rfl ⟨by omega, by omega⟩ ⟨by omega, by omega⟩ (fun h22 => ?_) (fun h22 => ?_)
                      · refine ev_iload (q := 230) dR_pay_228 (by rfl) rfl ?_
                        exact zr_iret dR_pay_230 rfl ⟨by rw [rR_pay, if_neg h2, if_neg h4, if_neg h6, if_neg (Int.not_lt.mpr h7), if_pos h8, if_pos h10, if_pos h12, if_pos h13, if_neg (Int.not_lt.mpr h15), if_pos h17], by rw [rR_pay, if_neg h2, if_neg h4, if_neg h6, if_neg (Int.not_lt.mpr h7), if_pos h8, if_pos h10, if_pos h12, if_pos h13, if_neg (Int.not_lt.mpr h15), if_pos h17]⟩
                      · exfalso
                        omega
                    · refine ev_bipush (v := iI (-6)) (q := 159) dR_pay_157 (by decide) rfl ?_
                      exact zr_iret dR_pay_159 rfl ⟨by rw [rR_pay, if_neg h2, if_neg h4, if_neg h6, if_neg (Int.not_lt.mpr h7), if_pos h8, if_pos h10, if_pos h12, if_pos h13, if_neg (Int.not_lt.mpr h15), if_neg (Int.not_le.mpr h17)], by rw [rR_pay, if_neg h2, if_neg h4, if_neg h6, if_neg (Int.not_lt.mpr h7), if_pos h8, if_pos h10, if_pos h12, if_pos h13, if_neg (Int.not_lt.mpr h15), if_neg (Int.not_le.mpr h17)]⟩
                · refine ev_iconst (v := iI 2) (q := 125) dR_pay_124 rfl rfl ?_
                  refine ev_goto (t := 129) (q := 129) dR_pay_125 rfl rfl ?_
                  refine ev_istore (q := 131) dR_pay_129 (by decide) rfl rfl ?_
                  dsimp only [List.set]
                  refine ev_aload_n 0 (q := 132) dR_pay_131 rfl (by rfl) rfl ?_
                  refine ev_get (q := 135) dR_pay_132 fR_35 atR (by rfl) rfl ?_
                  refine ev_iload_n 1 (q := 136) dR_pay_135 rfl (by rfl) rfl ?_
                  refine zr_iald (q := 137) (g := ρ 9) dR_pay_136 at_inputs (by decide) ⟨by omega, by omega⟩ rfl ?_
                  have g24 : 0 ≤ ρ 9 t ∧ ρ 9 t ≤ 4 := hw 9 t (by decide)
                  refine ev_iload (q := 139) dR_pay_137 (by rfl) rfl ?_
                  refine zr_iadd (q := 140) dR_pay_139 rfl ?_
                  refine ev_iconst (v := iI 4) (q := 141) dR_pay_140 rfl rfl ?_
                  refine zr_icmp_gt (t := 157) (q := 144) dR_pay_141 rfl rfl ⟨by omega, by omega⟩ ⟨by omega, by omega⟩ (fun h25 => ?_) (fun h25 => ?_)
                  · refine ev_bipush (v := iI (-6)) (q := 159) dR_pay_157 (by decide) rfl ?_
                    exact zr_iret dR_pay_159 rfl ⟨by rw [rR_pay, if_neg h2, if_neg h4, if_neg h6, if_neg (Int.not_lt.mpr h7), if_pos h8, if_pos h10, if_pos h12, if_neg (Int.not_le.mpr h13), if_pos h25], by rw [rR_pay, if_neg h2, if_neg h4, if_neg h6, if_neg (Int.not_lt.mpr h7), if_pos h8, if_pos h10, if_pos h12, if_neg (Int.not_le.mpr h13), if_pos h25]⟩
                  · refine ev_aload_n 0 (q := 145) dR_pay_144 rfl (by rfl) rfl ?_
                    refine ev_get (q := 148) dR_pay_145 fR_38 atR (by rfl) rfl ?_
                    refine ev_iload_n 1 (q := 149) dR_pay_148 rfl (by rfl) rfl ?_
                    refine zr_iald (q := 150) (g := ρ 10) dR_pay_149 at_outputs (by decide) ⟨by omega, by omega⟩ rfl ?_
                    have g26 : 0 ≤ ρ 10 t ∧ ρ 10 t ≤ 4 := hw 10 t (by decide)
                    refine ev_iload (q := 152) dR_pay_150 (by rfl) rfl ?_
                    refine zr_iadd (q := 153) dR_pay_152 rfl ?_
                    refine ev_iconst (v := iI 4) (q := 154) dR_pay_153 rfl rfl ?_
                    refine zr_icmp_le (t := 160) (q := 157) dR_pay_154 rfl rfl ⟨by omega, by omega⟩ ⟨by omega, by omega⟩ (fun h27 => ?_) (fun h27 => ?_)
                    · refine ev_iconst (v := iI 0) (q := 161) dR_pay_160 rfl rfl ?_
                      refine ev_istore (q := 163) dR_pay_161 (by decide) rfl rfl ?_
                      dsimp only [List.set]
                      refine eR_pay_163 hw t iss to am hp0 hp1 hp2 hp3 ((lR_pay_61 ρ t iss to am 80 0 0 0).1).toNat 0 ((lR_pay_61 ρ t iss to am 80 0 0 0).1) ρ (zi ((lR_pay_61 ρ t iss to am 80 0 0 0).2.1)) (zi ((lR_pay_61 ρ t iss to am 80 0 0 0).2.2)) (zi 2) (by omega) (by omega) ⟨by omega, by omega⟩ (by omega) (fun _ _ _ => rfl) (by omega) (fun y28 => ?_)
                      have hw29 : z_wf (lR_pay_163 ρ t iss to am ((lR_pay_61 ρ t iss to am 80 0 0 0).1).toNat 0) := wlR_pay_163 hw t iss to am hp0 hp1 hp2 hp3 ((lR_pay_61 ρ t iss to am 80 0 0 0).1).toNat 0 ((lR_pay_61 ρ t iss to am 80 0 0 0).1) ρ (by omega) (by omega) ⟨by omega, by omega⟩ (by omega) (fun _ _ _ => rfl) (by omega)
                      have u36 := congrFun (kR_pay_163 hw t iss to am ((lR_pay_61 ρ t iss to am 80 0 0 0).1).toNat 0 (c := 10) (by decide) (by decide)) t
                      refine ev_aload_n 0 (q := 195) dR_pay_194 rfl (by rfl) rfl ?_
                      refine ev_iload_n 1 (q := 196) dR_pay_195 rfl (by rfl) rfl ?_
                      refine ev_iconst (v := iI 0) (q := 197) dR_pay_196 rfl rfl ?_
                      refine ev_iload_n 2 (q := 198) dR_pay_197 rfl (by rfl) rfl ?_
                      refine ev_iload_n 3 (q := 199) dR_pay_198 rfl (by rfl) rfl ?_
                      refine ev_iload (q := 201) dR_pay_199 (by rfl) rfl ?_
                      refine cv_Vv (As := [_, _, _, _, _]) (q := 204) dR_pay_201 kR_106 atR rfl rfl (Nat.le_of_ble_eq_true rfl) rfl rfl rfl (by decide) (sR_addOutput hw29 t 0 iss to am ⟨by omega, by omega⟩ ⟨by omega, by omega⟩ ⟨by omega, by omega⟩ ⟨by omega, by omega⟩ ⟨by omega, by omega⟩ (by omega)) ?_
                      have hw30 : z_wf ((rR_addOutput (lR_pay_163 ρ t iss to am ((lR_pay_61 ρ t iss to am 80 0 0 0).1).toNat 0) t 0 iss to am)).2 := wR_addOutput hw29 t 0 iss to am ⟨by omega, by omega⟩ ⟨by omega, by omega⟩ ⟨by omega, by omega⟩ ⟨by omega, by omega⟩ ⟨by omega, by omega⟩ (by omega)
                      have u31 := aO_10t (lR_pay_163 ρ t iss to am ((lR_pay_61 ρ t iss to am 80 0 0 0).1).toNat 0) t 0 iss to am
                      refine ev_iload (q := 206) dR_pay_204 (by rfl) rfl ?_
                      refine ev_iconst (v := iI 2) (q := 207) dR_pay_206 rfl rfl ?_
                      refine zr_icmp_ne (t := 228) (q := 210) dR_pay_207 rfl rfl ⟨by omega, by omega⟩ ⟨by omega, by omega⟩ (fun h32 => ?_) (fun h32 => ?_)
                      · exfalso
                        omega
                      · refine ev_aload_n 0 (q := 211) dR_pay_210 rfl (by rfl) rfl ?_
                        refine ev_iload_n 1 (q := 212) dR_pay_211 rfl (by rfl) rfl ?_
                        refine ev_iconst (v := iI 0) (q := 213) dR_pay_212 rfl rfl ?_
                        refine ev_iload_n 2 (q := 214) dR_pay_213 rfl (by rfl) rfl ?_
                        refine ev_aload_n 0 (q := 215) dR_pay_214 rfl (by rfl) rfl ?_
                        refine ev_get (q := 218) dR_pay_215 fR_7 atR (by rfl) rfl ?_
                        refine ev_iload_n 1 (q := 219) dR_pay_218 rfl (by rfl) rfl ?_
                        refine zr_iald (q := 220) (g := ((rR_addOutput (lR_pay_163 ρ t iss to am ((lR_pay_61 ρ t iss to am 80 0 0 0).1).toNat 0) t 0 iss to am)).2 1) dR_pay_219 at_begunBy (by decide) ⟨by omega, by omega⟩ rfl ?_
                        have g33 : 0 ≤ ((rR_addOutput (lR_pay_163 ρ t iss to am ((lR_pay_61 ρ t iss to am 80 0 0 0).1).toNat 0) t 0 iss to am)).2 1 t ∧ ((rR_addOutput (lR_pay_163 ρ t iss to am ((lR_pay_61 ρ t iss to am 80 0 0 0).1).toNat 0) t 0 iss to am)).2 1 t ≤ 3 := hw30 1 t (by decide)
                        refine ev_iload (q := 222) dR_pay_220 (by rfl) rfl ?_
                        refine ev_iload (q := 224) dR_pay_222 (by rfl) rfl ?_
                        refine zr_isub (q := 225) dR_pay_224 rfl ?_
                        refine cv_Vv (As := [_, _, _, _, _]) (q := 228) dR_pay_225 kR_106 atR rfl rfl (Nat.le_of_ble_eq_true rfl) rfl rfl rfl (by decide) (sR_addOutput hw30 t 0 iss (((rR_addOutput (lR_pay_163 ρ t iss to am ((lR_pay_61 ρ t iss to am 80 0 0 0).1).toNat 0) t 0 iss to am)).2 1 t) ((lR_pay_61 ρ t iss to am 80 0 0 0).2.1 - am) ⟨by omega, by omega⟩ ⟨by omega, by omega⟩ ⟨by omega, by omega⟩ ⟨by omega, by omega⟩ ⟨by omega, by omega⟩ (by omega)) ?_
                        have hw34 : z_wf ((rR_addOutput ((rR_addOutput (lR_pay_163 ρ t iss to am ((lR_pay_61 ρ t iss to am 80 0 0 0).1).toNat 0) t 0 iss to am)).2 t 0 iss (((rR_addOutput (lR_pay_163 ρ t iss to am ((lR_pay_61 ρ t iss to am 80 0 0 0).1).toNat 0) t 0 iss to am)).2 1 t) ((lR_pay_61 ρ t iss to am 80 0 0 0).2.1 - am))).2 := wR_addOutput hw30 t 0 iss (((rR_addOutput (lR_pay_163 ρ t iss to am ((lR_pay_61 ρ t iss to am 80 0 0 0).1).toNat 0) t 0 iss to am)).2 1 t) ((lR_pay_61 ρ t iss to am 80 0 0 0).2.1 - am) ⟨by omega, by omega⟩ ⟨by omega, by omega⟩ ⟨by omega, by omega⟩ ⟨by omega, by omega⟩ ⟨by omega, by omega⟩ (by omega)
                        have u35 := aO_10t ((rR_addOutput (lR_pay_163 ρ t iss to am ((lR_pay_61 ρ t iss to am 80 0 0 0).1).toNat 0) t 0 iss to am)).2 t 0 iss (((rR_addOutput (lR_pay_163 ρ t iss to am ((lR_pay_61 ρ t iss to am 80 0 0 0).1).toNat 0) t 0 iss to am)).2 1 t) ((lR_pay_61 ρ t iss to am 80 0 0 0).2.1 - am)
                        refine ev_iload (q := 230) dR_pay_228 (by rfl) rfl ?_
                        exact zr_iret dR_pay_230 rfl ⟨by rw [rR_pay, if_neg h2, if_neg h4, if_neg h6, if_neg (Int.not_lt.mpr h7), if_pos h8, if_pos h10, if_pos h12, if_neg (Int.not_le.mpr h13), if_neg (Int.not_lt.mpr h25), if_pos h27], by rw [rR_pay, if_neg h2, if_neg h4, if_neg h6, if_neg (Int.not_lt.mpr h7), if_pos h8, if_pos h10, if_pos h12, if_neg (Int.not_le.mpr h13), if_neg (Int.not_lt.mpr h25), if_pos h27]⟩
                    · refine ev_bipush (v := iI (-6)) (q := 159) dR_pay_157 (by decide) rfl ?_
                      exact zr_iret dR_pay_159 rfl ⟨by rw [rR_pay, if_neg h2, if_neg h4, if_neg h6, if_neg (Int.not_lt.mpr h7), if_pos h8, if_pos h10, if_pos h12, if_neg (Int.not_le.mpr h13), if_neg (Int.not_lt.mpr h25), if_neg (Int.not_le.mpr h27)], by rw [rR_pay, if_neg h2, if_neg h4, if_neg h6, if_neg (Int.not_lt.mpr h7), if_pos h8, if_pos h10, if_pos h12, if_neg (Int.not_le.mpr h13), if_neg (Int.not_lt.mpr h25), if_neg (Int.not_le.mpr h27)]⟩
              · refine ev_bipush (v := iI (-7)) (q := 116) dR_pay_114 (by decide) rfl ?_
                exact zr_iret dR_pay_116 rfl ⟨by rw [rR_pay, if_neg h2, if_neg h4, if_neg h6, if_neg (Int.not_lt.mpr h7), if_pos h8, if_pos h10, if_neg (Int.not_le.mpr h12)], by rw [rR_pay, if_neg h2, if_neg h4, if_neg h6, if_neg (Int.not_lt.mpr h7), if_pos h8, if_pos h10, if_neg (Int.not_le.mpr h12)]⟩
            · refine ev_bipush (v := iI (-2)) (q := 51) dR_pay_49 (by decide) rfl ?_
              exact zr_iret dR_pay_51 rfl ⟨by rw [rR_pay, if_neg h2, if_neg h4, if_neg h6, if_neg (Int.not_lt.mpr h7), if_pos h8, if_neg h10], by rw [rR_pay, if_neg h2, if_neg h4, if_neg h6, if_neg (Int.not_lt.mpr h7), if_pos h8, if_neg h10]⟩
          · refine ev_iconst (v := iI (-1)) (q := 39) dR_pay_38 rfl rfl ?_
            exact zr_iret dR_pay_39 rfl ⟨by rw [rR_pay, if_neg h2, if_neg h4, if_neg h6, if_neg (Int.not_lt.mpr h7), if_neg (Int.not_le.mpr h8)], by rw [rR_pay, if_neg h2, if_neg h4, if_neg h6, if_neg (Int.not_lt.mpr h7), if_neg (Int.not_le.mpr h8)]⟩
set_option maxRecDepth 100000 in
set_option maxHeartbeats 4000000 in
theorem wR_pay {ρ : z_Sg} (hw : z_wf ρ) (t iss to am : Int) (hp0 : z_rg t) (hp1 : z_rg iss) (hp2 : z_rg to) (hp3 : z_rg am) : z_wf (rR_pay ρ t iss to am).2 := by
  rw [rR_pay]
  have g1 : (rR_isTx ρ t) = 0 ∨ (rR_isTx ρ t) = 1 := bR_isTx _ _
  by_cases h2 : (rR_isTx ρ t) = 0
  · rw [if_pos h2]
    exact hw
  · rw [if_neg h2]
    have f42 := tR_isTx hw h2
    have g3 : (rR_isNode ρ iss) = 0 ∨ (rR_isNode ρ iss) = 1 := bR_isNode _ _
    by_cases h4 : (rR_isNode ρ iss) = 0
    · rw [if_pos h4]
      exact hw
    · rw [if_neg h4]
      have f41 := tR_isNode hw h4
      have g5 : (rR_isNode ρ to) = 0 ∨ (rR_isNode ρ to) = 1 := bR_isNode _ _
      by_cases h6 : (rR_isNode ρ to) = 0
      · rw [if_pos h6]
        exact hw
      · rw [if_neg h6]
        have f40 := tR_isNode hw h6
        by_cases h7 : am < 1
        · rw [if_pos h7]
          exact hw
        · rw [if_neg h7]
          by_cases h8 : am ≤ 1000
          · rw [if_pos h8]
            have g9 : 0 ≤ ρ 5 t ∧ ρ 5 t ≤ 9 := hw 5 t (by decide)
            by_cases h10 : (ρ 5 t) = 0
            · rw [if_pos h10]
              have u37 := fR_pay_61 hw t iss to am ⟨by omega, by omega⟩ 80 0 0 0 (by omega) (by omega) ⟨by omega, by omega⟩ rfl
              have u38 := zcnt_0 ρ t iss ((lR_pay_61 ρ t iss to am 80 0 0 0).1).toNat 0
              have u39 := zcnt_le ρ t iss ((lR_pay_61 ρ t iss to am 80 0 0 0).1).toNat 0
              by_cases h12 : am ≤ (lR_pay_61 ρ t iss to am 80 0 0 0).2.1
              · rw [if_pos h12]
                by_cases h13 : (lR_pay_61 ρ t iss to am 80 0 0 0).2.1 ≤ am
                · rw [if_pos h13]
                  have g14 : 0 ≤ ρ 9 t ∧ ρ 9 t ≤ 4 := hw 9 t (by decide)
                  by_cases h15 : 4 < ((ρ 9 t) + (lR_pay_61 ρ t iss to am 80 0 0 0).2.2)
                  · rw [if_pos h15]
                    exact hw
                  · rw [if_neg h15]
                    have g16 : 0 ≤ ρ 10 t ∧ ρ 10 t ≤ 4 := hw 10 t (by decide)
                    by_cases h17 : ((ρ 10 t) + 1) ≤ 4
                    · rw [if_pos h17]
                      have hw19 : z_wf (lR_pay_163 ρ t iss to am ((lR_pay_61 ρ t iss to am 80 0 0 0).1).toNat 0) := wlR_pay_163 hw t iss to am hp0 hp1 hp2 hp3 ((lR_pay_61 ρ t iss to am 80 0 0 0).1).toNat 0 ((lR_pay_61 ρ t iss to am 80 0 0 0).1) ρ (by omega) (by omega) ⟨by omega, by omega⟩ (by omega) (fun _ _ _ => rfl) (by omega)
                      have u23 := congrFun (kR_pay_163 hw t iss to am ((lR_pay_61 ρ t iss to am 80 0 0 0).1).toNat 0 (c := 10) (by decide) (by decide)) t
                      have hw20 : z_wf ((rR_addOutput (lR_pay_163 ρ t iss to am ((lR_pay_61 ρ t iss to am 80 0 0 0).1).toNat 0) t 0 iss to am)).2 := wR_addOutput hw19 t 0 iss to am ⟨by omega, by omega⟩ ⟨by omega, by omega⟩ ⟨by omega, by omega⟩ ⟨by omega, by omega⟩ ⟨by omega, by omega⟩ (by omega)
                      have u21 := aO_10t (lR_pay_163 ρ t iss to am ((lR_pay_61 ρ t iss to am 80 0 0 0).1).toNat 0) t 0 iss to am
                      exact hw20
                    · rw [if_neg h17]
                      exact hw
                · rw [if_neg h13]
                  have g24 : 0 ≤ ρ 9 t ∧ ρ 9 t ≤ 4 := hw 9 t (by decide)
                  by_cases h25 : 4 < ((ρ 9 t) + (lR_pay_61 ρ t iss to am 80 0 0 0).2.2)
                  · rw [if_pos h25]
                    exact hw
                  · rw [if_neg h25]
                    have g26 : 0 ≤ ρ 10 t ∧ ρ 10 t ≤ 4 := hw 10 t (by decide)
                    by_cases h27 : ((ρ 10 t) + 2) ≤ 4
                    · rw [if_pos h27]
                      have hw29 : z_wf (lR_pay_163 ρ t iss to am ((lR_pay_61 ρ t iss to am 80 0 0 0).1).toNat 0) := wlR_pay_163 hw t iss to am hp0 hp1 hp2 hp3 ((lR_pay_61 ρ t iss to am 80 0 0 0).1).toNat 0 ((lR_pay_61 ρ t iss to am 80 0 0 0).1) ρ (by omega) (by omega) ⟨by omega, by omega⟩ (by omega) (fun _ _ _ => rfl) (by omega)
                      have u36 := congrFun (kR_pay_163 hw t iss to am ((lR_pay_61 ρ t iss to am 80 0 0 0).1).toNat 0 (c := 10) (by decide) (by decide)) t
                      have hw30 : z_wf ((rR_addOutput (lR_pay_163 ρ t iss to am ((lR_pay_61 ρ t iss to am 80 0 0 0).1).toNat 0) t 0 iss to am)).2 := wR_addOutput hw29 t 0 iss to am ⟨by omega, by omega⟩ ⟨by omega, by omega⟩ ⟨by omega, by omega⟩ ⟨by omega, by omega⟩ ⟨by omega, by omega⟩ (by omega)
                      have u31 := aO_10t (lR_pay_163 ρ t iss to am ((lR_pay_61 ρ t iss to am 80 0 0 0).1).toNat 0) t 0 iss to am
                      have g33 : 0 ≤ ((rR_addOutput (lR_pay_163 ρ t iss to am ((lR_pay_61 ρ t iss to am 80 0 0 0).1).toNat 0) t 0 iss to am)).2 1 t ∧ ((rR_addOutput (lR_pay_163 ρ t iss to am ((lR_pay_61 ρ t iss to am 80 0 0 0).1).toNat 0) t 0 iss to am)).2 1 t ≤ 3 := hw30 1 t (by decide)
                      have hw34 : z_wf ((rR_addOutput ((rR_addOutput (lR_pay_163 ρ t iss to am ((lR_pay_61 ρ t iss to am 80 0 0 0).1).toNat 0) t 0 iss to am)).2 t 0 iss (((rR_addOutput (lR_pay_163 ρ t iss to am ((lR_pay_61 ρ t iss to am 80 0 0 0).1).toNat 0) t 0 iss to am)).2 1 t) ((lR_pay_61 ρ t iss to am 80 0 0 0).2.1 - am))).2 := wR_addOutput hw30 t 0 iss (((rR_addOutput (lR_pay_163 ρ t iss to am ((lR_pay_61 ρ t iss to am 80 0 0 0).1).toNat 0) t 0 iss to am)).2 1 t) ((lR_pay_61 ρ t iss to am 80 0 0 0).2.1 - am) ⟨by omega, by omega⟩ ⟨by omega, by omega⟩ ⟨by omega, by omega⟩ ⟨by omega, by omega⟩ ⟨by omega, by omega⟩ (by omega)
                      have u35 := aO_10t ((rR_addOutput (lR_pay_163 ρ t iss to am ((lR_pay_61 ρ t iss to am 80 0 0 0).1).toNat 0) t 0 iss to am)).2 t 0 iss (((rR_addOutput (lR_pay_163 ρ t iss to am ((lR_pay_61 ρ t iss to am 80 0 0 0).1).toNat 0) t 0 iss to am)).2 1 t) ((lR_pay_61 ρ t iss to am 80 0 0 0).2.1 - am)
                      exact hw34
                    · rw [if_neg h27]
                      exact hw
              · rw [if_neg h12]
                exact hw
            · rw [if_neg h10]
              exact hw
          · rw [if_neg h8]
            exact hw
