-- who is told
def zcn (ρ : z_Sg) (t n : Int) : Nat → Int → Bool
  | 0, _ => false
  | j + 1, k => decide (rR_concerns ρ (4 * t + k) n ≠ 0) || zcn ρ t n j (k + 1)
section
variable {γ ρ : z_Sg} {t : Int}
theorem zcn_s {n : Int} {j : Nat} {k : Int} : zcn ρ t n (j + 1) k = (decide (rR_concerns ρ (4 * t + k) n ≠ 0) || zcn ρ t n j (k + 1)) := rfl
theorem told_l {n : Int} : ∀ (j : Nat) (k du : Int), lR_told_10 ρ t n j k du = if (du ≠ 0 ∨ zcn ρ t n j k = true) ∧ n ≠ ρ 1 t then 1 else 0 := by
  intro j
  induction j with
  | zero =>
    intro k du
    rw [lR_told_10]
    by_cases a : du = 0 <;> by_cases b : n = ρ 1 t <;> simp [a, b, zcn]
  | succ j ih =>
    intro k du
    rw [lR_told_10]
    simp only [ih]
    by_cases a : du = 0 <;> by_cases c : rR_concerns ρ (4 * t + k) n = 0 <;> simp [a, c, zcn]
theorem conc_in (h : kL γ ρ t) {n i : Int} (hn : 0 ≤ n ∧ n ≤ 3) (hi : 0 ≤ i ∧ i ≤ 3) : ∀ (j : Nat) (k se : Int), 0 ≤ k → k + j = ρ 10 t → 0 ≤ se ∧ se ≤ 15 → (lT_concerned_11 γ t j k se n).2 = n ∧ (0 ≤ (lT_concerned_11 γ t j k se n).1 ∧ (lT_concerned_11 γ t j k se n).1 ≤ 15) ∧ zB (lT_concerned_11 γ t j k se n).1 i = (zB se i || (decide (i = n) && zcn ρ t n j k)) := by
  intro j
  induction j with
  | zero =>
    intro k se _ _ hs
    refine ⟨rfl, hs, ?_⟩
    show zB se i = _
    simp [zcn]
  | succ j ih =>
    intro k se hk hj hs
    have o := h.2.2.2 k hk (by omega)
    have e : cS_concerns γ (γ 33 (4 * (2 * t + 1) + k)) n = rR_concerns ρ (4 * t + k) n := by
      rw [o.1]
      exact k_concerns o.2 n
    by_cases c : rR_concerns ρ (4 * t + k) n = 0
    · have st : lT_concerned_11 γ t (j + 1) k se n = lT_concerned_11 γ t j (k + 1) se n := by
        show (if cS_concerns γ (γ 33 (4 * (2 * t + 1) + k)) n = 0 then _ else _) = _
        rw [e, if_pos c]
      have r := ih (k + 1) se (by omega) (by omega) hs
      rw [st]
      refine ⟨r.1, r.2.1, ?_⟩
      rw [r.2.2, zcn_s, decide_eq_false (p := rR_concerns ρ (4 * t + k) n ≠ 0) (by simp [c]), Bool.false_or]
    · have st : lT_concerned_11 γ t (j + 1) k se n = lT_concerned_11 γ t j (k + 1) (zor se (zshl 1 n)) n := by
        show (if cS_concerns γ (γ 33 (4 * (2 * t + 1) + k)) n = 0 then _ else _) = _
        rw [e, if_neg c]
        rfl
      have g := zshl_1 (n := n) (by omega)
      have r := ih (k + 1) (zor se (zshl 1 n)) (by omega) (by omega) (zor_15 hs (by omega))
      rw [st]
      refine ⟨r.1, r.2.1, ?_⟩
      rw [r.2.2, zcn_s, decide_eq_true (p := rR_concerns ρ (4 * t + k) n ≠ 0) c, zB_or (by omega) (by omega), zB_shl (by omega) hi.1]
      cases zB se i <;> cases decide (i = n) <;> cases zcn ρ t n j (k + 1) <;> rfl
theorem conc_out (h : kL γ ρ t) {i : Int} (hi : 0 ≤ i ∧ i ≤ 3) : ∀ (j : Nat) (k se : Int), 0 ≤ k → k + j = 4 → 0 ≤ se ∧ se ≤ 15 → (0 ≤ lT_concerned_4 γ t j k se ∧ lT_concerned_4 γ t j k se ≤ 15) ∧ zB (lT_concerned_4 γ t j k se) i = (zB se i || (decide (k ≤ i) && zcn ρ t i (ρ 10 t).toNat 0)) := by
  have g10 : 0 ≤ ρ 10 t ∧ ρ 10 t ≤ 4 := h.1 10 t (by decide)
  intro j
  induction j with
  | zero =>
    intro k se hk hj hs
    refine ⟨hs, ?_⟩
    show zB se i = _
    rw [decide_eq_false (p := k ≤ i) (by omega), Bool.false_and, Bool.or_false]
  | succ j ih =>
    intro k se hk hj hs
    have r := conc_in h (n := k) (i := i) (by omega) hi (ρ 10 t).toNat 0 se (by omega) (by omega) hs
    have st : lT_concerned_4 γ t (j + 1) k se = lT_concerned_4 γ t j (k + 1) (lT_concerned_11 γ t (ρ 10 t).toNat 0 se k).1 := by
      show lT_concerned_4 γ t j ((lT_concerned_11 γ t (γ 32 (2 * t + 1)).toNat 0 se k).2 + 1) (lT_concerned_11 γ t (γ 32 (2 * t + 1)).toNat 0 se k).1 = _
      rw [h.2.1.2.2.2, r.1]
    have q := ih (k + 1) (lT_concerned_11 γ t (ρ 10 t).toNat 0 se k).1 (by omega) (by omega) r.2.1
    rw [st]
    refine ⟨q.1, ?_⟩
    rw [q.2, r.2.2]
    by_cases c : i = k
    · subst c
      rw [decide_eq_true (p := i = i) rfl, decide_eq_false (p := i + 1 ≤ i) (by omega), decide_eq_true (p := i ≤ i) (by omega)]
      simp
    · rw [decide_eq_false (p := i = k) c]
      by_cases c2 : k ≤ i
      · rw [decide_eq_true (p := k + 1 ≤ i) (by omega), decide_eq_true (p := k ≤ i) c2]
        simp
      · rw [decide_eq_false (p := k + 1 ≤ i) (by omega), decide_eq_false (p := k ≤ i) c2]
        simp
theorem k_conc (h : kL γ ρ t) {i : Int} (hi : 0 ≤ i ∧ i ≤ 3) : (0 ≤ cT_concerned γ t ∧ cT_concerned γ t ≤ 15) ∧ zB (cT_concerned γ t) i = zcn ρ t i (ρ 10 t).toNat 0 := by
  have q := conc_out h hi 4 0 0 (by omega) (by omega) (by omega)
  refine ⟨q.1, ?_⟩
  show zB (lT_concerned_4 γ t 4 0 0) i = _
  rw [q.2, zB_0, decide_eq_true (p := (0 : Int) ≤ i) hi.1]
  simp
theorem needs_15 (h : kL γ ρ t) : 0 ≤ rR_needs ρ t ∧ rR_needs ρ t ≤ 15 := by
  rw [needs_r ρ t (fun n a _ => rmust_01 h a)]
  have a0 := rmust_01 h (n := 0) (by omega)
  have a1 := rmust_01 h (n := 1) (by omega)
  have a2 := rmust_01 h (n := 2) (by omega)
  have a3 := rmust_01 h (n := 3) (by omega)
  omega
theorem k_told (h : kL γ ρ t) {n : Int} (hn : 0 ≤ n ∧ n ≤ 3) : rR_told ρ t n = if cH_has γ (zor (rR_needs ρ t) (cT_concerned γ t)) n ≠ 0 ∧ n ≠ ρ 1 t then 1 else 0 := by
  have g := needs_15 h
  have c := k_conc h hn
  have z := zor_15 g c.1
  show lR_told_10 ρ t n (ρ 10 t).toNat 0 (rR_mustSign ρ t n) = _
  rw [told_l, zB_has γ (by omega) (by omega), zB_or (by omega) (by omega), needs_B h hn, c.2]
  by_cases a : rR_mustSign ρ t n = 0 <;> by_cases b : zcn ρ t n (ρ 10 t).toNat 0 = true <;> simp [a, b, zb]
-- the notary's judgement
theorem k_judge (h : kB γ ρ) (h0 : 0 ≤ t) (h1 : t < ρ 0 0) (hs : γ 27 t = rR_sound ρ t) : cH_judge γ t = rR_judge ρ t := by
  have o := kB_one h h0 h1
  have g9 : 0 ≤ ρ 9 t ∧ ρ 9 t ≤ 4 := h.1 9 t (by decide)
  have key : ∀ (j : Nat) (k : Int), 0 ≤ k → k + j = ρ 9 t → (if lH_isAnyInputUsedUp_7 γ t j k = 0 then 1 else 4) = lR_judge_50 ρ t j k := by
    intro j
    induction j with
    | zero => intro k _ _; rfl
    | succ j ih =>
      intro k hk hj
      have i := kB_in h h0 h1 hk (by omega)
      have e := (h.2.2.2.2 _ i.2).2
      have g : -1 ≤ ρ 17 (ρ 11 (4 * t + k)) ∧ ρ 17 (ρ 11 (4 * t + k)) ≤ 19 := h.1 17 _ (by decide)
      rw [lH_isAnyInputUsedUp_7, lR_judge_50, ← ih (k + 1) (by omega) (by omega), i.1, e]
      generalize lH_isAnyInputUsedUp_7 γ t j (k + 1) = v
      (repeat' split) <;> omega
  unfold cH_judge rR_judge cH_isAnyInputUsedUp
  rw [kB_clock h, o.2.1, o.2.2.1, o.2.2.2.1, o.2.2.2.2.2.2.2.1, hs, key _ 0 (by omega) (by omega)]
-- the nodes
def kN (γ ρ : z_Sg) : Prop := ∀ n : Int, 0 ≤ n → n ≤ 3 → γ 4 n = ρ 20 n ∧ (∀ t : Int, 0 ≤ t → t ≤ 19 → zB (γ 2 n) t = decide (ρ 18 (20 * n + t) ≠ 0) ∧ zB (γ 3 n) t = decide (ρ 18 (20 * n + t) = 2)) ∧ ∀ o : Int, 0 ≤ o → o ≤ 3 → zB (γ 5 n) o = decide (ρ 21 (4 * n + o) = 0)
theorem k_has2 (hc : c_wf γ) (h : kN γ ρ) {n : Int} (hn : 0 ≤ n ∧ n ≤ 3) {u : Int} (hu : 0 ≤ u ∧ u ≤ 19) : cH_has γ (γ 2 n) u = if ρ 18 (20 * n + u) = 0 then 0 else 1 := by
  have g : 0 ≤ γ 2 n ∧ γ 2 n ≤ 1048575 := hc 2 n (by decide)
  rw [zB_has γ (by omega) (by omega), ((h n hn.1 hn.2).2.1 u hu.1 hu.2).1]
  by_cases c : ρ 18 (20 * n + u) = 0 <;> simp [c, zb]
theorem k_has3 (hc : c_wf γ) (h : kN γ ρ) {n : Int} (hn : 0 ≤ n ∧ n ≤ 3) {u : Int} (hu : 0 ≤ u ∧ u ≤ 19) : cH_has γ (γ 3 n) u = if ρ 18 (20 * n + u) = 2 then 1 else 0 := by
  have g : 0 ≤ γ 3 n ∧ γ 3 n ≤ 1048575 := hc 3 n (by decide)
  rw [zB_has γ (by omega) (by omega), ((h n hn.1 hn.2).2.1 u hu.1 hu.2).2]
  by_cases c : ρ 18 (20 * n + u) = 2 <;> simp [c, zb]
theorem k_has5 (hc : c_wf γ) (h : kN γ ρ) {n : Int} (hn : 0 ≤ n ∧ n ≤ 3) {u : Int} (hu : 0 ≤ u ∧ u ≤ 3) : cH_has γ (γ 5 n) u = if ρ 21 (4 * n + u) = 0 then 1 else 0 := by
  have g : 0 ≤ γ 5 n ∧ γ 5 n ≤ 15 := hc 5 n (by decide)
  rw [zB_has γ (by omega) (by omega), (h n hn.1 hn.2).2.2 u hu.1 hu.2]
  by_cases c : ρ 21 (4 * n + u) = 0 <;> simp [c, zb]
theorem k_known (h : kB γ ρ) (hN : kN γ ρ) {n s : Int} (hn : 0 ≤ n ∧ n ≤ 3) : ∀ (j : Nat) (k : Int), 0 ≤ k → k + j = ρ 0 0 → lR_inVault_44 ρ n s j k = if lH_isKnownInput_2 γ s n j k ≠ 0 then 0 else 1 := by
  have gm : 0 ≤ ρ 0 0 ∧ ρ 0 0 ≤ 20 := h.1 0 0 (by decide)
  intro j
  induction j with
  | zero => intro k _ _; rfl
  | succ j ih =>
    intro k hk hj
    have g : 0 ≤ ρ 18 (20 * n + k) ∧ ρ 18 (20 * n + k) ≤ 2 := h.1 18 _ (by decide)
    rw [lR_inVault_44, lH_isKnownInput_2, ih (k + 1) (by omega) (by omega), k_has2 h.2.1 hN hn (by omega), k_holds (kB_L h hk (by omega))]
    generalize lH_isKnownInput_2 γ s n j (k + 1) = v
    generalize rR_isInput ρ k s = w
    (repeat' split) <;> omega
theorem k_inVault (h : kB γ ρ) (hN : kN γ ρ) {n s : Int} (hn : 0 ≤ n ∧ n ≤ 3) (hs : zEx γ s) : cH_isInVault γ s n = rR_inVault ρ n s := by
  have gm : 0 ≤ ρ 0 0 ∧ ρ 0 0 ≤ 20 := h.1 0 0 (by decide)
  have m := kB_many h
  have hs2 := hs.2
  have o := kB_one h (t := s / 4) (by have := hs.1; omega) (by omega)
  have e : rR_isState ρ (s / 4) (s % 4) = 1 := by
    have := hs.1
    rw [o.2.2.2.2.2.2.2.2] at hs2
    unfold rR_isState rR_isTx
    (repeat' split) <;> omega
  have k := k_known h hN (n := n) (s := s) hn (ρ 0 0).toNat 0 (by omega) (by omega)
  unfold cH_isInVault rR_inVault cH_isKnownInput cS_source
  rw [e, k, k_has3 h.2.1 hN hn (by have := hs.1; omega), k_concerns (h.2.2.2.2 s hs).1, m]
  generalize lH_isKnownInput_2 γ s n (ρ 0 0).toNat 0 = v
  generalize rR_concerns ρ s n = w
  (repeat' split) <;> omega
theorem k_held (h : kB γ ρ) {n s : Int} : ∀ (j : Nat) (k : Int), 0 ≤ k → k + j = ρ 0 0 → lH_isHeld_2 γ s n j k = lR_held_2 ρ n s j k := by
  intro j
  induction j with
  | zero => intro k _ _; rfl
  | succ j ih =>
    intro k hk hj
    have o := kB_one h hk (by omega)
    have g : 0 ≤ ρ 5 k ∧ ρ 5 k ≤ 9 := h.1 5 _ (by decide)
    rw [lR_held_2, lH_isHeld_2, ih (k + 1) (by omega) (by omega), k_holds (kB_L h hk (by omega)), o.1]
    unfold cT_isOpen
    rw [o.2.2.2.2.1]
    generalize lR_held_2 ρ n s j (k + 1) = v
    generalize rR_isInput ρ k s = w
    (repeat' split) <;> omega
theorem k_coin (h : kB γ ρ) (hN : kN γ ρ) (h0 : 0 ≤ t) (h1 : t < ρ 0 0) {iss s : Int} (hs : zEx γ s) : cH_isCoin γ s iss t = rR_coin ρ t iss s := by
  have g1 : 0 ≤ ρ 1 t ∧ ρ 1 t ≤ 3 := h.1 1 t (by decide)
  have gb : -1 ≤ ρ 16 s ∧ ρ 16 s ≤ 3 := h.1 16 s (by decide)
  have gm : 0 ≤ ρ 0 0 ∧ ρ 0 0 ≤ 20 := h.1 0 0 (by decide)
  have m := kB_many h
  have o := kB_one h h0 h1
  have hs2 := hs.2
  have o4 := kB_one h (t := s / 4) (by have := hs.1; omega) (by omega)
  have e := (h.2.2.2.2 s hs).1
  have k := k_held h (n := ρ 1 t) (s := s) (ρ 0 0).toNat 0 (by omega) (by omega)
  unfold cH_isCoin rR_coin cH_isHeld rR_held cS_source
  rw [o.1, m, k, k_inVault h hN g1 hs, k_bound h.1 e, o.2.1, o4.2.1]
  unfold cS_isCashIssuedBy
  rw [e.1, e.2.1]
  generalize lR_held_2 ρ (ρ 1 t) s (ρ 0 0).toNat 0 = v
  generalize rR_inVault ρ (ρ 1 t) s = w
  (repeat' split) <;> omega
end
