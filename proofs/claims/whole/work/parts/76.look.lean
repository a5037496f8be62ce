-- the calls that only look
section
variable {γ ρ : z_Sg} {t n : Int}
theorem Q_stage (h : zK γ ρ) : cH_stage γ t = rR_stage ρ t := by
  unfold cH_stage rR_stage
  rw [isTx_iff, kB_many h.1]
  by_cases c : 0 ≤ t ∧ t < ρ 0 0
  · rw [if_pos c, if_pos c, if_neg (show ¬ ((1 : Int) = 0) by decide), (kB_one h.1 c.1 c.2).2.2.2.2.1]
  · rw [if_neg c, if_neg c, if_pos (show (0 : Int) = 0 from rfl)]
theorem Q_verdict (h : zK γ ρ) : cH_verdict γ t = rR_verdict ρ t := by
  unfold cH_verdict rR_verdict
  rw [isTx_iff, kB_many h.1]
  by_cases c : 0 ≤ t ∧ t < ρ 0 0
  · rw [if_pos c, if_pos c, if_neg (show ¬ ((1 : Int) = 0) by decide), (kB_one h.1 c.1 c.2).2.2.2.2.2.2.1]
  · rw [if_neg c, if_neg c, if_pos (show (0 : Int) = 0 from rfl)]
theorem Q_signatures {nd : Int} (h : zK γ ρ) : cH_signatures γ t nd = rR_signatures ρ t nd := by
  unfold cH_signatures rR_signatures
  rw [isTx_iff, kB_many h.1]
  by_cases c : 0 ≤ t ∧ t < ρ 0 0
  · rw [if_pos c, if_pos c, if_pos (show (1 : Int) ≠ 0 by decide), (kB_one h.1 c.1 c.2).2.2.2.2.2.1, k_needs (kB_L h.1 c.1 c.2)]
  · rw [if_neg c, if_neg c, if_neg (show ¬ ((0 : Int) ≠ 0) from fun q => q rfl)]
theorem Q_spender {u o : Int} (h : zK γ ρ) : cH_spender γ u o = rR_spender ρ u o := by
  unfold cH_spender rR_spender
  rw [isSt_iff, kB_many h.1]
  by_cases cu : 0 ≤ u ∧ u < ρ 0 0
  · have k := kB_one h.1 cu.1 cu.2
    have g10 : 0 ≤ ρ 10 u ∧ ρ 10 u ≤ 4 := h.1.1 10 u (by decide)
    rw [k.2.2.2.2.2.2.2.2]
    by_cases c : 0 ≤ u ∧ u < ρ 0 0 ∧ 0 ≤ o ∧ o < ρ 10 u
    · rw [if_pos c, if_pos c, if_neg (show ¬ ((1 : Int) = 0) by decide)]
      have x := (kB_out h.1 cu.1 cu.2 c.2.2.1 c.2.2.2).2
      exact (h.1.2.2.2.2 _ x).2
    · rw [if_neg c, if_neg c, if_pos (show (0 : Int) = 0 from rfl)]
  · rw [if_neg (fun q => cu ⟨q.1, q.2.1⟩), if_neg (show ¬ (0 ≤ u ∧ u < ρ 0 0 ∧ 0 ≤ o ∧ o < ρ 10 u) from fun q => cu ⟨q.1, q.2.1⟩), if_pos (show (0 : Int) = 0 from rfl)]
theorem Q_standing (h : zK γ ρ) : cH_standing γ n t = rR_standing ρ n t := by
  have gm : 0 ≤ ρ 0 0 ∧ ρ 0 0 ≤ 20 := h.1.1 0 0 (by decide)
  unfold cH_standing rR_standing
  rw [isTx_iff, isN_iff, isN_c, kB_many h.1]
  by_cases c1 : 0 ≤ n ∧ n ≤ 3
  case neg => rw [if_neg c1, if_pos (show (0 : Int) = 0 from rfl), if_pos (show (0 : Int) = 0 from rfl)]
  rw [if_pos c1, if_neg (show ¬ ((1 : Int) = 0) by decide), if_neg (show ¬ ((1 : Int) = 0) by decide)]
  by_cases c : 0 ≤ t ∧ t < ρ 0 0
  case neg => rw [if_neg c, if_neg c, if_pos (show (0 : Int) = 0 from rfl)]
  rw [if_pos c, if_pos c, if_neg (show ¬ ((1 : Int) = 0) by decide), k_has3 h.1.2.1 h.2.1 c1 (by omega), k_has2 h.1.2.1 h.2.1 c1 (by omega)]
  have g : 0 ≤ ρ 18 (20 * n + t) ∧ ρ 18 (20 * n + t) ≤ 2 := h.1.1 18 _ (by decide)
  (repeat' split) <;> omega
theorem Q_fetched (h : zK γ ρ) : cH_fetched γ n = rR_fetched ρ n := by
  unfold cH_fetched rR_fetched
  rw [isN_iff, isN_c]
  by_cases c1 : 0 ≤ n ∧ n ≤ 3
  · rw [if_pos c1, if_neg (show ¬ ((1 : Int) = 0) by decide), if_neg (show ¬ ((1 : Int) = 0) by decide), (h.2.1 n c1.1 c1.2).1]
  · rw [if_neg c1, if_pos (show (0 : Int) = 0 from rfl), if_pos (show (0 : Int) = 0 from rfl)]
theorem Q_message {k : Int} (h : zK γ ρ) : cH_message γ k = rR_message ρ k := by
  have m := h.2.2.2.1
  unfold cH_message rR_message cB_holdsPlace
  rw [m.1]
  by_cases c1 : k = -1
  · rw [if_neg (fun q => q c1), if_neg (fun q => q c1)]
  rw [if_pos c1, if_pos c1]
  by_cases c2 : k < 0
  · rw [if_pos c2, if_pos c2, if_pos (show (0 : Int) = 0 from rfl)]
  rw [if_neg c2, if_neg c2]
  by_cases c3 : k < ρ 23 0
  · rw [if_neg (show ¬ ρ 23 0 ≤ k by omega), if_neg (show ¬ ((1 : Int) = 0) by decide), if_pos c3, m.2 k (by omega) c3]
  · rw [if_pos (show ρ 23 0 ≤ k by omega), if_pos (show (0 : Int) = 0 from rfl), if_neg c3]
theorem vault_end (h : kB γ ρ) {p : Int} : ∀ (d : Nat) (k pl : Int), 0 ≤ k → 4 * ρ 0 0 ≤ k → lR_vault_20 ρ n p d k pl = if p ≠ -1 then -1 else pl := by
  intro d
  induction d with
  | zero => intro k pl _ _; rfl
  | succ d ih =>
    intro k pl k0 k1
    have e : rR_inVault ρ n k = 0 := inVault_no h k0 (fun q => by have := q.2.1; rw [kB_many h] at this; omega)
    rw [lR_vault_20, e, if_pos (show (0 : Int) = 0 from rfl), if_pos (show (0 : Int) = 0 from rfl)]
    exact ih (k + 1) pl (by omega) (by omega)
theorem vault_l (h : zK γ ρ) (hn : 0 ≤ n ∧ n ≤ 3) {p : Int} (d : Nat) : ∀ (j : Nat) (k pl : Int), 0 ≤ k → k + j = 4 * ρ 0 0 → lH_vault_19 γ n p j k pl = lR_vault_20 ρ n p (j + d) k pl := by
  intro j
  induction j with
  | zero =>
    intro k pl k0 k1
    rw [show 0 + d = d by omega, vault_end h.1 d k pl k0 (by omega)]
    rfl
  | succ j ih =>
    intro k pl k0 k1
    have st : lH_vault_19 γ n p (j + 1) k pl = if 0 ≤ k ∧ k / 4 < γ 0 0 ∧ k % 4 < γ 32 (2 * (k / 4) + 1) then if cH_isInVault γ k n = 0 then lH_vault_19 γ n p j (k + 1) pl else if pl ≠ p then lH_vault_19 γ n p j (k + 1) (pl + 1) else k else lH_vault_19 γ n p j (k + 1) pl := rfl
    rw [st, show j + 1 + d = (j + d) + 1 by omega, lR_vault_20, ih (k + 1) pl (by omega) (by omega), ih (k + 1) (pl + 1) (by omega) (by omega)]
    by_cases c : 0 ≤ k ∧ k / 4 < γ 0 0 ∧ k % 4 < γ 32 (2 * (k / 4) + 1)
    · rw [if_pos c, k_inVault h.1 h.2.1 hn c]
      by_cases c2 : rR_inVault ρ n k = 0
      · rw [if_pos c2, if_pos c2, if_pos c2]
      · rw [if_neg c2, if_neg c2, if_neg c2]
    · rw [if_neg c, inVault_no h.1 k0 c, if_pos (show (0 : Int) = 0 from rfl), if_pos (show (0 : Int) = 0 from rfl)]
theorem Q_vault {p : Int} (h : zK γ ρ) : cH_vault γ n p = rR_vault ρ n p := by
  have gm : 0 ≤ ρ 0 0 ∧ ρ 0 0 ≤ 20 := h.1.1 0 0 (by decide)
  unfold cH_vault rR_vault
  rw [isN_iff, isN_c, kB_many h.1]
  by_cases c1 : 0 ≤ n ∧ n ≤ 3
  case neg => rw [if_neg c1, if_pos (show (0 : Int) = 0 from rfl), if_pos (show (0 : Int) = 0 from rfl)]
  rw [if_pos c1, if_neg (show ¬ ((1 : Int) = 0) by decide), if_neg (show ¬ ((1 : Int) = 0) by decide), vault_l h c1 (80 - (ρ 0 0 * 4).toNat) (ρ 0 0 * 4).toNat 0 0 (by omega) (by omega), show (ρ 0 0 * 4).toNat + (80 - (ρ 0 0 * 4).toNat) = 80 by omega]
theorem bal_end (h : kB γ ρ) {iss : Int} : ∀ (d : Nat) (k sm : Int), 0 ≤ k → 4 * ρ 0 0 ≤ k → lR_balance_23 ρ n iss d k sm = sm := by
  intro d
  induction d with
  | zero => intro k sm _ _; rfl
  | succ d ih =>
    intro k sm k0 k1
    have e : rR_inVault ρ n k = 0 := inVault_no h k0 (fun q => by have := q.2.1; rw [kB_many h] at this; omega)
    rw [lR_balance_23, e, if_pos (show (0 : Int) = 0 from rfl)]
    exact ih (k + 1) sm (by omega) (by omega)
theorem bal_l (h : zK γ ρ) (hn : 0 ≤ n ∧ n ≤ 3) {iss : Int} (d : Nat) : ∀ (j : Nat) (k sm : Int), 0 ≤ k → k + j = 4 * ρ 0 0 → lH_balance_21 γ n iss j k sm = lR_balance_23 ρ n iss (j + d) k sm := by
  intro j
  induction j with
  | zero =>
    intro k sm k0 k1
    rw [show 0 + d = d by omega, bal_end h.1 d k sm k0 (by omega)]
    rfl
  | succ j ih =>
    intro k sm k0 k1
    have st : lH_balance_21 γ n iss (j + 1) k sm = if 0 ≤ k ∧ k / 4 < γ 0 0 ∧ k % 4 < γ 32 (2 * (k / 4) + 1) then if cS_isCashIssuedBy γ k iss = 0 then lH_balance_21 γ n iss j (k + 1) sm else if cH_isInVault γ k n = 0 then lH_balance_21 γ n iss j (k + 1) sm else lH_balance_21 γ n iss j (k + 1) (sm + γ 37 k) else lH_balance_21 γ n iss j (k + 1) sm := rfl
    rw [st, show j + 1 + d = (j + d) + 1 by omega, lR_balance_23, ih (k + 1) sm (by omega) (by omega), ih (k + 1) (sm + γ 37 k) (by omega) (by omega)]
    by_cases c : 0 ≤ k ∧ k / 4 < γ 0 0 ∧ k % 4 < γ 32 (2 * (k / 4) + 1)
    · have e := (h.1.2.2.2.2 k c).1
      unfold cS_isCashIssuedBy
      rw [if_pos c, k_inVault h.1 h.2.1 hn c, e.1, e.2.1, e.2.2.2.1]
      by_cases c2 : rR_inVault ρ n k = 0
      · rw [if_pos c2, if_pos c2]
        (repeat' split) <;> rfl
      · rw [if_neg c2, if_neg c2]
        by_cases c3 : ρ 12 k ≠ 0
        · rw [if_pos c3, if_pos c3, if_pos rfl]
        · rw [if_neg c3, if_neg c3]
          by_cases c4 : ρ 13 k ≠ iss
          · rw [if_pos c4, if_pos c4, if_pos rfl]
          · rw [if_neg c4, if_neg c4, if_neg (by decide)]
    · rw [if_neg c, inVault_no h.1 k0 c, if_pos (show (0 : Int) = 0 from rfl)]
theorem Q_balance {iss : Int} (h : zK γ ρ) : cH_balance γ n iss = rR_balance ρ n iss := by
  have gm : 0 ≤ ρ 0 0 ∧ ρ 0 0 ≤ 20 := h.1.1 0 0 (by decide)
  unfold cH_balance rR_balance
  rw [isN_iff, isN_iff, isN_c, isN_c, kB_many h.1]
  by_cases c1 : 0 ≤ n ∧ n ≤ 3
  case neg => rw [if_neg c1, if_pos (show (0 : Int) = 0 from rfl), if_pos (show (0 : Int) = 0 from rfl)]
  rw [if_pos c1, if_neg (show ¬ ((1 : Int) = 0) by decide), if_neg (show ¬ ((1 : Int) = 0) by decide)]
  by_cases c2 : 0 ≤ iss ∧ iss ≤ 3
  case neg => rw [if_neg c2, if_neg (show ¬ ((0 : Int) ≠ 0) from fun q => q rfl), if_neg (show ¬ ((0 : Int) ≠ 0) from fun q => q rfl)]
  rw [if_pos c2, if_pos (show (1 : Int) ≠ 0 by decide), if_pos (show (1 : Int) ≠ 0 by decide), bal_l h c1 (80 - (ρ 0 0 * 4).toNat) (ρ 0 0 * 4).toNat 0 0 (by omega) (by omega), show (ρ 0 0 * 4).toNat + (80 - (ρ 0 0 * 4).toNat) = 80 by omega]
end
