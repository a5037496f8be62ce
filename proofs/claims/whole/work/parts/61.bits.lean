-- bits of sets
def zB (a k : Int) : Bool := a.toNat.testBit k.toNat
theorem zB_nat (n : Nat) (k : Int) : zB (n : Int) k = n.testBit k.toNat := rfl
theorem zB_or {a b k : Int} (ha : 0 ≤ a ∧ a < 2147483648) (hb : 0 ≤ b ∧ b < 2147483648) : zB (zor a b) k = (zB a k || zB b k) := by
  rw [zor_nat ha hb, zB_nat, Nat.testBit_or]
  rfl
theorem zB_and {a b k : Int} (ha : 0 ≤ a ∧ a < 2147483648) (hb : 0 ≤ b ∧ b < 2147483648) : zB (zand a b) k = (zB a k && zB b k) := by
  rw [zand_nat ha hb, zB_nat, Nat.testBit_and]
  rfl
theorem zB_shl {p k : Int} (hp : 0 ≤ p ∧ p < 31) (hk : 0 ≤ k) : zB (zshl 1 p) k = decide (k = p) := by
  rw [zshl_nat hp, zB_nat, Nat.testBit_two_pow]
  rw [Bool.eq_iff_iff, decide_eq_true_iff, decide_eq_true_iff]
  omega
theorem zB_0 (k : Int) : zB 0 k = false := Nat.zero_testBit _
theorem zB_lt {a k : Int} (n : Nat) (ha : a < ((2 ^ n : Nat) : Int)) (hk : n ≤ k.toNat) : zB a k = false := by
  unfold zB
  apply Nat.testBit_lt_two_pow
  have hp := Nat.two_pow_pos n
  have h1 : a.toNat < 2 ^ n := by omega
  exact Nat.lt_of_lt_of_le h1 (Nat.pow_le_pow_right (by decide) hk)
theorem zB_ext {a b : Int} (n : Nat) (ha : 0 ≤ a ∧ a < ((2 ^ n : Nat) : Int)) (hb : 0 ≤ b ∧ b < ((2 ^ n : Nat) : Int)) (h : ∀ k : Int, 0 ≤ k → k < n → zB a k = zB b k) : a = b := by
  have e : a.toNat = b.toNat := by
    apply Nat.eq_of_testBit_eq
    intro i
    by_cases hi : i < n
    · exact h (i : Int) (by omega) (by omega)
    · have h1 := zB_lt (k := (i : Int)) n ha.2 (by omega)
      have h2 := zB_lt (k := (i : Int)) n hb.2 (by omega)
      exact h1.trans h2.symm
  omega
theorem zB_has (γ : z_Sg) {a p : Int} (ha : 0 ≤ a ∧ a < 2147483648) (hp : 0 ≤ p ∧ p < 31) : cH_has γ a p = zb (zB a p) := by
  have h2 : (0 : Int) ≤ zshl 1 p ∧ zshl 1 p < 2147483648 := by
    rw [zshl_nat hp]
    have : 2 ^ p.toNat < 2 ^ 31 := Nat.pow_lt_pow_right (by decide) (by omega)
    have hp := Nat.two_pow_pos p.toNat
    omega
  have key : ∀ k : Int, 0 ≤ k → zB (zand a (zshl 1 p)) k = (zB a k && decide (k = p)) := by
    intro k hk
    rw [zB_and ha h2, zB_shl hp hk]
  show (if zand a (zshl 1 p) = 0 then (0 : Int) else 1) = _
  cases hb : zB a p with
  | true =>
    rw [if_neg]
    · rfl
    · intro e
      have := key p hp.1
      rw [e, zB_0, hb] at this
      simp at this
  | false =>
    rw [if_pos]
    · rfl
    · have h0 := zand_nn (a := a) (b := zshl 1 p) ha
      refine zB_ext 31 ⟨h0.1, by omega⟩ ⟨by decide, by decide⟩ ?_
      intro k hk _
      rw [key k hk, zB_0]
      by_cases e : k = p
      · rw [e, hb]; rfl
      · simp [e]
theorem iI_inj (x : Int32) : iI x.toInt = x := (iI_of x).symm
theorem zB_andn {a b k : Int} (ha : 0 ≤ a ∧ a < 2147483648) (hb : 0 ≤ b ∧ b < 2147483648) (hk : 0 ≤ k ∧ k < 31) : zB (zand a (zxor b (-1))) k = (zB a k && !zB b k) := by
  have h0 := zand_nn (a := a) (b := zxor b (-1)) ha
  have hn : (zand a (zxor b (-1))).toNat = (iI a &&& (iI b ^^^ iI (-1))).toBitVec.toNat := by
    have e : zand a (zxor b (-1)) = (iI a &&& (iI b ^^^ iI (-1))).toInt := by
      unfold zand zxor
      rw [iI_inj]
    rw [e] at h0 ⊢
    have h1 : (iI a &&& (iI b ^^^ iI (-1))).toBitVec.toNat ≤ a.toNat := by
      rw [Int32.toBitVec_and, BitVec.toNat_and, iI_bv ha]
      exact Nat.and_le_left
    have h2 : (iI a &&& (iI b ^^^ iI (-1))).toInt = ((iI a &&& (iI b ^^^ iI (-1))).toBitVec.toNat : Int) := by
      show (iI a &&& (iI b ^^^ iI (-1))).toBitVec.toInt = _
      exact BitVec.toInt_eq_toNat_of_lt (by omega)
    omega
  unfold zB
  rw [hn, BitVec.testBit_toNat, Int32.toBitVec_and, Int32.toBitVec_xor, BitVec.getLsbD_and, BitVec.getLsbD_xor, ← BitVec.testBit_toNat, ← BitVec.testBit_toNat, iI_bv ha, iI_bv hb]
  have e1 : (iI (-1)).toBitVec.getLsbD k.toNat = true := by
    have key : ∀ k : Fin 32, (iI (-1)).toBitVec.getLsbD k = true := by decide
    exact key ⟨k.toNat, by omega⟩
  rw [e1, Bool.xor_true]
theorem zB_rg {a : Int} (h : 0 ≤ a ∧ a ≤ 1048575) : 0 ≤ a ∧ a < 2147483648 := ⟨h.1, by omega⟩
theorem zshl_rg {p : Int} (h : 0 ≤ p ∧ p < 31) : 0 ≤ zshl 1 p ∧ zshl 1 p < 2147483648 := by
  rw [zshl_nat h]
  have : 2 ^ p.toNat < 2 ^ 31 := Nat.pow_lt_pow_right (by decide) (by omega)
  have hp := Nat.two_pow_pos p.toNat
  omega
