-- how many bits a set has
theorem and_lane {k a c : Nat} (y m : Nat) (ha : a < 2 ^ k) (hc : c < 2 ^ k) : (a + 2 ^ k * y) &&& (c + 2 ^ k * m) = (a &&& c) + 2 ^ k * (y &&& m) := by
  have h1 : ((a + 2 ^ k * y) &&& (c + 2 ^ k * m)) / 2 ^ k = y &&& m := by
    rw [Nat.and_div_two_pow, Nat.add_mul_div_left _ _ (Nat.two_pow_pos k), Nat.add_mul_div_left _ _ (Nat.two_pow_pos k), Nat.div_eq_of_lt ha, Nat.div_eq_of_lt hc, Nat.zero_add, Nat.zero_add]
  have h2 : ((a + 2 ^ k * y) &&& (c + 2 ^ k * m)) % 2 ^ k = a &&& c := by
    rw [Nat.and_mod_two_pow, Nat.add_mul_mod_self_left, Nat.add_mul_mod_self_left, Nat.mod_eq_of_lt ha, Nat.mod_eq_of_lt hc]
  have h3 := Nat.div_add_mod ((a + 2 ^ k * y) &&& (c + 2 ^ k * m)) (2 ^ k)
  rw [h1, h2] at h3
  exact h3.symm.trans (Nat.add_comm _ _)
theorem lane8 {a c : Nat} (y m : Nat) (ha : a < 256) (hc : c < 256) : (a + 256 * y) &&& (c + 256 * m) = (a &&& c) + 256 * (y &&& m) := and_lane (k := 8) y m ha hc
def pc_a (x : Nat) : Nat := x - ((x / 2) &&& 85)
def pc_b (x : Nat) : Nat := (pc_a x &&& 51) + ((pc_a x / 4) &&& 51)
def pc_n (x : Nat) : Int := zS (fun k => zb (zB (x : Int) k)) 8 0
theorem pc_1 : ∀ x : Fin 256, ∀ e : Fin 2, ((x : Nat) / 2 + 128 * (e : Nat)) &&& 85 = ((x : Nat) / 2) &&& 85 := by decide +kernel
theorem pc_2 : ∀ x : Fin 256, ((x : Nat) / 2) &&& 85 ≤ (x : Nat) ∧ pc_a x < 256 ∧ pc_b x ≤ 68 ∧ pc_b x % 16 ≤ 4 ∧ 0 ≤ pc_n x ∧ pc_n x ≤ 8 := by decide +kernel
theorem pc_3 : ∀ x : Fin 256, ∀ e : Fin 4, (pc_a x / 4 + 64 * (e : Nat)) &&& 51 = (pc_a x / 4) &&& 51 := by decide +kernel
theorem pc_4 : ∀ x : Fin 256, ∀ e : Fin 16, (((pc_b x + pc_b x / 16 + 16 * (e : Nat)) &&& 15 : Nat) : Int) = pc_n x := by decide +kernel
theorem pc_5 : ∀ x : Fin 16, ((x : Nat) / 2) &&& 21845 = ((x : Nat) / 2) &&& 85 ∧ pc_a x &&& 13107 = pc_a x &&& 51 ∧ (pc_a x / 4) &&& 13107 = (pc_a x / 4) &&& 51 ∧ (((pc_b x + pc_b x / 16) &&& 3855 : Nat) : Int) = pc_n x ∧ pc_n x ≤ 4 := by decide +kernel
def pc_A (n : Nat) : Nat := n - ((n / 2) &&& 1431655765)
def pc_B (n : Nat) : Nat := (n &&& 858993459) + ((n / 4) &&& 858993459)
def pc_C (n : Nat) : Nat := (n + n / 16) &&& 252645135
theorem pc_cA {x y z : Nat} (hx : x < 256) (hy : y < 256) (hz : z < 16) : pc_A (x + 256 * (y + 256 * z)) = pc_a x + 256 * (pc_a y + 256 * pc_a z) := by
  have e1 : (x + 256 * (y + 256 * z)) / 2 = (x / 2 + 128 * (y % 2)) + 256 * ((y / 2 + 128 * (z % 2)) + 256 * (z / 2)) := by omega
  have e2 : ((x + 256 * (y + 256 * z)) / 2) &&& 1431655765 = ((x / 2) &&& 85) + 256 * (((y / 2) &&& 85) + 256 * ((z / 2) &&& 85)) := by
    rw [e1, show (1431655765 : Nat) = 85 + 256 * (85 + 256 * 21845) from rfl, lane8 _ _ (by omega) (by omega), lane8 _ _ (by omega) (by omega), (pc_5 ⟨z, hz⟩).1]
    have a := pc_1 ⟨x, hx⟩ ⟨y % 2, by omega⟩
    have b := pc_1 ⟨y, hy⟩ ⟨z % 2, by omega⟩
    simp only at a b
    rw [a, b]
  have a := (pc_2 ⟨x, hx⟩).1
  have b := (pc_2 ⟨y, hy⟩).1
  have c := (pc_2 ⟨z, by omega⟩).1
  simp only at a b c
  unfold pc_A pc_a
  rw [e2]
  omega
theorem pc_cB {x y z : Nat} (hx : x < 256) (hy : y < 256) (hz : z < 16) : pc_B (pc_a x + 256 * (pc_a y + 256 * pc_a z)) = pc_b x + 256 * (pc_b y + 256 * pc_b z) := by
  have gx := (pc_2 ⟨x, hx⟩).2.1
  have gy := (pc_2 ⟨y, hy⟩).2.1
  have gz := (pc_2 ⟨z, by omega⟩).2.1
  have a := pc_3 ⟨x, hx⟩ ⟨pc_a y % 4, by omega⟩
  have b := pc_3 ⟨y, hy⟩ ⟨pc_a z % 4, by omega⟩
  have c := pc_5 ⟨z, hz⟩
  simp only at gx gy gz a b c
  have e1 : (pc_a x + 256 * (pc_a y + 256 * pc_a z)) / 4 = (pc_a x / 4 + 64 * (pc_a y % 4)) + 256 * ((pc_a y / 4 + 64 * (pc_a z % 4)) + 256 * (pc_a z / 4)) := by omega
  have e2 : ((pc_a x + 256 * (pc_a y + 256 * pc_a z)) / 4) &&& 858993459 = ((pc_a x / 4) &&& 51) + 256 * (((pc_a y / 4) &&& 51) + 256 * ((pc_a z / 4) &&& 51)) := by
    rw [e1, show (858993459 : Nat) = 51 + 256 * (51 + 256 * 13107) from rfl, lane8 _ _ (by omega) (by omega), lane8 _ _ (by omega) (by omega), c.2.2.1, a, b]
  have e3 : (pc_a x + 256 * (pc_a y + 256 * pc_a z)) &&& 858993459 = (pc_a x &&& 51) + 256 * ((pc_a y &&& 51) + 256 * (pc_a z &&& 51)) := by
    rw [show (858993459 : Nat) = 51 + 256 * (51 + 256 * 13107) from rfl, lane8 _ _ gx (by omega), lane8 _ _ gy (by omega), c.2.1]
  unfold pc_B pc_b
  rw [e2, e3]
  omega
theorem pc_cC {x y z : Nat} (hx : x < 256) (hy : y < 256) (hz : z < 16) : ((pc_C (pc_b x + 256 * (pc_b y + 256 * pc_b z)) : Nat) : Int) = pc_n x + 256 * (pc_n y + 256 * pc_n z) := by
  have gx := (pc_2 ⟨x, hx⟩).2.2.1
  have gy := (pc_2 ⟨y, hy⟩).2.2.1
  have gz := (pc_2 ⟨z, by omega⟩).2.2.1
  have a := pc_4 ⟨x, hx⟩ ⟨pc_b y % 16, by omega⟩
  have b := pc_4 ⟨y, hy⟩ ⟨pc_b z % 16, by omega⟩
  have c := (pc_5 ⟨z, hz⟩).2.2.2.1
  have my := (pc_2 ⟨y, hy⟩).2.2.2.1
  have mz := (pc_2 ⟨z, by omega⟩).2.2.2.1
  simp only at gx gy gz a b c my mz
  have e1 : (pc_b x + 256 * (pc_b y + 256 * pc_b z)) + (pc_b x + 256 * (pc_b y + 256 * pc_b z)) / 16 = (pc_b x + pc_b x / 16 + 16 * (pc_b y % 16)) + 256 * ((pc_b y + pc_b y / 16 + 16 * (pc_b z % 16)) + 256 * (pc_b z + pc_b z / 16)) := by omega
  unfold pc_C
  rw [e1, show (252645135 : Nat) = 15 + 256 * (15 + 256 * 3855) from rfl, lane8 _ _ (by omega) (by omega), lane8 _ _ (by omega) (by omega)]
  omega
theorem zushr_k {a : Int} (k : Nat) (ha : 0 ≤ a ∧ a < 2147483648) (hk : ((iI (k : Int)).toUInt32 &&& Int32.toUInt32 31).toNat % 32 = k) : zushr a k = a / 2 ^ k := by
  have e : ((iI a).toUInt32 >>> ((iI (k : Int)).toUInt32 &&& Int32.toUInt32 31)).toNat = a.toNat >>> k := by
    rw [UInt32.toNat_shiftRight, hk]
    have : (iI a).toUInt32.toNat = a.toNat := iI_bv ha
    rw [this]
  have hl : a.toNat >>> k ≤ a.toNat := by
    rw [Nat.shiftRight_eq_div_pow]
    exact Nat.div_le_self _ _
  have e2 : zushr a k = ((a.toNat >>> k : Nat) : Int) := by
    unfold zushr
    rw [← e]
    show ((iI a).toUInt32 >>> ((iI (k : Int)).toUInt32 &&& Int32.toUInt32 31)).toBitVec.toInt = (((iI a).toUInt32 >>> ((iI (k : Int)).toUInt32 &&& Int32.toUInt32 31)).toBitVec.toNat : Int)
    apply BitVec.toInt_eq_toNat_of_lt
    have : ((iI a).toUInt32 >>> ((iI (k : Int)).toUInt32 &&& Int32.toUInt32 31)).toBitVec.toNat = a.toNat >>> k := e
    omega
  rw [e2, Nat.shiftRight_eq_div_pow]
  obtain ⟨n, rfl⟩ : ∃ n : Nat, a = (n : Int) := ⟨a.toNat, by omega⟩
  simp
theorem zand_n {a b : Nat} (ha : a < 2147483648) (hb : b < 2147483648) : zand (a : Int) (b : Int) = ((a &&& b : Nat) : Int) := zand_nat (a := (a : Int)) (b := (b : Int)) (by omega) (by omega)
theorem zushr_n {a : Nat} (k : Nat) (ha : a < 2147483648) (hk : ((iI (k : Int)).toUInt32 &&& Int32.toUInt32 31).toNat % 32 = k) : zushr (a : Int) (k : Int) = ((a / 2 ^ k : Nat) : Int) := by
  rw [zushr_k k (by omega) hk]
  simp
theorem bits_cut {x : Nat} (y : Nat) (hx : x < 256) {k : Int} (hk : 0 ≤ k) : zB ((x + 256 * y : Nat) : Int) k = if k < 8 then zB (x : Int) k else zB (y : Int) (k - 8) := by
  rw [zB_nat, zB_nat, zB_nat, show x + 256 * y = 2 ^ 8 * y + x by omega, Nat.testBit_two_pow_mul_add y (by omega : x < 2 ^ 8)]
  by_cases c : k < 8
  · rw [if_pos c, if_pos (by omega)]
  · rw [if_neg c, if_neg (by omega), show (k - 8).toNat = k.toNat - 8 by omega]
theorem zS_sh8 {f : Int → Int} : ∀ (j : Nat) (k : Int), zS (fun i => f (i - 8)) j (k + 8) = zS f j k := by
  intro j
  induction j with
  | zero => intro k; rfl
  | succ j ih =>
    intro k
    rw [zS_s, zS_s, show k + 8 + 1 = (k + 1) + 8 by omega, ih]
    show f (k + 8 - 8) + _ = _
    rw [show k + 8 - 8 = k by omega]
theorem pc_sum {x y z : Nat} (hx : x < 256) (hy : y < 256) (hz : z < 16) : zS (fun k => zb (zB ((x + 256 * (y + 256 * z) : Nat) : Int) k)) 20 0 = pc_n x + pc_n y + pc_n z := by
  have e0 : zS (fun k => zb (zB ((x + 256 * (y + 256 * z) : Nat) : Int) k)) 20 0 = zS (fun k => zb (zB ((x + 256 * (y + 256 * z) : Nat) : Int) k)) 8 0 + zS (fun k => zb (zB ((x + 256 * (y + 256 * z) : Nat) : Int) k)) 12 (0 + 8) := zS_cut 8 12 0
  have e1 : zS (fun k => zb (zB ((x + 256 * (y + 256 * z) : Nat) : Int) k)) 8 0 = pc_n x := by
    apply zS_congr
    intro i i0 i1
    show zb (zB ((x + 256 * (y + 256 * z) : Nat) : Int) i) = zb (zB (x : Int) i)
    rw [bits_cut _ hx i0, if_pos (by omega)]
  have e2 : zS (fun k => zb (zB ((x + 256 * (y + 256 * z) : Nat) : Int) k)) 12 (0 + 8) = zS (fun k => zb (zB ((y + 256 * z : Nat) : Int) k)) 12 0 := by
    rw [← zS_sh8 (f := fun k => zb (zB ((y + 256 * z : Nat) : Int) k)) 12 0]
    apply zS_congr
    intro i i0 i1
    show zb (zB ((x + 256 * (y + 256 * z) : Nat) : Int) i) = zb (zB ((y + 256 * z : Nat) : Int) (i - 8))
    rw [bits_cut _ hx (by omega), if_neg (by omega)]
  have e3 : zS (fun k => zb (zB ((y + 256 * z : Nat) : Int) k)) 12 0 = zS (fun k => zb (zB ((y + 256 * z : Nat) : Int) k)) 8 0 + zS (fun k => zb (zB ((y + 256 * z : Nat) : Int) k)) 4 (0 + 8) := zS_cut 8 4 0
  have e4 : zS (fun k => zb (zB ((y + 256 * z : Nat) : Int) k)) 8 0 = pc_n y := by
    apply zS_congr
    intro i i0 i1
    show zb (zB ((y + 256 * z : Nat) : Int) i) = zb (zB (y : Int) i)
    rw [bits_cut _ hy i0, if_pos (by omega)]
  have e5 : zS (fun k => zb (zB ((y + 256 * z : Nat) : Int) k)) 4 (0 + 8) = zS (fun k => zb (zB (z : Int) k)) 4 0 := by
    rw [← zS_sh8 (f := fun k => zb (zB (z : Int) k)) 4 0]
    apply zS_congr
    intro i i0 i1
    show zb (zB ((y + 256 * z : Nat) : Int) i) = zb (zB (z : Int) (i - 8))
    rw [bits_cut _ hy (by omega), if_neg (by omega)]
  have e6 : zS (fun k => zb (zB (z : Int) k)) 4 0 = pc_n z := by
    have key : ∀ z : Fin 16, zS (fun k => zb (zB ((z : Nat) : Int) k)) 4 0 = pc_n z := by decide +kernel
    exact key ⟨z, hz⟩
  omega
theorem k_bitCount (γ : z_Sg) {x : Int} (hx : 0 ≤ x ∧ x ≤ 1048575) : cJI_bitCount γ x = zS (fun k => zb (zB x k)) 20 0 := by
  obtain ⟨n, rfl⟩ : ∃ n : Nat, x = (n : Int) := ⟨x.toNat, by omega⟩
  have hn : n = n % 256 + 256 * ((n / 256) % 256 + 256 * (n / 65536)) := by omega
  have ha : n % 256 < 256 := by omega
  have hb : (n / 256) % 256 < 256 := by omega
  have hc : n / 65536 < 16 := by omega
  revert ha hb hc
  generalize n % 256 = a at hn
  generalize (n / 256) % 256 = b at hn
  generalize n / 65536 = c at hn
  intro ha hb hc
  subst hn
  rw [pc_sum ha hb hc]
  have ga := pc_2 ⟨a, ha⟩
  have gb := pc_2 ⟨b, hb⟩
  have gc := pc_2 ⟨c, by omega⟩
  have g5 := (pc_5 ⟨c, hc⟩).2.2.2.2
  have cA := pc_cA ha hb hc
  have cB := pc_cB ha hb hc
  have cC := pc_cC ha hb hc
  simp only at ga gb gc g5
  have u1 : zushr ((a + 256 * (b + 256 * c) : Nat) : Int) 1 = (((a + 256 * (b + 256 * c)) / 2 : Nat) : Int) := zushr_n 1 (by omega) (by decide)
  have l1 : ((a + 256 * (b + 256 * c)) / 2) &&& 1431655765 ≤ (a + 256 * (b + 256 * c)) / 2 := Nat.and_le_left
  have v1 : ((a + 256 * (b + 256 * c) : Nat) : Int) - zand (zushr ((a + 256 * (b + 256 * c) : Nat) : Int) 1) 1431655765 = ((pc_a a + 256 * (pc_a b + 256 * pc_a c) : Nat) : Int) := by
    rw [u1, show (1431655765 : Int) = ((1431655765 : Nat) : Int) from rfl, zand_n (by omega) (by omega), ← cA]
    unfold pc_A
    omega
  have u2 : zushr ((pc_a a + 256 * (pc_a b + 256 * pc_a c) : Nat) : Int) 2 = (((pc_a a + 256 * (pc_a b + 256 * pc_a c)) / 4 : Nat) : Int) := zushr_n 2 (by omega) (by decide)
  have v2 : zand ((pc_a a + 256 * (pc_a b + 256 * pc_a c) : Nat) : Int) 858993459 + zand (zushr ((pc_a a + 256 * (pc_a b + 256 * pc_a c) : Nat) : Int) 2) 858993459 = ((pc_b a + 256 * (pc_b b + 256 * pc_b c) : Nat) : Int) := by
    rw [u2, show (858993459 : Int) = ((858993459 : Nat) : Int) from rfl, zand_n (by omega) (by omega), zand_n (by omega) (by omega), ← cB]
    unfold pc_B
    omega
  have u3 : zushr ((pc_b a + 256 * (pc_b b + 256 * pc_b c) : Nat) : Int) 4 = (((pc_b a + 256 * (pc_b b + 256 * pc_b c)) / 16 : Nat) : Int) := zushr_n 4 (by omega) (by decide)
  have v3 : zand (((pc_b a + 256 * (pc_b b + 256 * pc_b c) : Nat) : Int) + zushr ((pc_b a + 256 * (pc_b b + 256 * pc_b c) : Nat) : Int) 4) 252645135 = pc_n a + 256 * (pc_n b + 256 * pc_n c) := by
    rw [u3, show (252645135 : Int) = ((252645135 : Nat) : Int) from rfl, show (((pc_b a + 256 * (pc_b b + 256 * pc_b c) : Nat) : Int) + (((pc_b a + 256 * (pc_b b + 256 * pc_b c)) / 16 : Nat) : Int)) = (((pc_b a + 256 * (pc_b b + 256 * pc_b c)) + (pc_b a + 256 * (pc_b b + 256 * pc_b c)) / 16 : Nat) : Int) by omega, zand_n (by omega) (by omega), ← cC]
    rfl
  unfold cJI_bitCount
  have v4 : ∀ y : Int, 0 ≤ y ∧ y < 2147483648 → zushr y 8 = y / 2 ^ 8 := fun y hy => zushr_k 8 hy (by decide)
  have v5 : ∀ y : Int, 0 ≤ y ∧ y < 2147483648 → zushr y 16 = y / 2 ^ 16 := fun y hy => zushr_k 16 hy (by decide)
  have b0 : 0 ≤ pc_n a ∧ pc_n a ≤ 8 := ga.2.2.2.2
  have b1 : 0 ≤ pc_n b ∧ pc_n b ≤ 8 := gb.2.2.2.2
  have b2 : 0 ≤ pc_n c ∧ pc_n c ≤ 8 := gc.2.2.2.2
  have s1 : (pc_n a + 256 * (pc_n b + 256 * pc_n c)) / 2 ^ 8 = pc_n b + 256 * pc_n c := by omega
  have s2 : (pc_n a + 256 * (pc_n b + 256 * pc_n c) + (pc_n b + 256 * pc_n c)) / 2 ^ 16 = pc_n c := by omega
  rw [v1, v2, v3, v4 _ (by omega), s1, v5 _ (by omega), s2]
  clear s1 s2 v1 v2 v3 v4 v5 u1 u2 u3 l1 cA cB cC ga gb gc g5
  generalize pc_n a = x0 at b0 ⊢
  generalize pc_n b = x1 at b1 ⊢
  generalize pc_n c = x2 at b2 ⊢
  obtain ⟨w, hw⟩ : ∃ w : Nat, x0 + 256 * (x1 + 256 * x2) + (x1 + 256 * x2) + x2 = (w : Int) := ⟨(x0 + 256 * (x1 + 256 * x2) + (x1 + 256 * x2) + x2).toNat, by omega⟩
  rw [hw, show (63 : Int) = ((63 : Nat) : Int) from rfl, zand_n (by omega) (by omega), show (63 : Nat) = 2 ^ 6 - 1 from rfl, Nat.and_two_pow_sub_one_eq_mod]
  omega
