-- rules that were wanting
section
variable {Y : z_MD} {d : Nat × Nat} {kc ks pc : Nat} {L S : List Value} {M : List va_E} {Q : Option Value → List va_E → Prop}
theorem ev_dup2 {q : Nat} {v w : Value} (hd : decode Y.2.1 pc = .ok (.dup2, 1)) (hv : z_real v = true) (hw : z_real w = true) (hq : pc + 1 = q) (k : z_Ev Y d kc ks q L (v :: w :: v :: w :: S) M Q) : z_Ev Y d kc ks pc L (v :: w :: S) M Q := by
  subst hq
  intro p l e R s m args below meth c b sc D cA H locs cells slots ls Qm h hr
  exact lv_dup2_11 h.1.1 h.1.2.1 hd (z_real_cat hv) (z_real_cat hw) (k p l e R s m args below meth c b sc D cA H locs cells slots ls Qm h hr)
theorem ev_null {q : Nat} (hd : decode Y.2.1 pc = .ok (.aconst_null, 1)) (hq : pc + 1 = q) (k : z_Ev Y d kc ks q L (.null :: S) M Q) : z_Ev Y d kc ks pc L S M Q := by
  subst hq
  intro p l e R s m args below meth c b sc D cA H locs cells slots ls Qm h hr
  exact lv_null h.1.1 h.1.2.1 hd (k p l e R s m args below meth c b sc D cA H locs cells slots ls Qm h hr)
theorem ev_ldc_w {q idx : Nat} {v : Int32} (hd : decode Y.2.1 pc = .ok (.ldc_w idx, 3)) (hw : Cond.constant Y.1.cls idx v ∈ z_ws) (hq : pc + 3 = q) (k : z_Ev Y d kc ks q L (.int v :: S) M Q) : z_Ev Y d kc ks pc L S M Q := by
  subst hq
  intro p l e R s m args below meth c b sc D cA H locs cells slots ls Qm h hr
  exact lv_ldcw h.1.1 h.1.2.1 h.1.2.2.2.1 (h.1.2.2.2.2.1 _ hw) hd (k p l e R s m args below meth c b sc D cA H locs cells slots ls Qm h hr)
theorem ev_alen {q k n : Nat} {g : Int → Int} (hd : decode Y.2.1 pc = .ok (.arraylength, 1)) (hM : M[k]? = some (zA 0 n g)) (hq : pc + 1 = q) (kk : z_Ev Y d kc ks q L (zi (n : Int) :: S) M Q) : z_Ev Y d kc ks pc L (.ref k :: S) M Q := by
  subst hq
  intro p l e R s m args below meth c b sc D cA H locs cells slots ls Qm h hr
  obtain ⟨⟨hx, hb, hml, hown, hts, hK, -⟩, -, hP, -⟩ := id h
  exact va_alen hx hb hK hP k 0 (z_tw_at hM) (ty := .int) rfl (v := iI (n : Int)) (iI_nI n) hd (kk p l e R s m args below meth c b sc D cA H locs cells slots ls Qm h hr)
end
theorem iI_shr {a : Int} (k : Nat) (ha : 0 ≤ a ∧ a < 2147483648) (hk : k < 31) : iI a >>> (iI (k : Int) &&& 31) = iI (a / 2 ^ k) := by
  obtain ⟨n, rfl⟩ : ∃ n : Nat, a = (n : Int) := ⟨a.toNat, by omega⟩
  have h : ((iI (k : Int) &&& 31).toBitVec.smod 32).toNat = k := by
    have key : ∀ k : Fin 31, ((iI ((k : Nat) : Int) &&& 31).toBitVec.smod 32).toNat = k := by decide +kernel
    exact key ⟨k, hk⟩
  have := pk_shrN (n := n) (by omega) (iI (k : Int) &&& 31) k h
  rw [iI_nI, iI_nI] at this
  rw [this]
  congr 1
theorem iI_shl {a : Int} (k : Nat) (ha : 0 ≤ a) (hk : k < 31) (hb : a * 2 ^ k < 2147483648) : iI a <<< (iI (k : Int) &&& 31) = iI (a * 2 ^ k) := by
  obtain ⟨n, rfl⟩ : ∃ n : Nat, a = (n : Int) := ⟨a.toNat, by omega⟩
  have h : ((iI (k : Int) &&& 31).toBitVec.smod 32).toNat = k := by
    have key : ∀ k : Fin 31, ((iI ((k : Nat) : Int) &&& 31).toBitVec.smod 32).toNat = k := by decide +kernel
    exact key ⟨k, hk⟩
  have hb2 : n * 2 ^ k < 2 ^ 32 := by
    have h2 : ((n * 2 ^ k : Nat) : Int) = (n : Int) * 2 ^ k := by simp
    omega
  have := pk_shlN (n := n) (iI (k : Int) &&& 31) k h hb2
  rw [iI_nI, iI_nI] at this
  rw [this]
  congr 1
theorem iI_mask {a : Int} (k : Nat) {m : Int} (ha : 0 ≤ a ∧ a < 2147483648) (hm : (iI m).toBitVec.toNat = 2 ^ k - 1) : iI a &&& iI m = iI (a % 2 ^ k) := by
  obtain ⟨n, rfl⟩ : ∃ n : Nat, a = (n : Int) := ⟨a.toNat, by omega⟩
  have := pk_andN (n := n) (by omega) (m := iI m) k hm
  rw [iI_nI, iI_nI] at this
  rw [this]
  congr 1
-- bits, by way of the machine's own numbers
def zand (a b : Int) : Int := (iI a &&& iI b).toInt
def zor (a b : Int) : Int := (iI a ||| iI b).toInt
def zxor (a b : Int) : Int := (iI a ^^^ iI b).toInt
def zshl (a b : Int) : Int := (iI a <<< (iI b &&& 31)).toInt
def zshr (a b : Int) : Int := (iI a >>> (iI b &&& 31)).toInt
def zushr (a b : Int) : Int := ((iI a).toUInt32 >>> ((iI b).toUInt32 &&& Int32.toUInt32 31)).toInt32.toInt
section
variable {Y : z_MD} {d : Nat × Nat} {kc ks pc : Nat} {L S : List Value} {M : List va_E} {Q : Option Value → List va_E → Prop}
theorem zr_iand {q : Nat} {x y : Int} (hd : decode Y.2.1 pc = .ok (.iand, 1)) (hq : pc + 1 = q) (k : z_Ev Y d kc ks q L (zi (zand x y) :: S) M Q) : z_Ev Y d kc ks pc L (zi y :: zi x :: S) M Q := ev_iand hd hq (by rw [iI_of (iI x &&& iI y)]; exact k)
theorem zr_ior {q : Nat} {x y : Int} (hd : decode Y.2.1 pc = .ok (.ior, 1)) (hq : pc + 1 = q) (k : z_Ev Y d kc ks q L (zi (zor x y) :: S) M Q) : z_Ev Y d kc ks pc L (zi y :: zi x :: S) M Q := ev_ior hd hq (by rw [iI_of (iI x ||| iI y)]; exact k)
theorem zr_ixor {q : Nat} {x y : Int} (hd : decode Y.2.1 pc = .ok (.ixor, 1)) (hq : pc + 1 = q) (k : z_Ev Y d kc ks q L (zi (zxor x y) :: S) M Q) : z_Ev Y d kc ks pc L (zi y :: zi x :: S) M Q := ev_ixor hd hq (by rw [iI_of (iI x ^^^ iI y)]; exact k)
theorem zr_ishl {q : Nat} {x y : Int} (hd : decode Y.2.1 pc = .ok (.ishl, 1)) (hq : pc + 1 = q) (k : z_Ev Y d kc ks q L (zi (zshl x y) :: S) M Q) : z_Ev Y d kc ks pc L (zi y :: zi x :: S) M Q := ev_ishl hd hq (by rw [iI_of (iI x <<< (iI y &&& 31))]; exact k)
theorem zr_ishr {q : Nat} {x y : Int} (hd : decode Y.2.1 pc = .ok (.ishr, 1)) (hq : pc + 1 = q) (k : z_Ev Y d kc ks q L (zi (zshr x y) :: S) M Q) : z_Ev Y d kc ks pc L (zi y :: zi x :: S) M Q := ev_ishr hd hq (by rw [iI_of (iI x >>> (iI y &&& 31))]; exact k)
theorem zr_iushr {q : Nat} {x y : Int} (hd : decode Y.2.1 pc = .ok (.iushr, 1)) (hq : pc + 1 = q) (k : z_Ev Y d kc ks q L (zi (zushr x y) :: S) M Q) : z_Ev Y d kc ks pc L (zi y :: zi x :: S) M Q := ev_iushr hd (iI_of _) hq k
end
theorem zshl_1 {n : Int} (h : 0 ≤ n ∧ n ≤ 4) : 1 ≤ zshl 1 n ∧ zshl 1 n ≤ 16 ∧ (n ≤ 3 → zshl 1 n ≤ 8) := by
  have hc : n = 0 ∨ n = 1 ∨ n = 2 ∨ n = 3 ∨ n = 4 := by omega
  rcases hc with rfl | rfl | rfl | rfl | rfl <;> decide
theorem zor_15 {a b : Int} (ha : 0 ≤ a ∧ a ≤ 15) (hb : 0 ≤ b ∧ b ≤ 15) : 0 ≤ zor a b ∧ zor a b ≤ 15 := by
  have key : ∀ a b : Fin 16, 0 ≤ zor (a : Nat) (b : Nat) ∧ zor (a : Nat) (b : Nat) ≤ 15 := by decide +kernel
  have h := key ⟨a.toNat, by omega⟩ ⟨b.toNat, by omega⟩
  have e1 : ((a.toNat : Nat) : Int) = a := by omega
  have e2 : ((b.toNat : Nat) : Int) = b := by omega
  simp only [e1, e2] at h
  exact h
