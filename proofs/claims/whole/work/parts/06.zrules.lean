def iI (z : Int) : Int32 := Int32.ofInt z
abbrev z_rg (z : Int) : Prop := -2147483648 ≤ z ∧ z < 2147483648
abbrev zA (t n : Nat) (g : Int → Int) : va_E := .inl (t, n, .inl (fun j => iI (g (j : Int))))
abbrev zP (t n : Nat) (f : Int → Option Nat) : va_E := .inl (t, n, .inr (.inr (.inr (.inr (fun j => f (j : Int))))))
abbrev zi (z : Int) : Value := .int (iI z)
def zup {α : Type} (g : Int → α) (z : Int) (v : α) : Int → α := fun j => if j = z then v else g j
theorem iI_add (a b : Int) : iI a + iI b = iI (a + b) := (Int32.ofInt_add a b).symm
theorem iI_sub (a b : Int) : iI a - iI b = iI (a - b) := (Int32.ofInt_sub a b).symm
theorem iI_mul (a b : Int) : iI a * iI b = iI (a * b) := (Int32.ofInt_mul a b).symm
theorem iI_neg (a : Int) : - iI a = iI (-a) := (Int32.ofInt_neg a).symm
theorem iI_toInt {z : Int} (h : z_rg z) : (iI z).toInt = z := Int32.toInt_ofInt_of_le (by have := h.1; omega) (by have := h.2; omega)
theorem iI_lt {a b : Int} (ha : z_rg a) (hb : z_rg b) : iI a < iI b ↔ a < b := by
  rw [Int32.lt_iff_toInt_lt, iI_toInt ha, iI_toInt hb]
theorem iI_le {a b : Int} (ha : z_rg a) (hb : z_rg b) : iI a ≤ iI b ↔ a ≤ b := by
  rw [Int32.le_iff_toInt_le, iI_toInt ha, iI_toInt hb]
theorem iI_eq {a b : Int} (ha : z_rg a) (hb : z_rg b) : iI a = iI b ↔ a = b := by
  rw [← Int32.toInt_inj, iI_toInt ha, iI_toInt hb]
theorem iI_0 : iI 0 = 0 := rfl
theorem z_rg_0 : z_rg 0 := ⟨by decide, by decide⟩
theorem iI_of (x : Int32) : x = iI x.toInt := (Int32.ofInt_toInt x).symm
theorem iI_rg (x : Int32) : z_rg x.toInt := ⟨by have := Int32.le_toInt x; omega, by have := Int32.toInt_lt x; omega⟩
theorem iI_clamp {z : Int} (h : z_rg z) : (iI z).toNatClampNeg = z.toNat := by
  rw [← Int32.toNat_toInt, iI_toInt h]
theorem iI_in {z : Int} {n : Nat} (h : 0 ≤ z ∧ z < n) (hn : n ≤ 1000) : vp_in (iI z) n := by
  rw [vp_in_iff, iI_toInt ⟨by omega, by omega⟩]
  exact h
theorem iI_nI (n : Nat) : nI n = iI (n : Int) := (Int32.ofInt_eq_ofNat).symm
theorem iI_div {a d : Int} (ha : 0 ≤ a ∧ a < 2147483648) (hd : 0 < d ∧ d < 2147483648) : iI a / iI d = iI (a / d) := by
  have hq : 0 ≤ a / d := Int.ediv_nonneg ha.1 (by omega)
  have hq2 : a / d ≤ a := Int.ediv_le_self d ha.1
  rw [← Int32.toInt_inj, Int32.toInt_div_of_ne_right, iI_toInt ⟨by omega, by omega⟩, iI_toInt ⟨by omega, by omega⟩, iI_toInt ⟨by omega, by omega⟩, Int.tdiv_eq_ediv_of_nonneg ha.1]
  intro h
  have := congrArg Int32.toInt h
  rw [iI_toInt ⟨by omega, by omega⟩] at this
  have h1 : (-1 : Int32).toInt = -1 := by decide
  omega
theorem iI_rem {a d : Int} (ha : 0 ≤ a ∧ a < 2147483648) (hd : 0 < d ∧ d < 2147483648) : iI a - iI a / iI d * iI d = iI (a % d) := by
  rw [iI_div ha hd, iI_mul, iI_sub, Int.emod_def, Int.mul_comm]
theorem zup_s {α : Type} {g : Int → α} {z : Int} {v : α} : zup g z v z = v := by simp [zup]
theorem zup_n {α : Type} {g : Int → α} {z j : Int} {v : α} (h : j ≠ z) : zup g z v j = g j := by simp [zup, h]
theorem iI_upd {g : Int → Int} {z v : Int} (hz : 0 ≤ z) : upd (fun j => iI (g (j : Int))) z.toNat (iI v) = fun j : Nat => iI (zup g z v (j : Int)) := by
  funext j
  unfold upd zup
  by_cases h : (j : Int) = z
  · have h2 : j = z.toNat := by omega
    rw [if_pos h2, if_pos h]
  · have h2 : ¬ j = z.toNat := by omega
    rw [if_neg h2, if_neg h]
theorem iI_updP {f : Int → Option Nat} {z : Int} {v : Option Nat} (hz : 0 ≤ z) : va_up (fun j : Nat => f (j : Int)) z.toNat v = fun j : Nat => zup f z v (j : Int) := by
  funext j
  unfold va_up zup
  by_cases h : (j : Int) = z
  · have h2 : j = z.toNat := by omega
    rw [if_pos h2, if_pos h]
  · have h2 : ¬ j = z.toNat := by omega
    rw [if_neg h2, if_neg h]
section
variable {Y : z_MD} {d : Nat × Nat} {kc ks pc : Nat} {L S : List Value} {M : List va_E} {Q : Option Value → List va_E → Prop}
theorem zr_iadd {q : Nat} {x y : Int} (hd : decode Y.2.1 pc = .ok (.iadd, 1)) (hq : pc + 1 = q) (k : z_Ev Y d kc ks q L (zi (x + y) :: S) M Q) : z_Ev Y d kc ks pc L (zi y :: zi x :: S) M Q := ev_iadd hd hq (by rw [iI_add]; exact k)
theorem zr_isub {q : Nat} {x y : Int} (hd : decode Y.2.1 pc = .ok (.isub, 1)) (hq : pc + 1 = q) (k : z_Ev Y d kc ks q L (zi (x - y) :: S) M Q) : z_Ev Y d kc ks pc L (zi y :: zi x :: S) M Q := ev_isub hd hq (by rw [iI_sub]; exact k)
theorem zr_imul {q : Nat} {x y : Int} (hd : decode Y.2.1 pc = .ok (.imul, 1)) (hq : pc + 1 = q) (k : z_Ev Y d kc ks q L (zi (x * y) :: S) M Q) : z_Ev Y d kc ks pc L (zi y :: zi x :: S) M Q := ev_imul hd hq (by rw [iI_mul]; exact k)
theorem zr_ineg {q : Nat} {x : Int} (hd : decode Y.2.1 pc = .ok (.ineg, 1)) (hq : pc + 1 = q) (k : z_Ev Y d kc ks q L (zi (-x) :: S) M Q) : z_Ev Y d kc ks pc L (zi x :: S) M Q := ev_ineg hd hq (by rw [iI_neg]; exact k)
theorem zr_idiv {q : Nat} {x y : Int} (hd : decode Y.2.1 pc = .ok (.idiv, 1)) (hx : 0 ≤ x ∧ x < 2147483648) (hy : 0 < y ∧ y < 2147483648) (hq : pc + 1 = q) (k : z_Ev Y d kc ks q L (zi (x / y) :: S) M Q) : z_Ev Y d kc ks pc L (zi y :: zi x :: S) M Q := by
  refine ev_idiv hd (fun h => ?_) hq (by rw [iI_div hx hy]; exact k)
  rw [← iI_0, iI_eq ⟨by omega, by omega⟩ ⟨by omega, by omega⟩] at h
  omega
theorem zr_irem {q : Nat} {x y : Int} (hd : decode Y.2.1 pc = .ok (.irem, 1)) (hx : 0 ≤ x ∧ x < 2147483648) (hy : 0 < y ∧ y < 2147483648) (hq : pc + 1 = q) (k : z_Ev Y d kc ks q L (zi (x % y) :: S) M Q) : z_Ev Y d kc ks pc L (zi y :: zi x :: S) M Q := by
  refine ev_irem hd (fun h => ?_) hq (by rw [iI_rem hx hy]; exact k)
  rw [← iI_0, iI_eq ⟨by omega, by omega⟩ ⟨by omega, by omega⟩] at h
  omega
theorem zr_iinc {q i : Nat} {n x : Int} {L' : List Value} (hd : decode Y.2.1 pc = .ok (.iinc i n, 3)) (hl : L[i]? = some (zi x)) (hi : i < Y.2.2.1) (hL : L.set i (zi (x + n)) = L') (hq : pc + 3 = q) (k : z_Ev Y d kc ks q L' S M Q) : z_Ev Y d kc ks pc L S M Q := ev_iinc hd hl hi (iI_add x n) hL hq k
theorem zr_if_eq {q t : Nat} {x off : Int} (hd : decode Y.2.1 pc = .ok (.ifCond .eq off, 3)) (ht : (pc : Int) + off = (t : Int)) (hq : pc + 3 = q) (hx : z_rg x) (kt : x = 0 → z_Ev Y d kc ks t L S M Q) (kf : x ≠ 0 → z_Ev Y d kc ks q L S M Q) : z_Ev Y d kc ks pc L (zi x :: S) M Q := ev_if_eq hd ht hq (fun h => kt ((iI_eq (a := x) (b := 0) hx z_rg_0).mp h)) (fun h => kf (fun z => h ((iI_eq (a := x) (b := 0) hx z_rg_0).mpr z)))
theorem zr_icmp_eq {q t : Nat} {x y off : Int} (hd : decode Y.2.1 pc = .ok (.if_icmp .eq off, 3)) (ht : (pc : Int) + off = (t : Int)) (hq : pc + 3 = q) (hx : z_rg x) (hy : z_rg y) (kt : x = y → z_Ev Y d kc ks t L S M Q) (kf : x ≠ y → z_Ev Y d kc ks q L S M Q) : z_Ev Y d kc ks pc L (zi y :: zi x :: S) M Q := ev_icmp_eq hd ht hq (fun h => kt ((iI_eq (a := x) (b := y) hx hy).mp h)) (fun h => kf (fun z => h ((iI_eq (a := x) (b := y) hx hy).mpr z)))
theorem zr_if_ne {q t : Nat} {x off : Int} (hd : decode Y.2.1 pc = .ok (.ifCond .ne off, 3)) (ht : (pc : Int) + off = (t : Int)) (hq : pc + 3 = q) (hx : z_rg x) (kt : x ≠ 0 → z_Ev Y d kc ks t L S M Q) (kf : x = 0 → z_Ev Y d kc ks q L S M Q) : z_Ev Y d kc ks pc L (zi x :: S) M Q := ev_if_ne hd ht hq (fun h => kt (fun z => h ((iI_eq (a := x) (b := 0) hx z_rg_0).mpr z))) (fun h => kf ((iI_eq (a := x) (b := 0) hx z_rg_0).mp h))
theorem zr_icmp_ne {q t : Nat} {x y off : Int} (hd : decode Y.2.1 pc = .ok (.if_icmp .ne off, 3)) (ht : (pc : Int) + off = (t : Int)) (hq : pc + 3 = q) (hx : z_rg x) (hy : z_rg y) (kt : x ≠ y → z_Ev Y d kc ks t L S M Q) (kf : x = y → z_Ev Y d kc ks q L S M Q) : z_Ev Y d kc ks pc L (zi y :: zi x :: S) M Q := ev_icmp_ne hd ht hq (fun h => kt (fun z => h ((iI_eq (a := x) (b := y) hx hy).mpr z))) (fun h => kf ((iI_eq (a := x) (b := y) hx hy).mp h))
theorem zr_if_lt {q t : Nat} {x off : Int} (hd : decode Y.2.1 pc = .ok (.ifCond .lt off, 3)) (ht : (pc : Int) + off = (t : Int)) (hq : pc + 3 = q) (hx : z_rg x) (kt : x < 0 → z_Ev Y d kc ks t L S M Q) (kf : 0 ≤ x → z_Ev Y d kc ks q L S M Q) : z_Ev Y d kc ks pc L (zi x :: S) M Q := ev_if_lt hd ht hq (fun h => kt ((iI_lt (a := x) (b := 0) hx z_rg_0).mp h)) (fun h => kf (Int.not_lt.mp (fun w => h ((iI_lt (a := x) (b := 0) hx z_rg_0).mpr w))))
theorem zr_icmp_lt {q t : Nat} {x y off : Int} (hd : decode Y.2.1 pc = .ok (.if_icmp .lt off, 3)) (ht : (pc : Int) + off = (t : Int)) (hq : pc + 3 = q) (hx : z_rg x) (hy : z_rg y) (kt : x < y → z_Ev Y d kc ks t L S M Q) (kf : y ≤ x → z_Ev Y d kc ks q L S M Q) : z_Ev Y d kc ks pc L (zi y :: zi x :: S) M Q := ev_icmp_lt hd ht hq (fun h => kt ((iI_lt (a := x) (b := y) hx hy).mp h)) (fun h => kf (Int.not_lt.mp (fun w => h ((iI_lt (a := x) (b := y) hx hy).mpr w))))
theorem zr_if_ge {q t : Nat} {x off : Int} (hd : decode Y.2.1 pc = .ok (.ifCond .ge off, 3)) (ht : (pc : Int) + off = (t : Int)) (hq : pc + 3 = q) (hx : z_rg x) (kt : 0 ≤ x → z_Ev Y d kc ks t L S M Q) (kf : x < 0 → z_Ev Y d kc ks q L S M Q) : z_Ev Y d kc ks pc L (zi x :: S) M Q := ev_if_ge hd ht hq (fun h => kt ((iI_le (a := 0) (b := x) z_rg_0 hx).mp h)) (fun h => kf (Int.not_le.mp (fun w => h ((iI_le (a := 0) (b := x) z_rg_0 hx).mpr w))))
theorem zr_icmp_ge {q t : Nat} {x y off : Int} (hd : decode Y.2.1 pc = .ok (.if_icmp .ge off, 3)) (ht : (pc : Int) + off = (t : Int)) (hq : pc + 3 = q) (hx : z_rg x) (hy : z_rg y) (kt : y ≤ x → z_Ev Y d kc ks t L S M Q) (kf : x < y → z_Ev Y d kc ks q L S M Q) : z_Ev Y d kc ks pc L (zi y :: zi x :: S) M Q := ev_icmp_ge hd ht hq (fun h => kt ((iI_le (a := y) (b := x) hy hx).mp h)) (fun h => kf (Int.not_le.mp (fun w => h ((iI_le (a := y) (b := x) hy hx).mpr w))))
theorem zr_if_gt {q t : Nat} {x off : Int} (hd : decode Y.2.1 pc = .ok (.ifCond .gt off, 3)) (ht : (pc : Int) + off = (t : Int)) (hq : pc + 3 = q) (hx : z_rg x) (kt : 0 < x → z_Ev Y d kc ks t L S M Q) (kf : x ≤ 0 → z_Ev Y d kc ks q L S M Q) : z_Ev Y d kc ks pc L (zi x :: S) M Q := ev_if_gt hd ht hq (fun h => kt ((iI_lt (a := 0) (b := x) z_rg_0 hx).mp h)) (fun h => kf (Int.not_lt.mp (fun w => h ((iI_lt (a := 0) (b := x) z_rg_0 hx).mpr w))))
theorem zr_icmp_gt {q t : Nat} {x y off : Int} (hd : decode Y.2.1 pc = .ok (.if_icmp .gt off, 3)) (ht : (pc : Int) + off = (t : Int)) (hq : pc + 3 = q) (hx : z_rg x) (hy : z_rg y) (kt : y < x → z_Ev Y d kc ks t L S M Q) (kf : x ≤ y → z_Ev Y d kc ks q L S M Q) : z_Ev Y d kc ks pc L (zi y :: zi x :: S) M Q := ev_icmp_gt hd ht hq (fun h => kt ((iI_lt (a := y) (b := x) hy hx).mp h)) (fun h => kf (Int.not_lt.mp (fun w => h ((iI_lt (a := y) (b := x) hy hx).mpr w))))
theorem zr_if_le {q t : Nat} {x off : Int} (hd : decode Y.2.1 pc = .ok (.ifCond .le off, 3)) (ht : (pc : Int) + off = (t : Int)) (hq : pc + 3 = q) (hx : z_rg x) (kt : x ≤ 0 → z_Ev Y d kc ks t L S M Q) (kf : 0 < x → z_Ev Y d kc ks q L S M Q) : z_Ev Y d kc ks pc L (zi x :: S) M Q := ev_if_le hd ht hq (fun h => kt ((iI_le (a := x) (b := 0) hx z_rg_0).mp h)) (fun h => kf (Int.not_le.mp (fun w => h ((iI_le (a := x) (b := 0) hx z_rg_0).mpr w))))
theorem zr_icmp_le {q t : Nat} {x y off : Int} (hd : decode Y.2.1 pc = .ok (.if_icmp .le off, 3)) (ht : (pc : Int) + off = (t : Int)) (hq : pc + 3 = q) (hx : z_rg x) (hy : z_rg y) (kt : x ≤ y → z_Ev Y d kc ks t L S M Q) (kf : y < x → z_Ev Y d kc ks q L S M Q) : z_Ev Y d kc ks pc L (zi y :: zi x :: S) M Q := ev_icmp_le hd ht hq (fun h => kt ((iI_le (a := x) (b := y) hx hy).mp h)) (fun h => kf (Int.not_le.mp (fun w => h ((iI_le (a := x) (b := y) hx hy).mpr w))))
theorem zr_iald {q k n : Nat} {g : Int → Int} {z : Int} (hd : decode Y.2.1 pc = .ok (.iaload, 1)) (hM : M[k]? = some (zA 0 n g)) (hn : n ≤ 1000) (hz : 0 ≤ z ∧ z < n) (hq : pc + 1 = q) (kk : z_Ev Y d kc ks q L (zi (g z) :: S) M Q) : z_Ev Y d kc ks pc L (zi z :: .ref k :: S) M Q := by
  refine ev_iald hd hM (iI_in hz hn) (iI_clamp ⟨by omega, by omega⟩) hq ?_
  rw [Int.toNat_of_nonneg hz.1]
  exact kk
theorem zr_zald {q k n : Nat} {g : Int → Int} {z : Int} (hd : decode Y.2.1 pc = .ok (.baload, 1)) (hM : M[k]? = some (zA 1 n g)) (hn : n ≤ 1000) (hz : 0 ≤ z ∧ z < n) (hq : pc + 1 = q) (kk : z_Ev Y d kc ks q L (zi (g z) :: S) M Q) : z_Ev Y d kc ks pc L (zi z :: .ref k :: S) M Q := by
  refine ev_zald hd hM (iI_in hz hn) (iI_clamp ⟨by omega, by omega⟩) hq ?_
  rw [Int.toNat_of_nonneg hz.1]
  exact kk
theorem zr_aald {q k n t x : Nat} {f : Int → Option Nat} {z : Int} (hd : decode Y.2.1 pc = .ok (.aaload, 1)) (hT : ∀ cA, ∃ C, (z_tys cA)[t]? = some (cA t, .object C)) (hM : M[k]? = some (zP t n f)) (hn : n ≤ 1000) (hz : 0 ≤ z ∧ z < n) (hf : f z = some x) (hq : pc + 1 = q) (kk : z_Ev Y d kc ks q L (.ref x :: S) M Q) : z_Ev Y d kc ks pc L (zi z :: .ref k :: S) M Q := by
  refine ev_aald hd hT hM (iI_in hz hn) (iI_clamp ⟨by omega, by omega⟩) ?_ hq kk
  rw [Int.toNat_of_nonneg hz.1]
  exact hf
theorem zr_iast {q k n : Nat} {g : Int → Int} {z x : Int} {M' : List va_E} (hd : decode Y.2.1 pc = .ok (.iastore, 1)) (hM : M[k]? = some (zA 0 n g)) (hn : n ≤ 1000) (hz : 0 ≤ z ∧ z < n) (hM' : M.set k (zA 0 n (zup g z x)) = M') (hq : pc + 1 = q) (kk : z_Ev Y d kc ks q L S M' Q) : z_Ev Y d kc ks pc L (zi x :: zi z :: .ref k :: S) M Q := by
  subst hM'
  exact ev_iast hd hM (iI_in hz hn) (iI_clamp ⟨by omega, by omega⟩) (by rw [iI_upd hz.1]) hq kk
theorem zr_zast {q k n : Nat} {g : Int → Int} {z x : Int} {M' : List va_E} (hd : decode Y.2.1 pc = .ok (.bastore, 1)) (hM : M[k]? = some (zA 1 n g)) (hn : n ≤ 1000) (hx : x = 0 ∨ x = 1) (hz : 0 ≤ z ∧ z < n) (hM' : M.set k (zA 1 n (zup g z x)) = M') (hq : pc + 1 = q) (kk : z_Ev Y d kc ks q L S M' Q) : z_Ev Y d kc ks pc L (zi x :: zi z :: .ref k :: S) M Q := by
  subst hM'
  exact ev_zast hd hM (by rcases hx with rfl | rfl <;> decide) (iI_in hz hn) (iI_clamp ⟨by omega, by omega⟩) (by rw [iI_upd hz.1]) hq kk
theorem zr_aast {q k n t v ci : Nat} {f : Int → Option Nat} {z : Int} {vs : List Value} {M' : List va_E} (hd : decode Y.2.1 pc = .ok (.aastore, 1)) (hT : ∀ cA, ∃ r, z_cl[ci]? = some r ∧ (z_tys cA)[t]? = some (cA t, .object r.1)) (hM : M[k]? = some (zP t n f)) (hv : M[v]? = some (.inr (ci, vs))) (hn : n ≤ 1000) (hz : 0 ≤ z ∧ z < n) (hM' : M.set k (zP t n (zup f z (some v))) = M') (hq : pc + 1 = q) (kk : z_Ev Y d kc ks q L S M' Q) : z_Ev Y d kc ks pc L (.ref v :: zi z :: .ref k :: S) M Q := by
  subst hM'
  exact ev_aast hd hT hM hv (iI_in hz hn) (iI_clamp ⟨by omega, by omega⟩) (by rw [iI_updP hz.1]) hq kk
theorem zr_newi {q n : Nat} (hd : decode Y.2.1 pc = .ok (.newarray .int, 2)) (hw : Cond.arrayClass .int ∈ z_ws) (hn : n ≤ 1000) (hq : pc + 2 = q) (kk : z_Ev Y d kc ks q L (.ref M.length :: S) (M ++ [zA 0 n (fun _ => 0)]) Q) : z_Ev Y d (kc + 1) (ks + n) pc L (zi (n : Int) :: S) M Q := ev_newi hd hw (iI_nI n).symm hn hq kk
theorem zr_newz {q n : Nat} (hd : decode Y.2.1 pc = .ok (.newarray .boolean, 2)) (hw : Cond.arrayClass .boolean ∈ z_ws) (hn : n ≤ 1000) (hq : pc + 2 = q) (kk : z_Ev Y d kc ks q L (.ref M.length :: S) (M ++ [zA 1 n (fun _ => 0)]) Q) : z_Ev Y d (kc + 1) (ks + n) pc L (zi (n : Int) :: S) M Q := ev_newz hd hw (iI_nI n).symm hn hq kk
theorem zr_newq {q n t idx : Nat} {C : String} (hd : decode Y.2.1 pc = .ok (.anewarray idx, 3)) (hw : Cond.classLink Y.1.cls idx C ∈ z_ws) (hC : C ∈ z_ao) (hT : ∀ cA, (z_tys cA)[t]? = some (cA t, .object C)) (hn : n ≤ 1000) (hq : pc + 3 = q) (kk : z_Ev Y d kc ks q L (.ref M.length :: S) (M ++ [zP t n (fun _ => none)]) Q) : z_Ev Y d (kc + 1) (ks + n) pc L (zi (n : Int) :: S) M Q := ev_newq hd hw hC hT (iI_nI n).symm hn hq kk
theorem zr_puti {q k ci j idx : Nat} {fs fs' : List Value} {v : Int} {M' : List va_E} (hd : decode Y.2.1 pc = .ok (.putfield idx, 3)) (hF : z_G Y.1.cls idx ci j false .int) (hM : M[k]? = some (.inr (ci, fs))) (hj : j < fs.length) (hfs : fs.set j (zi v) = fs') (hM' : M.set k (.inr (ci, fs')) = M') (hq : pc + 3 = q) (kk : z_Ev Y d kc ks q L S M' Q) : z_Ev Y d kc ks pc L (zi v :: .ref k :: S) M Q := ev_put hd hF hM (fun _ _ => ⟨rfl, rfl⟩) hj hfs hM' hq kk
theorem zr_iret {x : Int} (hd : decode Y.2.1 pc = .ok (.ireturn, 1)) (hret : Y.2.2.2.1 = some .int) (hQ : Q (some (zi x)) M) : z_Ev Y d kc ks pc L [zi x] M Q := ev_iret hd hret rfl hQ
theorem zr_zret {x : Int} (hd : decode Y.2.1 pc = .ok (.ireturn, 1)) (hret : Y.2.2.2.1 = some .boolean) (hx : x = 0 ∨ x = 1) (hQ : Q (some (zi x)) M) : z_Ev Y d kc ks pc L [zi x] M Q := ev_iret hd hret (by rcases hx with rfl | rfl <;> decide) hQ
end
-- calls with exact results
def z_LV (own : String) (idx : Nat) (Y' : z_MD) (n : Nat) : Prop := Cond.methodLink own idx Y'.1 ∈ z_ws ∧ Cond.instanceMethod Y'.1 ∈ z_ws ∧ Cond.selects Y'.1.cls Y'.1 Y'.1 ∈ z_ws ∧ z_Cl Y' n
def z_LS (own : String) (idx : Nat) (Y' : z_MD) (n : Nat) : Prop := Cond.methodLink own idx Y'.1 ∈ z_ws ∧ Cond.static Y'.1 ∈ z_ws ∧ z_Cl Y' n
def z_LN (own : String) (idx : Nat) (Y' : z_MD) (n : Nat) : Prop := (∃ host : String, (own, idx, Y'.1, host) ∈ z_nw) ∧ Cond.static Y'.1 ∈ z_ws ∧ z_Cl Y' n
def z_LI (own : String) (idx : Nat) (Y' : z_MD) (n : Nat) : Prop := Cond.methodLink own idx Y'.1 ∈ z_ws ∧ Cond.instanceMethod Y'.1 ∈ z_ws ∧ Y'.1.name = "<init>" ∧ Y'.2.2.2.1 = none ∧ z_Cl Y' n
section
variable {Y Y' : z_MD} {d d' : Nat × Nat} {kc ks mc ms pc q idx n k ci : Nat} {L S S0 As fs : List Value} {M M1 : List va_E} {Q : Option Value → List va_E → Prop} {r : Option Value} {v : Value}
theorem cv_V (hd : decode Y.2.1 pc = .ok (.invokevirtual idx, 3)) (hl : z_LV Y.1.cls idx Y' n) (hO : M[k]? = some (.inr (ci, fs))) (hcl : (z_cl[ci]?).map (fun r => r.1) = some Y'.1.cls) (hn : As.length = n) (hS8 : S.length ≤ 8) (hSr : S.all z_real = true) (hst : As.reverse ++ .ref k :: S = S0) (hq : pc + 3 = q) (hdd : d'.1 + 1 ≤ d.1 ∧ 8 + (Y'.2.2.1 + 11) + d'.2 ≤ d.2) (hM : z_Sp Y' d' 0 0 (.ref k :: As) M (fun r M' => r = some v ∧ M' = M1)) (kk : z_Ev Y d kc ks q L (v :: S) M1 Q) : z_Ev Y d kc ks pc L S0 M Q := by
  have h := ev_callV (kc := kc) (ks := ks) hd hl.1 hl.2.1 hl.2.2.1 hl.2.2.2 hO hcl hn hS8 hSr hst hq hdd hM (Q := Q) (L := L) (fun r M' h => by obtain ⟨rfl, rfl⟩ := h; exact kk)
  rwa [Nat.zero_add, Nat.zero_add] at h
theorem cv_Vv (hd : decode Y.2.1 pc = .ok (.invokevirtual idx, 3)) (hl : z_LV Y.1.cls idx Y' n) (hO : M[k]? = some (.inr (ci, fs))) (hcl : (z_cl[ci]?).map (fun r => r.1) = some Y'.1.cls) (hn : As.length = n) (hS8 : S.length ≤ 8) (hSr : S.all z_real = true) (hst : As.reverse ++ .ref k :: S = S0) (hq : pc + 3 = q) (hdd : d'.1 + 1 ≤ d.1 ∧ 8 + (Y'.2.2.1 + 11) + d'.2 ≤ d.2) (hM : z_Sp Y' d' 0 0 (.ref k :: As) M (fun r M' => r = none ∧ M' = M1)) (kk : z_Ev Y d kc ks q L S M1 Q) : z_Ev Y d kc ks pc L S0 M Q := by
  have h := ev_callV (kc := kc) (ks := ks) hd hl.1 hl.2.1 hl.2.2.1 hl.2.2.2 hO hcl hn hS8 hSr hst hq hdd hM (Q := Q) (L := L) (fun r M' h => by obtain ⟨rfl, rfl⟩ := h; exact kk)
  rwa [Nat.zero_add, Nat.zero_add] at h
theorem cv_S (hd : decode Y.2.1 pc = .ok (.invokestatic idx, 3)) (hl : z_LS Y.1.cls idx Y' n) (hn : As.length = n) (hS8 : S.length ≤ 8) (hSr : S.all z_real = true) (hst : As.reverse ++ S = S0) (hq : pc + 3 = q) (hdd : d'.1 + 1 ≤ d.1 ∧ 8 + (Y'.2.2.1 + 11) + d'.2 ≤ d.2) (hM : z_Sp Y' d' 0 0 As M (fun r M' => r = some v ∧ M' = M1)) (kk : z_Ev Y d kc ks q L (v :: S) M1 Q) : z_Ev Y d kc ks pc L S0 M Q := by
  have h := ev_callS (kc := kc) (ks := ks) hd hl.1 hl.2.1 hl.2.2 hn hS8 hSr hst hq hdd hM (Q := Q) (L := L) (fun r M' h => by obtain ⟨rfl, rfl⟩ := h; exact kk)
  rwa [Nat.zero_add, Nat.zero_add] at h
theorem cv_N (hd : decode Y.2.1 pc = .ok (.invokestatic idx, 3)) (hl : z_LN Y.1.cls idx Y' n) (hn : As.length = n) (hS8 : S.length ≤ 8) (hSr : S.all z_real = true) (hst : As.reverse ++ S = S0) (hq : pc + 3 = q) (hdd : d'.1 + 1 ≤ d.1 ∧ 8 + (Y'.2.2.1 + 11) + d'.2 ≤ d.2) (hM : z_Sp Y' d' 0 0 As M (fun r M' => r = some v ∧ M' = M1)) (kk : z_Ev Y d kc ks q L (v :: S) M1 Q) : z_Ev Y d kc ks pc L S0 M Q := by
  obtain ⟨⟨host, hh⟩, h2, h3⟩ := hl
  have h := ev_callSN (kc := kc) (ks := ks) hd hh h2 h3 hn hS8 hSr hst hq hdd hM (Q := Q) (L := L) (fun r M' h => by obtain ⟨rfl, rfl⟩ := h; exact kk)
  rwa [Nat.zero_add, Nat.zero_add] at h
theorem cv_I {kc1 ks1 : Nat} (hd : decode Y.2.1 pc = .ok (.invokespecial idx, 3)) (hl : z_LI Y.1.cls idx Y' n) (hn : As.length = n) (hS8 : S.length ≤ 8) (hSr : S.all z_real = true) (hst : As.reverse ++ .ref k :: S = S0) (hq : pc + 3 = q) (hkc : mc + kc = kc1) (hks : ms + ks = ks1) (hdd : d'.1 + 1 ≤ d.1 ∧ 8 + (Y'.2.2.1 + 11) + d'.2 ≤ d.2) (hM : z_Sp Y' d' mc ms (.ref k :: As) M (fun r M' => r = none ∧ M' = M1)) (kk : z_Ev Y d kc ks q L S M1 Q) : z_Ev Y d kc1 ks1 pc L S0 M Q := by
  subst hkc
  subst hks
  exact ev_callI hd hl.1 hl.2.1 hl.2.2.1 hl.2.2.2.1 hl.2.2.2.2 hn hS8 hSr hst hq hdd hM (fun r M' h => by obtain ⟨rfl, rfl⟩ := h; exact kk)
theorem cv_Va {kc1 ks1 : Nat} (hd : decode Y.2.1 pc = .ok (.invokevirtual idx, 3)) (hl : z_LV Y.1.cls idx Y' n) (hO : M[k]? = some (.inr (ci, fs))) (hcl : (z_cl[ci]?).map (fun r => r.1) = some Y'.1.cls) (hn : As.length = n) (hS8 : S.length ≤ 8) (hSr : S.all z_real = true) (hst : As.reverse ++ .ref k :: S = S0) (hq : pc + 3 = q) (hkc : mc + kc = kc1) (hks : ms + ks = ks1) (hdd : d'.1 + 1 ≤ d.1 ∧ 8 + (Y'.2.2.1 + 11) + d'.2 ≤ d.2) (hM : z_Sp Y' d' mc ms (.ref k :: As) M (fun r M' => r = some v ∧ M' = M1)) (kk : z_Ev Y d kc ks q L (v :: S) M1 Q) : z_Ev Y d kc1 ks1 pc L S0 M Q := by
  subst hkc
  subst hks
  exact ev_callV hd hl.1 hl.2.1 hl.2.2.1 hl.2.2.2 hO hcl hn hS8 hSr hst hq hdd hM (fun r M' h => by obtain ⟨rfl, rfl⟩ := h; exact kk)
end
