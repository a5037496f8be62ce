-- numbers: sums, searches, columns
abbrev z_Sg : Type := Nat → Int → Int
def zb (p : Bool) : Int := if p = true then 1 else 0
theorem zb_t {p : Bool} (h : p = true) : zb p = 1 := by simp [zb, h]
theorem zb_f {p : Bool} (h : p = false) : zb p = 0 := by simp [zb, h]
theorem zb_01 (p : Bool) : zb p = 0 ∨ zb p = 1 := by cases p <;> simp [zb]
theorem zb_rg (p : Bool) : z_rg (zb p) := by rcases zb_01 p with h | h <;> rw [h] <;> exact ⟨by omega, by omega⟩
theorem zb_ne {p : Bool} (h : zb p ≠ 0) : p = true := by cases p <;> simp [zb] at h ⊢
theorem zb_eq {p : Bool} (h : zb p = 0) : p = false := by cases p <;> simp [zb] at h ⊢
def z_up (σ : z_Sg) (c : Nat) (i v : Int) : z_Sg := fun c' => if c' = c then zup (σ c) i v else σ c'
theorem z_up_s {σ : z_Sg} {c : Nat} {i v : Int} : z_up σ c i v c = zup (σ c) i v := by simp [z_up]
theorem z_up_n {σ : z_Sg} {c c' : Nat} {i v : Int} (h : c' ≠ c) : z_up σ c i v c' = σ c' := by simp [z_up, h]
def anyZ (n : Int) (p : Int → Bool) : Bool := (List.range n.toNat).any (fun k => p (k : Int))
theorem anyZ_t {n : Int} {p : Int → Bool} (k : Int) (h0 : 0 ≤ k) (h1 : k < n) (h : p k = true) : anyZ n p = true := by
  unfold anyZ
  rw [List.any_eq_true]
  refine ⟨k.toNat, List.mem_range.mpr (by omega), ?_⟩
  rw [Int.toNat_of_nonneg h0]
  exact h
theorem anyZ_f {n : Int} {p : Int → Bool} (h : ∀ k : Int, 0 ≤ k → k < n → p k = false) : anyZ n p = false := by
  unfold anyZ
  rw [List.any_eq_false]
  intro k hk
  rw [List.mem_range] at hk
  rw [h (k : Int) (by omega) (by omega)]
  decide
theorem anyZ_iff {n : Int} {p : Int → Bool} : anyZ n p = true ↔ ∃ k : Int, 0 ≤ k ∧ k < n ∧ p k = true := by
  constructor
  · intro h
    unfold anyZ at h
    rw [List.any_eq_true] at h
    obtain ⟨k, hk, h⟩ := h
    rw [List.mem_range] at hk
    exact ⟨k, by omega, by omega, h⟩
  · rintro ⟨k, h0, h1, h⟩
    exact anyZ_t k h0 h1 h
theorem anyZ_congr {n : Int} {p q : Int → Bool} (h : ∀ k : Int, 0 ≤ k → k < n → p k = q k) : anyZ n p = anyZ n q := by
  rw [Bool.eq_iff_iff, anyZ_iff, anyZ_iff]
  constructor
  · rintro ⟨k, h0, h1, h2⟩
    exact ⟨k, h0, h1, by rw [← h k h0 h1]; exact h2⟩
  · rintro ⟨k, h0, h1, h2⟩
    exact ⟨k, h0, h1, by rw [h k h0 h1]; exact h2⟩
def sumN (f : Int → Int) : Nat → Int
  | 0 => 0
  | n + 1 => sumN f n + f (n : Int)
def sumZ (n : Int) (f : Int → Int) : Int := sumN f n.toNat
theorem sumZ_0 {f : Int → Int} : sumZ 0 f = 0 := rfl
theorem sumZ_s {f : Int → Int} {n : Int} (h : 0 ≤ n) : sumZ (n + 1) f = sumZ n f + f n := by
  unfold sumZ
  rw [show (n + 1).toNat = n.toNat + 1 by omega, sumN, Int.toNat_of_nonneg h]
theorem sumN_congr {f g : Int → Int} : ∀ n : Nat, (∀ k : Int, 0 ≤ k → k < n → f k = g k) → sumN f n = sumN g n := by
  intro n
  induction n with
  | zero => intro _; rfl
  | succ n ih =>
    intro h
    rw [sumN, sumN, ih (fun k h0 h1 => h k h0 (by omega)), h (n : Int) (by omega) (by omega)]
theorem sumZ_congr {n : Int} {f g : Int → Int} (h : ∀ k : Int, 0 ≤ k → k < n → f k = g k) : sumZ n f = sumZ n g :=
  sumN_congr n.toNat (fun k h0 h1 => h k h0 (by omega))
theorem sumN_bound {f : Int → Int} {b : Int} : ∀ n : Nat, (∀ k : Int, 0 ≤ k → k < n → 0 ≤ f k ∧ f k ≤ b) → 0 ≤ sumN f n ∧ sumN f n ≤ b * n := by
  intro n
  induction n with
  | zero => intro _; simp [sumN]
  | succ n ih =>
    intro h
    have h1 := ih (fun k h0 h1 => h k h0 (by omega))
    have h2 := h (n : Int) (by omega) (by omega)
    rw [sumN]
    have h3 : b * ((n + 1 : Nat) : Int) = b * n + b := by rw [Int.natCast_add, Int.mul_add]; simp
    omega
theorem z_loop {P : Int → Prop} {n : Int} (h1 : P n) (h2 : ∀ k : Int, 0 ≤ k → k < n → P (k + 1) → P k) : ∀ k : Int, 0 ≤ k → k ≤ n → P k := by
  have key : ∀ (j : Nat) (k : Int), 0 ≤ k → k + j = n → P k := by
    intro j
    induction j with
    | zero => intro k _ hk; rw [show k = n by omega]; exact h1
    | succ j ih => intro k h0 hk; exact h2 k h0 (by omega) (ih (k + 1) (by omega) (by omega))
  intro k h0 hk
  exact key (n - k).toNat k h0 (by omega)
