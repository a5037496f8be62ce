-- the coupling of class and reference: what one transaction says
theorem zup_at {f : Int → Int} {i v j : Int} : zup f i v j = if j = i then v else f j := rfl
def zS (f : Int → Int) : Nat → Int → Int
  | 0, _ => 0
  | j + 1, k => f k + zS f j (k + 1)
theorem zS_0 {f : Int → Int} {k : Int} : zS f 0 k = 0 := rfl
theorem zS_s {f : Int → Int} {j : Nat} {k : Int} : zS f (j + 1) k = f k + zS f j (k + 1) := rfl
theorem zS_congr {f g : Int → Int} : ∀ (j : Nat) (k : Int), (∀ i : Int, k ≤ i → i < k + j → f i = g i) → zS f j k = zS g j k := by
  intro j
  induction j with
  | zero => intro k _; rfl
  | succ j ih =>
    intro k h
    rw [zS_s, zS_s, h k (by omega) (by omega), ih (k + 1) (fun i h0 h1 => h i (by omega) (by omega))]
theorem zS_zero {f : Int → Int} : ∀ (j : Nat) (k : Int), (∀ i : Int, k ≤ i → i < k + j → f i = 0) → zS f j k = 0 := by
  intro j
  induction j with
  | zero => intro k _; rfl
  | succ j ih =>
    intro k h
    rw [zS_s, h k (by omega) (by omega), ih (k + 1) (fun i h0 h1 => h i (by omega) (by omega))]
    rfl
theorem zS_cut {f : Int → Int} : ∀ (i j : Nat) (k : Int), zS f (i + j) k = zS f i k + zS f j (k + i) := by
  intro i
  induction i with
  | zero =>
    intro j k
    rw [show 0 + j = j by omega, zS_0, show k + ((0 : Nat) : Int) = k by omega]
    omega
  | succ i ih =>
    intro j k
    rw [show i + 1 + j = (i + j) + 1 by omega, zS_s, zS_s, ih j (k + 1), show k + ((i + 1 : Nat) : Int) = k + 1 + (i : Int) by omega]
    omega
theorem zS_pad {f g : Int → Int} {n : Int} (m : Nat) (k : Int) (h0 : 0 ≤ n) (h1 : n ≤ m) (h2 : ∀ i : Int, k ≤ i → i < k + n → f i = g i) (h3 : ∀ i : Int, k + n ≤ i → i < k + m → f i = 0) : zS f m k = zS g n.toNat k := by
  obtain ⟨d, rfl⟩ : ∃ d : Nat, m = n.toNat + d := ⟨m - n.toNat, by omega⟩
  rw [zS_cut, zS_zero d _ (fun i a b => h3 i (by omega) (by omega)), Int.add_zero]
  exact zS_congr _ _ (fun i a b => h2 i (by omega) (by omega))
theorem zS_sh {f : Int → Int} : ∀ (j : Nat) (k : Int), zS (fun i => - f (i - 4)) j (k + 4) = - zS f j k := by
  intro j
  induction j with
  | zero => intro k; rfl
  | succ j ih =>
    intro k
    rw [zS_s, zS_s, show k + 4 + 1 = (k + 1) + 4 by omega, ih]
    show - f (k + 4 - 4) + _ = _
    rw [show k + 4 - 4 = k by omega]
    omega
def kOne (γ ρ : z_Sg) (t : Int) : Prop := γ 20 t = ρ 1 t ∧ γ 21 t = ρ 2 t ∧ γ 22 t = ρ 3 t ∧ γ 23 t = ρ 4 t ∧ γ 25 t = ρ 5 t ∧ γ 28 t = ρ 7 t ∧ γ 31 t = ρ 8 t ∧ γ 32 (2 * t) = ρ 9 t ∧ γ 32 (2 * t + 1) = ρ 10 t
def kInp (γ ρ : z_Sg) (t : Int) : Prop := ∀ k : Int, 0 ≤ k → k < ρ 9 t → γ 33 (4 * (2 * t) + k) = ρ 11 (4 * t + k)
def kT (γ ρ : z_Sg) : Prop := γ 0 0 = ρ 0 0 ∧ γ 1 0 = ρ 24 0 ∧ ∀ t : Int, 0 ≤ t → t < ρ 0 0 → kOne γ ρ t ∧ kInp γ ρ t
def kSt (γ ρ : z_Sg) (s : Int) : Prop := γ 34 s = ρ 12 s ∧ γ 35 s = ρ 13 s ∧ γ 36 s = ρ 14 s ∧ γ 37 s = ρ 15 s ∧ γ 38 s = ρ 16 s
def kS (γ ρ : z_Sg) : Prop := ∀ s : Int, zEx γ s → kSt γ ρ s ∧ γ 8 s = ρ 17 s
def kB (γ ρ : z_Sg) : Prop := z_wf ρ ∧ c_wf γ ∧ zEl γ ∧ kT γ ρ ∧ kS γ ρ
/-- what is needed of the coupling for one transaction -/
def kL (γ ρ : z_Sg) (t : Int) : Prop := z_wf ρ ∧ (γ 20 t = ρ 1 t ∧ γ 22 t = ρ 3 t ∧ γ 32 (2 * t) = ρ 9 t ∧ γ 32 (2 * t + 1) = ρ 10 t) ∧ (∀ k : Int, 0 ≤ k → k < ρ 9 t → γ 33 (4 * (2 * t) + k) = ρ 11 (4 * t + k) ∧ kSt γ ρ (ρ 11 (4 * t + k))) ∧ ∀ k : Int, 0 ≤ k → k < ρ 10 t → γ 33 (4 * (2 * t + 1) + k) = 4 * t + k ∧ kSt γ ρ (4 * t + k)
section
variable {γ ρ : z_Sg} {t : Int}
theorem kB_many (h : kB γ ρ) : γ 0 0 = ρ 0 0 := h.2.2.2.1.1
theorem kB_clock (h : kB γ ρ) : γ 1 0 = ρ 24 0 := h.2.2.2.1.2.1
theorem kB_one (h : kB γ ρ) (h0 : 0 ≤ t) (h1 : t < ρ 0 0) : kOne γ ρ t := (h.2.2.2.1.2.2 t h0 h1).1
theorem kB_in (h : kB γ ρ) (h0 : 0 ≤ t) (h1 : t < ρ 0 0) {k : Int} (k0 : 0 ≤ k) (k1 : k < ρ 9 t) : γ 33 (4 * (2 * t) + k) = ρ 11 (4 * t + k) ∧ zEx γ (ρ 11 (4 * t + k)) := by
  have e := (h.2.2.2.1.2.2 t h0 h1).2 k k0 k1
  have o := kB_one h h0 h1
  have m := kB_many h
  refine ⟨e, ?_⟩
  rw [← e]
  exact h.2.2.1.1 (2 * t) k (by omega) (by omega) k0 (by rw [o.2.2.2.2.2.2.2.1]; exact k1)
theorem kB_out (h : kB γ ρ) (h0 : 0 ≤ t) (h1 : t < ρ 0 0) {k : Int} (k0 : 0 ≤ k) (k1 : k < ρ 10 t) : γ 33 (4 * (2 * t + 1) + k) = 4 * t + k ∧ zEx γ (4 * t + k) := by
  have o := kB_one h h0 h1
  have m := kB_many h
  have g : 0 ≤ ρ 10 t ∧ ρ 10 t ≤ 4 := h.1 10 t (by decide)
  refine ⟨h.2.2.1.2 t k h0 (by omega) k0 (by rw [o.2.2.2.2.2.2.2.2]; exact k1), by omega, by omega, ?_⟩
  rw [show (4 * t + k) / 4 = t by omega, o.2.2.2.2.2.2.2.2]
  omega
theorem kB_L (h : kB γ ρ) (h0 : 0 ≤ t) (h1 : t < ρ 0 0) : kL γ ρ t := by
  have o := kB_one h h0 h1
  refine ⟨h.1, ⟨o.1, o.2.2.1, o.2.2.2.2.2.2.2.1, o.2.2.2.2.2.2.2.2⟩, ?_, ?_⟩
  · intro k k0 k1
    have i := kB_in h h0 h1 k0 k1
    exact ⟨i.1, (h.2.2.2.2 _ i.2).1⟩
  · intro k k0 k1
    have i := kB_out h h0 h1 k0 k1
    exact ⟨i.1, (h.2.2.2.2 _ i.2).1⟩
-- inputs
theorem cl_holds (l s : Int) : cL_holds γ l s = zb (anyZ (γ 32 l) (fun k => decide (γ 33 (4 * l + k) = s))) := by
  by_cases hn : 0 ≤ γ 32 l
  · have key : ∀ (j : Nat) (k : Int), 0 ≤ k → k + j = γ 32 l → (∀ i : Int, 0 ≤ i → i < k → γ 33 (4 * l + i) ≠ s) → lL_holds_2 γ l s j k = zb (anyZ (γ 32 l) (fun k => decide (γ 33 (4 * l + k) = s))) := by
      intro j
      induction j with
      | zero =>
        intro k c0 c1 c2
        rw [lL_holds_2, anyZ_f]
        · rfl
        · intro i h0 h1
          exact decide_eq_false (c2 i h0 (by omega))
      | succ j ih =>
        intro k c0 c1 c2
        rw [lL_holds_2]
        split
        · rename_i h
          exact ih (k + 1) (by omega) (by omega) (z_nf (f := fun i => γ 33 (4 * l + i)) c2 h)
        · rename_i h
          rw [anyZ_t k c0 (by omega) (decide_eq_true (Decidable.not_not.mp h))]
          rfl
    exact key _ _ (by omega) (by omega) (fun i h0 h1 => by omega)
  · have e : (γ 32 l).toNat = 0 := by omega
    unfold cL_holds
    rw [e, lL_holds_2, anyZ_f]
    · rfl
    · intro i h0 h1
      omega
theorem k_holds (h : kL γ ρ t) (s : Int) : cL_holds γ (2 * t) s = rR_isInput ρ t s := by
  rw [cl_holds, cR_isInput, h.2.1.2.2.1]
  congr 1
  apply anyZ_congr
  intro k k0 k1
  rw [(h.2.2.1 k k0 k1).1]
-- what one state says
theorem k_bound (h : z_wf ρ) {s : Int} (e : kSt γ ρ s) : cS_isBound γ s = if ρ 16 s < 0 then 0 else 1 := by
  have g : -1 ≤ ρ 16 s ∧ ρ 16 s ≤ 3 := h 16 s (by decide)
  unfold cS_isBound
  rw [e.2.2.2.2]
  (repeat' split) <;> omega
theorem k_concerns {s : Int} (e : kSt γ ρ s) (n : Int) : cS_concerns γ s n = rR_concerns ρ s n := by
  unfold cS_concerns cS_isCashOwnedBy rR_concerns
  rw [e.1, e.2.1, e.2.2.1]
  (repeat' split) <;> omega
end
-- sums over a list of states
def zvl (ρ : z_Sg) (kind x y s : Int) : Int := if ρ 12 s = kind ∧ (x = -1 ∨ ρ 13 s = x) ∧ (y = -1 ∨ ρ 14 s = y) then ρ 15 s else 0
def zgn (ρ : z_Sg) (t kind x y k : Int) : Int := if 4 ≤ k then (if ρ 9 t ≤ k - 4 then 0 else - zvl ρ kind x y (ρ 11 (((4 * t) + k) - 4))) else (if ρ 10 t ≤ k then 0 else zvl ρ kind x y ((4 * t) + k))
section
variable {γ ρ : z_Sg} {t : Int}
theorem gain_S {kind x y : Int} : ∀ (j : Nat) (k sm : Int), lR_gain_6 ρ t kind x y j k sm = sm + zS (zgn ρ t kind x y) j k := by
  intro j
  induction j with
  | zero =>
    intro k sm
    rw [lR_gain_6, zS_0]
    omega
  | succ j ih =>
    intro k sm
    rw [lR_gain_6, zS_s]
    simp only [ih]
    unfold zgn zvl
    (repeat' split) <;> omega
theorem gain_eq (hw : z_wf ρ) {kind x y : Int} : rR_gain ρ t kind x y = zS (fun k => zvl ρ kind x y (4 * t + k)) (ρ 10 t).toNat 0 - zS (fun k => zvl ρ kind x y (ρ 11 (4 * t + k))) (ρ 9 t).toNat 0 := by
  have g9 : 0 ≤ ρ 9 t ∧ ρ 9 t ≤ 4 := hw 9 t (by decide)
  have g10 : 0 ≤ ρ 10 t ∧ ρ 10 t ≤ 4 := hw 10 t (by decide)
  have e0 : zS (zgn ρ t kind x y) 8 0 = zS (zgn ρ t kind x y) 4 0 + zS (zgn ρ t kind x y) 4 (0 + 4) := zS_cut 4 4 0
  have e1 : zS (zgn ρ t kind x y) 4 0 = zS (fun k => zvl ρ kind x y (4 * t + k)) (ρ 10 t).toNat 0 := by
    apply zS_pad 4 0 g10.1 (by omega)
    · intro i i0 i1
      show zgn ρ t kind x y i = zvl ρ kind x y (4 * t + i)
      unfold zgn
      rw [if_neg (by omega), if_neg (by omega)]
    · intro i i0 i1
      unfold zgn
      rw [if_neg (by omega), if_pos (by omega)]
  have e2 : zS (zgn ρ t kind x y) 4 (0 + 4) = zS (fun i => - (fun k => zvl ρ kind x y (ρ 11 (4 * t + k))) (i - 4)) (ρ 9 t).toNat (0 + 4) := by
    apply zS_pad 4 (0 + 4) g9.1 (by omega)
    · intro i i0 i1
      show zgn ρ t kind x y i = - zvl ρ kind x y (ρ 11 (4 * t + (i - 4)))
      unfold zgn
      rw [if_pos (by omega), if_neg (by omega), show 4 * t + (i - 4) = 4 * t + i - 4 by omega]
    · intro i i0 i1
      unfold zgn
      rw [if_pos (by omega), if_pos (by omega)]
  have e3 : zS (zgn ρ t kind x y) 4 (0 + 4) = - zS (fun k => zvl ρ kind x y (ρ 11 (4 * t + k))) (ρ 9 t).toNat 0 := e2.trans (zS_sh (f := fun k => zvl ρ kind x y (ρ 11 (4 * t + k))) _ 0)
  unfold rR_gain
  rw [gain_S]
  omega
theorem iss_S {l n : Int} : ∀ (j : Nat) (k sm : Int), lL_cashIssuedBy_4 γ l n j k sm = sm + zS (fun i => if cS_isCashIssuedBy γ (γ 33 (4 * l + i)) n = 0 then 0 else γ 37 (γ 33 (4 * l + i))) j k := by
  intro j
  induction j with
  | zero =>
    intro k sm
    rw [lL_cashIssuedBy_4, zS_0]
    omega
  | succ j ih =>
    intro k sm
    rw [lL_cashIssuedBy_4, zS_s]
    simp only [ih]
    (repeat' split) <;> omega
theorem own_S {l n : Int} : ∀ (j : Nat) (k sm : Int), lL_cashOwnedBy_4 γ l n j k sm = sm + zS (fun i => if cS_isCashOwnedBy γ (γ 33 (4 * l + i)) n = 0 then 0 else γ 37 (γ 33 (4 * l + i))) j k := by
  intro j
  induction j with
  | zero =>
    intro k sm
    rw [lL_cashOwnedBy_4, zS_0]
    omega
  | succ j ih =>
    intro k sm
    rw [lL_cashOwnedBy_4, zS_s]
    simp only [ih]
    (repeat' split) <;> omega
theorem debt_S {l x y : Int} : ∀ (j : Nat) (k sm : Int), lL_debtOf_5 γ l x y j k sm = sm + zS (fun i => if cS_isDebtOf γ (γ 33 (4 * l + i)) x y = 0 then 0 else γ 37 (γ 33 (4 * l + i))) j k := by
  intro j
  induction j with
  | zero =>
    intro k sm
    rw [lL_debtOf_5, zS_0]
    omega
  | succ j ih =>
    intro k sm
    rw [lL_debtOf_5, zS_s]
    simp only [ih]
    (repeat' split) <;> omega
theorem v_iss {s n : Int} (e : kSt γ ρ s) (hn : 0 ≤ n) : (if cS_isCashIssuedBy γ s n = 0 then 0 else γ 37 s) = zvl ρ 0 n (-1) s := by
  unfold cS_isCashIssuedBy zvl
  rw [e.1, e.2.1, e.2.2.2.1]
  (repeat' split) <;> omega
theorem v_own {s n : Int} (e : kSt γ ρ s) (hn : 0 ≤ n) : (if cS_isCashOwnedBy γ s n = 0 then 0 else γ 37 s) = zvl ρ 0 (-1) n s := by
  unfold cS_isCashOwnedBy zvl
  rw [e.1, e.2.2.1, e.2.2.2.1]
  (repeat' split) <;> omega
theorem v_debt {s x y : Int} (e : kSt γ ρ s) (hx : 0 ≤ x) (hy : 0 ≤ y) : (if cS_isDebtOf γ s x y = 0 then 0 else γ 37 s) = zvl ρ 1 x y s := by
  unfold cS_isDebtOf zvl
  rw [e.1, e.2.1, e.2.2.1, e.2.2.2.1]
  (repeat' split) <;> omega
theorem s_in (h : kL γ ρ t) {f g : Int → Int} (hf : ∀ s : Int, kSt γ ρ s → f s = g s) : zS (fun i => f (γ 33 (4 * (2 * t) + i))) (γ 32 (2 * t)).toNat 0 = zS (fun i => g (ρ 11 (4 * t + i))) (ρ 9 t).toNat 0 := by
  rw [h.2.1.2.2.1]
  apply zS_congr
  intro i i0 i1
  have k := h.2.2.1 i (by omega) (by omega)
  show f (γ 33 (4 * (2 * t) + i)) = g (ρ 11 (4 * t + i))
  rw [k.1]
  exact hf _ k.2
theorem s_out (h : kL γ ρ t) {f g : Int → Int} (hf : ∀ s : Int, kSt γ ρ s → f s = g s) : zS (fun i => f (γ 33 (4 * (2 * t + 1) + i))) (γ 32 (2 * t + 1)).toNat 0 = zS (fun i => g (4 * t + i)) (ρ 10 t).toNat 0 := by
  rw [h.2.1.2.2.2]
  apply zS_congr
  intro i i0 i1
  have k := h.2.2.2 i (by omega) (by omega)
  show f (γ 33 (4 * (2 * t + 1) + i)) = g (4 * t + i)
  rw [k.1]
  exact hf _ k.2
theorem g_iss (h : kL γ ρ t) {n : Int} (hn : 0 ≤ n) : rR_gain ρ t 0 n (-1) = cL_cashIssuedBy γ (2 * t + 1) n - cL_cashIssuedBy γ (2 * t) n := by
  unfold cL_cashIssuedBy
  rw [gain_eq h.1, iss_S, iss_S]
  have a := s_in h (f := fun s => if cS_isCashIssuedBy γ s n = 0 then 0 else γ 37 s) (g := zvl ρ 0 n (-1)) (fun s hs => v_iss hs hn)
  have b := s_out h (f := fun s => if cS_isCashIssuedBy γ s n = 0 then 0 else γ 37 s) (g := zvl ρ 0 n (-1)) (fun s hs => v_iss hs hn)
  omega
theorem g_own (h : kL γ ρ t) {n : Int} (hn : 0 ≤ n) : rR_gain ρ t 0 (-1) n = cL_cashOwnedBy γ (2 * t + 1) n - cL_cashOwnedBy γ (2 * t) n := by
  unfold cL_cashOwnedBy
  rw [gain_eq h.1, own_S, own_S]
  have a := s_in h (f := fun s => if cS_isCashOwnedBy γ s n = 0 then 0 else γ 37 s) (g := zvl ρ 0 (-1) n) (fun s hs => v_own hs hn)
  have b := s_out h (f := fun s => if cS_isCashOwnedBy γ s n = 0 then 0 else γ 37 s) (g := zvl ρ 0 (-1) n) (fun s hs => v_own hs hn)
  omega
theorem g_debt (h : kL γ ρ t) {x y : Int} (hx : 0 ≤ x) (hy : 0 ≤ y) : rR_gain ρ t 1 x y = cL_debtOf γ (2 * t + 1) x y - cL_debtOf γ (2 * t) x y := by
  unfold cL_debtOf
  rw [gain_eq h.1, debt_S, debt_S]
  have a := s_in h (f := fun s => if cS_isDebtOf γ s x y = 0 then 0 else γ 37 s) (g := zvl ρ 1 x y) (fun s hs => v_debt hs hx hy)
  have b := s_out h (f := fun s => if cS_isDebtOf γ s x y = 0 then 0 else γ 37 s) (g := zvl ρ 1 x y) (fun s hs => v_debt hs hx hy)
  omega
-- who must sign
theorem k_letDown (h : kL γ ρ t) {n : Int} (hn : 0 ≤ n) : cT_isLetDown γ t n = rR_letDown ρ t n := by
  have key : ∀ (j : Nat) (k lo : Int), 0 ≤ k → lT_isLetDown_4 γ t n j k lo = lR_letDown_5 ρ t n j k lo := by
    intro j
    induction j with
    | zero =>
      intro k lo _
      rw [lT_isLetDown_4, lR_letDown_5, g_own h hn]
    | succ j ih =>
      intro k lo hk
      rw [lT_isLetDown_4, lR_letDown_5, ih _ _ (by omega), g_debt h hk hn]
      unfold cJM_max
      (repeat' split) <;> first | omega | (congr 1; omega)
  exact key 4 0 0 (by omega)
theorem k_owes (h : kL γ ρ t) {n : Int} (hn : 0 ≤ n) : ∀ (j : Nat) (k : Int), 0 ≤ k → lR_mustSign_87 ρ t n j k = lT_owesMore_2 γ t n j k ∧ (lT_owesMore_2 γ t n j k = 0 ∨ lT_owesMore_2 γ t n j k = 1) := by
  intro j
  induction j with
  | zero =>
    intro k _
    rw [lT_owesMore_2, lR_mustSign_87]
    exact ⟨rfl, Or.inl rfl⟩
  | succ j ih =>
    intro k hk
    rw [lT_owesMore_2, lR_mustSign_87, g_debt h hn hk]
    have i := ih (k + 1) (by omega)
    (repeat' split) <;> omega
theorem k_hasOwn (h : kL γ ρ t) {n : Int} : ∀ (j : Nat) (k : Int), 0 ≤ k → k + j = ρ 9 t → lR_mustSign_34 ρ t n j k = (if lL_holdsCashOwnedBy_2 γ (2 * t) n j k ≠ 0 then 1 else lR_mustSign_87 ρ t n 4 0) := by
  intro j
  induction j with
  | zero =>
    intro k _ _
    rw [lL_holdsCashOwnedBy_2, lR_mustSign_34, if_neg (by decide)]
  | succ j ih =>
    intro k hk hj
    have i := h.2.2.1 k hk (by omega)
    have e := i.2
    rw [lL_holdsCashOwnedBy_2, lR_mustSign_34, ih (k + 1) (by omega) (by omega), i.1]
    unfold cS_isCashOwnedBy
    rw [e.1, e.2.2.1]
    by_cases c1 : ρ 12 (ρ 11 (4 * t + k)) = 0
    · by_cases c2 : ρ 14 (ρ 11 (4 * t + k)) = n
      · simp [c1, c2]
      · simp [c1, c2]
    · simp [c1]
theorem k_mustSign (h : kL γ ρ t) {n : Int} (hn : 0 ≤ n) : rR_mustSign ρ t n = (if ρ 1 t = n then 1 else cT_mustSign γ t n) := by
  have g9 : 0 ≤ ρ 9 t ∧ ρ 9 t ≤ 4 := h.1 9 t (by decide)
  have a := k_hasOwn h (n := n) (ρ 9 t).toNat 0 (by omega) (by omega)
  have b := k_owes h hn 4 0 (by omega)
  unfold rR_mustSign cT_mustSign
  rw [a, b.1, g_iss h hn, k_letDown h hn]
  unfold cL_holdsCashOwnedBy cT_owesMore
  rw [h.2.1.2.2.1]
  (repeat' split) <;> omega
theorem must_01 (h : kL γ ρ t) {n : Int} (hn : 0 ≤ n) : cT_mustSign γ t n = 0 ∨ cT_mustSign γ t n = 1 := by
  unfold cT_mustSign
  (repeat' split) <;> omega
theorem needs_val (γ : z_Sg) {b m0 m1 m2 m3 : Int} (hb : 0 ≤ b ∧ b ≤ 3) (h0 : m0 = 0 ∨ m0 = 1) (h1 : m1 = 0 ∨ m1 = 1) (h2 : m2 = 0 ∨ m2 = 1) (h3 : m3 = 0 ∨ m3 = 1) : (if m3 = 0 then (if m2 = 0 then (if m1 = 0 then (if m0 = 0 then zshl 1 b else zor (zshl 1 b) (zshl 1 0)) else zor (if m0 = 0 then zshl 1 b else zor (zshl 1 b) (zshl 1 0)) (zshl 1 1)) else zor (if m1 = 0 then (if m0 = 0 then zshl 1 b else zor (zshl 1 b) (zshl 1 0)) else zor (if m0 = 0 then zshl 1 b else zor (zshl 1 b) (zshl 1 0)) (zshl 1 1)) (zshl 1 2)) else zor (if m2 = 0 then (if m1 = 0 then (if m0 = 0 then zshl 1 b else zor (zshl 1 b) (zshl 1 0)) else zor (if m0 = 0 then zshl 1 b else zor (zshl 1 b) (zshl 1 0)) (zshl 1 1)) else zor (if m1 = 0 then (if m0 = 0 then zshl 1 b else zor (zshl 1 b) (zshl 1 0)) else zor (if m0 = 0 then zshl 1 b else zor (zshl 1 b) (zshl 1 0)) (zshl 1 1)) (zshl 1 2)) (zshl 1 3)) = 8 * (if b = 3 then 1 else m3) + 4 * (if b = 2 then 1 else m2) + 2 * (if b = 1 then 1 else m1) + (if b = 0 then 1 else m0) := by
  have hc : b = 0 ∨ b = 1 ∨ b = 2 ∨ b = 3 := by omega
  rcases hc with rfl | rfl | rfl | rfl <;> rcases h0 with rfl | rfl <;> rcases h1 with rfl | rfl <;> rcases h2 with rfl | rfl <;> rcases h3 with rfl | rfl <;> decide
theorem needs_c (γ : z_Sg) (t : Int) : cT_needs γ t = (if cT_mustSign γ t 3 = 0 then (if cT_mustSign γ t 2 = 0 then (if cT_mustSign γ t 1 = 0 then (if cT_mustSign γ t 0 = 0 then zshl 1 (γ 20 t) else zor (zshl 1 (γ 20 t)) (zshl 1 0)) else zor (if cT_mustSign γ t 0 = 0 then zshl 1 (γ 20 t) else zor (zshl 1 (γ 20 t)) (zshl 1 0)) (zshl 1 1)) else zor (if cT_mustSign γ t 1 = 0 then (if cT_mustSign γ t 0 = 0 then zshl 1 (γ 20 t) else zor (zshl 1 (γ 20 t)) (zshl 1 0)) else zor (if cT_mustSign γ t 0 = 0 then zshl 1 (γ 20 t) else zor (zshl 1 (γ 20 t)) (zshl 1 0)) (zshl 1 1)) (zshl 1 2)) else zor (if cT_mustSign γ t 2 = 0 then (if cT_mustSign γ t 1 = 0 then (if cT_mustSign γ t 0 = 0 then zshl 1 (γ 20 t) else zor (zshl 1 (γ 20 t)) (zshl 1 0)) else zor (if cT_mustSign γ t 0 = 0 then zshl 1 (γ 20 t) else zor (zshl 1 (γ 20 t)) (zshl 1 0)) (zshl 1 1)) else zor (if cT_mustSign γ t 1 = 0 then (if cT_mustSign γ t 0 = 0 then zshl 1 (γ 20 t) else zor (zshl 1 (γ 20 t)) (zshl 1 0)) else zor (if cT_mustSign γ t 0 = 0 then zshl 1 (γ 20 t) else zor (zshl 1 (γ 20 t)) (zshl 1 0)) (zshl 1 1)) (zshl 1 2)) (zshl 1 3)) := by
  have step : ∀ (j : Nat) (k nd : Int), lT_needs_10 γ t (j + 1) k nd = lT_needs_10 γ t j (k + 1) (if cT_mustSign γ t k = 0 then nd else zor nd (zshl 1 k)) := by
    intro j k nd
    rw [lT_needs_10]
    split <;> rfl
  show lT_needs_10 γ t 4 0 (zshl 1 (γ 20 t)) = _
  rw [step, step, step, step]
  rfl
theorem needs_r (ρ : z_Sg) (t : Int) (hm : ∀ n : Int, 0 ≤ n → n ≤ 3 → rR_mustSign ρ t n = 0 ∨ rR_mustSign ρ t n = 1) : rR_needs ρ t = 8 * rR_mustSign ρ t 3 + 4 * rR_mustSign ρ t 2 + 2 * rR_mustSign ρ t 1 + rR_mustSign ρ t 0 := by
  have step : ∀ (j : Nat) (k sm : Int), 0 ≤ k → k ≤ 3 → lR_needs_4 ρ t (j + 1) k sm = lR_needs_4 ρ t j (k + (-1)) (2 * sm + rR_mustSign ρ t k) := by
    intro j k sm a b
    have c := hm k a b
    rw [lR_needs_4]
    split
    · congr 1; omega
    · congr 1; omega
  show lR_needs_4 ρ t 4 3 0 = _
  rw [step _ _ _ (by omega) (by omega), step _ _ _ (by omega) (by omega), step _ _ _ (by omega) (by omega), step _ _ _ (by omega) (by omega)]
  show 2 * (2 * (2 * (2 * 0 + rR_mustSign ρ t 3) + rR_mustSign ρ t 2) + rR_mustSign ρ t 1) + rR_mustSign ρ t 0 = _
  omega
theorem rmust_01 (h : kL γ ρ t) {n : Int} (hn : 0 ≤ n) : rR_mustSign ρ t n = 0 ∨ rR_mustSign ρ t n = 1 := by
  rw [k_mustSign h hn]
  have := must_01 h hn
  split <;> omega
theorem k_needs (h : kL γ ρ t) : cT_needs γ t = rR_needs ρ t := by
  have g1 : 0 ≤ ρ 1 t ∧ ρ 1 t ≤ 3 := h.1 1 t (by decide)
  rw [needs_c, needs_val γ (b := γ 20 t) (by rw [h.2.1.1]; exact g1) (must_01 h (by omega)) (must_01 h (by omega)) (must_01 h (by omega)) (must_01 h (by omega)), needs_r ρ t (fun n a _ => rmust_01 h a), k_mustSign h (n := 3) (by omega), k_mustSign h (n := 2) (by omega), k_mustSign h (n := 1) (by omega), k_mustSign h (n := 0) (by omega), h.2.1.1]
theorem needs_B (h : kL γ ρ t) {n : Int} (hn : 0 ≤ n ∧ n ≤ 3) : zB (rR_needs ρ t) n = decide (rR_mustSign ρ t n ≠ 0) := by
  rw [needs_r ρ t (fun n a _ => rmust_01 h a)]
  have a0 := rmust_01 h (n := 0) (by omega)
  have a1 := rmust_01 h (n := 1) (by omega)
  have a2 := rmust_01 h (n := 2) (by omega)
  have a3 := rmust_01 h (n := 3) (by omega)
  have hc : n = 0 ∨ n = 1 ∨ n = 2 ∨ n = 3 := by omega
  rcases hc with rfl | rfl | rfl | rfl <;> rcases a0 with a0 | a0 <;> rcases a1 with a1 | a1 <;> rcases a2 with a2 | a2 <;> rcases a3 with a3 | a3 <;> rw [a0, a1, a2, a3] <;> decide
-- valid
theorem k_valid (h : kL γ ρ t) : cT_isValid γ t = rR_valid ρ t := by
  have g9 : 0 ≤ ρ 9 t ∧ ρ 9 t ≤ 4 := h.1 9 t (by decide)
  have g10 : 0 ≤ ρ 10 t ∧ ρ 10 t ≤ 4 := h.1 10 t (by decide)
  have key : ∀ (j : Nat) (k : Int), 0 ≤ k → k + j = ρ 9 t → lT_isValid_24 γ t j k = lR_valid_20 ρ t j k := by
    intro j
    induction j with
    | zero => intro k _ _; rfl
    | succ j ih =>
      intro k hk hj
      have i := h.2.2.1 k hk (by omega)
      have e := i.2
      rw [lT_isValid_24, lR_valid_20, ih (k + 1) (by omega) (by omega), i.1]
      unfold cT_allowsInput cS_boundNumber cS_source
      rw [k_bound h.1 i.2, k_holds h, e.1, e.2.2.2.1, e.2.2.2.2, h.2.1.2.1]
      generalize rR_isInput ρ t (ρ 11 (4 * t + k) / 4 * 4 + ρ 16 (ρ 11 (4 * t + k))) = w
      generalize lR_valid_20 ρ t j (k + 1) = v
      (repeat' split) <;> omega
  unfold cT_isValid rR_valid
  rw [h.2.1.2.2.1, h.2.1.2.2.2, key _ 0 (by omega) (by omega)]
  (repeat' split) <;> omega
end
