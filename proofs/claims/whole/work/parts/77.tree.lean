-- the tree
def zmx (x y : Int) : Int := zxor (31 * x + 17 * y + 7) (zushr (31 * x + 17 * y + 7) 13)
def zT (f : Int → Int) : Nat → Int → Int
  | 0, i => f i
  | e + 1, i => zmx (zT f e (2 * i)) (zT f e (2 * i + 1))
section
variable {g : z_Gl} {γ ρ : z_Sg} {t h i : Int}
theorem k_leaf {x : Int} (L : kL γ ρ t) (h2 : γ 21 t = ρ 2 t) (h4 : γ 23 t = ρ 4 t) (hx : 0 ≤ x ∧ x ≤ 15) : cT_leaf γ t x = rR_leaf ρ t x := by
  have g9 : 0 ≤ ρ 9 t ∧ ρ 9 t ≤ 4 := L.1 9 t (by decide)
  have g10 : 0 ≤ ρ 10 t ∧ ρ 10 t ≤ 4 := L.1 10 t (by decide)
  have nd := k_needs L
  by_cases a1 : 3 ≤ x ∧ x ≤ 6
  · have e : cT_inputLeaf γ t (x - 3) = if ρ 9 t ≤ x - 3 then 0 else 1 + ρ 11 (4 * t + x - 3) := by
      unfold cT_inputLeaf
      rw [if_neg (by omega), L.2.1.2.2.1]
      by_cases c : ρ 9 t ≤ x - 3
      · rw [if_pos c, if_pos c]
      · rw [if_neg c, if_neg c, (L.2.2.1 (x - 3) (by omega) (by omega)).1, show 4 * t + (x - 3) = 4 * t + x - 3 by omega]
    unfold cT_leaf rR_leaf
    rw [e, if_neg (by omega : ¬ x < 3), if_neg (by omega : ¬ 6 < x)]
    generalize (if ρ 9 t ≤ x - 3 then (0 : Int) else 1 + ρ 11 (4 * t + x - 3)) = v
    have hc : x = 3 ∨ x = 4 ∨ x = 5 ∨ x = 6 := by omega
    rcases hc with rfl | rfl | rfl | rfl <;> rfl
  · by_cases a2 : 8 ≤ x ∧ x ≤ 11
    · have e : cT_outputLeaf γ t (x - 8) = if x - 8 < ρ 10 t then 1 + ρ 12 (4 * t + x - 8) + 3 * ρ 13 (4 * t + x - 8) + 12 * ρ 14 (4 * t + x - 8) + 48 * ρ 15 (4 * t + x - 8) + 49152 * (ρ 16 (4 * t + x - 8) + 1) else 0 := by
        unfold cT_outputLeaf
        rw [if_neg (by omega), L.2.1.2.2.2]
        by_cases c : x - 8 < ρ 10 t
        · have l := L.2.2.2 (x - 8) (by omega) c
          rw [if_neg (by omega), if_pos c, l.1]
          unfold cS_leafValue
          rw [l.2.1, l.2.2.1, l.2.2.2.1, l.2.2.2.2.1, l.2.2.2.2.2, show 4 * t + (x - 8) = 4 * t + x - 8 by omega]
          omega
        · rw [if_pos (by omega), if_neg c]
      unfold cT_leaf rR_leaf
      rw [e, if_neg (by omega : ¬ x < 3), if_pos (by omega : 6 < x), if_neg (by omega : ¬ x < 8), if_neg (by omega : ¬ 11 < x)]
      generalize (if x - 8 < ρ 10 t then 1 + ρ 12 (4 * t + x - 8) + 3 * ρ 13 (4 * t + x - 8) + 12 * ρ 14 (4 * t + x - 8) + 48 * ρ 15 (4 * t + x - 8) + 49152 * (ρ 16 (4 * t + x - 8) + 1) else 0) = v
      have hc : x = 8 ∨ x = 9 ∨ x = 10 ∨ x = 11 := by omega
      rcases hc with rfl | rfl | rfl | rfl <;> rfl
    · have hc : x = 0 ∨ x = 1 ∨ x = 2 ∨ x = 7 ∨ x = 12 ∨ x = 13 ∨ x = 14 ∨ x = 15 := by omega
      rcases hc with rfl | rfl | rfl | rfl | rfl | rfl | rfl | rfl
      · exact h2
      · exact L.2.1.2.1
      · exact h4
      · exact L.2.1.1
      · exact nd
      · rfl
      · rfl
      · rfl
theorem tc_38 {x0 : Int} (L : kL γ ρ t) (h2 : γ 21 t = ρ 2 t) (h4 : γ 23 t = ρ 4 t) : ∀ (j : Nat) (k : Int) (δ : z_Sg), (∀ c : Nat, c ≠ 10 → δ c = γ c) → 0 ≤ k → k + j ≤ 16 → ∀ x : Int, lH_tree_38 δ t h i j k 10 x = if k ≤ x ∧ x < k + j then rR_leaf ρ t x else δ 10 x := by
  intro j
  induction j with
  | zero =>
    intro k δ _ _ _ x
    rw [if_neg (by omega)]
    rfl
  | succ j ih =>
    intro k δ hd k0 k1 x
    have L' : kL δ ρ t := by
      have l := L
      unfold kL kSt at l ⊢
      rw [hd 20 (by decide), hd 22 (by decide), hd 32 (by decide), hd 33 (by decide), hd 34 (by decide), hd 35 (by decide), hd 36 (by decide), hd 37 (by decide), hd 38 (by decide)]
      exact l
    have e : lH_tree_38 δ t h i (j + 1) k = lH_tree_38 (z_up δ 10 k (cT_leaf δ t k)) t h i j (k + 1) := rfl
    rw [e, ih (k + 1) (z_up δ 10 k (cT_leaf δ t k)) (fun c hc => by rw [z_up_n hc, hd c hc]) (by omega) (by omega), z_up_s, k_leaf L' (by rw [hd 21 (by decide)]; exact h2) (by rw [hd 23 (by decide)]; exact h4) (by omega)]
    by_cases c : x = k
    · subst c
      rw [if_neg (by omega), zup_s, if_pos (by omega)]
    · rw [zup_n c]
      by_cases c2 : k ≤ x ∧ x < k + ((j + 1 : Nat) : Int)
      · rw [if_pos c2, if_pos (by omega)]
      · rw [if_neg c2, if_neg (by omega)]
theorem tc_77 : ∀ (j : Nat) (k : Int) (δ : z_Sg), 0 ≤ k → ∀ x : Int, lH_tree_77 δ t h i j k 10 x = if k ≤ x ∧ x < k + j then zmx (δ 10 (2 * x)) (δ 10 (2 * x + 1)) else δ 10 x := by
  intro j
  induction j with
  | zero =>
    intro k δ _ x
    rw [if_neg (by omega)]
    rfl
  | succ j ih =>
    intro k δ k0 x
    have e : lH_tree_77 δ t h i (j + 1) k = lH_tree_77 (z_up δ 10 k (zmx (δ 10 (2 * k)) (δ 10 (2 * k + 1)))) t h i j (k + 1) := rfl
    rw [e, ih (k + 1) _ (by omega), z_up_s]
    by_cases c : x = k
    · subst c
      rw [if_neg (by omega), zup_s, if_pos (by omega)]
    · rw [zup_n c]
      by_cases c2 : k ≤ x ∧ x < k + ((j + 1 : Nat) : Int)
      · rw [if_pos c2, if_pos (by omega), zup_n (by omega), zup_n (by omega)]
      · rw [if_neg c2, if_neg (by omega)]
def zw (d : Nat) : Int := match d with
  | 0 => 16
  | 1 => 8
  | 2 => 4
  | 3 => 2
  | _ => 1
theorem tc_68 {f : Int → Int} : ∀ (j d : Nat) (δ : z_Sg), j + d ≤ 4 → (∀ x : Int, 0 ≤ x → x < zw d → δ 10 x = zT f d x) → ∀ x : Int, 0 ≤ x → x < zw (d + j) → lH_tree_68 δ t h i j ((d : Int) + 1) 10 x = zT f (d + j) x := by
  intro j
  induction j with
  | zero => intro d δ _ hx x x0 x1; exact hx x x0 x1
  | succ j ih =>
    intro d δ hj hx x x0 x1
    have hw : zshr 16 ((d : Int) + 1) = zw (d + 1) ∧ 2 * zw (d + 1) = zw d ∧ 0 ≤ zw (d + 1) := by
      have hc : d = 0 ∨ d = 1 ∨ d = 2 ∨ d = 3 := by omega
      rcases hc with rfl | rfl | rfl | rfl <;> decide
    have e : lH_tree_68 δ t h i (j + 1) ((d : Int) + 1) = lH_tree_68 (lH_tree_77 δ t h i (zw (d + 1)).toNat 0) t h i j (((d + 1 : Nat) : Int) + 1) := by
      show lH_tree_68 (lH_tree_77 δ t h i (zshr 16 ((d : Int) + 1)).toNat 0) t h i j ((d : Int) + 1 + 1) = _
      rw [hw.1]
      rfl
    rw [e, show d + (j + 1) = (d + 1) + j by omega]
    apply ih (d + 1) _ (by omega)
    · intro y y0 y1
      rw [tc_77 _ _ _ (by omega), if_pos (by omega), hx (2 * y) (by omega) (by omega), hx (2 * y + 1) (by omega) (by omega)]
      rfl
    · exact x0
    · rw [show (d + 1) + j = d + (j + 1) by omega]
      exact x1
theorem tr_39 {p : Int} (hp : zshl 1 h = p) (L : kL γ ρ t) (h2 : γ 21 t = ρ 2 t) (h4 : γ 23 t = ρ 4 t) (gt : 0 ≤ t ∧ t ≤ 19) : ∀ (j : Nat) (k : Int) (σ : z_Sg), (∀ c : Nat, c ≠ 26 → σ c = ρ c) → z_wf σ → 0 ≤ k → (∀ y : Int, k ≤ y → y < k + j → 0 ≤ i * p + y ∧ i * p + y ≤ 15) → ∀ x : Int, lR_tree_39 σ t h i j k 26 x = if k ≤ x ∧ x < k + j then rR_leaf ρ t (i * p + x) else σ 26 x := by
  intro j
  induction j with
  | zero =>
    intro k σ _ _ _ _ x
    rw [if_neg (by omega)]
    rfl
  | succ j ih =>
    intro k σ hd hw k0 hy x
    have gy := hy k (by omega) (by omega)
    have L' : kL γ σ t := by
      refine ⟨hw, ?_⟩
      have l := L.2
      unfold kSt at l ⊢
      rw [hd 1 (by decide), hd 3 (by decide), hd 9 (by decide), hd 10 (by decide), hd 11 (by decide), hd 12 (by decide), hd 13 (by decide), hd 14 (by decide), hd 15 (by decide), hd 16 (by decide)]
      exact l
    have el : rR_leaf σ t (i * p + k) = rR_leaf ρ t (i * p + k) := by
      rw [← k_leaf L h2 h4 gy, ← k_leaf L' (by rw [hd 2 (by decide)]; exact h2) (by rw [hd 4 (by decide)]; exact h4) gy]
    have b := bR_leaf hw t (i * p + k) gt gy
    have e : lR_tree_39 σ t h i (j + 1) k = lR_tree_39 (z_up σ 26 k (rR_leaf σ t (i * p + k))) t h i j (k + 1) := by
      show lR_tree_39 (z_up σ 26 k (rR_leaf σ t (i * zshl 1 h + k))) t h i j (k + 1) = _
      rw [hp]
    rw [e, ih (k + 1) _ (fun c hc => by rw [z_up_n hc, hd c hc]) (z_wf_up hw (by show (-2147483648 : Int) ≤ _; omega) (by show _ ≤ (2147483647 : Int); omega)) (by omega) (fun y a b => hy y (by omega) (by omega)), z_up_s, el]
    by_cases c : x = k
    · subst c
      rw [if_neg (by omega), zup_s, if_pos (by omega)]
    · rw [zup_n c]
      by_cases c2 : k ≤ x ∧ x < k + ((j + 1 : Nat) : Int)
      · rw [if_pos c2, if_pos (by omega)]
      · rw [if_neg c2, if_neg (by omega)]
theorem tr_85 : ∀ (j : Nat) (k : Int) (σ : z_Sg), 0 ≤ k → ∀ x : Int, lR_tree_85 σ t h i j k 26 x = if k ≤ x ∧ x < k + j then zmx (σ 26 (2 * x)) (σ 26 (2 * x + 1)) else σ 26 x := by
  intro j
  induction j with
  | zero =>
    intro k σ _ x
    rw [if_neg (by omega)]
    rfl
  | succ j ih =>
    intro k σ k0 x
    have e : lR_tree_85 σ t h i (j + 1) k = lR_tree_85 (z_up σ 26 k (zmx (σ 26 (2 * k)) (σ 26 (2 * k + 1)))) t h i j (k + 1) := rfl
    rw [e, ih (k + 1) _ (by omega), z_up_s]
    by_cases c : x = k
    · subst c
      rw [if_neg (by omega), zup_s, if_pos (by omega)]
    · rw [zup_n c]
      by_cases c2 : k ≤ x ∧ x < k + ((j + 1 : Nat) : Int)
      · rw [if_pos c2, if_pos (by omega), zup_n (by omega), zup_n (by omega)]
      · rw [if_neg c2, if_neg (by omega)]
theorem tr_77 {f : Int → Int} : ∀ (r j d : Nat) (σ : z_Sg), r ≤ j → (∀ x : Int, 0 ≤ x → x < 2 ^ r → σ 26 x = zT f d (i * 2 ^ r + x)) → lR_tree_77 σ t h i j (2 ^ r / 2) 26 0 = zT f (d + r) i := by
  intro r
  induction r with
  | zero =>
    intro j d σ _ hx
    have a := hx 0 (by omega) (by decide)
    rw [show i * 2 ^ 0 + 0 = i by rw [Int.pow_zero]; omega] at a
    have e : lR_tree_77 σ t h i j (2 ^ 0 / 2) = σ := by
      cases j with
      | zero => rfl
      | succ j => rfl
    rw [e]
    exact a
  | succ r ih =>
    intro j d σ hj hx
    obtain ⟨m, rfl⟩ : ∃ m : Nat, j = m + 1 := ⟨j - 1, by omega⟩
    have pp : (2 : Int) ^ (r + 1) = 2 * 2 ^ r := by rw [Int.pow_succ]; omega
    have p0 : 0 < (2 : Int) ^ r := Int.pow_pos (by decide)
    have eh : (2 : Int) ^ (r + 1) / 2 = 2 ^ r := by omega
    have e : lR_tree_77 σ t h i (m + 1) (2 ^ (r + 1) / 2) = lR_tree_77 (lR_tree_85 σ t h i ((2 : Int) ^ r).toNat 0) t h i m (2 ^ r / 2) := by
      rw [eh]
      show (if (2 : Int) ^ r ≤ 0 then σ else lR_tree_77 (lR_tree_85 σ t h i ((2 : Int) ^ r).toNat 0) t h i m (2 ^ r / 2)) = _
      rw [if_neg (by omega)]
    rw [e, show d + (r + 1) = (d + 1) + r by omega]
    apply ih m (d + 1) _ (by omega)
    intro x x0 x1
    have im : i * (2 * 2 ^ r) = 2 * (i * 2 ^ r) := Int.mul_left_comm i 2 (2 ^ r)
    rw [tr_85 _ _ _ (by omega), if_pos (by omega), hx (2 * x) (by omega) (by omega), hx (2 * x + 1) (by omega) (by omega), pp, im]
    show _ = zmx (zT f d (2 * (i * 2 ^ r + x))) (zT f d (2 * (i * 2 ^ r + x) + 1))
    rw [show 2 * (i * 2 ^ r + x) = 2 * (i * 2 ^ r) + 2 * x by omega, show 2 * (i * 2 ^ r) + 2 * x + 1 = 2 * (i * 2 ^ r) + (2 * x + 1) by omega]
theorem P_tree (k : zK γ ρ) (hc : zC g γ) (r1 : z_rg t) (r2 : z_rg h) (r3 : z_rg i) : zAn (cH_tree γ t h i) (rR_tree ρ t h i) := by
  have hw := k.1.1
  have w1 := wH_tree hc t h i r1 r2 r3
  have w2 := wR_tree hw t h i r1 r2 r3
  have f1 := fun c (q : c ≠ 10) => kH_tree (γ := γ) t h i (c := c) q
  have r39 : ∀ (c : Nat), c ≠ 26 → ∀ (j : Nat) (q : Int) (σ : z_Sg), lR_tree_39 σ t h i j q c = σ c := by
    intro c hc j
    induction j with
    | zero => intro q σ; rfl
    | succ j ih =>
      intro q σ
      show lR_tree_39 (z_up σ 26 q _) t h i j (q + 1) c = σ c
      rw [ih, z_up_n hc]
  have r85 : ∀ (c : Nat), c ≠ 26 → ∀ (j : Nat) (q : Int) (σ : z_Sg), lR_tree_85 σ t h i j q c = σ c := by
    intro c hc j
    induction j with
    | zero => intro q σ; rfl
    | succ j ih =>
      intro q σ
      show lR_tree_85 (z_up σ 26 q _) t h i j (q + 1) c = σ c
      rw [ih, z_up_n hc]
  have r77 : ∀ (c : Nat), c ≠ 26 → ∀ (j : Nat) (q : Int) (σ : z_Sg), lR_tree_77 σ t h i j q c = σ c := by
    intro c hc j
    induction j with
    | zero => intro q σ; rfl
    | succ j ih =>
      intro q σ
      show (if q ≤ 0 then σ else lR_tree_77 (lR_tree_85 σ t h i q.toNat 0) t h i j (q / 2)) c = σ c
      split
      · rfl
      · rw [ih, r85 c hc]
  have f2 : ∀ c : Nat, c ≠ 26 → (rR_tree ρ t h i).2 c = ρ c := by
    intro c hc
    unfold rR_tree
    (repeat' split) <;> first | rfl | (show lR_tree_77 _ t h i _ _ c = ρ c; rw [r77 c hc, r39 c hc])
  have K := E_scr k w1.1 w2 (fun c _ b => f1 c b) (fun c _ b => f2 c b)
  refine ⟨?_, K⟩
  unfold cH_tree rR_tree
  rw [isTx_iff, kB_many k.1]
  by_cases ct : 0 ≤ t ∧ t < ρ 0 0
  case neg => rw [if_neg ct, if_neg ct, if_pos (show (0 : Int) = 0 from rfl)]
  rw [if_pos ct, if_pos ct, if_neg (show ¬ ((1 : Int) = 0) by decide)]
  by_cases c1 : h < 0
  · rw [if_pos c1, if_pos c1]
  rw [if_neg c1, if_neg c1]
  by_cases c2 : 4 < h
  · rw [if_pos c2, if_pos c2]
  rw [if_neg c2, if_neg c2]
  by_cases c3 : i < 0
  · rw [if_pos c3, if_pos c3]
  rw [if_neg c3, if_neg c3]
  by_cases c4 : i < zshr 16 h
  case neg => rw [if_neg c4, if_neg c4]
  rw [if_pos c4, if_pos c4]
  have gm : 0 ≤ ρ 0 0 ∧ ρ 0 0 ≤ 20 := hw 0 0 (by decide)
  have o := kB_one k.1 ct.1 ct.2
  have L := kB_L k.1 ct.1 ct.2
  have hh : zshr 16 h = zw h.toNat ∧ zshl 1 h = 2 ^ h.toNat ∧ (∀ y : Int, 0 ≤ y → y < 2 ^ h.toNat → i < zw h.toNat → 0 ≤ i * 2 ^ h.toNat + y ∧ i * 2 ^ h.toNat + y ≤ 15) := by
    have hc : h = 0 ∨ h = 1 ∨ h = 2 ∨ h = 3 ∨ h = 4 := by omega
    rcases hc with rfl | rfl | rfl | rfl | rfl
    · refine ⟨by decide, by decide, fun y a b c => ?_⟩
      have b' : y < 1 := b
      have c' : i < 16 := c
      show 0 ≤ i * 1 + y ∧ i * 1 + y ≤ 15
      omega
    · refine ⟨by decide, by decide, fun y a b c => ?_⟩
      have b' : y < 2 := b
      have c' : i < 8 := c
      show 0 ≤ i * 2 + y ∧ i * 2 + y ≤ 15
      omega
    · refine ⟨by decide, by decide, fun y a b c => ?_⟩
      have b' : y < 4 := b
      have c' : i < 4 := c
      show 0 ≤ i * 4 + y ∧ i * 4 + y ≤ 15
      omega
    · refine ⟨by decide, by decide, fun y a b c => ?_⟩
      have b' : y < 8 := b
      have c' : i < 2 := c
      show 0 ≤ i * 8 + y ∧ i * 8 + y ≤ 15
      omega
    · refine ⟨by decide, by decide, fun y a b c => ?_⟩
      have b' : y < 16 := b
      have c' : i < 1 := c
      show 0 ≤ i * 16 + y ∧ i * 16 + y ≤ 15
      omega
  rw [hh.1] at c4
  have A := tc_68 (f := rR_leaf ρ t) (t := t) (h := h) (i := i) h.toNat 0 (lH_tree_38 γ t h i 16 0) (by omega) (fun x x0 x1 => by
    have x1' : x < 16 := x1
    rw [tc_38 (x0 := 0) L o.2.1 o.2.2.2.1 16 0 γ (fun _ _ => rfl) (by omega) (by omega), if_pos (by omega)]
    rfl) i (by omega) (by rw [Nat.zero_add]; exact c4)
  have p0 : 0 < (2 : Int) ^ h.toNat := Int.pow_pos (by decide)
  have B := tr_77 (f := rR_leaf ρ t) (t := t) (h := h) (i := i) h.toNat 4 0 (lR_tree_39 ρ t h i ((2 : Int) ^ h.toNat).toNat 0) (by omega) (fun x x0 x1 => by
    rw [tr_39 hh.2.1 L o.2.1 o.2.2.2.1 (by omega) _ 0 ρ (fun _ _ => rfl) hw (by omega) (fun y a b => hh.2.2 y a (by omega) c4), if_pos (by omega)]
    rfl)
  show lH_tree_68 (lH_tree_38 γ t h i 16 0) t h i h.toNat 1 10 i = lR_tree_77 (lR_tree_39 ρ t h i (zshl 1 h).toNat 0) t h i 4 (zshl 1 h / 2) 26 0
  rw [hh.2.1]
  exact A.trans B.symm
end
