-- paying
def zcs (ρ : z_Sg) (t iss am : Int) : Nat → Int → Int → List Int
  | 0, _, _ => []
  | j + 1, k, tt => if am ≤ tt then [] else if rR_coin ρ t iss k = 0 then zcs ρ t iss am j (k + 1) tt else k :: zcs ρ t iss am j (k + 1) (tt + ρ 15 k)
def zfo (t : Int) : List Int → z_Sg → z_Sg
  | [], σ => σ
  | s :: l, σ => zfo t l (rR_addInput σ t s).2
def zsm (ρ : z_Sg) : List Int → Int
  | [] => 0
  | s :: l => ρ 15 s + zsm ρ l
section
variable {g : z_Gl} {γ ρ : z_Sg} {t n iss am : Int}
theorem zcs_s {j : Nat} {k tt : Int} : zcs ρ t iss am (j + 1) k tt = if am ≤ tt then [] else if rR_coin ρ t iss k = 0 then zcs ρ t iss am j (k + 1) tt else k :: zcs ρ t iss am j (k + 1) (tt + ρ 15 k) := rfl
theorem inVault_no (h : kB γ ρ) {s : Int} (s0 : 0 ≤ s) (hs : ¬ zEx γ s) : rR_inVault ρ n s = 0 := by
  have hC : ¬ (0 ≤ s / 4 ∧ s / 4 < ρ 0 0 ∧ 0 ≤ s % 4 ∧ s % 4 < ρ 10 (s / 4)) := by
    intro q
    apply hs
    refine ⟨s0, by rw [kB_many h]; exact q.2.1, ?_⟩
    rw [(kB_one h q.1 q.2.1).2.2.2.2.2.2.2.2]
    exact q.2.2.2
  unfold rR_inVault
  rw [isSt_iff, if_neg hC, if_pos rfl]
theorem coin_no (h : kB γ ρ) {s : Int} (s0 : 0 ≤ s) (hs : ¬ zEx γ s) : rR_coin ρ t iss s = 0 := by
  unfold rR_coin
  rw [inVault_no h s0 hs, if_pos (show (0 : Int) = 0 from rfl)]
theorem coin_ex (h : zK γ ρ) {s : Int} (s0 : 0 ≤ s) (hs : rR_coin ρ t iss s ≠ 0) : zEx γ s ∧ ρ 5 (s / 4) ≠ 0 := by
  have gm : 0 ≤ ρ 0 0 ∧ ρ 0 0 ≤ 20 := h.1.1 0 0 (by decide)
  have g1 : 0 ≤ ρ 1 t ∧ ρ 1 t ≤ 3 := h.1.1 1 t (by decide)
  by_cases c : zEx γ s
  · refine ⟨c, ?_⟩
    have c2 := c.2.1
    rw [kB_many h.1] at c2
    by_cases c3 : ρ 18 (20 * ρ 1 t + s / 4) = 2
    · exact (h.2.2.2.2.2.2.2.1 (ρ 1 t) (s / 4) g1.1 g1.2 (by omega) (by omega) (by omega)).2
    · exfalso
      apply hs
      have e : rR_inVault ρ (ρ 1 t) s = 0 := by
        unfold rR_inVault
        simp [c3]
      unfold rR_coin
      rw [e, if_pos rfl]
  · exact absurd (coin_no h.1 s0 c) hs
theorem zcs_end (h : kB γ ρ) : ∀ (d : Nat) (k tt : Int), 0 ≤ k → 4 * ρ 0 0 ≤ k → zcs ρ t iss am d k tt = [] := by
  intro d
  induction d with
  | zero => intro k tt _ _; rfl
  | succ d ih =>
    intro k tt k0 k1
    have e : rR_coin ρ t iss k = 0 := coin_no h k0 (fun q => by have := q.2.1; rw [kB_many h] at this; omega)
    rw [zcs_s, e, if_pos (show (0 : Int) = 0 from rfl), ih (k + 1) tt (by omega) (by omega)]
    split <;> rfl
theorem zcs_cut (h : kB γ ρ) (d : Nat) : ∀ (j : Nat) (k tt : Int), 0 ≤ k → k + j = 4 * ρ 0 0 → zcs ρ t iss am (j + d) k tt = zcs ρ t iss am j k tt := by
  intro j
  induction j with
  | zero =>
    intro k tt k0 k1
    rw [show 0 + d = d by omega, zcs_end h d k tt k0 (by omega)]
    rfl
  | succ j ih =>
    intro k tt k0 k1
    rw [show j + 1 + d = (j + d) + 1 by omega, zcs_s, zcs_s, ih (k + 1) tt (by omega) (by omega), ih (k + 1) (tt + ρ 15 k) (by omega) (by omega)]
theorem zcs_mem : ∀ (j : Nat) (k tt : Int), 0 ≤ k → k + j ≤ 80 → ∀ s ∈ zcs ρ t iss am j k tt, (k ≤ s ∧ s ≤ 79) ∧ rR_coin ρ t iss s ≠ 0 := by
  intro j
  induction j with
  | zero => intro k tt _ _ s hs; exact absurd hs (by simp [zcs])
  | succ j ih =>
    intro k tt k0 k1 s hs
    rw [zcs_s] at hs
    by_cases c1 : am ≤ tt
    · rw [if_pos c1] at hs
      exact absurd hs (by simp)
    · rw [if_neg c1] at hs
      by_cases c2 : rR_coin ρ t iss k = 0
      · rw [if_pos c2] at hs
        have a := ih (k + 1) tt (by omega) (by omega) s hs
        exact ⟨by omega, a.2⟩
      · rw [if_neg c2, List.mem_cons] at hs
        rcases hs with hs | hs
        · subst hs
          exact ⟨by omega, c2⟩
        · have a := ih (k + 1) (tt + ρ 15 k) (by omega) (by omega) s hs
          exact ⟨by omega, a.2⟩
theorem pay_r1 {to : Int} : ∀ (j : Nat) (k tt cn : Int), k ≤ (lR_pay_61 ρ t iss to am j k tt cn).1 ∧ (lR_pay_61 ρ t iss to am j k tt cn).2.1 = tt + zsm ρ (zcs ρ t iss am j k tt) ∧ (lR_pay_61 ρ t iss to am j k tt cn).2.2 = cn + ((zcs ρ t iss am j k tt).length : Int) := by
  intro j
  induction j with
  | zero =>
    intro k tt cn
    refine ⟨Int.le_refl _, ?_, ?_⟩
    · show tt = tt + 0
      omega
    · show cn = cn + ((0 : Nat) : Int)
      omega
  | succ j ih =>
    intro k tt cn
    have st : lR_pay_61 ρ t iss to am (j + 1) k tt cn = if am ≤ tt then (k, tt, cn) else if rR_coin ρ t iss k = 0 then lR_pay_61 ρ t iss to am j (k + 1) tt cn else lR_pay_61 ρ t iss to am j (k + 1) (tt + ρ 15 k) (cn + 1) := rfl
    rw [st, zcs_s]
    by_cases c1 : am ≤ tt
    · rw [if_pos c1, if_pos c1]
      refine ⟨Int.le_refl _, ?_, ?_⟩
      · show tt = tt + 0
        omega
      · show cn = cn + ((0 : Nat) : Int)
        omega
    · rw [if_neg c1, if_neg c1]
      by_cases c2 : rR_coin ρ t iss k = 0
      · rw [if_pos c2, if_pos c2]
        have a := ih (k + 1) tt cn
        exact ⟨by omega, a.2⟩
      · rw [if_neg c2, if_neg c2]
        have a := ih (k + 1) (tt + ρ 15 k) (cn + 1)
        refine ⟨by omega, ?_, ?_⟩
        · rw [a.2.1]
          show _ = tt + (ρ 15 k + zsm ρ (zcs ρ t iss am j (k + 1) (tt + ρ 15 k)))
          omega
        · rw [a.2.2, List.length_cons]
          omega
theorem pay_r2 {to : Int} (gt : 0 ≤ t ∧ t ≤ 19) : ∀ (j : Nat) (k tt cn : Int) (σ : z_Sg), 0 ≤ k → k + j ≤ 80 → z_wf σ → σ 9 t + ((zcs ρ t iss am j k tt).length : Int) ≤ 4 → (∀ i : Int, k ≤ i → i ≤ 79 → rR_coin σ t iss i = rR_coin ρ t iss i) → lR_pay_163 σ t iss to am ((lR_pay_61 ρ t iss to am j k tt cn).1 - k).toNat k = zfo t (zcs ρ t iss am j k tt) σ := by
  intro j
  induction j with
  | zero =>
    intro k tt cn σ _ _ _ _ _
    show lR_pay_163 σ t iss to am (k - k).toNat k = σ
    rw [show (k - k).toNat = 0 by omega]
    rfl
  | succ j ih =>
    intro k tt cn σ k0 k1 hw hn hq
    have st : lR_pay_61 ρ t iss to am (j + 1) k tt cn = if am ≤ tt then (k, tt, cn) else if rR_coin ρ t iss k = 0 then lR_pay_61 ρ t iss to am j (k + 1) tt cn else lR_pay_61 ρ t iss to am j (k + 1) (tt + ρ 15 k) (cn + 1) := rfl
    have s3 : ∀ m : Nat, lR_pay_163 σ t iss to am (m + 1) k = if rR_coin σ t iss k = 0 then lR_pay_163 σ t iss to am m (k + 1) else lR_pay_163 (rR_addInput σ t k).2 t iss to am m (k + 1) := fun m => rfl
    have qk := hq k (Int.le_refl _) (by omega)
    rw [st]
    rw [zcs_s] at hn ⊢
    by_cases c1 : am ≤ tt
    · rw [if_pos c1, if_pos c1]
      show lR_pay_163 σ t iss to am (k - k).toNat k = σ
      rw [show (k - k).toNat = 0 by omega]
      rfl
    · rw [if_neg c1] at hn
      rw [if_neg c1, if_neg c1]
      by_cases c2 : rR_coin ρ t iss k = 0
      · rw [if_pos c2] at hn
        rw [if_pos c2, if_pos c2]
        have le := (pay_r1 (ρ := ρ) (t := t) (iss := iss) (am := am) (to := to) j (k + 1) tt cn).1
        rw [show ((lR_pay_61 ρ t iss to am j (k + 1) tt cn).1 - k).toNat = ((lR_pay_61 ρ t iss to am j (k + 1) tt cn).1 - (k + 1)).toNat + 1 by omega, s3, qk, if_pos c2]
        exact ih (k + 1) tt cn σ (by omega) (by omega) hw hn (fun i a b => hq i (by omega) b)
      · rw [if_neg c2, List.length_cons] at hn
        rw [if_neg c2, if_neg c2]
        have le := (pay_r1 (ρ := ρ) (t := t) (iss := iss) (am := am) (to := to) j (k + 1) (tt + ρ 15 k) (cn + 1)).1
        rw [show ((lR_pay_61 ρ t iss to am j (k + 1) (tt + ρ 15 k) (cn + 1)).1 - k).toNat = ((lR_pay_61 ρ t iss to am j (k + 1) (tt + ρ 15 k) (cn + 1)).1 - (k + 1)).toNat + 1 by omega, s3, qk, if_neg c2]
        show _ = zfo t (zcs ρ t iss am j (k + 1) (tt + ρ 15 k)) (rR_addInput σ t k).2
        apply ih (k + 1) (tt + ρ 15 k) (cn + 1) (rR_addInput σ t k).2 (by omega) (by omega) (wR_addInput hw t k gt (by omega) (by omega))
        · rw [aI_9t]
          omega
        · intro i i0 i1
          rw [aI_coin hw (by omega) (by omega)]
          exact hq i (by omega) i1
theorem pay_c {to : Int} (t0 : 0 ≤ t) (t1 : t < ρ 0 0) : ∀ (j : Nat) (k tk tt : Int) (γ : z_Sg), zK γ ρ → 0 ≤ k → k + j = 4 * ρ 0 0 → (0 ≤ tk ∧ tk ≤ k) → (lH_pay_56 γ t iss to am j k tk tt).1 = tk + ((zcs ρ t iss am j k tt).length : Int) ∧ (lH_pay_56 γ t iss to am j k tk tt).2.1 = tt + zsm ρ (zcs ρ t iss am j k tt) ∧ (∀ i : Int, 0 ≤ i → i < tk → (lH_pay_56 γ t iss to am j k tk tt).2.2 9 i = γ 9 i) ∧ ∀ (i : Nat) (x : Int), (zcs ρ t iss am j k tt)[i]? = some x → (lH_pay_56 γ t iss to am j k tk tt).2.2 9 (tk + i) = x := by
  intro j
  induction j with
  | zero =>
    intro k tk tt γ _ _ _ _
    refine ⟨?_, ?_, fun i _ _ => rfl, fun i x hx => ?_⟩
    · show tk = tk + ((0 : Nat) : Int)
      omega
    · show tt = tt + 0
      omega
    · simp [zcs] at hx
  | succ j ih =>
    intro k tk tt γ h k0 k1 gk
    have gm : 0 ≤ ρ 0 0 ∧ ρ 0 0 ≤ 20 := h.1.1 0 0 (by decide)
    have st : lH_pay_56 γ t iss to am (j + 1) k tk tt = if am ≤ tt then (tk, tt, γ) else if 0 ≤ k ∧ k / 4 < γ 0 0 ∧ k % 4 < γ 32 (2 * (k / 4) + 1) then if cH_isCoin γ k iss t = 0 then lH_pay_56 γ t iss to am j (k + 1) tk tt else lH_pay_56 (z_up γ 9 tk k) t iss to am j (k + 1) (tk + 1) (tt + γ 37 k) else lH_pay_56 γ t iss to am j (k + 1) tk tt := rfl
    rw [st, zcs_s]
    by_cases c1 : am ≤ tt
    · rw [if_pos c1, if_pos c1]
      refine ⟨?_, ?_, fun i _ _ => rfl, fun i x hx => ?_⟩
      · show tk = tk + ((0 : Nat) : Int)
        omega
      · show tt = tt + 0
        omega
      · simp at hx
    · rw [if_neg c1, if_neg c1]
      by_cases c2 : 0 ≤ k ∧ k / 4 < γ 0 0 ∧ k % 4 < γ 32 (2 * (k / 4) + 1)
      · rw [if_pos c2, k_coin h.1 h.2.1 t0 t1 c2]
        by_cases c3 : rR_coin ρ t iss k = 0
        · rw [if_pos c3, if_pos c3]
          exact ih (k + 1) tk tt γ h (by omega) (by omega) (by omega)
        · rw [if_neg c3, if_neg c3]
          have e37 : γ 37 k = ρ 15 k := (h.1.2.2.2.2 k c2).1.2.2.2.1
          have K : zK (z_up γ 9 tk k) ρ := E_scr h (c_wf_up h.1.2.1 (by show (0 : Int) ≤ k; omega) (by show k ≤ 79; omega)) h.1.1 (fun c a _ => z_up_n a) (fun _ _ _ => rfl)
          have i := ih (k + 1) (tk + 1) (tt + γ 37 k) (z_up γ 9 tk k) K (by omega) (by omega) (by omega)
          rw [e37] at i ⊢
          refine ⟨?_, ?_, ?_, ?_⟩
          · rw [i.1, List.length_cons]
            omega
          · rw [i.2.1]
            show _ = tt + (ρ 15 k + zsm ρ (zcs ρ t iss am j (k + 1) (tt + ρ 15 k)))
            omega
          · intro x x0 x1
            rw [i.2.2.1 x x0 (by omega), z_up_s, zup_n (by omega)]
          · intro x y hx
            cases x with
            | zero =>
              have e : k = y := by simpa using hx
              rw [show tk + ((0 : Nat) : Int) = tk by omega, i.2.2.1 tk gk.1 (by omega), z_up_s, zup_s]
              exact e
            | succ x =>
              have e : (zcs ρ t iss am j (k + 1) (tt + ρ 15 k))[x]? = some y := by simpa using hx
              rw [show tk + ((x + 1 : Nat) : Int) = tk + 1 + (x : Int) by omega]
              exact i.2.2.2 x y e
      · rw [if_neg c2, coin_no h.1 k0 c2, if_pos rfl]
        exact ih (k + 1) tk tt γ h (by omega) (by omega) (by omega)
theorem take_c {tk : Int} (t0 : 0 ≤ t) : ∀ (l : List Int) (k : Int) (γ σ : z_Sg), zK γ σ → zC g γ → t < σ 0 0 → σ 5 t = 0 → (∀ s ∈ l, zEx γ s ∧ σ 5 (s / 4) ≠ 0) → (∀ (i : Nat) (x : Int), l[i]? = some x → γ 9 (k + i) = x) → σ 9 t + (l.length : Int) ≤ 4 → zK (lH_takeCoins_2 γ t tk l.length k) (zfo t l σ) ∧ ∀ c : Nat, c ≠ 9 → c ≠ 11 → zfo t l σ c = σ c := by
  intro l
  induction l with
  | nil => intro k γ σ h _ _ _ _ _ _; exact ⟨h, fun c _ _ => rfl⟩
  | cons s l ih =>
    intro k γ σ h hc t1 hd hl hr hn
    rw [List.length_cons] at hn
    have a := hl s (List.mem_cons_self ..)
    have e9 : γ 9 k = s := by
      have q := hr 0 s rfl
      rw [show k + ((0 : Nat) : Int) = k by omega] at q
      exact q
    have o := kB_one h.1 t0 t1
    have em := kB_many h.1
    have st : lH_takeCoins_2 γ t tk (l.length + 1) k = lH_takeCoins_2 (cT_addInput γ t s (s / 4)).2 t tk l.length (k + 1) := by
      show (if 0 ≤ γ 9 k ∧ γ 9 k / 4 < γ 0 0 ∧ γ 9 k % 4 < γ 32 (2 * (γ 9 k / 4) + 1) then lH_takeCoins_2 (cT_addInput γ t (γ 9 k) (γ 9 k / 4)).2 t tk l.length (k + 1) else lH_takeCoins_2 γ t tk l.length (k + 1)) = _
      rw [e9, if_pos (show 0 ≤ s ∧ s / 4 < γ 0 0 ∧ s % 4 < γ 32 (2 * (s / 4) + 1) from a.1)]
    have gs : 0 ≤ s / 4 ∧ s / 4 < γ 0 0 := by
      have := a.1.1
      have := a.1.2.1
      omega
    have w := wT_addInput hc t s (s / 4) (by omega) a.1 gs (by rw [o.2.2.2.2.2.2.2.1]; omega)
    have K := E_addInput h t0 t1 hd (by omega) a.1 rfl a.2 w.1 w.2.2
    rw [List.length_cons, st]
    show zK _ (zfo t l (rR_addInput σ t s).2) ∧ ∀ c : Nat, c ≠ 9 → c ≠ 11 → zfo t l (rR_addInput σ t s).2 c = σ c
    have i := ih (k + 1) (cT_addInput γ t s (s / 4)).2 (rR_addInput σ t s).2 K w t1 hd (by
      intro x hx
      have b := hl x (List.mem_cons_of_mem _ hx)
      refine ⟨?_, b.2⟩
      have c32 : (cT_addInput γ t s (s / 4)).2 32 (2 * (x / 4) + 1) = γ 32 (2 * (x / 4) + 1) := by
        show zup (γ 32) (2 * t) (γ 32 (2 * t) + 1) (2 * (x / 4) + 1) = _
        rw [zup_n (by omega)]
      refine ⟨b.1.1, b.1.2.1, ?_⟩
      rw [c32]
      exact b.1.2.2) (by
      intro i x hx
      have q := hr (i + 1) x (by simpa using hx)
      rw [show k + 1 + (i : Int) = k + ((i + 1 : Nat) : Int) by omega]
      exact q) (by rw [aI_9t]; omega)
    exact ⟨i.1, fun c c1 c2 => by rw [i.2 c c1 c2, aI_n σ t s c1 c2]⟩
theorem P_pay {to : Int} (h : zK γ ρ) (hc : zC g γ) (hg : zLog g γ) (r1 : z_rg t) (r2 : z_rg iss) (r3 : z_rg to) (r4 : z_rg am) : zAn (cH_pay γ t iss to am) (rR_pay ρ t iss to am) := by
  have hw := h.1.1
  have em := kB_many h.1
  have gm : 0 ≤ ρ 0 0 ∧ ρ 0 0 ≤ 20 := hw 0 0 (by decide)
  unfold cH_pay rR_pay
  rw [isTx_iff, isN_iff, isN_iff, isN_c, isN_c, em]
  by_cases ct : 0 ≤ t ∧ t < ρ 0 0
  case neg => rw [if_neg ct, if_neg ct, if_pos (show (0 : Int) = 0 from rfl)]; exact ⟨rfl, h⟩
  rw [if_pos ct, if_pos ct, if_neg (show ¬ ((1 : Int) = 0) by decide)]
  by_cases ci : 0 ≤ iss ∧ iss ≤ 3
  case neg => rw [if_neg ci, if_pos (show (0 : Int) = 0 from rfl), if_pos (show (0 : Int) = 0 from rfl)]; exact ⟨rfl, h⟩
  rw [if_pos ci, if_neg (show ¬ ((1 : Int) = 0) by decide), if_neg (show ¬ ((1 : Int) = 0) by decide)]
  by_cases co : 0 ≤ to ∧ to ≤ 3
  case neg => rw [if_neg co, if_pos (show (0 : Int) = 0 from rfl), if_pos (show (0 : Int) = 0 from rfl)]; exact ⟨rfl, h⟩
  rw [if_pos co, if_neg (show ¬ ((1 : Int) = 0) by decide), if_neg (show ¬ ((1 : Int) = 0) by decide)]
  unfold cH_isAmount
  by_cases ca : am < 1
  · rw [if_pos ca, if_neg (show ¬ ((0 : Int) ≠ 0) from fun q => q rfl), if_pos ca]; exact ⟨rfl, h⟩
  rw [if_neg ca, if_neg ca]
  by_cases cb : am ≤ 1000
  case neg => rw [if_pos (show 1000 < am by omega), if_neg (show ¬ ((0 : Int) ≠ 0) from fun q => q rfl), if_neg cb]; exact ⟨rfl, h⟩
  rw [if_neg (show ¬ 1000 < am by omega), if_pos (show (1 : Int) ≠ 0 by decide), if_pos cb]
  have o := kB_one h.1 ct.1 ct.2
  rw [o.2.2.2.2.1]
  by_cases c5 : ρ 5 t = 0
  case neg => rw [if_neg c5, if_neg c5]; exact ⟨rfl, h⟩
  rw [if_pos c5, if_pos c5]
  have hc1 := wlH_pay_56 hc t iss to am r1 r2 r3 r4 (γ 0 0 * 4).toNat 0 0 0 (by omega) (by omega) (by omega) (by omega) (by omega) (by omega) ci
  rw [em] at hc1
  have kc := fun c (q : c ≠ 9) => kH_pay_56 (γ := γ) t iss to am (ρ 0 0 * 4).toNat 0 0 0 (c := c) q
  have pc := pay_c (iss := iss) (am := am) (to := to) ct.1 ct.2 (ρ 0 0 * 4).toNat 0 0 0 γ h (by omega) (by omega) (by omega)
  have p1 := pay_r1 (ρ := ρ) (t := t) (iss := iss) (am := am) (to := to) 80 0 0 0
  have cut := zcs_cut (t := t) (iss := iss) (am := am) h.1 (80 - (ρ 0 0 * 4).toNat) (ρ 0 0 * 4).toNat 0 0 (by omega) (by omega)
  rw [show (ρ 0 0 * 4).toNat + (80 - (ρ 0 0 * 4).toNat) = 80 by omega] at cut
  have p2 := pay_r2 (ρ := ρ) (iss := iss) (am := am) (to := to) (t := t) (by omega) 80 0 0 0 ρ (by omega) (by omega) hw
  have mem := zcs_mem (ρ := ρ) (t := t) (iss := iss) (am := am) 80 0 0 (by omega) (by omega)
  have f1 := fR_pay_61 hw t iss to am (by omega) 80 0 0 0 (by omega) (by omega) (by omega) rfl
  rw [← cut] at pc
  generalize zcs ρ t iss am 80 0 0 = l at pc p1 p2 mem
  generalize lR_pay_61 ρ t iss to am 80 0 0 0 = R at p1 p2 f1 ⊢
  generalize lH_pay_56 γ t iss to am (ρ 0 0 * 4).toNat 0 0 0 = C at pc kc hc1 ⊢
  obtain ⟨C1, C2, C3⟩ := C
  obtain ⟨R1, R2, R3⟩ := R
  simp only at pc p1 p2 f1 kc hc1 ⊢
  have e1 : C1 = R3 := by omega
  have e2 : C2 = R2 := by omega
  subst e1 e2
  have K1 : zK C3 ρ := E_scr h hc1.1 hw (fun c a _ => kc c a) (fun _ _ _ => rfl)
  have o1 := kB_one K1.1 ct.1 ct.2
  have g9 : 0 ≤ ρ 9 t ∧ ρ 9 t ≤ 4 := hw 9 t (by decide)
  have g10 : 0 ≤ ρ 10 t ∧ ρ 10 t ≤ 4 := hw 10 t (by decide)
  have g1 : 0 ≤ ρ 1 t ∧ ρ 1 t ≤ 3 := hw 1 t (by decide)
  unfold cL_hasRoomFor
  rw [o1.2.2.2.2.2.2.2.1, o1.2.2.2.2.2.2.2.2]
  by_cases d1 : am ≤ C2
  case neg => rw [if_neg d1, if_neg d1]; exact ⟨rfl, K1⟩
  rw [if_pos d1, if_pos d1]
  by_cases d2 : 4 - ρ 9 t < C1
  · rw [if_pos d2, if_pos (show (0 : Int) = 0 from rfl)]
    have d2' : 4 < ρ 9 t + C1 := by omega
    rw [if_pos d2', if_pos d2']
    split <;> exact ⟨rfl, K1⟩
  rw [if_neg d2, if_neg (show ¬ ((1 : Int) = 0) by decide)]
  have d2' : ¬ 4 < ρ 9 t + C1 := by omega
  rw [if_neg d2', if_neg d2']
  have len : (l.length : Int) = C1 := by omega
  have eR : lR_pay_163 ρ t iss to am R1.toNat 0 = zfo t l ρ := by
    have q := p2 (by omega) (fun _ _ _ => trivial)
    rw [show R1 - 0 = R1 by omega] at q
    exact q
  have K2 := take_c (g := g) (tk := C1) ct.1 l 0 C3 ρ K1 hc1 ct.2 c5 (by
    intro s hs
    have m := mem s hs
    exact coin_ex K1 (by omega) m.2) (fun i x hx => by
    have q := pc.2.2.2 i x hx
    exact q) (by omega)
  have eT : (cH_takeCoins C3 t C1).2 = lH_takeCoins_2 C3 t C1 l.length 0 := by
    show lH_takeCoins_2 C3 t C1 C1.toNat 0 = _
    rw [show C1.toNat = l.length by omega]
  have hc2 := wH_takeCoins hc1 t C1 (by rw [kc 0 (by decide), em]; exact ct) (by omega) (by rw [o1.2.2.2.2.2.2.2.1]; omega)
  have hg2 : zLog g (cH_takeCoins C3 t C1).2 := zLog_of (zLog_fr hg (kc 0 (by decide)) (kc 32 (by decide))) (congrFun (kH_takeCoins (γ := C3) t C1 (c := 0) (by decide) (by decide) (by decide)) 0) (fun u => kH_takeCoins_odd (γ := C3) t C1 u)
  rw [eR]
  rw [eT] at hc2 hg2 ⊢
  have q0 : zfo t l ρ 0 = ρ 0 := K2.2 0 (by decide) (by decide)
  have q1 : zfo t l ρ 1 = ρ 1 := K2.2 1 (by decide) (by decide)
  have q5 : zfo t l ρ 5 = ρ 5 := K2.2 5 (by decide) (by decide)
  have q10 : zfo t l ρ 10 = ρ 10 := K2.2 10 (by decide) (by decide)
  have K3 := K2.1
  clear K2 eT eR p2 pc p1 kc
  generalize lH_takeCoins_2 C3 t C1 l.length 0 = γ2 at hc2 hg2 K3 ⊢
  generalize zfo t l ρ = ρ2 at q0 q1 q5 q10 K3 ⊢
  have t2 : t < ρ2 0 0 := by rw [q0]; exact ct.2
  have o3 := kB_one K3.1 ct.1 t2
  have em3 := kB_many K3.1
  have hd2 : ρ2 5 t = 0 := by rw [q5]; exact c5
  have first : ρ 10 t ≤ 3 → zK (aO γ2 t 0 iss to am) (rR_addOutput ρ2 t 0 iss to am).2 ∧ zC (gO g γ2 t) (aO γ2 t 0 iss to am) ∧ zLog (gO g γ2 t) (aO γ2 t 0 iss to am) := by
    intro hm
    have w := wT_addOutput hc2 hg2 t 0 iss to am (by omega) (by omega) ci co (by omega) (by rw [o3.2.2.2.2.2.2.2.2, q10]; exact hm)
    exact ⟨E_addOutput K3 ct.1 t2 hd2 (by rw [q10]; exact hm) (by omega) ci co (by omega) w.1.1 w.1.2.2, w⟩
  unfold tH_pay
  by_cases d3 : C2 ≤ am
  · simp only [if_pos d3]
    by_cases d4 : ρ 10 t = 4
    · rw [if_pos (show 4 - ρ 10 t < 1 by omega), if_neg (show ¬ ((0 : Int) ≠ 0) from fun q => q rfl), if_neg (show ¬ (ρ 10 t + 1 ≤ 4) by omega)]
      exact ⟨rfl, K1⟩
    · rw [if_neg (show ¬ (4 - ρ 10 t < 1) by omega), if_pos (show (1 : Int) ≠ 0 by decide), if_pos (show ρ 10 t + 1 ≤ 4 by omega)]
      exact ⟨rfl, (first (by omega)).1⟩
  · simp only [if_neg d3]
    by_cases d4 : ρ 10 t + 2 ≤ 4
    · rw [if_neg (show ¬ (4 - ρ 10 t < 2) by omega), if_pos (show (1 : Int) ≠ 0 by decide), if_pos d4]
      have F := first (by omega)
      have e1' : (rR_addOutput ρ2 t 0 iss to am).2 1 t = ρ 1 t := by
        show ρ2 1 t = ρ 1 t
        rw [q1]
      have e2' : γ2 20 t = ρ 1 t := by rw [o3.1, q1]
      have r10 : (rR_addOutput ρ2 t 0 iss to am).2 10 t = ρ 10 t + 1 := by
        show zup (ρ2 10) t (ρ2 10 t + 1) t = _
        rw [zup_s, q10]
      have c32 : aO γ2 t 0 iss to am 32 (2 * t + 1) = ρ 10 t + 1 := by
        show zup (γ2 32) (2 * t + 1) (γ2 32 (2 * t + 1) + 1) (2 * t + 1) = _
        rw [zup_s, o3.2.2.2.2.2.2.2.2, q10]
      rw [e1', e2']
      have w := wT_addOutput F.2.1 F.2.2 t 0 iss (ρ 1 t) (C2 - am) (by show 0 ≤ t ∧ t < γ2 0 0; omega) (by omega) ci g1 (by omega) (by rw [c32]; omega)
      exact ⟨rfl, E_addOutput F.1 ct.1 t2 hd2 (by rw [r10]; omega) (by omega) ci g1 (by omega) w.1.1 w.1.2.2⟩
    · rw [if_pos (show 4 - ρ 10 t < 2 by omega), if_neg (show ¬ ((0 : Int) ≠ 0) from fun q => q rfl), if_neg d4]
      exact ⟨rfl, K1⟩
end
