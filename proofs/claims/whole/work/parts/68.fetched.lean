-- fetching, whole
section
variable {γ ρ : z_Sg} {t node : Int}
def f_m (ρ : z_Sg) (node t : Int) : z_Sg := lR_fetch_62 (lR_fetch_23 (lR_fetch_2 ρ node t 20 0) node t ((lR_fetch_2 ρ node t 20 0) 9 t).toNat 0) node t 21 0 1
theorem f_marks (h : zK γ ρ) (t0 : 0 ≤ t) (t1 : t < ρ 0 0) : (∀ c : Nat, c ≠ 25 → f_m ρ node t c = ρ c) ∧ ∀ v : Int, 0 ≤ v → v ≤ 19 → (f_m ρ node t 25 v ≠ 0 ↔ zB (γ 24 t) v = true) := by
  obtain ⟨hB, hN, hD, hM, hP, hV, hA, hI, hU, hW⟩ := h
  have gm : 0 ≤ ρ 0 0 ∧ ρ 0 0 ≤ 20 := hB.1 0 0 (by decide)
  have h9 : ∀ i : Int, 0 ≤ ρ 9 i ∧ ρ 9 i ≤ 4 := fun i => hB.1 9 i (by decide)
  have h11 : ∀ i : Int, 0 ≤ ρ 11 i ∧ ρ 11 i ≤ 79 := fun i => hB.1 11 i (by decide)
  have ed : ∀ a w : Int, zEd ρ a w → 0 ≤ w ∧ w ≤ 19 := by
    intro a w hw
    obtain ⟨x, _, _, x2⟩ := hw
    have := h11 (4 * a + x)
    omega
  have hS : ∀ v w : Int, 0 ≤ v → v ≤ 19 → zB (γ 24 t) v = true → zEd ρ v w → zB (γ 24 t) w = true := by
    intro v w v0 v1 hv hw
    have a := (hA t t0 t1).2 v v0 hv
    have b := (hA v v0 a.1).1 w hw
    exact a.2.2.1 w (ed v w hw).1 b
  have a2 := f_2 (node := node) (t := t) 20 0 ρ
  have e9 : (lR_fetch_2 ρ node t 20 0) 9 t = ρ 9 t := by rw [a2.1 9 (by decide)]
  have g9 := h9 t
  have a23 := f_23 (node := node) (t := t) h11 (ρ 9 t).toNat 0 (lR_fetch_2 ρ node t 20 0) (by omega) (by omega) a2.1
  have z0 : ∀ v : Int, 0 ≤ v → v ≤ 19 → lR_fetch_2 ρ node t 20 0 25 v = 0 := by
    intro v v0 v1
    rw [a2.2 v, if_pos (by omega)]
  have a62 := f_62 (S := fun v => zB (γ 24 t) v = true) (node := node) (t := t) (fun i => (h9 i).2) h11 hS 21 0 1 (lR_fetch_23 (lR_fetch_2 ρ node t 20 0) node t (ρ 9 t).toNat 0) (by decide) a23.1 (by
    intro v v0 v1 hv
    rcases a23.2.2.1 v hv with q | q
    · exact absurd (z0 v v0 v1) q
    · exact (hA t t0 t1).1 v q)
  have em : f_m ρ node t = lR_fetch_62 (lR_fetch_23 (lR_fetch_2 ρ node t 20 0) node t (ρ 9 t).toNat 0) node t 21 0 1 := by
    unfold f_m
    rw [e9]
  rw [em]
  refine ⟨a62.1, ?_⟩
  intro v v0 v1
  constructor
  · exact a62.2.2.1 v v0 v1
  · intro hv
    have cl : zcl ρ (lR_fetch_62 (lR_fetch_23 (lR_fetch_2 ρ node t 20 0) node t (ρ 9 t).toNat 0) node t 21 0 1) := by
      rcases a62.2.2.2 with q | q
      · exact q
      · have b := zct_20 (lR_fetch_62 (lR_fetch_23 (lR_fetch_2 ρ node t 20 0) node t (ρ 9 t).toNat 0) node t 21 0 1)
        have c : 0 ≤ zct (lR_fetch_23 (lR_fetch_2 ρ node t 20 0) node t (ρ 9 t).toNat 0) := by
          have d : zS (fun _ => 0) 20 0 ≤ zct (lR_fetch_23 (lR_fetch_2 ρ node t 20 0) node t (ρ 9 t).toNat 0) := by
            apply zS_le
            intro i _ _
            show (0 : Int) ≤ if lR_fetch_23 (lR_fetch_2 ρ node t 20 0) node t (ρ 9 t).toNat 0 25 i = 0 then 0 else 1
            split <;> omega
          have e : zS (fun _ => (0 : Int)) 20 0 = 0 := rfl
          omega
        omega
    have reach : ∀ (n : Nat) (a : Int), 0 ≤ a → a ≤ 19 → (a = t ∨ lR_fetch_62 (lR_fetch_23 (lR_fetch_2 ρ node t 20 0) node t (ρ 9 t).toNat 0) node t 21 0 1 25 a ≠ 0) → zPa ρ n a v → lR_fetch_62 (lR_fetch_23 (lR_fetch_2 ρ node t 20 0) node t (ρ 9 t).toNat 0) node t 21 0 1 25 v ≠ 0 := by
      have one : ∀ a w : Int, 0 ≤ a → a ≤ 19 → (a = t ∨ lR_fetch_62 (lR_fetch_23 (lR_fetch_2 ρ node t 20 0) node t (ρ 9 t).toNat 0) node t 21 0 1 25 a ≠ 0) → zEd ρ a w → lR_fetch_62 (lR_fetch_23 (lR_fetch_2 ρ node t 20 0) node t (ρ 9 t).toNat 0) node t 21 0 1 25 w ≠ 0 := by
        intro a w a0 a1 ha hw
        rcases ha with ha | ha
        · subst ha
          obtain ⟨x, x0, x1, x2⟩ := hw
          rw [← x2]
          exact a62.2.1 _ (a23.2.2.2 x x0 (by omega))
        · exact cl a w a0 a1 ha hw
      intro n
      induction n with
      | zero =>
        intro a a0 a1 ha hp
        exact one a v a0 a1 ha hp
      | succ n ih =>
        intro a a0 a1 ha hp
        obtain ⟨w, hw, hp⟩ := hp
        have b := ed a w hw
        exact ih w b.1 b.2 (Or.inr (one a w a0 a1 ha hw)) hp
    obtain ⟨n, hn⟩ := ((hA t t0 t1).2 v v0 hv).2.2.2
    exact reach n t t0 (by omega) (Or.inl rfl) hn
theorem E_know {F G H : Int → Int} {a f : Int} (h : zK γ ρ) (n0 : 0 ≤ node) (n1 : node ≤ 3) (gF : ∀ x : Int, 0 ≤ F x ∧ F x ≤ 2) (gH : ∀ x : Int, 0 ≤ H x ∧ H x ≤ 1) (ga : 0 ≤ a ∧ a ≤ 1048575) (hG : G node = f ∧ ∀ m : Int, 0 ≤ m → m ≤ 3 → m ≠ node → G m = ρ 20 m) (hF : ∀ m u : Int, 0 ≤ m → m ≤ 3 → 0 ≤ u → u ≤ 19 → m ≠ node → F (20 * m + u) = ρ 18 (20 * m + u)) (ha : ∀ u : Int, 0 ≤ u → u ≤ 19 → zB a u = decide (F (20 * node + u) ≠ 0) ∧ zB (γ 3 node) u = decide (F (20 * node + u) = 2)) (hi : ∀ u : Int, 0 ≤ u → u ≤ 19 → F (20 * node + u) ≠ 0 → u < ρ 0 0 ∧ ρ 5 u ≠ 0) : zK (z_up (z_up γ 4 node f) 2 node a) (z_fc (z_fc (z_fc ρ 18 F) 20 G) 25 H) := by
  obtain ⟨hB, hN, hD, hM, hP, hV, hA, hI, hU, hW⟩ := h
  have hB0 := hB
  obtain ⟨hw, hc, he, hT, hS⟩ := hB
  have hw' : z_wf (z_fc (z_fc (z_fc ρ 18 F) 20 G) 25 H) := z_wf_cl (z_wf_cl20 (z_wf_cl hw gF)) gH
  have x : zFx ρ (z_fc (z_fc (z_fc ρ 18 F) 20 G) 25 H) := ⟨rfl, rfl, rfl, rfl, rfl, rfl, rfl, rfl, rfl, rfl, rfl, rfl, rfl, rfl⟩
  have hc4 : c_wf (z_up γ 4 node f) := by
    intro c' i hc'
    rw [z_up_n hc']
    exact hc c' i hc'
  refine ⟨⟨hw', c_wf_up hc4 (by show (0 : Int) ≤ a; omega) (by show a ≤ 1048575; omega), he, hT, hS⟩, ?_, hD, hM, kP_fr hB0 hP hw' x rfl rfl (fun _ _ _ a b => ⟨a, b⟩), hV, kA_fr hA rfl rfl rfl rfl (fun _ _ _ a => a), ?_, hU, kW_fr hW rfl rfl (Int.le_refl _) (fun _ _ _ => ⟨rfl, rfl⟩) (fun _ _ _ a b => ⟨a, b⟩) (fun _ _ => rfl) (fun _ _ => rfl)⟩
  · intro m m0 m1
    have d := hN m m0 m1
    show zup (γ 4) node f m = G m ∧ (∀ u : Int, 0 ≤ u → u ≤ 19 → zB (zup (γ 2) node a m) u = decide (F (20 * m + u) ≠ 0) ∧ zB (γ 3 m) u = decide (F (20 * m + u) = 2)) ∧ _
    by_cases c : m = node
    · subst c
      rw [zup_s, zup_s]
      exact ⟨hG.1.symm, ha, d.2.2⟩
    · rw [zup_n c, zup_n c]
      refine ⟨by rw [hG.2 m m0 m1 c]; exact d.1, ?_, d.2.2⟩
      intro u u0 u1
      rw [hF m u m0 m1 u0 u1 c]
      exact d.2.1 u u0 u1
  · intro m u m0 m1 u0 u1 hu
    have hu' : F (20 * m + u) ≠ 0 := hu
    by_cases c : m = node
    · subst c
      exact hi u u0 u1 hu'
    · rw [hF m u m0 m1 u0 u1 c] at hu'
      exact hI m u m0 m1 u0 u1 hu'
theorem E_fetch (h : zK γ ρ) (t0 : 0 ≤ t) (t1 : t < ρ 0 0) (n0 : 0 ≤ node) (n1 : node ≤ 3) : zK (cN_fetch γ node (γ 24 t)).2 (rR_fetch ρ node t).2 := by
  have h0 := h
  obtain ⟨hB, hN, hD, hM, hP, hV, hA, hI, hU, hW⟩ := h
  obtain ⟨hw, hc, he, hT, hS⟩ := hB
  have gm : 0 ≤ ρ 0 0 ∧ ρ 0 0 ≤ 20 := hw 0 0 (by decide)
  have g2 : 0 ≤ γ 2 node ∧ γ 2 node ≤ 1048575 := hc 2 node (by decide)
  have g24 : 0 ≤ γ 24 t ∧ γ 24 t ≤ 1048575 := hc 24 t (by decide)
  have fm := f_marks (node := node) h0 t0 t1
  have f3 := f_183 (node := node) (t := t) 20 0 (f_m ρ node t)
  have w' := wR_fetch hw node t ⟨n0, n1⟩ ⟨t0, by omega⟩
  have er : (rR_fetch ρ node t).2 = z_fc (z_fc (z_fc ρ 18 ((rR_fetch ρ node t).2 18)) 20 ((rR_fetch ρ node t).2 20)) 25 ((rR_fetch ρ node t).2 25) := by
    funext c
    by_cases c1 : c = 25
    · subst c1
      rw [z_fc_s]
    · rw [z_fc_n c1]
      by_cases c2 : c = 20
      · subst c2
        rw [z_fc_s]
      · rw [z_fc_n c2]
        by_cases c3 : c = 18
        · subst c3
          rw [z_fc_s]
        · rw [z_fc_n c3]
          exact kR_fetch node t c3 c2 c1
  have e18 : ∀ u : Int, 0 ≤ u → u ≤ 19 → (rR_fetch ρ node t).2 18 (20 * node + u) = if zB (γ 24 t) u = true ∧ ρ 18 (20 * node + u) = 0 then 1 else ρ 18 (20 * node + u) := by
    intro u u0 u1
    show lR_fetch_183 (f_m ρ node t) node t 20 0 18 (20 * node + u) = _
    rw [f3.2.1, fm.1 18 (by decide), show 20 * node + u - 20 * node = u by omega]
    by_cases c : zB (γ 24 t) u = true ∧ ρ 18 (20 * node + u) = 0
    · rw [if_pos c, if_pos ⟨by omega, by omega, (fm.2 u u0 u1).mpr c.1, c.2⟩]
    · rw [if_neg c, if_neg (fun q => c ⟨(fm.2 u u0 u1).mp q.2.2.1, q.2.2.2⟩)]
  have b2 : ∀ u : Int, 0 ≤ u → u ≤ 19 → zB (γ 2 node) u = decide (ρ 18 (20 * node + u) ≠ 0) := fun u a b => ((hN node n0 n1).2.1 u a b).1
  have b3 : ∀ u : Int, 0 ≤ u → u ≤ 19 → zB (γ 3 node) u = decide (ρ 18 (20 * node + u) = 2) := fun u a b => ((hN node n0 n1).2.1 u a b).2
  rw [er]
  refine E_know (f := γ 4 node + cJI_bitCount γ (zand (γ 24 t) (zxor (γ 2 node) (-1)))) (a := zor (γ 2 node) (γ 24 t)) h0 n0 n1 (fun x => w' 18 x (by decide)) (fun x => w' 25 x (by decide)) (zor_20 g2 g24) ⟨?_, ?_⟩ ?_ ?_ ?_
  · show lR_fetch_183 (f_m ρ node t) node t 20 0 20 node = _
    have gz := zand_nn (a := γ 24 t) (b := zxor (γ 2 node) (-1)) (by omega)
    rw [f3.2.2.2, fm.1 20 (by decide), fm.1 18 (by decide), k_bitCount γ (by omega), (hN node n0 n1).1]
    congr 1
    apply zS_congr
    intro u u0 u1
    show (if f_m ρ node t 25 u ≠ 0 ∧ ρ 18 (20 * node + u) = 0 then (1 : Int) else 0) = zb (zB (zand (γ 24 t) (zxor (γ 2 node) (-1))) u)
    rw [zB_andn (by omega) (by omega) (by omega), b2 u u0 (by omega)]
    have q := fm.2 u u0 (by omega)
    by_cases c : zB (γ 24 t) u = true
    · by_cases c2 : ρ 18 (20 * node + u) = 0
      · rw [if_pos ⟨q.mpr c, c2⟩, c]
        simp [c2, zb]
      · rw [if_neg (fun w => c2 w.2), c]
        simp [c2, zb]
    · rw [if_neg (fun w => c (q.mp w.1))]
      simp [c, zb]
  · intro m m0 m1 hm
    show lR_fetch_183 (f_m ρ node t) node t 20 0 20 m = _
    rw [f3.2.2.1 m hm, fm.1 20 (by decide)]
  · intro m u m0 m1 u0 u1 hm
    show lR_fetch_183 (f_m ρ node t) node t 20 0 18 (20 * m + u) = _
    rw [f3.2.1, fm.1 18 (by decide), if_neg (by omega)]
  · intro u u0 u1
    have g18 : 0 ≤ ρ 18 (20 * node + u) ∧ ρ 18 (20 * node + u) ≤ 2 := hw 18 _ (by decide)
    rw [e18 u u0 u1, zB_or (by omega) (by omega), b2 u u0 u1, b3 u u0 u1]
    by_cases c : zB (γ 24 t) u = true
    · by_cases c2 : ρ 18 (20 * node + u) = 0
      · rw [if_pos ⟨c, c2⟩, c, c2]
        exact ⟨rfl, rfl⟩
      · rw [if_neg (fun w => c2 w.2), c]
        simp [c2]
    · rw [if_neg (fun w => c w.1)]
      simp [c]
  · intro u u0 u1 hu
    rw [e18 u u0 u1] at hu
    by_cases c : zB (γ 24 t) u = true
    · have a := (hA t t0 t1).2 u u0 c
      exact ⟨a.1, a.2.1⟩
    · rw [if_neg (fun w => c w.1)] at hu
      exact hI node u n0 n1 u0 u1 hu
end
