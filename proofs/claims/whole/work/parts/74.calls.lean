-- outputs, bonds, and the calls that build drafts
section
variable {g : z_Gl} {γ ρ : z_Sg} {t n : Int}
theorem E_addOutput {kd x y am : Int} (h : zK γ ρ) (t0 : 0 ≤ t) (t1 : t < ρ 0 0) (hd : ρ 5 t = 0) (hn : ρ 10 t ≤ 3) (g1 : 0 ≤ kd ∧ kd ≤ 2) (g2 : 0 ≤ x ∧ x ≤ 3) (g3 : 0 ≤ y ∧ y ≤ 3) (g4 : 0 ≤ am ∧ am ≤ 1000) (hc' : c_wf (aO γ t kd x y am)) (he' : zEl (aO γ t kd x y am)) : zK (aO γ t kd x y am) (rR_addOutput ρ t kd x y am).2 := by
  obtain ⟨hB, hN, hD, hM, hP, hV, hA, hI, hU, hW⟩ := h
  have hB0 := hB
  obtain ⟨hw, hc, he, hT', hS⟩ := hB
  have gm : 0 ≤ ρ 0 0 ∧ ρ 0 0 ≤ 20 := hw 0 0 (by decide)
  have em := kB_many hB0
  have o := kB_one hB0 t0 t1
  have g10 : 0 ≤ ρ 10 t ∧ ρ 10 t ≤ 4 := hw 10 t (by decide)
  have h10 : ∀ i : Int, 0 ≤ ρ 10 i ∧ ρ 10 i ≤ 4 := fun i => hw 10 i (by decide)
  have h9 : ∀ i : Int, 0 ≤ ρ 9 i ∧ ρ 9 i ≤ 4 := fun i => hw 9 i (by decide)
  have hw' : z_wf (rR_addOutput ρ t kd x y am).2 := wR_addOutput hw t kd x y am (by omega) g1 g2 g3 g4 hn
  have e32 : γ 32 (2 * t + 1) = ρ 10 t := o.2.2.2.2.2.2.2.2
  have c32 : ∀ l : Int, aO γ t kd x y am 32 l = zup (γ 32) (2 * t + 1) (ρ 10 t + 1) l := fun l => by
    show zup (γ 32) (2 * t + 1) (γ 32 (2 * t + 1) + 1) l = _
    rw [e32]
  have c33 : ∀ i : Int, aO γ t kd x y am 33 i = zup (γ 33) (4 * (2 * t + 1) + ρ 10 t) (4 * t + ρ 10 t) i := fun i => by
    show zup (γ 33) (4 * (2 * t + 1) + γ 32 (2 * t + 1)) (4 * t + γ 32 (2 * t + 1)) i = _
    rw [e32]
  have c34 : ∀ i : Int, aO γ t kd x y am 34 i = zup (γ 34) (4 * t + ρ 10 t) kd i := fun i => by
    show zup (γ 34) (4 * t + γ 32 (2 * t + 1)) kd i = _
    rw [e32]
  have c35 : ∀ i : Int, aO γ t kd x y am 35 i = zup (γ 35) (4 * t + ρ 10 t) x i := fun i => by
    show zup (γ 35) (4 * t + γ 32 (2 * t + 1)) x i = _
    rw [e32]
  have c36 : ∀ i : Int, aO γ t kd x y am 36 i = zup (γ 36) (4 * t + ρ 10 t) y i := fun i => by
    show zup (γ 36) (4 * t + γ 32 (2 * t + 1)) y i = _
    rw [e32]
  have c37 : ∀ i : Int, aO γ t kd x y am 37 i = zup (γ 37) (4 * t + ρ 10 t) am i := fun i => by
    show zup (γ 37) (4 * t + γ 32 (2 * t + 1)) am i = _
    rw [e32]
  have c38 : ∀ i : Int, aO γ t kd x y am 38 i = zup (γ 38) (4 * t + ρ 10 t) (-1) i := fun i => by
    show zup (γ 38) (4 * t + γ 32 (2 * t + 1)) (-1) i = _
    rw [e32]
  have r10 : ∀ i : Int, (rR_addOutput ρ t kd x y am).2 10 i = zup (ρ 10) t (ρ 10 t + 1) i := fun i => rfl
  have r12 : ∀ i : Int, (rR_addOutput ρ t kd x y am).2 12 i = zup (ρ 12) (4 * t + ρ 10 t) kd i := fun i => rfl
  have r13 : ∀ i : Int, (rR_addOutput ρ t kd x y am).2 13 i = zup (ρ 13) (4 * t + ρ 10 t) x i := fun i => rfl
  have r14 : ∀ i : Int, (rR_addOutput ρ t kd x y am).2 14 i = zup (ρ 14) (4 * t + ρ 10 t) y i := fun i => rfl
  have r15 : ∀ i : Int, (rR_addOutput ρ t kd x y am).2 15 i = zup (ρ 15) (4 * t + ρ 10 t) am i := fun i => rfl
  have r16 : ∀ i : Int, (rR_addOutput ρ t kd x y am).2 16 i = zup (ρ 16) (4 * t + ρ 10 t) (-1) i := fun i => rfl
  have r17 : ∀ i : Int, (rR_addOutput ρ t kd x y am).2 17 i = zup (ρ 17) (4 * t + ρ 10 t) (-1) i := fun i => rfl
  have ex : ∀ z : Int, zEx (aO γ t kd x y am) z ↔ zEx γ z ∨ z = 4 * t + ρ 10 t := by
    intro z
    unfold zEx
    rw [c32]
    show (0 ≤ z ∧ z / 4 < γ 0 0 ∧ _) ↔ _
    by_cases c : z / 4 = t
    · rw [c, zup_s, e32, em]
      omega
    · rw [zup_n (by omega)]
      constructor
      · intro q; exact Or.inl q
      · intro q
        rcases q with q | q
        · exact q
        · omega
  have nx : ¬ zEx γ (4 * t + ρ 10 t) := by
    intro q
    have q2 := q.2.2
    rw [show (4 * t + ρ 10 t) / 4 = t by omega, e32] at q2
    omega
  have st : ∀ z : Int, z ≠ 4 * t + ρ 10 t → kSt γ ρ z → kSt γ (rR_addOutput ρ t kd x y am).2 z := by
    intro z hz hs
    unfold kSt at hs ⊢
    rw [r12, r13, r14, r15, r16, zup_n hz, zup_n hz, zup_n hz, zup_n hz, zup_n hz]
    exact hs
  refine ⟨⟨hw', hc', he', ⟨hT'.1, hT'.2.1, ?_⟩, ?_⟩, hN, hD, hM, ?_, ?_, kA_fr hA rfl rfl rfl rfl (fun _ _ _ a => a), kI_fr hI rfl rfl (fun _ _ _ a => a), ?_, kW_fr hW rfl rfl (Int.le_refl _) (fun _ _ _ => ⟨rfl, rfl⟩) (fun _ _ _ a b => ⟨a, b⟩) (fun _ _ => rfl) (fun _ _ => rfl)⟩
  · intro w w0 w1
    obtain ⟨⟨o1, o2, o3, o4, o5, o6, o7, o8, o9⟩, i⟩ := hT'.2.2 w w0 w1
    refine ⟨⟨o1, o2, o3, o4, o5, o6, o7, ?_, ?_⟩, ?_⟩
    · rw [c32, zup_n (by omega)]
      exact o8
    · rw [c32, r10]
      by_cases c : w = t
      · subst c
        rw [zup_s, zup_s]
      · rw [zup_n (by omega), zup_n c]
        exact o9
    · intro k k0 k1
      have k1' : k < ρ 9 w := k1
      have := h9 w
      rw [c33, zup_n (by omega)]
      exact i k k0 k1
  · intro z hz
    unfold kSt
    rw [c34, c35, c36, c37, c38, r12, r13, r14, r15, r16, r17]
    show _ ∧ γ 8 z = _
    rcases (ex z).mp hz with q | q
    · have hne : z ≠ 4 * t + ρ 10 t := fun e => nx (by rw [← e]; exact q)
      rw [zup_n hne, zup_n hne, zup_n hne, zup_n hne, zup_n hne, zup_n hne, zup_n hne, zup_n hne, zup_n hne, zup_n hne, zup_n hne]
      exact hS z q
    · subst q
      rw [zup_s, zup_s, zup_s, zup_s, zup_s, zup_s, zup_s, zup_s, zup_s, zup_s, zup_s]
      exact ⟨⟨rfl, rfl, rfl, rfl, rfl⟩, hV _ (by omega) (by omega) nx⟩
  · intro w w0 w1 w2 w3
    have w2' : ρ 5 w ≠ 0 := w2
    have ne : w ≠ t := fun e => w2' (by rw [e]; exact hd)
    have L := kB_L hB0 w0 w1
    have h10w := h10 w
    have L' : kL γ (rR_addOutput ρ t kd x y am).2 w := by
      refine ⟨hw', ⟨L.2.1.1, L.2.1.2.1, L.2.1.2.2.1, ?_⟩, ?_, ?_⟩
      · rw [r10, zup_n ne]
        exact L.2.1.2.2.2
      · intro k k0 k1
        have i := kB_in hB0 w0 w1 k0 k1
        refine ⟨i.1, st _ (fun e => nx ?_) (L.2.2.1 k k0 k1).2⟩
        have i2 := i.2
        rw [← e]
        exact i2
      · intro k k0 k1
        rw [r10, zup_n ne] at k1
        have l := L.2.2.2 k k0 k1
        exact ⟨l.1, st _ (by omega) l.2⟩
    have q := snd_same L L' rfl
    rw [q.1, q.2]
    exact hP w w0 w1 w2 w3
  · intro z z0 z1 hz
    exact hV z z0 z1 (fun q => hz ((ex z).mpr (Or.inl q)))
  · intro w w0 w1
    have w0' : ρ 0 0 ≤ w := w0
    have a := hU w w0 w1
    refine ⟨⟨a.1.1, a.1.2.1, a.1.2.2.1, a.1.2.2.2.1, ?_⟩, a.2⟩
    rw [r10, zup_n (by omega)]
    exact a.1.2.2.2.2
theorem E_bind {z p : Int} (h : zK γ ρ) (t0 : 0 ≤ t) (t1 : t < ρ 0 0) (hd : ρ 5 t = 0) (hz : z / 4 = t) (gp : -1 ≤ p ∧ p ≤ 3) : zK (z_up γ 38 z p) (z_up ρ 16 z p) := by
  obtain ⟨hB, hN, hD, hM, hP, hV, hA, hI, hU, hW⟩ := h
  have hB0 := hB
  obtain ⟨hw, hc, he, hT', hS⟩ := hB
  have h10 : ∀ i : Int, 0 ≤ ρ 10 i ∧ ρ 10 i ≤ 4 := fun i => hw 10 i (by decide)
  have hw' : z_wf (z_up ρ 16 z p) := z_wf_up hw (by show (-1 : Int) ≤ p; omega) (by show p ≤ 3; omega)
  have st : ∀ y : Int, y ≠ z → kSt γ ρ y → kSt γ (z_up ρ 16 z p) y := by
    intro y hy hs
    refine ⟨hs.1, hs.2.1, hs.2.2.1, hs.2.2.2.1, ?_⟩
    rw [z_up_s, zup_n hy]
    exact hs.2.2.2.2
  refine ⟨⟨hw', c_wf_up hc (by show (-1 : Int) ≤ p; omega) (by show p ≤ 3; omega), he, hT', ?_⟩, hN, hD, hM, ?_, hV, kA_fr hA rfl rfl rfl rfl (fun _ _ _ a => a), kI_fr hI rfl rfl (fun _ _ _ a => a), hU, kW_fr hW rfl rfl (Int.le_refl _) (fun _ _ _ => ⟨rfl, rfl⟩) (fun _ _ _ a b => ⟨a, b⟩) (fun _ _ => rfl) (fun _ _ => rfl)⟩
  · intro y hy
    have a := hS y hy
    refine ⟨⟨a.1.1, a.1.2.1, a.1.2.2.1, a.1.2.2.2.1, ?_⟩, a.2⟩
    rw [z_up_s, z_up_s]
    exact zup_eq a.1.2.2.2.2
  · intro w w0 w1 w2 w3
    have w2' : ρ 5 w ≠ 0 := w2
    have ne : w ≠ t := fun e => w2' (by rw [e]; exact hd)
    have L := kB_L hB0 w0 w1
    have h10w := h10 w
    have L' : kL γ (z_up ρ 16 z p) w := by
      refine ⟨hw', L.2.1, ?_, ?_⟩
      · intro k k0 k1
        have l := L.2.2.1 k k0 k1
        refine ⟨l.1, st _ (fun e => ?_) l.2⟩
        have g11 : 0 ≤ ρ 11 (4 * w + k) ∧ ρ 11 (4 * w + k) ≤ 79 := hw 11 _ (by decide)
        have b := (hA w w0 w1).1 (ρ 11 (4 * w + k) / 4) ⟨k, k0, k1, rfl⟩
        have c := ((hA w w0 w1).2 _ (by omega) b).2.1
        have e' : ρ 11 (4 * w + k) = z := e
        have e2 : ρ 11 (4 * w + k) / 4 = t := by rw [e']; exact hz
        rw [e2] at c
        exact c hd
      · intro k k0 k1
        have k1' : k < ρ 10 w := k1
        have l := L.2.2.2 k k0 k1
        exact ⟨l.1, st _ (fun e => by omega) l.2⟩
    have q := snd_same L L' rfl
    rw [q.1, q.2]
    exact hP w w0 w1 w2 w3
-- the calls
theorem P_begin {nd no fr un : Int} (h : zK γ ρ) (hc : zC g γ) (hg : zLog g γ) : zAn (cH_begin γ nd no fr un) (rR_begin ρ nd no fr un) := by
  have gm : 0 ≤ ρ 0 0 ∧ ρ 0 0 ≤ 20 := h.1.1 0 0 (by decide)
  have em := kB_many h.1
  unfold cH_begin rR_begin cH_isNotary
  rw [isN_iff, isN_c, em]
  by_cases c1 : 0 ≤ nd ∧ nd ≤ 3
  case neg =>
    rw [if_neg c1, if_pos (show (0 : Int) = 0 from rfl), if_pos (show (0 : Int) = 0 from rfl)]
    exact ⟨rfl, h⟩
  rw [if_pos c1, if_neg (show ¬ ((1 : Int) = 0) by decide), if_neg (show ¬ ((1 : Int) = 0) by decide)]
  have fin : (no = 4 ∨ no = 5) → zAn (if fr < 0 then (-1, γ) else if un ≤ fr then (-1, γ) else if un ≤ 1000000 then if ρ 0 0 < 20 then (ρ 0 0, bT γ (ρ 0 0) nd no fr un) else (-6, γ) else (-1, γ)) (if fr < 0 then (-1, ρ) else if un ≤ fr then (-1, ρ) else if un ≤ 1000000 then if ρ 0 0 ≠ 20 then (ρ 0 0 + 1 - 1, z_up (z_up (z_up (z_up (z_up ρ 1 (ρ 0 0) nd) 2 (ρ 0 0) no) 3 (ρ 0 0) fr) 4 (ρ 0 0) un) 0 0 (ρ 0 0 + 1)) else (-6, ρ) else (-1, ρ)) := by
    intro hno
    by_cases d1 : fr < 0
    · rw [if_pos d1, if_pos d1]; exact ⟨rfl, h⟩
    rw [if_neg d1, if_neg d1]
    by_cases d2 : un ≤ fr
    · rw [if_pos d2, if_pos d2]; exact ⟨rfl, h⟩
    rw [if_neg d2, if_neg d2]
    by_cases d3 : un ≤ 1000000
    · rw [if_pos d3, if_pos d3]
      by_cases d4 : ρ 0 0 < 20
      · rw [if_pos d4, if_pos (by omega)]
        have w := wH_begin (t := ρ 0 0) (nd := nd) (no := no) (fr := fr) (un := un) hc hg em (by omega) c1 (by omega) (by omega) (by omega)
        refine ⟨?_, ?_⟩
        · show ρ 0 0 = ρ 0 0 + 1 - 1
          omega
        · exact E_begin h rfl (by omega) c1 (by omega) (by omega) (by omega) w.1.1 w.1.2.2
      · rw [if_neg d4, if_neg (by omega)]; exact ⟨rfl, h⟩
    · rw [if_neg d3, if_neg d3]; exact ⟨rfl, h⟩
  by_cases c2 : no = 4
  · rw [if_pos c2, if_pos c2, if_neg (show ¬ ((1 : Int) = 0) by decide)]
    exact fin (Or.inl c2)
  · rw [if_neg c2, if_neg c2]
    by_cases c3 : no ≠ 5
    · rw [if_pos c3, if_pos c3, if_pos (show (0 : Int) = 0 from rfl)]
      exact ⟨rfl, h⟩
    · rw [if_neg c3, if_neg c3, if_neg (show ¬ ((1 : Int) = 0) by decide)]
      exact fin (Or.inr (Decidable.not_not.mp c3))
theorem P_drop (h : zK γ ρ) : zAn (cH_drop γ t) (rR_drop ρ t) := by
  unfold cH_drop rR_drop
  rw [isTx_iff, kB_many h.1]
  by_cases c : 0 ≤ t ∧ t < ρ 0 0
  · rw [if_pos c, if_pos c, if_neg (show ¬ ((1 : Int) = 0) by decide), (kB_one h.1 c.1 c.2).2.2.2.2.1]
    by_cases c2 : ρ 5 t = 0
    · rw [if_pos c2, if_pos c2]
      exact ⟨rfl, E_stage h c.1 c.2 (by decide) (by decide) (fun _ q => absurd rfl q) (fun q => absurd c2 q)⟩
    · rw [if_neg c2, if_neg c2]
      exact ⟨rfl, h⟩
  · rw [if_neg c, if_neg c, if_pos (show (0 : Int) = 0 from rfl)]
    exact ⟨rfl, h⟩
theorem P_tick {m : Int} (h : zK γ ρ) (hk : ρ 24 0 ≤ 999000) : zAn (cH_tick γ m) (rR_tick ρ m) := by
  have g24 : 0 ≤ ρ 24 0 ∧ ρ 24 0 ≤ 1000000 := h.1.1 24 0 (by decide)
  unfold cH_tick rR_tick
  rw [kB_clock h.1]
  by_cases c1 : m < 0
  · rw [if_pos c1, if_pos c1]; exact ⟨rfl, h⟩
  rw [if_neg c1, if_neg c1]
  by_cases c2 : 1000 < m
  · rw [if_pos c2, if_pos c2]; exact ⟨rfl, h⟩
  rw [if_neg c2, if_neg c2]
  exact ⟨rfl, E_tick h (by omega) (by omega)⟩
theorem P_consent {ot on : Int} (h : zK γ ρ) : zAn (cH_consent γ n ot on) (rR_consent ρ n ot on) := by
  unfold cH_consent rR_consent
  rw [isN_iff, isN_iff, isN_c, isN_c]
  by_cases c1 : 0 ≤ n ∧ n ≤ 3
  case neg => rw [if_neg c1, if_pos (show (0 : Int) = 0 from rfl), if_pos (show (0 : Int) = 0 from rfl)]; exact ⟨rfl, h⟩
  by_cases c2 : 0 ≤ ot ∧ ot ≤ 3
  case neg => rw [if_pos c1, if_neg (show ¬ ((1 : Int) = 0) by decide), if_neg (show ¬ ((1 : Int) = 0) by decide), if_neg c2, if_pos (show (0 : Int) = 0 from rfl), if_pos (show (0 : Int) = 0 from rfl)]; exact ⟨rfl, h⟩
  rw [if_pos c1, if_neg (show ¬ ((1 : Int) = 0) by decide), if_neg (show ¬ ((1 : Int) = 0) by decide), if_pos c2, if_neg (show ¬ ((1 : Int) = 0) by decide), if_neg (show ¬ ((1 : Int) = 0) by decide)]
  by_cases c3 : n ≠ ot
  case neg => rw [if_neg c3, if_neg c3]; exact ⟨rfl, h⟩
  rw [if_pos c3, if_pos c3]
  have g5 : 0 ≤ γ 5 n ∧ γ 5 n ≤ 15 := h.1.2.1 5 n (by decide)
  have gs := zshl_1 (n := ot) (by omega)
  by_cases c4 : on = 0
  · rw [if_pos c4, if_neg (fun q => q c4)]
    have gz := zand_nn (a := γ 5 n) (b := zxor (zshl 1 ot) (-1)) (by omega)
    refine ⟨rfl, E_consent (v := zand (γ 5 n) (zxor (zshl 1 ot) (-1))) h c1.1 c1.2 c2.1 c2.2 (by omega) (by decide) ?_⟩
    intro p p0 p1
    rw [zB_andn (by omega) (by omega) (by omega), zB_shl (by omega) p0]
    by_cases q : p = ot <;> simp [q]
  · rw [if_neg c4, if_pos c4]
    refine ⟨rfl, E_consent (v := zor (γ 5 n) (zshl 1 ot)) h c1.1 c1.2 c2.1 c2.2 (zor_15 g5 (by omega)) (by decide) ?_⟩
    intro p p0 p1
    rw [zB_or (by omega) (by omega), zB_shl (by omega) p0]
    by_cases q : p = ot <;> simp [q]
theorem P_bind {o p : Int} (h : zK γ ρ) : zAn (cH_bind γ t o p) (rR_bind ρ t o p) := by
  have em := kB_many h.1
  by_cases c1 : 0 ≤ t ∧ t < ρ 0 0 ∧ 0 ≤ o ∧ o < ρ 10 t
  case neg =>
    have ec : cH_bind γ t o p = (-1, γ) := by
      unfold cH_bind
      rw [em]
      by_cases c : 0 ≤ t ∧ t < ρ 0 0
      · rw [if_pos c, (kB_one h.1 c.1 c.2).2.2.2.2.2.2.2.2, if_neg c1]
      · rw [if_neg c]
        split <;> rfl
    have er : rR_bind ρ t o p = (-1, ρ) := by
      unfold rR_bind
      rw [isSt_iff, if_neg c1, if_pos rfl]
    rw [ec, er]
    exact ⟨rfl, h⟩
  have c : 0 ≤ t ∧ t < ρ 0 0 := ⟨c1.1, c1.2.1⟩
  have a := kB_one h.1 c.1 c.2
  have g10 : 0 ≤ ρ 10 t ∧ ρ 10 t ≤ 4 := h.1.1 10 t (by decide)
  have fin : (-1 ≤ p ∧ p ≤ 3) → zAn (if ρ 5 t = 0 then (0, z_up γ 38 (4 * t + o) p) else (-2, γ)) (if ρ 5 t = 0 then (0, z_up ρ 16 (4 * t + o) p) else (-2, ρ)) := by
    intro gp
    by_cases c5 : ρ 5 t = 0
    · rw [if_pos c5, if_pos c5]
      exact ⟨rfl, E_bind h c.1 c.2 c5 (by omega) gp⟩
    · rw [if_neg c5, if_neg c5]
      exact ⟨rfl, h⟩
  have ec : cH_bind γ t o p = if p = o then (-1, γ) else if p = -1 then (if ρ 5 t = 0 then (0, z_up γ 38 (4 * t + o) p) else (-2, γ)) else if 0 ≤ t ∧ t < ρ 0 0 ∧ 0 ≤ p ∧ p < ρ 10 t then (if ρ 5 t = 0 then (0, z_up γ 38 (4 * t + o) p) else (-2, γ)) else (-1, γ) := by
    unfold cH_bind
    rw [em, if_pos c, a.2.2.2.2.2.2.2.2, if_pos c1, a.2.2.2.2.1]
  have er : rR_bind ρ t o p = if p = -1 then (if p ≠ o then (if ρ 5 t = 0 then (0, z_up ρ 16 (4 * t + o) p) else (-2, ρ)) else (-1, ρ)) else if (if 0 ≤ t ∧ t < ρ 0 0 ∧ 0 ≤ p ∧ p < ρ 10 t then (1 : Int) else 0) = 0 then (-1, ρ) else (if p ≠ o then (if ρ 5 t = 0 then (0, z_up ρ 16 (4 * t + o) p) else (-2, ρ)) else (-1, ρ)) := by
    unfold rR_bind
    rw [isSt_iff, isSt_iff, if_pos c1, if_neg (show ¬ ((1 : Int) = 0) by decide)]
  rw [ec, er]
  by_cases c2 : p = o
  · have c2' : ¬ p ≠ o := fun q => q c2
    simp only [if_pos c2, if_neg c2']
    split
    · exact ⟨rfl, h⟩
    · split <;> exact ⟨rfl, h⟩
  simp only [if_neg c2, if_pos c2]
  by_cases c3 : p = -1
  · rw [if_pos c3, if_pos c3]
    exact fin (by omega)
  · rw [if_neg c3, if_neg c3]
    by_cases c4 : 0 ≤ t ∧ t < ρ 0 0 ∧ 0 ≤ p ∧ p < ρ 10 t
    · rw [if_pos c4, if_pos c4, if_neg (show ¬ ((1 : Int) = 0) by decide)]
      exact fin (by omega)
    · rw [if_neg c4, if_neg c4, if_pos (show (0 : Int) = 0 from rfl)]
      exact ⟨rfl, h⟩
theorem P_consume {u o : Int} (h : zK γ ρ) (hc : zC g γ) : zAn (cH_consume γ t u o) (rR_consume ρ t u o) := by
  have hw := h.1.1
  have em := kB_many h.1
  have gm : 0 ≤ ρ 0 0 ∧ ρ 0 0 ≤ 20 := hw 0 0 (by decide)
  by_cases ct : 0 ≤ t ∧ t < ρ 0 0
  case neg =>
    have ec : cH_consume γ t u o = (-1, γ) := by
      unfold cH_consume
      rw [em, if_neg ct]
      (repeat' split) <;> rfl
    have er : rR_consume ρ t u o = (-1, ρ) := by
      unfold rR_consume
      rw [isTx_iff, if_neg ct, if_pos rfl]
    rw [ec, er]
    exact ⟨rfl, h⟩
  by_cases cs : 0 ≤ u ∧ u < ρ 0 0 ∧ 0 ≤ o ∧ o < ρ 10 u
  case neg =>
    have ec : cH_consume γ t u o = (-1, γ) := by
      unfold cH_consume
      rw [em, if_pos ct]
      by_cases cu : 0 ≤ u ∧ u < ρ 0 0
      · rw [if_pos cu, (kB_one h.1 cu.1 cu.2).2.2.2.2.2.2.2.2, if_neg cs]
      · rw [if_neg cu]
        split <;> rfl
    have er : rR_consume ρ t u o = (-1, ρ) := by
      unfold rR_consume
      rw [isTx_iff, if_pos ct, if_neg (by decide), isSt_iff, if_neg cs, if_neg (by decide)]
    rw [ec, er]
    exact ⟨rfl, h⟩
  have ot := kB_one h.1 ct.1 ct.2
  have ou := kB_one h.1 cs.1 cs.2.1
  have g1 : 0 ≤ ρ 1 t ∧ ρ 1 t ≤ 3 := hw 1 t (by decide)
  have g9 : 0 ≤ ρ 9 t ∧ ρ 9 t ≤ 4 := hw 9 t (by decide)
  have g10 : 0 ≤ ρ 10 u ∧ ρ 10 u ≤ 4 := hw 10 u (by decide)
  unfold cH_consume rR_consume cL_hasRoomFor
  rw [em, if_pos ct, if_pos (⟨cs.1, cs.2.1⟩ : 0 ≤ u ∧ u < ρ 0 0), ou.2.2.2.2.2.2.2.2, if_pos cs, isTx_iff, if_pos ct, if_neg (by decide : ¬ (1 : Int) = 0), isSt_iff, if_pos cs, if_pos (by decide : (1 : Int) ≠ 0), ot.1, k_has2 h.1.2.1 h.2.1 g1 (by omega), ot.2.2.2.2.1, ou.2.1, ot.2.1, k_holds (kB_L h.1 ct.1 ct.2), ot.2.2.2.2.2.2.2.1]
  by_cases c1 : ρ 5 t = 0
  case neg => rw [if_neg c1, if_neg c1]; exact ⟨rfl, h⟩
  rw [if_pos c1, if_pos c1]
  by_cases c2 : ρ 18 (20 * ρ 1 t + u) = 0
  · rw [if_pos c2, if_neg (show ¬ ((0 : Int) ≠ 0) from fun q => q rfl), if_neg (fun q => q c2)]; exact ⟨rfl, h⟩
  rw [if_neg c2, if_pos (show (1 : Int) ≠ 0 by decide), if_pos c2]
  by_cases c3 : ρ 2 u = ρ 2 t
  case neg => rw [if_neg c3, if_neg c3]; exact ⟨rfl, h⟩
  rw [if_pos c3, if_pos c3]
  by_cases c4 : rR_isInput ρ t (4 * u + o) = 0
  case neg => rw [if_neg c4, if_neg c4]; exact ⟨rfl, h⟩
  rw [if_pos c4, if_pos c4]
  by_cases c5 : ρ 9 t = 4
  · rw [if_pos (show 4 - ρ 9 t < 1 by omega), if_neg (show ¬ ((0 : Int) ≠ 0) from fun q => q rfl), if_neg (fun q => q c5)]; exact ⟨rfl, h⟩
  rw [if_neg (show ¬ (4 - ρ 9 t < 1) by omega), if_pos (show (1 : Int) ≠ 0 by decide), if_pos c5]
  have k := h.2.2.2.2.2.2.2.1 (ρ 1 t) u g1.1 g1.2 cs.1 (by omega) c2
  have hs : zEx γ (4 * u + o) := by
    refine ⟨by omega, by omega, ?_⟩
    rw [show (4 * u + o) / 4 = u by omega, ou.2.2.2.2.2.2.2.2]
    omega
  have w := wT_addInput hc t (4 * u + o) u (by omega) hs (by omega) (by rw [ot.2.2.2.2.2.2.2.1]; omega)
  refine ⟨?_, E_addInput h ct.1 ct.2 c1 (by omega) hs (by omega) k.2 w.1 w.2.2⟩
  show γ 32 (2 * t) = zup (ρ 9) t (ρ 9 t + 1) t - 1
  rw [zup_s, ot.2.2.2.2.2.2.2.1]
  omega
theorem P_produce {kd x y am : Int} (h : zK γ ρ) (hc : zC g γ) (hg : zLog g γ) : zAn (cH_produce γ t kd x y am) (rR_produce ρ t kd x y am) := by
  have em := kB_many h.1
  have hw := h.1.1
  by_cases ct : 0 ≤ t ∧ t < ρ 0 0
  case neg =>
    unfold cH_produce rR_produce
    rw [em, isTx_iff, if_neg ct, if_neg ct, if_pos (show (0 : Int) = 0 from rfl)]
    exact ⟨rfl, h⟩
  have ot := kB_one h.1 ct.1 ct.2
  have g10 : 0 ≤ ρ 10 t ∧ ρ 10 t ≤ 4 := hw 10 t (by decide)
  by_cases cg : (0 ≤ kd ∧ kd ≤ 2) ∧ (0 ≤ x ∧ x ≤ 3) ∧ (0 ≤ y ∧ y ≤ 3) ∧ (1 ≤ am ∧ am ≤ 1000) ∧ (kd = 1 → x ≠ y) ∧ (kd = 2 → x = 0 ∧ y = 0)
  · have er : rR_produce ρ t kd x y am = if ρ 5 t = 0 then if ρ 10 t ≠ 4 then ((rR_addOutput ρ t kd x y am).2 10 t - 1, (rR_addOutput ρ t kd x y am).2) else (-6, ρ) else (-2, ρ) := by
      unfold rR_produce
      rw [isTx_iff, if_pos ct, if_neg (by decide), if_neg (by omega), if_neg (by omega), isN_iff, isN_iff, if_pos cg.2.1, if_pos cg.2.2.1, if_neg (by decide), if_neg (by decide), if_neg (by omega), if_pos (by omega)]
      by_cases k1 : kd = 1
      · rw [if_neg (fun q => q k1), if_neg (cg.2.2.2.2.1 k1), if_pos (by omega)]
      · rw [if_pos k1]
        by_cases k2 : kd = 2
        · rw [if_neg (fun q => q k2), if_neg (fun q => q (cg.2.2.2.2.2 k2).1), if_pos (cg.2.2.2.2.2 k2).2]
        · rw [if_pos k2]
    have ec : cH_produce γ t kd x y am = if ρ 5 t = 0 then if ρ 10 t ≠ 4 then (ρ 10 t, aO γ t kd x y am) else (-6, γ) else (-2, γ) := by
      have e1 : cH_isContent γ kd x y = 1 := by
        unfold cH_isContent
        rw [isN_c, isN_c]
        have := cg
        (repeat' split) <;> omega
      have e2 : cH_isAmount γ am = 1 := by
        unfold cH_isAmount
        rw [if_neg (by omega), if_neg (by omega)]
      unfold cH_produce cL_hasRoomFor
      rw [em, if_pos ct, e1, e2, if_neg (by decide), if_pos (by decide), ot.2.2.2.2.1, ot.2.2.2.2.2.2.2.2]
      by_cases c5 : ρ 5 t = 0
      · rw [if_pos c5, if_pos c5]
        by_cases c6 : ρ 10 t = 4
        · rw [if_pos (show 4 - ρ 10 t < 1 by omega), if_neg (show ¬ ((0 : Int) ≠ 0) from fun q => q rfl), if_neg (fun q => q c6)]
        · rw [if_neg (show ¬ (4 - ρ 10 t < 1) by omega), if_pos (show (1 : Int) ≠ 0 by decide), if_pos c6]
      · rw [if_neg c5, if_neg c5]
    rw [ec, er]
    by_cases c5 : ρ 5 t = 0
    case neg => rw [if_neg c5, if_neg c5]; exact ⟨rfl, h⟩
    rw [if_pos c5, if_pos c5]
    by_cases c6 : ρ 10 t ≠ 4
    case neg => rw [if_neg c6, if_neg c6]; exact ⟨rfl, h⟩
    rw [if_pos c6, if_pos c6]
    have w := wT_addOutput hc hg t kd x y am (by omega) cg.1 cg.2.1 cg.2.2.1 (by omega) (by rw [ot.2.2.2.2.2.2.2.2]; omega)
    refine ⟨?_, E_addOutput h ct.1 ct.2 c5 (by omega) cg.1 cg.2.1 cg.2.2.1 (by omega) w.1.1 w.1.2.2⟩
    show ρ 10 t = zup (ρ 10) t (ρ 10 t + 1) t - 1
    rw [zup_s]
    omega
  · have er : rR_produce ρ t kd x y am = (-1, ρ) := by
      unfold rR_produce
      rw [isTx_iff, if_pos ct, if_neg (by decide), isN_iff, isN_iff]
      by_cases k0 : kd < 0
      · rw [if_pos k0]
      rw [if_neg k0]
      by_cases k3 : 2 < kd
      · rw [if_pos k3]
      rw [if_neg k3]
      by_cases kx : 0 ≤ x ∧ x ≤ 3
      case neg => rw [if_neg kx, if_pos rfl]
      rw [if_pos kx, if_neg (by decide)]
      by_cases ky : 0 ≤ y ∧ y ≤ 3
      case neg => rw [if_neg ky, if_pos rfl]
      rw [if_pos ky, if_neg (by decide)]
      by_cases ka : am < 1
      · rw [if_pos ka]
      rw [if_neg ka]
      by_cases kb : am ≤ 1000
      case neg => rw [if_neg kb]
      rw [if_pos kb]
      by_cases k1 : kd = 1
      · rw [if_neg (fun q => q k1), if_pos ?_]
        apply Decidable.byContradiction
        intro q
        exact cg ⟨by omega, kx, ky, by omega, fun _ => q, fun w => by omega⟩
      · rw [if_pos k1]
        by_cases k2 : kd = 2
        · rw [if_neg (fun q => q k2)]
          by_cases x0 : x = 0
          · rw [if_neg (fun q => q x0), if_neg ?_]
            intro q
            exact cg ⟨by omega, kx, ky, by omega, fun w => by omega, fun _ => ⟨x0, q⟩⟩
          · rw [if_pos x0]
        · exact absurd ⟨by omega, kx, ky, by omega, fun w => by omega, fun w => by omega⟩ cg
    have ec : cH_produce γ t kd x y am = (-1, γ) := by
      by_cases e2 : cH_isAmount γ am = 0
      · unfold cH_produce
        rw [em, if_pos ct, e2, if_neg (show ¬ ((0 : Int) ≠ 0) from fun q => q rfl)]
        split <;> rfl
      · have e1 : cH_isContent γ kd x y = 0 := by
          have e2' : 1 ≤ am ∧ am ≤ 1000 := by
            unfold cH_isAmount at e2
            constructor
            · apply Decidable.byContradiction
              intro q
              rw [if_pos (by omega)] at e2
              exact e2 rfl
            · apply Decidable.byContradiction
              intro q
              rw [if_neg (by omega), if_pos (by omega)] at e2
              exact e2 rfl
          unfold cH_isContent
          rw [isN_c, isN_c]
          (repeat' split) <;> omega
        unfold cH_produce
        rw [em, if_pos ct, e1, if_pos rfl]
    rw [ec, er]
    exact ⟨rfl, h⟩
end
