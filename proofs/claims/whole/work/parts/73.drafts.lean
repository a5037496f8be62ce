-- what drafts do
section
variable {γ ρ : z_Sg} {t n : Int}
theorem zPa_mono {ρ' : z_Sg} (he : ∀ a b : Int, zEd ρ a b → zEd ρ' a b) : ∀ (n : Nat) (a b : Int), zPa ρ n a b → zPa ρ' n a b := by
  intro n
  induction n with
  | zero => intro a b h; exact he a b h
  | succ n ih =>
    intro a b h
    obtain ⟨v, h1, h2⟩ := h
    exact ⟨v, he a v h1, ih v b h2⟩
theorem E_begin {nd no fr un : Int} (h : zK γ ρ) (hT : t = ρ 0 0) (h19 : t ≤ 19) (g1 : 0 ≤ nd ∧ nd ≤ 3) (g2 : 0 ≤ no ∧ no ≤ 5) (g3 : 0 ≤ fr ∧ fr ≤ 1000000) (g4 : 0 ≤ un ∧ un ≤ 1000000) (hc' : c_wf (bT γ t nd no fr un)) (he' : zEl (bT γ t nd no fr un)) : zK (bT γ t nd no fr un) (z_up (z_up (z_up (z_up (z_up ρ 1 t nd) 2 t no) 3 t fr) 4 t un) 0 0 (t + 1)) := by
  obtain ⟨hB, hN, hD, hM, hP, hV, hA, hI, hU, hW⟩ := h
  have hB0 := hB
  obtain ⟨hw, hc, he, hT', hS⟩ := hB
  have gm : 0 ≤ ρ 0 0 ∧ ρ 0 0 ≤ 20 := hw 0 0 (by decide)
  have em := kB_many hB0
  have hw' : z_wf (z_up (z_up (z_up (z_up (z_up ρ 1 t nd) 2 t no) 3 t fr) 4 t un) 0 0 (t + 1)) := z_wf_up (z_wf_up (z_wf_up (z_wf_up (z_wf_up hw (by show (0 : Int) ≤ nd; omega) (by show nd ≤ 3; omega)) (by show (0 : Int) ≤ no; omega) (by show no ≤ 5; omega)) (by show (0 : Int) ≤ fr; omega) (by show fr ≤ 1000000; omega)) (by show (0 : Int) ≤ un; omega) (by show un ≤ 1000000; omega)) (by show (0 : Int) ≤ t + 1; omega) (by show t + 1 ≤ 20; omega)
  have r0 : z_up (z_up (z_up (z_up (z_up ρ 1 t nd) 2 t no) 3 t fr) 4 t un) 0 0 (t + 1) 0 0 = t + 1 := by rw [z_up_s, zup_s]
  have c0 : bT γ t nd no fr un 0 0 = t + 1 := by
    show z_up _ 0 0 (t + 1) 0 0 = t + 1
    rw [z_up_s, zup_s]
  have c32 : ∀ l : Int, bT γ t nd no fr un 32 l = zup (zup (γ 32) (2 * t) 0) (2 * t + 1) 0 l := fun l => rfl
  have ex : ∀ s : Int, zEx (bT γ t nd no fr un) s ↔ zEx γ s := by
    intro s
    unfold zEx
    rw [c0, c32, em, ← hT]
    by_cases c : s / 4 = t
    · rw [c, zup_s]
      omega
    · rw [zup_n (by omega), zup_n (by omega)]
      omega
  have z := hU t (by omega) h19
  refine ⟨⟨hw', hc', he', ⟨?_, hT'.2.1, ?_⟩, ?_⟩, hN, ?_, hM, ?_, ?_, ?_, ?_, ?_, ?_⟩
  · rw [c0, r0]
  · intro w w0 w1
    rw [r0] at w1
    show (zup (γ 20) t nd w = zup (ρ 1) t nd w ∧ zup (γ 21) t no w = zup (ρ 2) t no w ∧ zup (γ 22) t fr w = zup (ρ 3) t fr w ∧ zup (γ 23) t un w = zup (ρ 4) t un w ∧ zup (γ 25) t 0 w = ρ 5 w ∧ zup (γ 28) t 0 w = ρ 7 w ∧ zup (γ 31) t 0 w = ρ 8 w ∧ zup (zup (γ 32) (2 * t) 0) (2 * t + 1) 0 (2 * w) = ρ 9 w ∧ zup (zup (γ 32) (2 * t) 0) (2 * t + 1) 0 (2 * w + 1) = ρ 10 w) ∧ kInp γ ρ w
    by_cases c : w = t
    · subst c
      rw [zup_s, zup_s, zup_s, zup_s, zup_s, zup_s, zup_s, zup_s, zup_s, zup_s, zup_s, zup_s, zup_n (by omega), zup_s]
      refine ⟨⟨rfl, rfl, rfl, rfl, z.1.1.symm, z.1.2.1.symm, z.1.2.2.1.symm, z.1.2.2.2.1.symm, z.1.2.2.2.2.symm⟩, ?_⟩
      intro k k0 k1
      rw [z.1.2.2.2.1] at k1
      omega
    · have o := hT'.2.2 w w0 (by omega)
      rw [zup_n c, zup_n c, zup_n c, zup_n c, zup_n c, zup_n c, zup_n c, zup_n c, zup_n c, zup_n c, zup_n c, zup_n (by omega), zup_n (by omega), zup_n (by omega), zup_n (by omega)]
      exact o
  · intro s hs
    exact hS s ((ex s).mp hs)
  · intro w m w0 w1 m0 m1
    rw [r0] at w1
    show zB (zup (γ 29) t 0 w) m = _ ∧ zB (zup (γ 30) t 0 w) m = _
    by_cases c : w = t
    · subst c
      have e : z_up (z_up (z_up (z_up (z_up ρ 1 w nd) 2 w no) 3 w fr) 4 w un) 0 0 (w + 1) 19 (20 * m + w) = 0 := z.2 m m0 m1
      rw [zup_s, zup_s, zB_0, e]
      exact ⟨rfl, rfl⟩
    · rw [zup_n c, zup_n c]
      exact hD w m w0 (by omega) m0 m1
  · intro w w0 w1 w2 w3
    rw [r0] at w1
    have w2' : ρ 5 w ≠ 0 := w2
    have ne : w ≠ t := fun e => w2' (by rw [e]; exact z.1.1)
    have L := kB_L hB0 w0 (by omega : w < ρ 0 0)
    have L' : kL γ (z_up (z_up (z_up (z_up (z_up ρ 1 t nd) 2 t no) 3 t fr) 4 t un) 0 0 (t + 1)) w := by
      refine ⟨hw', ⟨?_, ?_, L.2.1.2.2⟩, L.2.2⟩
      · show γ 20 w = zup (ρ 1) t nd w
        rw [zup_n ne]
        exact L.2.1.1
      · show γ 22 w = zup (ρ 3) t fr w
        rw [zup_n ne]
        exact L.2.1.2.1
    have s := snd_same L L' rfl
    rw [s.1, s.2]
    show zup (γ 26) t 0 w = _ ∧ zup (γ 27) t 0 w = _
    rw [zup_n ne, zup_n ne]
    exact hP w w0 (by omega) w2 w3
  · intro s s0 s1 hs
    exact hV s s0 s1 (fun q => hs ((ex s).mpr q))
  · intro w w0 w1
    rw [r0] at w1
    rw [r0]
    show (∀ v : Int, zEd ρ w v → zB (zup (γ 24) t 0 w) v = true) ∧ ∀ v : Int, 0 ≤ v → zB (zup (γ 24) t 0 w) v = true → v < t + 1 ∧ ρ 5 v ≠ 0 ∧ (∀ x : Int, 0 ≤ x → zB (zup (γ 24) t 0 v) x = true → zB (zup (γ 24) t 0 w) x = true) ∧ ∃ m : Nat, zPa (z_up (z_up (z_up (z_up (z_up ρ 1 t nd) 2 t no) 3 t fr) 4 t un) 0 0 (t + 1)) m w v
    by_cases c : w = t
    · subst c
      rw [zup_s]
      constructor
      · intro v hv
        obtain ⟨x, x0, x1, _⟩ := hv
        rw [z.1.2.2.2.1] at x1
        omega
      · intro v v0 hv
        rw [zB_0] at hv
        exact absurd hv (by decide)
    · rw [zup_n c]
      have a := hA w w0 (by omega)
      refine ⟨a.1, ?_⟩
      intro v v0 hv
      have b := a.2 v v0 hv
      refine ⟨by omega, b.2.1, ?_, ?_⟩
      · rw [zup_n (by omega : v ≠ t)]
        exact b.2.2.1
      · obtain ⟨m, hm⟩ := b.2.2.2
        exact ⟨m, by rw [zPa_eq (ρ := ρ) (ρ' := z_up (z_up (z_up (z_up (z_up ρ 1 t nd) 2 t no) 3 t fr) 4 t un) 0 0 (t + 1)) rfl rfl]; exact hm⟩
  · intro m v m0 m1 v0 v1 hv
    have a := hI m v m0 m1 v0 v1 hv
    rw [r0]
    exact ⟨by omega, a.2⟩
  · intro w w0 w1
    rw [r0] at w0
    exact hU w (by omega) w1
  · refine kW_fr hW rfl rfl (by rw [r0]; omega) ?_ (fun _ _ _ a b => ⟨a, b⟩) (fun _ _ => rfl) (fun _ _ => rfl)
    intro w w0 w1
    have ne : w ≠ t := by omega
    refine ⟨?_, ?_⟩
    · show zup (ρ 1) t nd w = ρ 1 w
      rw [zup_n ne]
    · show zup (ρ 2) t no w = ρ 2 w
      rw [zup_n ne]
theorem E_addInput {s u : Int} (h : zK γ ρ) (t0 : 0 ≤ t) (t1 : t < ρ 0 0) (hd : ρ 5 t = 0) (hn : ρ 9 t ≤ 3) (hs : zEx γ s) (hu : s / 4 = u) (h5 : ρ 5 u ≠ 0) (hc' : c_wf (cT_addInput γ t s u).2) (he' : zEl (cT_addInput γ t s u).2) : zK (cT_addInput γ t s u).2 (rR_addInput ρ t s).2 := by
  obtain ⟨hB, hN, hD, hM, hP, hV, hA, hI, hU, hW⟩ := h
  have hB0 := hB
  obtain ⟨hw, hc, he, hT', hS⟩ := hB
  have gm : 0 ≤ ρ 0 0 ∧ ρ 0 0 ≤ 20 := hw 0 0 (by decide)
  have em := kB_many hB0
  have o := kB_one hB0 t0 t1
  have g9 : 0 ≤ ρ 9 t ∧ ρ 9 t ≤ 4 := hw 9 t (by decide)
  have h9 : ∀ i : Int, 0 ≤ ρ 9 i ∧ ρ 9 i ≤ 4 := fun i => hw 9 i (by decide)
  have u1 : 0 ≤ u ∧ u < ρ 0 0 := by
    have a := hs.1
    have b := hs.2.1
    omega
  have ut : u ≠ t := fun e => h5 (by rw [e]; exact hd)
  have g24 : ∀ i : Int, 0 ≤ γ 24 i ∧ γ 24 i ≤ 1048575 := fun i => hc 24 i (by decide)
  have gs := zshl_20 (k := u) (by omega)
  have s79 : 0 ≤ s ∧ s ≤ 79 := by
    have a := hs.1
    have b := hs.2.1
    omega
  have hw' : z_wf (rR_addInput ρ t s).2 := wR_addInput hw t s (by omega) s79 hn
  have c24 : ∀ w : Int, (cT_addInput γ t s u).2 24 w = zup (γ 24) t (zor (γ 24 t) (zor (zshl 1 u) (γ 24 u))) w := fun w => rfl
  have c32 : ∀ l : Int, (cT_addInput γ t s u).2 32 l = zup (γ 32) (2 * t) (γ 32 (2 * t) + 1) l := fun l => rfl
  have c33 : ∀ i : Int, (cT_addInput γ t s u).2 33 i = zup (γ 33) (4 * (2 * t) + γ 32 (2 * t)) s i := fun i => rfl
  have r9 : ∀ w : Int, (rR_addInput ρ t s).2 9 w = zup (ρ 9) t (ρ 9 t + 1) w := fun w => rfl
  have r11 : ∀ i : Int, (rR_addInput ρ t s).2 11 i = zup (ρ 11) (4 * t + ρ 9 t) s i := fun i => rfl
  have e32 : γ 32 (2 * t) = ρ 9 t := o.2.2.2.2.2.2.2.1
  have ex : ∀ y : Int, zEx (cT_addInput γ t s u).2 y ↔ zEx γ y := by
    intro y
    unfold zEx
    rw [c32, zup_n (by omega)]
    exact Iff.rfl
  have ed : ∀ a b : Int, zEd ρ a b → zEd (rR_addInput ρ t s).2 a b := by
    intro a b hab
    obtain ⟨x, x0, x1, x2⟩ := hab
    have := h9 a
    refine ⟨x, x0, ?_, ?_⟩
    · rw [r9]
      unfold zup
      split
      · rename_i q; rw [q] at x1; omega
      · exact x1
    · rw [r11, zup_n ?_]
      · exact x2
      · intro q
        have : a = t := by omega
        subst this
        omega
  have en : ∀ a b : Int, a ≠ t → (zEd (rR_addInput ρ t s).2 a b → zEd ρ a b) := by
    intro a b ha hab
    obtain ⟨x, x0, x1, x2⟩ := hab
    have := h9 a
    rw [r9, zup_n ha] at x1
    rw [r11, zup_n (by omega)] at x2
    exact ⟨x, x0, x1, x2⟩
  refine ⟨⟨hw', hc', he', ⟨hT'.1, hT'.2.1, ?_⟩, ?_⟩, hN, hD, hM, ?_, ?_, ?_, kI_fr hI rfl rfl (fun _ _ _ a => a), ?_, kW_fr hW rfl rfl (Int.le_refl _) (fun _ _ _ => ⟨rfl, rfl⟩) (fun _ _ _ a b => ⟨a, b⟩) (fun _ _ => rfl) (fun _ _ => rfl)⟩
  · intro w w0 w1
    obtain ⟨⟨o1, o2, o3, o4, o5, o6, o7, o8, o9⟩, i⟩ := hT'.2.2 w w0 w1
    refine ⟨⟨o1, o2, o3, o4, o5, o6, o7, ?_, ?_⟩, ?_⟩
    · rw [c32, r9, e32]
      by_cases c : w = t
      · subst c
        rw [zup_s, zup_s]
      · rw [zup_n (by omega), zup_n c]
        exact o8
    · rw [c32, zup_n (by omega)]
      exact o9
    · intro k k0 k1
      rw [r9] at k1
      rw [c33, r11, e32]
      by_cases c : w = t
      · subst c
        rw [zup_s] at k1
        by_cases c2 : k = ρ 9 w
        · rw [c2, zup_s, zup_s]
        · rw [zup_n (by omega), zup_n (by omega)]
          exact i k k0 (by omega)
      · rw [zup_n c] at k1
        have := h9 w
        rw [zup_n (by omega), zup_n (by omega)]
        exact i k k0 k1
  · intro y hy
    exact hS y ((ex y).mp hy)
  · intro w w0 w1 w2 w3
    have w2' : ρ 5 w ≠ 0 := w2
    have ne : w ≠ t := fun e => w2' (by rw [e]; exact hd)
    have L := kB_L hB0 w0 w1
    have h9w := h9 w
    have L' : kL γ (rR_addInput ρ t s).2 w := by
      refine ⟨hw', ⟨L.2.1.1, L.2.1.2.1, ?_, L.2.1.2.2.2⟩, ?_, L.2.2.2⟩
      · rw [r9, zup_n ne]
        exact L.2.1.2.2.1
      · intro k k0 k1
        rw [r9, zup_n ne] at k1
        rw [r11, zup_n (by omega)]
        exact L.2.2.1 k k0 k1
    have q := snd_same L L' rfl
    rw [q.1, q.2]
    exact hP w w0 w1 w2 w3
  · intro y y0 y1 hy
    exact hV y y0 y1 (fun q => hy ((ex y).mpr q))
  · intro w w0 w1
    have w1' : w < ρ 0 0 := w1
    have bits : ∀ x : Int, 0 ≤ x → zB (zor (γ 24 t) (zor (zshl 1 u) (γ 24 u))) x = (zB (γ 24 t) x || (decide (x = u) || zB (γ 24 u) x)) := by
      intro x x0
      have a := g24 t
      have b := g24 u
      have c := zor_20 (a := zshl 1 u) (b := γ 24 u) (by omega) b
      rw [zB_or (by omega) (by omega), zB_or (by omega) (by omega), zB_shl (by omega) x0]
    by_cases c : w = t
    · subst c
      have aw := hA w w0 w1
      have au := hA u u1.1 u1.2
      constructor
      · intro v hv
        rw [c24, zup_s]
        obtain ⟨x, x0, x1, x2⟩ := hv
        have v0 : 0 ≤ v := by
          have := (hw' 11 (4 * w + x) (by decide)).1
          have h' : (0 : Int) ≤ (rR_addInput ρ w s).2 11 (4 * w + x) := this
          omega
        rw [bits v v0]
        rw [r9, zup_s] at x1
        rw [r11] at x2
        by_cases c2 : x = ρ 9 w
        · rw [c2, zup_s, hu] at x2
          rw [decide_eq_true (p := v = u) x2.symm]
          simp
        · rw [zup_n (by omega)] at x2
          rw [aw.1 v ⟨x, x0, by omega, x2⟩]
          rfl
      · intro v v0 hv
        rw [c24, zup_s, bits v v0] at hv
        have vt : ∀ y : Int, ρ 5 y ≠ 0 → y ≠ w := fun y hy e => hy (by rw [e]; exact hd)
        have edge : zEd (rR_addInput ρ w s).2 w u := ⟨ρ 9 w, by omega, by rw [r9, zup_s]; omega, by rw [r11, zup_s]; exact hu⟩
        by_cases c1 : zB (γ 24 w) v = true
        · have b := aw.2 v v0 c1
          refine ⟨b.1, b.2.1, ?_, ?_⟩
          · intro x x0 hx
            rw [c24, zup_n (vt v b.2.1)] at hx
            rw [c24, zup_s, bits x x0, b.2.2.1 x x0 hx]
            rfl
          · obtain ⟨m, hm⟩ := b.2.2.2
            exact ⟨m, zPa_mono ed m w v hm⟩
        · by_cases c2 : v = u
          · subst c2
            refine ⟨u1.2, h5, ?_, ⟨0, edge⟩⟩
            intro x x0 hx
            rw [c24, zup_n ut] at hx
            rw [c24, zup_s, bits x x0, hx]
            simp
          · have c3 : zB (γ 24 u) v = true := by
              rw [Bool.eq_false_iff.mpr c1, decide_eq_false c2] at hv
              simpa using hv
            have b := au.2 v v0 c3
            refine ⟨b.1, b.2.1, ?_, ?_⟩
            · intro x x0 hx
              rw [c24, zup_n (vt v b.2.1)] at hx
              rw [c24, zup_s, bits x x0, b.2.2.1 x x0 hx]
              simp
            · obtain ⟨m, hm⟩ := b.2.2.2
              exact ⟨m + 1, u, edge, zPa_mono ed m u v hm⟩
    · have a := hA w w0 w1
      constructor
      · intro v hv
        rw [c24, zup_n c]
        exact a.1 v (en w v c hv)
      · intro v v0 hv
        rw [c24, zup_n c] at hv
        have b := a.2 v v0 hv
        have vt : v ≠ t := fun e => b.2.1 (by rw [e]; exact hd)
        refine ⟨b.1, b.2.1, ?_, ?_⟩
        · intro x x0 hx
          rw [c24, zup_n vt] at hx
          rw [c24, zup_n c]
          exact b.2.2.1 x x0 hx
        · obtain ⟨m, hm⟩ := b.2.2.2
          exact ⟨m, zPa_mono ed m w v hm⟩
  · intro w w0 w1
    have w0' : ρ 0 0 ≤ w := w0
    have a := hU w w0 w1
    refine ⟨⟨a.1.1, a.1.2.1, a.1.2.2.1, ?_, a.1.2.2.2.2⟩, a.2⟩
    rw [r9, zup_n (by omega)]
    exact a.1.2.2.2.1
end
