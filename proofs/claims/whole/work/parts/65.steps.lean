-- more steps
theorem z_up_id {σ : z_Sg} {c : Nat} {i : Int} : z_up σ c i (σ c i) = σ := by
  funext c' j
  unfold z_up zup
  by_cases h : c' = c
  · subst h
    rw [if_pos rfl]
    show (if j = i then σ c' i else σ c' j) = σ c' j
    split
    · rename_i e; rw [e]
    · rfl
  · rw [if_neg h]
section
variable {γ ρ : z_Sg} {t n : Int}
theorem E_consent {o v w : Int} (h : zK γ ρ) (n0 : 0 ≤ n) (n1 : n ≤ 3) (o0 : 0 ≤ o) (o1 : o ≤ 3) (v0 : 0 ≤ v ∧ v ≤ 15) (w0 : 0 ≤ w ∧ w ≤ 1) (hb : ∀ p : Int, 0 ≤ p → p ≤ 3 → zB v p = if p = o then decide (w = 0) else zB (γ 5 n) p) : zK (z_up γ 5 n v) (z_up ρ 21 (4 * n + o) w) := by
  obtain ⟨hB, hN, hD, hM, hP, hV, hA, hI, hU, hW⟩ := h
  have hB0 := hB
  obtain ⟨hw, hc, he, hT, hS⟩ := hB
  have hw' : z_wf (z_up ρ 21 (4 * n + o) w) := z_wf_up hw (by show (0 : Int) ≤ w; omega) (by show w ≤ 1; omega)
  have x : zFx ρ (z_up ρ 21 (4 * n + o) w) := ⟨rfl, rfl, rfl, rfl, rfl, rfl, rfl, rfl, rfl, rfl, rfl, rfl, rfl, rfl⟩
  refine ⟨⟨hw', c_wf_up hc (by show (0 : Int) ≤ v; omega) (by show v ≤ 15; omega), he, hT, hS⟩, ?_, hD, hM, kP_fr hB0 hP hw' x rfl rfl (fun _ _ _ a b => ⟨a, b⟩), hV, kA_fr hA rfl rfl rfl rfl (fun _ _ _ a => a), kI_fr hI rfl rfl (fun _ _ _ a => a), hU, kW_fr hW rfl rfl (Int.le_refl _) (fun _ _ _ => ⟨rfl, rfl⟩) (fun _ _ _ a b => ⟨a, b⟩) (fun _ _ => rfl) (fun _ _ => rfl)⟩
  intro m m0 m1
  have a := hN m m0 m1
  refine ⟨a.1, a.2.1, ?_⟩
  intro p p0 p1
  rw [z_up_s, z_up_s]
  by_cases c : m = n
  · subst c
    rw [zup_s, hb p p0 p1]
    by_cases c2 : p = o
    · subst c2
      rw [zup_s, if_pos rfl]
    · rw [zup_n (by omega), if_neg c2]
      exact a.2.2 p p0 p1
  · rw [zup_n c, zup_n (by omega)]
    exact a.2.2 p p0 p1
theorem E_decide {a b w : Int} (h : zK γ ρ) (t0 : 0 ≤ t) (t1 : t < ρ 0 0) (n0 : 0 ≤ n) (n1 : n ≤ 3) (a0 : 0 ≤ a ∧ a ≤ 15) (b0 : 0 ≤ b ∧ b ≤ 15) (w0 : w = 1 ∨ w = 2) (hz : ρ 19 (20 * n + t) = 0) (ha : ∀ p : Int, 0 ≤ p → p ≤ 3 → zB a p = if p = n then true else zB (γ 29 t) p) (hb : ∀ p : Int, 0 ≤ p → p ≤ 3 → zB b p = if p = n then decide (w = 1) else zB (γ 30 t) p) : zK (z_up (z_up γ 29 t a) 30 t b) (z_up ρ 19 (20 * n + t) w) := by
  obtain ⟨hB, hN, hD, hM, hP, hV, hA, hI, hU, hW⟩ := h
  have hB0 := hB
  obtain ⟨hw, hc, he, hT, hS⟩ := hB
  have gm : 0 ≤ ρ 0 0 ∧ ρ 0 0 ≤ 20 := hw 0 0 (by decide)
  have hw' : z_wf (z_up ρ 19 (20 * n + t) w) := z_wf_up hw (by show (0 : Int) ≤ w; omega) (by show w ≤ 2; omega)
  have x : zFx ρ (z_up ρ 19 (20 * n + t) w) := ⟨rfl, rfl, rfl, rfl, rfl, rfl, rfl, rfl, rfl, rfl, rfl, rfl, rfl, rfl⟩
  have e19 : ∀ y : Int, z_up ρ 19 (20 * n + t) w 19 y = if y = 20 * n + t then w else ρ 19 y := fun y => by rw [z_up_s]; rfl
  refine ⟨⟨hw', c_wf_up (c_wf_up hc (by show (0 : Int) ≤ a; omega) (by show a ≤ 15; omega)) (by show (0 : Int) ≤ b; omega) (by show b ≤ 15; omega), he, hT, hS⟩, hN, ?_, hM, kP_fr hB0 hP hw' x rfl rfl (fun _ _ _ a b => ⟨a, b⟩), hV, kA_fr hA rfl rfl rfl rfl (fun _ _ _ a => a), kI_fr hI rfl rfl (fun _ _ _ a => a), ?_, kW_fr hW rfl rfl (Int.le_refl _) (fun _ _ _ => ⟨rfl, rfl⟩) (fun _ _ _ a b => ⟨a, b⟩) (fun _ _ => rfl) ?_⟩
  · intro u m u0 u1 m0 m1
    have u1' : u < ρ 0 0 := u1
    have d := hD u m u0 u1 m0 m1
    rw [e19]
    show zB (zup (γ 29) t a u) m = _ ∧ zB (z_up (z_up γ 29 t a) 30 t b 30 u) m = _
    rw [z_up_s]
    show zB (zup (γ 29) t a u) m = _ ∧ zB (zup (γ 30) t b u) m = _
    by_cases c : u = t
    · subst c
      rw [zup_s, zup_s, ha m m0 m1, hb m m0 m1]
      by_cases c2 : m = n
      · subst c2
        rw [if_pos rfl, if_pos rfl, if_pos rfl]
        rcases w0 with rfl | rfl <;> exact ⟨rfl, rfl⟩
      · rw [if_neg c2, if_neg c2, if_neg (by omega)]
        exact d
    · rw [zup_n c, zup_n c, if_neg (by omega)]
      exact d
  · intro u u0 u1
    have u0' : ρ 0 0 ≤ u := u0
    have d := hU u u0 u1
    refine ⟨d.1, ?_⟩
    intro m m0 m1
    rw [e19, if_neg (by omega)]
    exact d.2 m m0 m1
  · intro i hi
    rw [e19]
    split
    · rename_i c
      rw [c] at hi
      exact absurd hz hi
    · rfl
theorem E_enter {a b : Int} (h : zK γ ρ) (t0 : 0 ≤ t) (t1 : t < ρ 0 0) (n0 : 0 ≤ n) (n1 : n ≤ 3) (hs : ρ 5 t ≠ 0) (a0 : 0 ≤ a ∧ a ≤ 1048575) (b0 : 0 ≤ b ∧ b ≤ 1048575) (ha : ∀ p : Int, 0 ≤ p → p ≤ 19 → zB a p = if p = t then true else zB (γ 2 n) p) (hb : ∀ p : Int, 0 ≤ p → p ≤ 19 → zB b p = if p = t then true else zB (γ 3 n) p) : zK (z_up (z_up γ 2 n a) 3 n b) (z_up ρ 18 (20 * n + t) 2) := by
  obtain ⟨hB, hN, hD, hM, hP, hV, hA, hI, hU, hW⟩ := h
  have hB0 := hB
  obtain ⟨hw, hc, he, hT, hS⟩ := hB
  have gm : 0 ≤ ρ 0 0 ∧ ρ 0 0 ≤ 20 := hw 0 0 (by decide)
  have hw' : z_wf (z_up ρ 18 (20 * n + t) 2) := z_wf_up hw (by decide) (by decide)
  have x : zFx ρ (z_up ρ 18 (20 * n + t) 2) := ⟨rfl, rfl, rfl, rfl, rfl, rfl, rfl, rfl, rfl, rfl, rfl, rfl, rfl, rfl⟩
  have e18 : ∀ y : Int, z_up ρ 18 (20 * n + t) 2 18 y = if y = 20 * n + t then 2 else ρ 18 y := fun y => by rw [z_up_s]; rfl
  refine ⟨⟨hw', c_wf_up (c_wf_up hc (by show (0 : Int) ≤ a; omega) (by show a ≤ 1048575; omega)) (by show (0 : Int) ≤ b; omega) (by show b ≤ 1048575; omega), he, hT, hS⟩, ?_, hD, hM, kP_fr hB0 hP hw' x rfl rfl (fun _ _ _ a b => ⟨a, b⟩), hV, kA_fr hA rfl rfl rfl rfl (fun _ _ _ a => a), ?_, hU, kW_fr hW rfl rfl (Int.le_refl _) (fun _ _ _ => ⟨rfl, rfl⟩) (fun _ _ _ a b => ⟨a, b⟩) (fun _ _ => rfl) (fun _ _ => rfl)⟩
  · intro m m0 m1
    have d := hN m m0 m1
    refine ⟨d.1, ?_, d.2.2⟩
    intro u u0 u1
    rw [e18]
    show zB (zup (γ 2) n a m) u = _ ∧ zB (zup (γ 3) n b m) u = _
    by_cases c : m = n
    · subst c
      rw [zup_s, zup_s, ha u u0 u1, hb u u0 u1]
      by_cases c2 : u = t
      · subst c2
        rw [if_pos rfl, if_pos rfl, if_pos rfl]
        exact ⟨rfl, rfl⟩
      · rw [if_neg c2, if_neg c2, if_neg (by omega)]
        exact d.2.1 u u0 u1
    · rw [zup_n c, zup_n c, if_neg (by omega)]
      exact d.2.1 u u0 u1
  · intro m u m0 m1 u0 u1 hu
    rw [e18] at hu
    by_cases c : 20 * m + u = 20 * n + t
    · have : u = t := by omega
      subst this
      exact ⟨t1, hs⟩
    · rw [if_neg c] at hu
      exact hI m u m0 m1 u0 u1 hu
theorem E_verdict {v : Int} (h : zK γ ρ) (t0 : 0 ≤ t) (t1 : t < ρ 0 0) (v0 : 0 ≤ v ∧ v ≤ 4) (hz : ρ 8 t = 0) : zK (z_up γ 31 t v) (z_up ρ 8 t v) := by
  obtain ⟨hB, hN, hD, hM, hP, hV, hA, hI, hU, hW⟩ := h
  have hB0 := hB
  obtain ⟨hw, hc, he, hT, hS⟩ := hB
  have hw' : z_wf (z_up ρ 8 t v) := z_wf_up hw (by show (0 : Int) ≤ v; omega) (by show v ≤ 4; omega)
  have x : zFx ρ (z_up ρ 8 t v) := ⟨rfl, rfl, rfl, rfl, rfl, rfl, rfl, rfl, rfl, rfl, rfl, rfl, rfl, rfl⟩
  have e8 : ∀ y : Int, z_up ρ 8 t v 8 y = if y = t then v else ρ 8 y := fun y => by rw [z_up_s]; rfl
  refine ⟨⟨hw', c_wf_up hc (by show (0 : Int) ≤ v; omega) (by show v ≤ 4; omega), he, ⟨hT.1, hT.2.1, ?_⟩, hS⟩, hN, hD, hM, kP_fr hB0 hP hw' x rfl rfl (fun _ _ _ a b => ⟨a, b⟩), hV, kA_fr hA rfl rfl rfl rfl (fun _ _ _ a => a), kI_fr hI rfl rfl (fun _ _ _ a => a), ?_, kW_fr hW rfl rfl (Int.le_refl _) (fun _ _ _ => ⟨rfl, rfl⟩) (fun _ _ _ a b => ⟨a, b⟩) ?_ (fun _ _ => rfl)⟩
  · intro w w0 w1
    obtain ⟨⟨o1, o2, o3, o4, o5, o6, o7, o8, o9⟩, i⟩ := hT.2.2 w w0 w1
    refine ⟨⟨o1, o2, o3, o4, o5, o6, ?_, o8, o9⟩, i⟩
    rw [z_up_s, z_up_s]
    exact zup_eq o7
  · intro w w0 w1
    have a := hU w w0 w1
    have w0' : ρ 0 0 ≤ w := w0
    refine ⟨⟨a.1.1, a.1.2.1, ?_, a.1.2.2.2⟩, a.2⟩
    rw [e8, if_neg (by omega)]
    exact a.1.2.2.1
  · intro i hi
    rw [e8]
    split
    · rename_i c
      rw [c] at hi
      exact absurd hz hi
    · rfl
theorem E_use {s : Int} (h : zK γ ρ) (hs : zEx γ s) (t0 : 0 ≤ t) (t1 : t ≤ 19) : zK (z_up γ 8 s t) (z_up ρ 17 s t) := by
  obtain ⟨hB, hN, hD, hM, hP, hV, hA, hI, hU, hW⟩ := h
  have hB0 := hB
  obtain ⟨hw, hc, he, hT, hS⟩ := hB
  have hw' : z_wf (z_up ρ 17 s t) := z_wf_up hw (by show (-1 : Int) ≤ t; omega) (by show t ≤ 19; omega)
  have x : zFx ρ (z_up ρ 17 s t) := ⟨rfl, rfl, rfl, rfl, rfl, rfl, rfl, rfl, rfl, rfl, rfl, rfl, rfl, rfl⟩
  refine ⟨⟨hw', c_wf_up hc (by show (-1 : Int) ≤ t; omega) (by show t ≤ 19; omega), he, hT, ?_⟩, hN, hD, hM, kP_fr hB0 hP hw' x rfl rfl (fun _ _ _ a b => ⟨a, b⟩), ?_, kA_fr hA rfl rfl rfl rfl (fun _ _ _ a => a), kI_fr hI rfl rfl (fun _ _ _ a => a), hU, kW_fr hW rfl rfl (Int.le_refl _) (fun _ _ _ => ⟨rfl, rfl⟩) (fun _ _ _ a b => ⟨a, b⟩) (fun _ _ => rfl) (fun _ _ => rfl)⟩
  · intro y hy
    have a := hS y hy
    refine ⟨a.1, ?_⟩
    rw [z_up_s, z_up_s]
    exact zup_eq a.2
  · intro y y0 y1 hy
    have hy' : ¬ zEx γ y := hy
    rw [z_up_s, zup_n (fun e => hy' (by rw [e]; exact hs))]
    exact hV y y0 y1 hy
-- messages: the list of all that may wait
def zrp (ρ : z_Sg) (n t : Int) : Int := if ρ 19 (20 * n + t) = 1 then 1 else if ρ 19 (20 * n + t) = 2 then 0 else if ρ 21 (4 * n + ρ 1 t) = 0 then 1 else 0
def zvd (ρ : z_Sg) (t : Int) : Int := if ρ 8 t ≠ 0 then ρ 8 t else rR_judge ρ t
def zP1 (ρ : z_Sg) (t : Int) : List Int := [zcode 0 (ρ 1 t) ((ρ 1 t + 1) % 4) t 0, zcode 0 (ρ 1 t) ((ρ 1 t + 2) % 4) t 0, zcode 0 (ρ 1 t) ((ρ 1 t + 3) % 4) t 0, zcode 1 ((ρ 1 t + 1) % 4) (ρ 1 t) t (zrp ρ ((ρ 1 t + 1) % 4) t), zcode 1 ((ρ 1 t + 2) % 4) (ρ 1 t) t (zrp ρ ((ρ 1 t + 2) % 4) t), zcode 1 ((ρ 1 t + 3) % 4) (ρ 1 t) t (zrp ρ ((ρ 1 t + 3) % 4) t), zcode 4 (ρ 1 t) ((ρ 1 t + 1) % 4) t 0, zcode 4 (ρ 1 t) ((ρ 1 t + 2) % 4) t 0, zcode 4 (ρ 1 t) ((ρ 1 t + 3) % 4) t 0, zcode 2 (ρ 1 t) (ρ 2 t) t 0, zcode 3 (ρ 2 t) (ρ 1 t) t (zvd ρ t)]
def zPl (ρ : z_Sg) : List Int := (List.range 20).flatMap (fun (k : Nat) => zP1 ρ (k : Int))
theorem zPl_len (ρ : z_Sg) : (zPl ρ).length = 220 := by
  unfold zPl
  rw [List.length_flatMap]
  show ((List.range 20).map (fun _ => 11)).sum = 220
  decide
theorem zPl_in {m : Int} (t0 : 0 ≤ t) (t1 : t ≤ 19) (h : m ∈ zP1 ρ t) : m ∈ zPl ρ := by
  unfold zPl
  rw [List.mem_flatMap]
  refine ⟨t.toNat, List.mem_range.mpr (by omega), ?_⟩
  rw [Int.toNat_of_nonneg t0]
  exact h
theorem oth {b n : Int} (hb : 0 ≤ b ∧ b ≤ 3) (hn : 0 ≤ n ∧ n ≤ 3) (h : n ≠ b) : n = (b + 1) % 4 ∨ n = (b + 2) % 4 ∨ n = (b + 3) % 4 := by omega
theorem zP_ask (hw : z_wf ρ) (t0 : 0 ≤ t) (t1 : t ≤ 19) (hn : 0 ≤ n ∧ n ≤ 3) (h : n ≠ ρ 1 t) : zcode 0 (ρ 1 t) n t 0 ∈ zPl ρ := by
  refine zPl_in t0 t1 ?_
  rcases oth (hw 1 t (by decide)) hn h with e | e | e <;> (rw [e]; simp [zP1])
theorem zP_reply (hw : z_wf ρ) (t0 : 0 ≤ t) (t1 : t ≤ 19) (hn : 0 ≤ n ∧ n ≤ 3) (h : n ≠ ρ 1 t) : zcode 1 n (ρ 1 t) t (zrp ρ n t) ∈ zPl ρ := by
  refine zPl_in t0 t1 ?_
  rcases oth (hw 1 t (by decide)) hn h with e | e | e <;> (rw [e]; simp [zP1])
theorem zP_fin (hw : z_wf ρ) (t0 : 0 ≤ t) (t1 : t ≤ 19) (hn : 0 ≤ n ∧ n ≤ 3) (h : n ≠ ρ 1 t) : zcode 4 (ρ 1 t) n t 0 ∈ zPl ρ := by
  refine zPl_in t0 t1 ?_
  rcases oth (hw 1 t (by decide)) hn h with e | e | e <;> (rw [e]; simp [zP1])
theorem zP_not (t0 : 0 ≤ t) (t1 : t ≤ 19) : zcode 2 (ρ 1 t) (ρ 2 t) t 0 ∈ zPl ρ := by
  refine zPl_in t0 t1 ?_
  simp [zP1]
theorem zP_ver (t0 : 0 ≤ t) (t1 : t ≤ 19) : zcode 3 (ρ 2 t) (ρ 1 t) t (zvd ρ t) ∈ zPl ρ := by
  refine zPl_in t0 t1 ?_
  simp [zP1]
theorem zMg_P {m : Int} (hw : z_wf ρ) (h : zMg ρ m) : m ∈ zPl ρ := by
  have gm : 0 ≤ ρ 0 0 ∧ ρ 0 0 ≤ 20 := hw 0 0 (by decide)
  obtain ⟨t, t0, t1, t2, t3, h⟩ := h
  rcases h with ⟨n, n0, n1, n2, rfl⟩ | ⟨n, n0, n1, n2, n3, rfl⟩ | rfl | ⟨n1, rfl⟩ | ⟨n, n0, n1, n2, rfl⟩
  · exact zP_ask hw t0 (by omega) ⟨n0, n1⟩ n2
  · have e : (if ρ 19 (20 * n + t) = 1 then (1 : Int) else 0) = zrp ρ n t := by
      have g : 0 ≤ ρ 19 (20 * n + t) ∧ ρ 19 (20 * n + t) ≤ 2 := hw 19 _ (by decide)
      unfold zrp
      (repeat' split) <;> omega
    rw [e]
    exact zP_reply hw t0 (by omega) ⟨n0, n1⟩ n2
  · exact zP_not t0 (by omega)
  · have e : ρ 8 t = zvd ρ t := by
      unfold zvd
      rw [if_pos n1]
    have := zP_ver (ρ := ρ) (t := t) t0 (by omega)
    rw [← e] at this
    exact this
  · exact zP_fin hw t0 (by omega) ⟨n0, n1⟩ n2
theorem kW_Rm (hw : z_wf ρ) (h : kW ρ) : zRm (zPl ρ) ρ := ⟨by rw [zPl_len]; decide, fun k k0 k1 => zMg_P hw (h.1 k k0 k1), h.2⟩
theorem wait_c (γ : z_Sg) (m : Int) : cB_isWaiting γ m = zb (anyZ (γ 6 0) (fun k => decide (γ 7 k = m))) := by
  by_cases hn : 0 ≤ γ 6 0
  · have key : ∀ (j : Nat) (k : Int), 0 ≤ k → k + j = γ 6 0 → (∀ i : Int, 0 ≤ i → i < k → γ 7 i ≠ m) → lB_isWaiting_2 γ m j k = zb (anyZ (γ 6 0) (fun k => decide (γ 7 k = m))) := by
      intro j
      induction j with
      | zero =>
        intro k c0 c1 c2
        rw [lB_isWaiting_2, anyZ_f]
        · rfl
        · intro i h0 h1
          exact decide_eq_false (c2 i h0 (by omega))
      | succ j ih =>
        intro k c0 c1 c2
        rw [lB_isWaiting_2]
        split
        · rename_i h
          exact ih (k + 1) (by omega) (by omega) (z_nf (f := γ 7) c2 h)
        · rename_i h
          rw [anyZ_t k c0 (by omega) (decide_eq_true (Decidable.not_not.mp h))]
          rfl
    exact key _ _ (by omega) (by omega) (fun i h0 h1 => by omega)
  · have e : (γ 6 0).toNat = 0 := by omega
    unfold cB_isWaiting
    rw [e, lB_isWaiting_2, anyZ_f]
    · rfl
    · intro i h0 h1
      omega
theorem E_send {kd se re co : Int} (h : zK γ ρ) (hm : zMg ρ (zcode kd se re t co)) (b0 : 0 ≤ zcode kd se re t co ∧ zcode kd se re t co ≤ 131071) : (cH_send γ kd t se re co).1 = (rR_send ρ kd se re t co).1 ∧ zK (cH_send γ kd t se re co).2 (rR_send ρ kd se re t co).2 := by
  have h0 := h
  obtain ⟨hB, hN, hD, hM, hP, hV, hA, hI, hU, hW⟩ := h
  have hB0 := hB
  obtain ⟨hw, hc, he, hT, hS⟩ := hB
  have rm := kW_Rm hw hW
  have room := zRm_room rm (zMg_P hw hm) hw
  have ew : cB_isWaiting γ (zcode kd se re t co) = zb (anyZ (ρ 23 0) (fun k => decide (ρ 22 k = zcode kd se re t co))) := by
    rw [wait_c, hM.1]
    congr 1
    apply anyZ_congr
    intro k k0 k1
    rw [hM.2 k k0 k1]
  rw [cR_send ρ kd se re t co hw]
  unfold cH_send
  show (if (cB_post γ (zcode kd se re t co)).1 = 0 then ((0 : Int), (cB_post γ (zcode kd se re t co)).2) else (1, (cB_post γ (zcode kd se re t co)).2)).1 = _ ∧ zK (if (cB_post γ (zcode kd se re t co)).1 = 0 then ((0 : Int), (cB_post γ (zcode kd se re t co)).2) else (1, (cB_post γ (zcode kd se re t co)).2)).2 _
  by_cases c : anyZ (ρ 23 0) (fun k => decide (ρ 22 k = zcode kd se re t co)) = true
  · have ep : cB_post γ (zcode kd se re t co) = (0, γ) := by
      unfold cB_post
      rw [ew, zb_t c]
      split
      · rfl
      · rw [if_neg (by decide)]
    rw [ep, if_pos c]
    exact ⟨rfl, h0⟩
  · have hr : ρ 23 0 ≤ 219 := by
      rcases room with ⟨k, k0, k1, k2⟩ | r
      · exact absurd (anyZ_t k k0 k1 (decide_eq_true k2)) c
      · exact r
    have cf : anyZ (ρ 23 0) (fun k => decide (ρ 22 k = zcode kd se re t co)) = false := by
      cases hx : anyZ (ρ 23 0) (fun k => decide (ρ 22 k = zcode kd se re t co)) with
      | true => exact absurd hx c
      | false => rfl
    have g23 : 0 ≤ ρ 23 0 ∧ ρ 23 0 ≤ 220 := hw 23 0 (by decide)
    have ep : cB_post γ (zcode kd se re t co) = (1, z_up (z_up γ 7 (ρ 23 0) (zcode kd se re t co)) 6 0 (ρ 23 0 + 1)) := by
      unfold cB_post
      rw [ew, zb_f cf, hM.1, if_neg (by omega), if_pos rfl]
    rw [ep, if_neg c]
    refine ⟨rfl, ?_⟩
    show zK (z_up (z_up γ 7 (ρ 23 0) (zcode kd se re t co)) 6 0 (ρ 23 0 + 1)) (z_up (z_up ρ 22 (ρ 23 0) (zcode kd se re t co)) 23 0 (ρ 23 0 + 1))
    have hw' : z_wf (z_up (z_up ρ 22 (ρ 23 0) (zcode kd se re t co)) 23 0 (ρ 23 0 + 1)) := z_wf_up (z_wf_up hw b0.1 b0.2) (by show (0 : Int) ≤ ρ 23 0 + 1; omega) (by show ρ 23 0 + 1 ≤ 220; omega)
    have x : zFx ρ (z_up (z_up ρ 22 (ρ 23 0) (zcode kd se re t co)) 23 0 (ρ 23 0 + 1)) := ⟨rfl, rfl, rfl, rfl, rfl, rfl, rfl, rfl, rfl, rfl, rfl, rfl, rfl, rfl⟩
    have e23 : z_up (z_up ρ 22 (ρ 23 0) (zcode kd se re t co)) 23 0 (ρ 23 0 + 1) 23 0 = ρ 23 0 + 1 := by rw [z_up_s, zup_s]
    have e22 : z_up (z_up ρ 22 (ρ 23 0) (zcode kd se re t co)) 23 0 (ρ 23 0 + 1) 22 = zup (ρ 22) (ρ 23 0) (zcode kd se re t co) := by rw [z_up_n (by decide), z_up_s]
    have f6 : z_up (z_up γ 7 (ρ 23 0) (zcode kd se re t co)) 6 0 (ρ 23 0 + 1) 6 0 = ρ 23 0 + 1 := by rw [z_up_s, zup_s]
    have f7 : z_up (z_up γ 7 (ρ 23 0) (zcode kd se re t co)) 6 0 (ρ 23 0 + 1) 7 = zup (γ 7) (ρ 23 0) (zcode kd se re t co) := by rw [z_up_n (by decide), z_up_s]
    have mg : ∀ m : Int, zMg ρ m → zMg (z_up (z_up ρ 22 (ρ 23 0) (zcode kd se re t co)) 23 0 (ρ 23 0 + 1)) m := fun m => zMg_fr (Int.le_refl _) (fun _ _ _ => ⟨rfl, rfl⟩) (fun _ _ _ a b => ⟨a, b⟩) (fun _ _ => rfl) (fun _ _ => rfl)
    refine ⟨⟨hw', c_wf_up (c_wf_up hc b0.1 b0.2) (by show (0 : Int) ≤ ρ 23 0 + 1; omega) (by show ρ 23 0 + 1 ≤ 220; omega), he, hT, hS⟩, hN, hD, ?_, kP_fr hB0 hP hw' x rfl rfl (fun _ _ _ a b => ⟨a, b⟩), hV, kA_fr hA rfl rfl rfl rfl (fun _ _ _ a => a), kI_fr hI rfl rfl (fun _ _ _ a => a), hU, ?_⟩
    · unfold kM
      rw [f6, e23, f7, e22]
      refine ⟨rfl, ?_⟩
      intro k k0 k1
      by_cases ck : k = ρ 23 0
      · rw [ck, zup_s, zup_s]
      · rw [zup_n ck, zup_n ck]
        exact hM.2 k k0 (by omega)
    · unfold kW
      rw [e23, e22]
      constructor
      · intro k k0 k1
        apply mg
        by_cases ck : k = ρ 23 0
        · rw [ck, zup_s]
          exact hm
        · rw [zup_n ck]
          exact hW.1 k k0 (by omega)
      · intro i j i0 i1 j1
        rw [zup_n (j := i) (by omega)]
        by_cases cj : j = ρ 23 0
        · rw [cj, zup_s]
          intro e
          exact c (anyZ_t i i0 (by omega) (decide_eq_true e))
        · rw [zup_n cj]
          exact hW.2 i j i0 i1 (by omega)
end
