-- the invariant, whole
theorem zup_eq {f g : Int → Int} {i v j : Int} (h : f j = g j) : zup f i v j = zup g i v j := by
  unfold zup
  split
  · rfl
  · exact h
def kD (γ ρ : z_Sg) : Prop := ∀ t n : Int, 0 ≤ t → t < ρ 0 0 → 0 ≤ n → n ≤ 3 → zB (γ 29 t) n = decide (ρ 19 (20 * n + t) ≠ 0) ∧ zB (γ 30 t) n = decide (ρ 19 (20 * n + t) = 1)
def kM (γ ρ : z_Sg) : Prop := γ 6 0 = ρ 23 0 ∧ ∀ k : Int, 0 ≤ k → k < ρ 23 0 → γ 7 k = ρ 22 k
def kP (γ ρ : z_Sg) : Prop := ∀ t : Int, 0 ≤ t → t < ρ 0 0 → ρ 5 t ≠ 0 → ρ 5 t ≠ 9 → γ 26 t = rR_needs ρ t ∧ γ 27 t = rR_sound ρ t
def kV (γ : z_Sg) : Prop := ∀ s : Int, 0 ≤ s → s < 80 → ¬ zEx γ s → γ 8 s = -1
def zEd (ρ : z_Sg) (t v : Int) : Prop := ∃ k : Int, 0 ≤ k ∧ k < ρ 9 t ∧ ρ 11 (4 * t + k) / 4 = v
def zPa (ρ : z_Sg) : Nat → Int → Int → Prop
  | 0, t, u => zEd ρ t u
  | n + 1, t, u => ∃ v : Int, zEd ρ t v ∧ zPa ρ n v u
def kA (γ ρ : z_Sg) : Prop := ∀ t : Int, 0 ≤ t → t < ρ 0 0 → (∀ v : Int, zEd ρ t v → zB (γ 24 t) v = true) ∧ ∀ v : Int, 0 ≤ v → zB (γ 24 t) v = true → v < ρ 0 0 ∧ ρ 5 v ≠ 0 ∧ (∀ w : Int, 0 ≤ w → zB (γ 24 v) w = true → zB (γ 24 t) w = true) ∧ ∃ n : Nat, zPa ρ n t v
def kI (ρ : z_Sg) : Prop := ∀ n t : Int, 0 ≤ n → n ≤ 3 → 0 ≤ t → t ≤ 19 → ρ 18 (20 * n + t) ≠ 0 → t < ρ 0 0 ∧ ρ 5 t ≠ 0
def zU (ρ : z_Sg) : Prop := ∀ t : Int, ρ 0 0 ≤ t → t ≤ 19 → (ρ 5 t = 0 ∧ ρ 7 t = 0 ∧ ρ 8 t = 0 ∧ ρ 9 t = 0 ∧ ρ 10 t = 0) ∧ ∀ n : Int, 0 ≤ n → n ≤ 3 → ρ 19 (20 * n + t) = 0
def zMs (ρ : z_Sg) (m t : Int) : Prop := (∃ n : Int, 0 ≤ n ∧ n ≤ 3 ∧ n ≠ ρ 1 t ∧ m = zcode 0 (ρ 1 t) n t 0) ∨ (∃ n : Int, 0 ≤ n ∧ n ≤ 3 ∧ n ≠ ρ 1 t ∧ ρ 19 (20 * n + t) ≠ 0 ∧ m = zcode 1 n (ρ 1 t) t (if ρ 19 (20 * n + t) = 1 then 1 else 0)) ∨ m = zcode 2 (ρ 1 t) (ρ 2 t) t 0 ∨ (ρ 8 t ≠ 0 ∧ m = zcode 3 (ρ 2 t) (ρ 1 t) t (ρ 8 t)) ∨ ∃ n : Int, 0 ≤ n ∧ n ≤ 3 ∧ n ≠ ρ 1 t ∧ m = zcode 4 (ρ 1 t) n t 0
def zMg (ρ : z_Sg) (m : Int) : Prop := ∃ t : Int, 0 ≤ t ∧ t < ρ 0 0 ∧ ρ 5 t ≠ 0 ∧ ρ 5 t ≠ 9 ∧ zMs ρ m t
def kW (ρ : z_Sg) : Prop := (∀ k : Int, 0 ≤ k → k < ρ 23 0 → zMg ρ (ρ 22 k)) ∧ ∀ i j : Int, 0 ≤ i → i < j → j < ρ 23 0 → ρ 22 i ≠ ρ 22 j
def zK (γ ρ : z_Sg) : Prop := kB γ ρ ∧ kN γ ρ ∧ kD γ ρ ∧ kM γ ρ ∧ kP γ ρ ∧ kV γ ∧ kA γ ρ ∧ kI ρ ∧ zU ρ ∧ kW ρ
section
variable {γ γ' ρ ρ' : z_Sg} {t u : Int}
theorem snd_same (L : kL γ ρ u) (L' : kL γ ρ' u) (h6 : ρ' 6 u = ρ 6 u) : rR_needs ρ' u = rR_needs ρ u ∧ rR_sound ρ' u = rR_sound ρ u := by
  have n1 : rR_needs ρ' u = rR_needs ρ u := by rw [← k_needs L, ← k_needs L']
  have v1 : rR_valid ρ' u = rR_valid ρ u := by rw [← k_valid L, ← k_valid L']
  have b1 : ρ' 1 u = ρ 1 u := by rw [← L.2.1.1, ← L'.2.1.1]
  refine ⟨n1, ?_⟩
  unfold rR_sound rR_alone
  rw [n1, v1, h6, b1]
/-- the columns of the reference that stay once a transaction is proposed -/
def zFx (ρ ρ' : z_Sg) : Prop := ρ' 0 = ρ 0 ∧ ρ' 1 = ρ 1 ∧ ρ' 2 = ρ 2 ∧ ρ' 3 = ρ 3 ∧ ρ' 4 = ρ 4 ∧ ρ' 6 = ρ 6 ∧ ρ' 9 = ρ 9 ∧ ρ' 10 = ρ 10 ∧ ρ' 11 = ρ 11 ∧ ρ' 12 = ρ 12 ∧ ρ' 13 = ρ 13 ∧ ρ' 14 = ρ 14 ∧ ρ' 15 = ρ 15 ∧ ρ' 16 = ρ 16
theorem zFx_L (x : zFx ρ ρ') (hw : z_wf ρ') (L : kL γ ρ u) : kL γ ρ' u := by
  obtain ⟨-, e1, -, e3, -, -, e9, e10, e11, e12, e13, e14, e15, e16⟩ := x
  refine ⟨hw, ?_⟩
  have l := L.2
  unfold kSt at l ⊢
  rw [e1, e3, e9, e10, e11, e12, e13, e14, e15, e16]
  exact l
theorem kP_fr (hB : kB γ ρ) (hP : kP γ ρ) (hw : z_wf ρ') (x : zFx ρ ρ') (h26 : γ' 26 = γ 26) (h27 : γ' 27 = γ 27) (h5 : ∀ t : Int, 0 ≤ t → t < ρ 0 0 → ρ' 5 t ≠ 0 → ρ' 5 t ≠ 9 → ρ 5 t ≠ 0 ∧ ρ 5 t ≠ 9) : kP γ' ρ' := by
  intro u u0 u1 u2 u3
  rw [x.1] at u1
  have a := h5 u u0 u1 u2 u3
  have p := hP u u0 u1 a.1 a.2
  have L := kB_L hB u0 u1
  have s := snd_same L (zFx_L x hw L) (by rw [x.2.2.2.2.2.1])
  rw [h26, h27, s.1, s.2]
  exact p
theorem zPa_eq (h9 : ρ' 9 = ρ 9) (h11 : ρ' 11 = ρ 11) : ∀ (n : Nat) (a b : Int), zPa ρ' n a b = zPa ρ n a b := by
  have e : ∀ a b : Int, zEd ρ' a b = zEd ρ a b := by
    intro a b
    unfold zEd
    rw [h9, h11]
  intro n
  induction n with
  | zero => intro a b; exact e a b
  | succ n ih =>
    intro a b
    show (∃ v : Int, zEd ρ' a v ∧ zPa ρ' n v b) = ∃ v : Int, zEd ρ a v ∧ zPa ρ n v b
    simp only [e, ih]
theorem kA_fr (hA : kA γ ρ) (e24 : γ' 24 = γ 24) (e0 : ρ' 0 = ρ 0) (e9 : ρ' 9 = ρ 9) (e11 : ρ' 11 = ρ 11) (h5 : ∀ v : Int, 0 ≤ v → v < ρ 0 0 → ρ 5 v ≠ 0 → ρ' 5 v ≠ 0) : kA γ' ρ' := by
  intro u u0 u1
  rw [e0] at u1
  have a := hA u u0 u1
  rw [e24, e0]
  constructor
  · intro v hv
    apply a.1 v
    unfold zEd at hv ⊢
    rw [e9, e11] at hv
    exact hv
  · intro v v0 hv
    have b := a.2 v v0 hv
    refine ⟨b.1, h5 v v0 b.1 b.2.1, b.2.2.1, ?_⟩
    obtain ⟨n, hn⟩ := b.2.2.2
    exact ⟨n, by rw [zPa_eq e9 e11]; exact hn⟩
theorem kI_fr (hI : kI ρ) (e18 : ρ' 18 = ρ 18) (e0 : ρ' 0 = ρ 0) (h5 : ∀ v : Int, 0 ≤ v → v < ρ 0 0 → ρ 5 v ≠ 0 → ρ' 5 v ≠ 0) : kI ρ' := by
  intro n v n0 n1 v0 v1 hv
  rw [e18] at hv
  have a := hI n v n0 n1 v0 v1 hv
  rw [e0]
  exact ⟨a.1, h5 v v0 a.1 a.2⟩
theorem zMg_fr {m : Int} (e0 : ρ 0 0 ≤ ρ' 0 0) (e1 : ∀ t : Int, 0 ≤ t → t < ρ 0 0 → ρ' 1 t = ρ 1 t ∧ ρ' 2 t = ρ 2 t) (h5 : ∀ t : Int, 0 ≤ t → t < ρ 0 0 → ρ 5 t ≠ 0 → ρ 5 t ≠ 9 → ρ' 5 t ≠ 0 ∧ ρ' 5 t ≠ 9) (h8 : ∀ t : Int, ρ 8 t ≠ 0 → ρ' 8 t = ρ 8 t) (h19 : ∀ i : Int, ρ 19 i ≠ 0 → ρ' 19 i = ρ 19 i) (h : zMg ρ m) : zMg ρ' m := by
  obtain ⟨t, t0, t1, t2, t3, h⟩ := h
  have a := h5 t t0 t1 t2 t3
  have b := e1 t t0 t1
  refine ⟨t, t0, by omega, a.1, a.2, ?_⟩
  unfold zMs
  rw [b.1, b.2]
  rcases h with ⟨n, n0, n1, n2, n3⟩ | ⟨n, n0, n1, n2, n3, n4⟩ | h | ⟨n1, n2⟩ | ⟨n, n0, n1, n2, n3⟩
  · exact Or.inl ⟨n, n0, n1, n2, n3⟩
  · refine Or.inr (Or.inl ⟨n, n0, n1, n2, ?_, ?_⟩)
    · rw [h19 _ n3]; exact n3
    · rw [h19 _ n3]; exact n4
  · exact Or.inr (Or.inr (Or.inl h))
  · refine Or.inr (Or.inr (Or.inr (Or.inl ⟨?_, ?_⟩)))
    · rw [h8 _ n1]; exact n1
    · rw [h8 _ n1]; exact n2
  · exact Or.inr (Or.inr (Or.inr (Or.inr ⟨n, n0, n1, n2, n3⟩)))
theorem kW_fr (hW : kW ρ) (e22 : ρ' 22 = ρ 22) (e23 : ρ' 23 = ρ 23) (e0 : ρ 0 0 ≤ ρ' 0 0) (e1 : ∀ t : Int, 0 ≤ t → t < ρ 0 0 → ρ' 1 t = ρ 1 t ∧ ρ' 2 t = ρ 2 t) (h5 : ∀ t : Int, 0 ≤ t → t < ρ 0 0 → ρ 5 t ≠ 0 → ρ 5 t ≠ 9 → ρ' 5 t ≠ 0 ∧ ρ' 5 t ≠ 9) (h8 : ∀ t : Int, ρ 8 t ≠ 0 → ρ' 8 t = ρ 8 t) (h19 : ∀ i : Int, ρ 19 i ≠ 0 → ρ' 19 i = ρ 19 i) : kW ρ' := by
  unfold kW
  rw [e22, e23]
  exact ⟨fun k k0 k1 => zMg_fr e0 e1 h5 h8 h19 (hW.1 k k0 k1), hW.2⟩
-- one step: the stage
theorem E_stage {v : Int} (h : zK γ ρ) (t0 : 0 ≤ t) (t1 : t < ρ 0 0) (v0 : 1 ≤ v) (v1 : v ≤ 9) (hp : ρ 5 t = 0 → v ≠ 9 → γ 26 t = rR_needs ρ t ∧ γ 27 t = rR_sound ρ t) (hn : ρ 5 t ≠ 0 → ρ 5 t ≠ 9 ∧ v ≠ 9) : zK (z_up γ 25 t v) (z_up ρ 5 t v) := by
  obtain ⟨hB, hN, hD, hM, hP, hV, hA, hI, hU, hW⟩ := h
  obtain ⟨hw, hc, he, hT, hS⟩ := hB
  have hw' : z_wf (z_up ρ 5 t v) := z_wf_up hw (by show (0 : Int) ≤ v; omega) (by show v ≤ 9; omega)
  have e5 : ∀ x : Int, z_up ρ 5 t v 5 x = if x = t then v else ρ 5 x := fun x => by rw [z_up_s]; rfl
  have x : zFx ρ (z_up ρ 5 t v) := ⟨rfl, rfl, rfl, rfl, rfl, rfl, rfl, rfl, rfl, rfl, rfl, rfl, rfl, rfl⟩
  refine ⟨⟨hw', c_wf_up hc (by show (0 : Int) ≤ v; omega) (by show v ≤ 9; omega), he, ⟨hT.1, hT.2.1, ?_⟩, hS⟩, hN, hD, hM, ?_, hV, ?_, ?_, ?_, ?_⟩
  · intro w w0 w1
    obtain ⟨⟨o1, o2, o3, o4, o5, o6, o7, o8, o9⟩, i⟩ := hT.2.2 w w0 w1
    refine ⟨⟨o1, o2, o3, o4, ?_, o6, o7, o8, o9⟩, i⟩
    rw [z_up_s, z_up_s]
    exact zup_eq o5
  · intro w w0 w1 w2 w3
    rw [e5] at w2 w3
    have L := kB_L (⟨hw, hc, he, hT, hS⟩ : kB γ ρ) w0 w1
    have s := snd_same L (zFx_L x hw' L) rfl
    rw [s.1, s.2]
    show γ 26 w = _ ∧ γ 27 w = _
    by_cases c : w = t
    · subst c
      by_cases c0 : ρ 5 w = 0
      · rw [if_pos rfl] at w3
        exact hp c0 w3
      · exact hP w w0 w1 c0 (hn c0).1
    · rw [if_neg c] at w2 w3
      exact hP w w0 w1 w2 w3
  · refine kA_fr hA rfl rfl rfl rfl ?_
    intro w w0 w1 w2
    rw [e5]
    split <;> omega
  · refine kI_fr hI rfl rfl ?_
    intro w w0 w1 w2
    rw [e5]
    split <;> omega
  · intro w w0 w1
    have a := hU w w0 w1
    have w0' : ρ 0 0 ≤ w := w0
    refine ⟨⟨?_, a.1.2⟩, a.2⟩
    rw [e5, if_neg (by omega)]
    exact a.1.1
  · refine kW_fr hW rfl rfl (Int.le_refl _) (fun _ _ _ => ⟨rfl, rfl⟩) ?_ (fun _ _ => rfl) (fun _ _ => rfl)
    intro w w0 w1 w2 w3
    rw [e5]
    by_cases c : w = t
    · subst c
      rw [if_pos rfl]
      have := hn w2
      omega
    · rw [if_neg c]
      exact ⟨w2, w3⟩
-- the signatures
theorem E_sign {v : Int} (h : zK γ ρ) (t0 : 0 ≤ t) (t1 : t < ρ 0 0) (v0 : 0 ≤ v) (v1 : v ≤ 15) : zK (z_up γ 28 t v) (z_up ρ 7 t v) := by
  obtain ⟨hB, hN, hD, hM, hP, hV, hA, hI, hU, hW⟩ := h
  have hB0 := hB
  obtain ⟨hw, hc, he, hT, hS⟩ := hB
  have hw' : z_wf (z_up ρ 7 t v) := z_wf_up hw (by show (0 : Int) ≤ v; omega) (by show v ≤ 15; omega)
  have x : zFx ρ (z_up ρ 7 t v) := ⟨rfl, rfl, rfl, rfl, rfl, rfl, rfl, rfl, rfl, rfl, rfl, rfl, rfl, rfl⟩
  refine ⟨⟨hw', c_wf_up hc (by show (0 : Int) ≤ v; omega) (by show v ≤ 15; omega), he, ⟨hT.1, hT.2.1, ?_⟩, hS⟩, hN, hD, hM, kP_fr hB0 hP hw' x rfl rfl (fun _ _ _ a b => ⟨a, b⟩), hV, kA_fr hA rfl rfl rfl rfl (fun _ _ _ a => a), kI_fr hI rfl rfl (fun _ _ _ a => a), ?_, kW_fr hW rfl rfl (Int.le_refl _) (fun _ _ _ => ⟨rfl, rfl⟩) (fun _ _ _ a b => ⟨a, b⟩) (fun _ _ => rfl) (fun _ _ => rfl)⟩
  · intro w w0 w1
    obtain ⟨⟨o1, o2, o3, o4, o5, o6, o7, o8, o9⟩, i⟩ := hT.2.2 w w0 w1
    refine ⟨⟨o1, o2, o3, o4, o5, ?_, o7, o8, o9⟩, i⟩
    rw [z_up_s, z_up_s]
    exact zup_eq o6
  · intro w w0 w1
    have a := hU w w0 w1
    have w0' : ρ 0 0 ≤ w := w0
    refine ⟨⟨a.1.1, ?_, a.1.2.2⟩, a.2⟩
    rw [z_up_s, zup_n (by omega)]
    exact a.1.2.1
-- the clock
theorem E_tick {v : Int} (h : zK γ ρ) (v0 : 0 ≤ v) (v1 : v ≤ 1000000) : zK (z_up γ 1 0 v) (z_up ρ 24 0 v) := by
  obtain ⟨hB, hN, hD, hM, hP, hV, hA, hI, hU, hW⟩ := h
  have hB0 := hB
  obtain ⟨hw, hc, he, hT, hS⟩ := hB
  have hw' : z_wf (z_up ρ 24 0 v) := z_wf_up hw (by show (0 : Int) ≤ v; omega) (by show v ≤ 1000000; omega)
  have x : zFx ρ (z_up ρ 24 0 v) := ⟨rfl, rfl, rfl, rfl, rfl, rfl, rfl, rfl, rfl, rfl, rfl, rfl, rfl, rfl⟩
  refine ⟨⟨hw', c_wf_up hc (by show (0 : Int) ≤ v; omega) (by show v ≤ 1000000; omega), he, ⟨hT.1, ?_, hT.2.2⟩, hS⟩, hN, hD, hM, kP_fr hB0 hP hw' x rfl rfl (fun _ _ _ a b => ⟨a, b⟩), hV, kA_fr hA rfl rfl rfl rfl (fun _ _ _ a => a), kI_fr hI rfl rfl (fun _ _ _ a => a), hU, kW_fr hW rfl rfl (Int.le_refl _) (fun _ _ _ => ⟨rfl, rfl⟩) (fun _ _ _ a b => ⟨a, b⟩) (fun _ _ => rfl) (fun _ _ => rfl)⟩
  rw [z_up_s, z_up_s, zup_s, zup_s]
-- rows that are only worked on
theorem E_scr (h : zK γ ρ) (hc : c_wf γ') (hw : z_wf ρ') (hg : ∀ c : Nat, c ≠ 9 → c ≠ 10 → γ' c = γ c) (hr : ∀ c : Nat, c ≠ 25 → c ≠ 26 → ρ' c = ρ c) : zK γ' ρ' := by
  obtain ⟨hB, hN, hD, hM, hP, hV, hA, hI, hU, hW⟩ := h
  have r : ∀ c : Nat, c < 25 → ρ' c = ρ c := fun c h => hr c (by omega) (by omega)
  have q0 := hg 0 (by decide) (by decide)
  have q1 := hg 1 (by decide) (by decide)
  have q2 := hg 2 (by decide) (by decide)
  have q3 := hg 3 (by decide) (by decide)
  have q4 := hg 4 (by decide) (by decide)
  have q5 := hg 5 (by decide) (by decide)
  have q6 := hg 6 (by decide) (by decide)
  have q7 := hg 7 (by decide) (by decide)
  have q8 := hg 8 (by decide) (by decide)
  have q : ∀ c : Nat, 20 ≤ c → γ' c = γ c := fun c h => hg c (by omega) (by omega)
  have x : zFx ρ ρ' := ⟨r 0 (by decide), r 1 (by decide), r 2 (by decide), r 3 (by decide), r 4 (by decide), r 6 (by decide), r 9 (by decide), r 10 (by decide), r 11 (by decide), r 12 (by decide), r 13 (by decide), r 14 (by decide), r 15 (by decide), r 16 (by decide)⟩
  have r5 := r 5 (by decide)
  have ex : ∀ s : Int, zEx γ' s ↔ zEx γ s := fun s => by
    unfold zEx
    rw [q0, q 32 (by decide)]
  refine ⟨⟨hw, hc, ?_, ?_, ?_⟩, ?_, ?_, ?_, kP_fr hB hP hw x (q 26 (by decide)) (q 27 (by decide)) (fun _ _ _ a b => by rw [r5] at a b; exact ⟨a, b⟩), ?_, kA_fr hA (q 24 (by decide)) (r 0 (by decide)) (r 9 (by decide)) (r 11 (by decide)) (fun _ _ _ a => by rw [r5]; exact a), kI_fr hI (r 18 (by decide)) (r 0 (by decide)) (fun _ _ _ a => by rw [r5]; exact a), ?_, kW_fr hW (r 22 (by decide)) (r 23 (by decide)) (by rw [r 0 (by decide)]; exact Int.le_refl _) (fun _ _ _ => ⟨by rw [r 1 (by decide)], by rw [r 2 (by decide)]⟩) (fun _ _ _ a b => by rw [r5]; exact ⟨a, b⟩) (fun _ _ => by rw [r 8 (by decide)]) (fun _ _ => by rw [r 19 (by decide)])⟩
  · have a := hB.2.2.1
    unfold zEl at a ⊢
    simp only [ex]
    rw [q0, q 32 (by decide), q 33 (by decide)]
    exact a
  · have a := hB.2.2.2.1
    unfold kT kOne kInp at a ⊢
    rw [q0, q1, q 20 (by decide), q 21 (by decide), q 22 (by decide), q 23 (by decide), q 25 (by decide), q 28 (by decide), q 31 (by decide), q 32 (by decide), q 33 (by decide), r 0 (by decide), r 1 (by decide), r 2 (by decide), r 3 (by decide), r 4 (by decide), r 5 (by decide), r 7 (by decide), r 8 (by decide), r 9 (by decide), r 10 (by decide), r 11 (by decide), r 24 (by decide)]
    exact a
  · have a := hB.2.2.2.2
    unfold kS kSt at a ⊢
    simp only [ex]
    rw [q8, q 34 (by decide), q 35 (by decide), q 36 (by decide), q 37 (by decide), q 38 (by decide), r 12 (by decide), r 13 (by decide), r 14 (by decide), r 15 (by decide), r 16 (by decide), r 17 (by decide)]
    exact a
  · unfold kN at hN ⊢
    rw [q2, q3, q4, q5, r 18 (by decide), r 20 (by decide), r 21 (by decide)]
    exact hN
  · unfold kD at hD ⊢
    rw [q 29 (by decide), q 30 (by decide), r 0 (by decide), r 19 (by decide)]
    exact hD
  · unfold kM at hM ⊢
    rw [q6, q7, r 22 (by decide), r 23 (by decide)]
    exact hM
  · unfold kV at hV ⊢
    simp only [ex]
    rw [q8]
    exact hV
  · unfold zU at hU ⊢
    rw [r 0 (by decide), r 5 (by decide), r 7 (by decide), r 8 (by decide), r 9 (by decide), r 10 (by decide), r 19 (by decide)]
    exact hU
end
