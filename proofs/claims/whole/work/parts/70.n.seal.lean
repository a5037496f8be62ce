section
variable {γ ρ : z_Sg} {t n : Int}
-- sealing a draft
theorem E_seal {b N S ha : Int} (h : zK γ ρ) (t0 : 0 ≤ t) (t1 : t < ρ 0 0) (hd : ρ 5 t = 0) (gb : 0 ≤ b ∧ b ≤ 15) (gN : 0 ≤ N ∧ N ≤ 15) (gS : 0 ≤ S ∧ S ≤ 1) (gh : 0 ≤ ha ∧ ha ≤ 1) : zK (z_up (z_up (z_up γ 28 t b) 26 t N) 27 t S) (z_up (z_up ρ 6 t ha) 7 t b) := by
  obtain ⟨hB, hN, hD, hM, hP, hV, hA, hI, hU, hW⟩ := h
  have hB0 := hB
  obtain ⟨hw, hc, he, hT, hS⟩ := hB
  have hw' : z_wf (z_up (z_up ρ 6 t ha) 7 t b) := z_wf_up (z_wf_up hw (by show (0 : Int) ≤ ha; omega) (by show ha ≤ 1; omega)) (by show (0 : Int) ≤ b; omega) (by show b ≤ 15; omega)
  have hc' : c_wf (z_up (z_up (z_up γ 28 t b) 26 t N) 27 t S) := c_wf_up (c_wf_up (c_wf_up hc (by show (0 : Int) ≤ b; omega) (by show b ≤ 15; omega)) (by show (0 : Int) ≤ N; omega) (by show N ≤ 15; omega)) (by show (0 : Int) ≤ S; omega) (by show S ≤ 1; omega)
  refine ⟨⟨hw', hc', he, ⟨hT.1, hT.2.1, ?_⟩, hS⟩, hN, hD, hM, ?_, hV, kA_fr hA rfl rfl rfl rfl (fun _ _ _ a => a), kI_fr hI rfl rfl (fun _ _ _ a => a), ?_, kW_fr hW rfl rfl (Int.le_refl _) (fun _ _ _ => ⟨rfl, rfl⟩) (fun _ _ _ a b => ⟨a, b⟩) (fun _ _ => rfl) (fun _ _ => rfl)⟩
  · intro w w0 w1
    obtain ⟨⟨o1, o2, o3, o4, o5, o6, o7, o8, o9⟩, i⟩ := hT.2.2 w w0 w1
    refine ⟨⟨o1, o2, o3, o4, o5, ?_, o7, o8, o9⟩, i⟩
    show zup (γ 28) t b w = zup (ρ 7) t b w
    exact zup_eq o6
  · intro w w0 w1 w2 w3
    have w2' : ρ 5 w ≠ 0 := w2
    have ne : w ≠ t := fun e => w2' (by rw [e]; exact hd)
    have L := kB_L hB0 w0 w1
    have L' : kL γ (z_up (z_up ρ 6 t ha) 7 t b) w := ⟨hw', L.2⟩
    have s := snd_same L L' (by show zup (ρ 6) t ha w = ρ 6 w; rw [zup_n ne])
    rw [s.1, s.2]
    show zup (γ 26) t N w = _ ∧ zup (γ 27) t S w = _
    rw [zup_n ne, zup_n ne]
    exact hP w w0 w1 w2 w3
  · intro w w0 w1
    have a := hU w w0 w1
    have w0' : ρ 0 0 ≤ w := w0
    refine ⟨⟨a.1.1, ?_, a.1.2.2⟩, a.2⟩
    show zup (ρ 7) t b w = 0
    rw [zup_n (by omega)]
    exact a.1.2.1
theorem R_seal {ha : Int} (h : zK γ ρ) (t0 : 0 ≤ t) (t1 : t < ρ 0 0) (gh : 0 ≤ ha ∧ ha ≤ 1) : cT_seal γ t ha = (0, z_up (z_up (z_up γ 28 t (zshl 1 (ρ 1 t))) 26 t (rR_needs ρ t)) 27 t (rR_sound (z_up (z_up ρ 6 t ha) 7 t (zshl 1 (ρ 1 t))) t)) ∧ rR_needs (z_up (z_up ρ 6 t ha) 7 t (zshl 1 (ρ 1 t))) t = rR_needs ρ t ∧ rR_alone (z_up (z_up ρ 6 t ha) 7 t (zshl 1 (ρ 1 t))) t = (if rR_needs ρ t ≠ zshl 1 (ρ 1 t) then 0 else 1) ∧ (0 ≤ rR_sound (z_up (z_up ρ 6 t ha) 7 t (zshl 1 (ρ 1 t))) t ∧ rR_sound (z_up (z_up ρ 6 t ha) 7 t (zshl 1 (ρ 1 t))) t ≤ 1) := by
  have o := kB_one h.1 t0 t1
  have L := kB_L h.1 t0 t1
  have hw := h.1.1
  have g1 : 0 ≤ ρ 1 t ∧ ρ 1 t ≤ 3 := hw 1 t (by decide)
  have gs := zshl_1 (n := ρ 1 t) (by omega)
  have hw' : z_wf (z_up (z_up ρ 6 t ha) 7 t (zshl 1 (ρ 1 t))) := z_wf_up (z_wf_up hw (by show (0 : Int) ≤ ha; omega) (by show ha ≤ 1; omega)) (by show (0 : Int) ≤ zshl 1 (ρ 1 t); omega) (by show zshl 1 (ρ 1 t) ≤ 15; omega)
  have L' : kL γ (z_up (z_up ρ 6 t ha) 7 t (zshl 1 (ρ 1 t))) t := ⟨hw', L.2⟩
  have n1 : cT_needs (z_up γ 28 t (zshl 1 (ρ 1 t))) t = rR_needs ρ t := k_needs (γ := z_up γ 28 t (zshl 1 (ρ 1 t))) L
  have v1 : cT_isValid (z_up (z_up γ 28 t (zshl 1 (ρ 1 t))) 26 t (rR_needs ρ t)) t = rR_valid ρ t := k_valid (γ := z_up (z_up γ 28 t (zshl 1 (ρ 1 t))) 26 t (rR_needs ρ t)) L
  have nr : rR_needs (z_up (z_up ρ 6 t ha) 7 t (zshl 1 (ρ 1 t))) t = rR_needs ρ t := by rw [← k_needs L, ← k_needs L']
  have vr : rR_valid (z_up (z_up ρ 6 t ha) 7 t (zshl 1 (ρ 1 t))) t = rR_valid ρ t := by rw [← k_valid L, ← k_valid L']
  have ar : rR_alone (z_up (z_up ρ 6 t ha) 7 t (zshl 1 (ρ 1 t))) t = (if rR_needs ρ t ≠ zshl 1 (ρ 1 t) then 0 else 1) := by
    unfold rR_alone
    rw [nr]
    rfl
  have a1 : cT_needsNobodyElse (z_up (z_up γ 28 t (zshl 1 (ρ 1 t))) 26 t (rR_needs ρ t)) t = (if rR_needs ρ t ≠ zshl 1 (ρ 1 t) then 0 else 1) := by
    unfold cT_needsNobodyElse
    rw [z_up_s, zup_s]
    show (if rR_needs ρ t ≠ zshl 1 (γ 20 t) then (0 : Int) else 1) = _
    rw [o.1]
  have e6 : z_up (z_up ρ 6 t ha) 7 t (zshl 1 (ρ 1 t)) 6 t = ha := by
    show zup (ρ 6) t ha t = ha
    rw [zup_s]
  have sr : rR_sound (z_up (z_up ρ 6 t ha) 7 t (zshl 1 (ρ 1 t))) t = (if rR_valid ρ t = 0 then 0 else if ha = 0 then 1 else if (if rR_needs ρ t ≠ zshl 1 (ρ 1 t) then (0 : Int) else 1) = 0 then 0 else 1) := by
    unfold rR_sound
    rw [vr, e6, ar]
  have eb : cH_bit γ (γ 20 t) = zshl 1 (ρ 1 t) := by
    show zshl 1 (γ 20 t) = _
    rw [o.1]
  refine ⟨?_, nr, ar, ?_⟩
  · unfold cT_seal
    rw [eb, n1, v1, a1, sr]
    by_cases c1 : rR_valid ρ t = 0
    · rw [if_pos c1, if_pos c1]
    · rw [if_neg c1, if_neg c1]
      by_cases c2 : ha = 0
      · rw [if_pos c2, if_pos c2]
      · rw [if_neg c2, if_neg c2]
        by_cases c3 : (if rR_needs ρ t ≠ zshl 1 (ρ 1 t) then (0 : Int) else 1) = 0
        · rw [if_pos c3, if_pos c3]
        · rw [if_neg c3, if_neg c3]
  · rw [sr]
    (repeat' split) <;> omega
end
