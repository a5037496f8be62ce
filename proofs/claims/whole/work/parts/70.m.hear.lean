-- the verdict
section
variable {γ ρ : z_Sg} {t n : Int}
theorem hear_no {co fa : Int} (hc : co ≠ 1) (j : Nat) (k : Int) : lR_hear_34 ρ t co fa j k = ρ := by
  cases j with
  | zero => rfl
  | succ j =>
    have e : lR_hear_34 ρ t co fa (j + 1) k = if co ≠ 1 then ρ else if rR_told ρ t k = 0 then lR_hear_34 ρ t co fa j (k + 1) else lR_hear_34 (rR_send ρ 4 (ρ 1 t) k t 0).2 t co fa j (k + 1) := rfl
    rw [e, if_pos hc]
theorem sto (γ : z_Sg) (kd t rc : Int) : (cH_sendToOthers γ kd t rc).2 = (lH_sendToOthers_6 γ kd t rc 4 0 0).2 := by
  unfold cH_sendToOthers
  generalize lH_sendToOthers_6 γ kd t rc 4 0 0 = x
  rfl
theorem R_set {δ σ : z_Sg} {b sv : Int} (K : zK δ σ) (t0 : 0 ≤ t) (t1 : t < σ 0 0) (s0 : σ 5 t ≠ 0) (s9 : σ 5 t ≠ 9) (hb : σ 1 t = b) (hs : δ 27 t = sv) : zK (cH_settle δ t 1).2 (if sv = 0 then z_up σ 5 t 8 else z_up (z_up σ 5 t 3) 18 (20 * b + t) 2) := by
  have hw := K.1.1
  have gm : 0 ≤ σ 0 0 ∧ σ 0 0 ≤ 20 := hw 0 0 (by decide)
  have g1 : 0 ≤ σ 1 t ∧ σ 1 t ≤ 3 := hw 1 t (by decide)
  have gs := zshl_20 (k := t) (by omega)
  have o := kB_one K.1 t0 t1
  have st : ∀ v : Int, 1 ≤ v → v ≤ 8 → zK (z_up δ 25 t v) (z_up σ 5 t v) := by
    intro v v0 v1
    exact E_stage K t0 t1 v0 (by omega) (fun q => absurd q s0) (fun _ => ⟨s9, by omega⟩)
  have ec : (cH_settle δ t 1).2 = if sv = 0 then z_up δ 25 t 8 else (cN_enter (z_up δ 25 t 3) b t).2 := by
    unfold cH_settle
    rw [if_neg (by omega), if_pos rfl, hs, o.1, hb]
    split <;> rfl
  rw [ec]
  by_cases c5 : sv = 0
  · rw [if_pos c5, if_pos c5]
    exact st 8 (by decide) (by decide)
  · rw [if_neg c5, if_neg c5]
    have k := st 3 (by decide) (by decide)
    have gk2 : 0 ≤ z_up δ 25 t 3 2 b ∧ z_up δ 25 t 3 2 b ≤ 1048575 := k.1.2.1 2 _ (by decide)
    have gk3 : 0 ≤ z_up δ 25 t 3 3 b ∧ z_up δ 25 t 3 3 b ≤ 1048575 := k.1.2.1 3 _ (by decide)
    refine E_enter (a := zor (z_up δ 25 t 3 2 b) (zshl 1 t)) (b := zor (z_up δ 25 t 3 3 b) (zshl 1 t)) k t0 t1 (by omega) (by omega) (by rw [z_up_s, zup_s]; decide) (zor_20 gk2 (by omega)) (zor_20 gk3 (by omega)) ?_ ?_
    · intro p p0 p1
      rw [zB_or (by omega) (by omega), zB_shl (by omega) p0]
      by_cases q : p = t <;> simp [q]
    · intro p p0 p1
      rw [zB_or (by omega) (by omega), zB_shl (by omega) p0]
      by_cases q : p = t <;> simp [q]
theorem rv_0 {co fa : Int} (c1 : γ 25 t = 1) : cH_receiveVerdict γ t co fa = (0, γ) := by
  unfold cH_receiveVerdict
  rw [if_neg (fun q => q c1)]
theorem rv_1 {co fa : Int} (c1 : γ 25 t ≠ 1) (c2 : γ 25 t ≠ 2) : cH_receiveVerdict γ t co fa = (1, γ) := by
  unfold cH_receiveVerdict
  rw [if_pos c1, if_neg c2]
theorem rv_2 {fa : Int} (c2 : γ 25 t = 2) : cH_receiveVerdict γ t 1 fa = if fa ≠ 0 then (2, (cH_sendToOthers γ 4 t (zor (γ 26 t) (cT_concerned γ t))).2) else (2, (cH_settle (cH_sendToOthers γ 4 t (zor (γ 26 t) (cT_concerned γ t))).2 t 1).2) := by
  unfold cH_receiveVerdict
  generalize (cH_sendToOthers γ 4 t (zor (γ 26 t) (cT_concerned γ t))).2 = δ
  rw [if_pos (by omega), if_pos c2, if_neg (show ¬ ((1 : Int) ≠ 1) from fun q => q rfl)]
theorem rv_3 {co fa : Int} (c2 : γ 25 t = 2) (c3 : co ≠ 1) : cH_receiveVerdict γ t co fa = if fa ≠ 0 then (2, γ) else (2, (cH_settle γ t co).2) := by
  unfold cH_receiveVerdict
  rw [if_pos (by omega), if_pos c2, if_pos c3]
theorem hr_0 {co fa : Int} (c1 : ρ 5 t = 1) : rR_hear ρ t co fa = (0, ρ) := by
  unfold rR_hear
  rw [if_neg (fun q => q c1)]
theorem hr_1 {co fa : Int} (c1 : ρ 5 t ≠ 1) (c2 : ρ 5 t ≠ 2) : rR_hear ρ t co fa = (1, ρ) := by
  unfold rR_hear
  rw [if_pos c1, if_neg c2]
theorem hr_2 {fa : Int} (c2 : ρ 5 t = 2) : rR_hear ρ t 1 fa = if fa = 0 then (2, if rR_sound ρ t = 0 then z_up (lR_hear_34 ρ t 1 fa 4 0) 5 t 8 else z_up (z_up (lR_hear_34 ρ t 1 fa 4 0) 5 t 3) 18 (20 * lR_hear_34 ρ t 1 fa 4 0 1 t + t) 2) else (2, lR_hear_34 ρ t 1 fa 4 0) := by
  unfold rR_hear
  generalize lR_hear_34 ρ t 1 fa 4 0 = σ
  generalize rR_sound ρ t = sv
  rw [if_pos (by omega), if_pos c2]
  by_cases d1 : fa = 0
  · rw [if_pos d1, if_pos d1, if_neg (show ¬ ((1 : Int) ≠ 1) from fun q => q rfl)]
    by_cases d2 : sv = 0
    · rw [if_pos d2, if_pos d2, if_neg (show ¬ ((1 : Int) ≠ 1) from fun q => q rfl), if_pos d2]
    · rw [if_neg d2, if_neg d2, if_neg (show ¬ ((1 : Int) ≠ 1) from fun q => q rfl), if_neg d2]
  · rw [if_neg d1, if_neg d1]
theorem hr_3 {co fa : Int} (c2 : ρ 5 t = 2) (c3 : co ≠ 1) : rR_hear ρ t co fa = if fa = 0 then (2, z_up ρ 5 t (3 + co)) else (2, ρ) := by
  unfold rR_hear
  rw [hear_no c3]
  rw [if_pos (by omega), if_pos c2]
  by_cases d1 : fa = 0
  · rw [if_pos d1, if_pos d1, if_pos c3, if_pos c3]
  · rw [if_neg d1, if_neg d1]
theorem R_hear1 {fa : Int} (h : zK γ ρ) (t0 : 0 ≤ t) (t1 : t < ρ 0 0) (s0 : ρ 5 t ≠ 0) (s9 : ρ 5 t ≠ 9) {δ σ : z_Sg} (l : zK δ σ ∧ (∀ c : Nat, c ≠ 22 → c ≠ 23 → σ c = ρ c) ∧ ρ 23 0 ≤ σ 23 0) (f27 : δ 27 t = rR_sound ρ t) : zRes ρ (if fa ≠ 0 then (2, δ) else (2, (cH_settle δ t 1).2)) (if fa = 0 then (2, if rR_sound ρ t = 0 then z_up σ 5 t 8 else z_up (z_up σ 5 t 3) 18 (20 * σ 1 t + t) 2) else (2, σ)) := by
  have r0 : σ 0 = ρ 0 := l.2.1 0 (by decide) (by decide)
  have r5 : σ 5 = ρ 5 := l.2.1 5 (by decide) (by decide)
  by_cases c4 : fa = 0
  · rw [if_neg (fun q => q c4), if_pos c4]
    refine ⟨rfl, R_set l.1 t0 (by rw [r0]; exact t1) (by rw [r5]; exact s0) (by rw [r5]; exact s9) rfl f27, ?_⟩
    have w := l.2.2
    show ρ 23 0 ≤ (if rR_sound ρ t = 0 then z_up σ 5 t 8 else z_up (z_up σ 5 t 3) 18 (20 * σ 1 t + t) 2) 23 0
    generalize rR_sound ρ t = sv
    by_cases c : sv = 0
    · rw [if_pos c]; exact w
    · rw [if_neg c]; exact w
  · rw [if_pos c4, if_neg c4]
    exact ⟨rfl, l.1, l.2.2⟩
theorem R_hear2 {co fa : Int} (h : zK γ ρ) (t0 : 0 ≤ t) (t1 : t < ρ 0 0) (s0 : ρ 5 t ≠ 0) (s9 : ρ 5 t ≠ 9) (hco : 2 ≤ co ∧ co ≤ 4) : zRes ρ (if fa ≠ 0 then (2, γ) else (2, (cH_settle γ t co).2)) (if fa = 0 then (2, z_up ρ 5 t (3 + co)) else (2, ρ)) := by
  by_cases c4 : fa = 0
  · rw [if_neg (fun q => q c4), if_pos c4]
    have ec : (cH_settle γ t co).2 = z_up γ 25 t (3 + co) := by
      have hc : co = 2 ∨ co = 3 ∨ co = 4 := by omega
      unfold cH_settle
      rcases hc with rfl | rfl | rfl
      · rw [if_neg (by omega), if_neg (by decide), if_pos rfl]; rfl
      · rw [if_neg (by omega), if_neg (by decide), if_neg (by decide)]; rfl
      · rw [if_pos (by omega)]; rfl
    rw [ec]
    exact ⟨rfl, E_stage h t0 t1 (by omega) (by omega) (fun q => absurd q s0) (fun _ => ⟨s9, by omega⟩), Int.le_refl _⟩
  · rw [if_pos c4, if_neg c4]
    exact ⟨rfl, h, Int.le_refl _⟩
theorem R_hear {co fa : Int} (h : zK γ ρ) (t0 : 0 ≤ t) (t1 : t < ρ 0 0) (s0 : ρ 5 t ≠ 0) (s9 : ρ 5 t ≠ 9) (hco : 1 ≤ co ∧ co ≤ 4) : zRes ρ (cH_receiveVerdict γ t co fa) (rR_hear ρ t co fa) := by
  have o := kB_one h.1 t0 t1
  have p := h.2.2.2.2.1 t t0 t1 s0 s9
  have e5 := o.2.2.2.2.1
  by_cases c1 : ρ 5 t = 1
  · rw [rv_0 (e5.trans c1), hr_0 c1]
    exact ⟨rfl, h, Int.le_refl _⟩
  by_cases c2 : ρ 5 t = 2
  case neg =>
    rw [rv_1 (by omega) (by omega), hr_1 c1 c2]
    exact ⟨rfl, h, Int.le_refl _⟩
  by_cases c3 : co = 1
  · subst c3
    rw [rv_2 (e5.trans c2), hr_2 c2]
    refine R_hear1 h t0 t1 s0 s9 ?_ ?_
    · rw [sto]
      exact L_fin (γ0 := γ) (N := rR_needs ρ t) t0 (by rw [p.1]) 4 0 0 γ ρ h (kB_L h.1 t0 t1) rfl t1 s0 s9 (by omega) (by omega)
    · rw [kH_sendToOthers 4 t _ (by decide) (by decide), p.2]
  · rw [rv_3 (e5.trans c2) c3, hr_3 c2 c3]
    exact R_hear2 h t0 t1 s0 s9 (by omega)
end
