-- loops that send; the verdict; sealing
section
variable {γ ρ : z_Sg} {t n : Int}
theorem send_L {γ0 : z_Sg} {kd se re t' co : Int} (hw' : z_wf (rR_send ρ kd se re t' co).2) (hw : z_wf ρ) (L : kL γ0 ρ t) : kL γ0 (rR_send ρ kd se re t' co).2 t ∧ rR_needs (rR_send ρ kd se re t' co).2 t = rR_needs ρ t := by
  have x := send_Fx hw kd se re t' co
  have L' := zFx_L x hw' L
  exact ⟨L', (snd_same L L' (by rw [x.2.2.2.2.2.1])).1⟩
theorem L_fin {γ0 : z_Sg} {N rc fa : Int} (t0 : 0 ≤ t) (hrc : rc = zor N (cT_concerned γ0 t)) : ∀ (j : Nat) (k sn : Int) (γ ρ : z_Sg), zK γ ρ → kL γ0 ρ t → rR_needs ρ t = N → t < ρ 0 0 → ρ 5 t ≠ 0 → ρ 5 t ≠ 9 → 0 ≤ k → k + j = 4 → zK (lH_sendToOthers_6 γ 4 t rc j k sn).2 (lR_hear_34 ρ t 1 fa j k) ∧ (∀ c : Nat, c ≠ 22 → c ≠ 23 → lR_hear_34 ρ t 1 fa j k c = ρ c) ∧ ρ 23 0 ≤ lR_hear_34 ρ t 1 fa j k 23 0 := by
  intro j
  induction j with
  | zero => intro k sn γ ρ h _ _ _ _ _ _ _; exact ⟨h, fun c _ _ => rfl, Int.le_refl _⟩
  | succ j ih =>
    intro k sn γ ρ h L hN t1 s0 s9 hk hj
    have hw := h.1.1
    have o := kB_one h.1 t0 t1
    have gm : 0 ≤ ρ 0 0 ∧ ρ 0 0 ≤ 20 := hw 0 0 (by decide)
    have g1 : 0 ≤ ρ 1 t ∧ ρ 1 t ≤ 3 := hw 1 t (by decide)
    have told := k_told L (n := k) (by omega)
    rw [hN, ← hrc] at told
    have told' : rR_told ρ t k = if cH_has γ rc k ≠ 0 ∧ k ≠ ρ 1 t then 1 else 0 := told
    have sc : lH_sendToOthers_6 γ 4 t rc (j + 1) k sn = if cH_has γ rc k = 0 then lH_sendToOthers_6 γ 4 t rc j (k + 1) sn else if k = γ 20 t then lH_sendToOthers_6 γ 4 t rc j (k + 1) sn else lH_sendToOthers_6 (cH_send γ 4 t (γ 20 t) k 0).2 4 t rc j (k + 1) (sn + (cH_send γ 4 t (γ 20 t) k 0).1) := rfl
    have sr : lR_hear_34 ρ t 1 fa (j + 1) k = if rR_told ρ t k = 0 then lR_hear_34 ρ t 1 fa j (k + 1) else lR_hear_34 (rR_send ρ 4 (ρ 1 t) k t 0).2 t 1 fa j (k + 1) := by
      show (if (1 : Int) ≠ 1 then ρ else if rR_told ρ t k = 0 then lR_hear_34 ρ t 1 fa j (k + 1) else lR_hear_34 (rR_send ρ 4 (ρ 1 t) k t 0).2 t 1 fa j (k + 1)) = _
      rw [if_neg (fun q => q rfl)]
    rw [sc, sr, told', o.1]
    by_cases a : cH_has γ rc k = 0
    · rw [if_pos a, if_neg (fun q => q.1 a), if_pos rfl]
      exact ih (k + 1) sn γ ρ h L hN t1 s0 s9 (by omega) (by omega)
    · rw [if_neg a]
      by_cases b : k = ρ 1 t
      · rw [if_pos b, if_neg (fun q => q.2 b), if_pos rfl]
        exact ih (k + 1) sn γ ρ h L hN t1 s0 s9 (by omega) (by omega)
      · rw [if_neg b, if_pos ⟨a, b⟩, if_neg (by decide)]
        have s := E_send (kd := 4) (se := ρ 1 t) (re := k) (co := 0) (t := t) h ⟨t, t0, t1, s0, s9, Or.inr (Or.inr (Or.inr (Or.inr ⟨k, hk, by omega, b, rfl⟩)))⟩ (by unfold zcode; omega)
        have L' := send_L s.2.1.1 hw L
        have q : ∀ c : Nat, c ≠ 22 → c ≠ 23 → (rR_send ρ 4 (ρ 1 t) k t 0).2 c = ρ c := fun c h1 h2 => kR_send hw _ _ _ _ _ h1 h2
        have i := ih (k + 1) (sn + (cH_send γ 4 t (ρ 1 t) k 0).1) _ _ s.2 L'.1 (by rw [L'.2]; exact hN) (by rw [q 0 (by decide) (by decide)]; exact t1) (by rw [q 5 (by decide) (by decide)]; exact s0) (by rw [q 5 (by decide) (by decide)]; exact s9) (by omega) (by omega)
        refine ⟨i.1, fun c h1 h2 => by rw [i.2.1 c h1 h2, q c h1 h2], ?_⟩
        have w := send_23 hw 4 (ρ 1 t) k t 0
        have w2 := i.2.2
        omega
theorem L_ask {γ0 : z_Sg} {N ha nd : Int} (t0 : 0 ≤ t) : ∀ (j : Nat) (k sn : Int) (γ ρ : z_Sg), zK γ ρ → kL γ0 ρ t → rR_needs ρ t = N → ρ 1 t = nd → t < ρ 0 0 → ρ 5 t ≠ 0 → ρ 5 t ≠ 9 → 0 ≤ k → k + j = 4 → (lH_sendToOthers_6 γ 0 t N j k sn).1 = (lR_propose_107 ρ t ha j k sn nd).1 ∧ zK (lH_sendToOthers_6 γ 0 t N j k sn).2 (lR_propose_107 ρ t ha j k sn nd).2 := by
  intro j
  induction j with
  | zero => intro k sn γ ρ h _ _ _ _ _ _ _ _; exact ⟨rfl, h⟩
  | succ j ih =>
    intro k sn γ ρ h L hN hb t1 s0 s9 hk hj
    have hw := h.1.1
    have o := kB_one h.1 t0 t1
    have gm : 0 ≤ ρ 0 0 ∧ ρ 0 0 ≤ 20 := hw 0 0 (by decide)
    have g1 : 0 ≤ ρ 1 t ∧ ρ 1 t ≤ 3 := hw 1 t (by decide)
    have gN := needs_15 L
    have hz : cH_has γ N k = if rR_mustSign ρ t k = 0 then 0 else 1 := by
      rw [← hN, zB_has γ (by omega) (by omega), needs_B L (by omega)]
      by_cases c : rR_mustSign ρ t k = 0 <;> simp [c, zb]
    have sc : lH_sendToOthers_6 γ 0 t N (j + 1) k sn = if cH_has γ N k = 0 then lH_sendToOthers_6 γ 0 t N j (k + 1) sn else if k = γ 20 t then lH_sendToOthers_6 γ 0 t N j (k + 1) sn else lH_sendToOthers_6 (cH_send γ 0 t (γ 20 t) k 0).2 0 t N j (k + 1) (sn + (cH_send γ 0 t (γ 20 t) k 0).1) := rfl
    have sr : lR_propose_107 ρ t ha (j + 1) k sn nd = if k = nd then lR_propose_107 ρ t ha j (k + 1) sn nd else if rR_mustSign ρ t k = 0 then lR_propose_107 ρ t ha j (k + 1) sn nd else lR_propose_107 (rR_send ρ 0 nd k t 0).2 t ha j (k + 1) (sn + (rR_send ρ 0 nd k t 0).1) nd := rfl
    rw [sc, sr, hz, o.1, hb]
    by_cases b : k = nd
    · rw [if_pos b, if_pos b]
      have i := ih (k + 1) sn γ ρ h L hN hb t1 s0 s9 (by omega) (by omega)
      split <;> exact i
    · rw [if_neg b, if_neg b]
      by_cases a : rR_mustSign ρ t k = 0
      · rw [if_pos a, if_pos rfl, if_pos a]
        exact ih (k + 1) sn γ ρ h L hN hb t1 s0 s9 (by omega) (by omega)
      · rw [if_neg a, if_neg (by decide), if_neg a]
        have s := E_send (kd := 0) (se := nd) (re := k) (co := 0) (t := t) h ⟨t, t0, t1, s0, s9, Or.inl ⟨k, hk, by omega, by rw [hb]; exact b, by rw [hb]⟩⟩ (by unfold zcode; omega)
        have L' := send_L s.2.1.1 hw L
        have q : ∀ c : Nat, c ≠ 22 → c ≠ 23 → (rR_send ρ 0 nd k t 0).2 c = ρ c := fun c h1 h2 => kR_send hw _ _ _ _ _ h1 h2
        rw [s.1]
        exact ih (k + 1) (sn + (rR_send ρ 0 nd k t 0).1) _ _ s.2 L'.1 (by rw [L'.2]; exact hN) (by rw [q 1 (by decide) (by decide)]; exact hb) (by rw [q 0 (by decide) (by decide)]; exact t1) (by rw [q 5 (by decide) (by decide)]; exact s0) (by rw [q 5 (by decide) (by decide)]; exact s9) (by omega) (by omega)
theorem R_hear {co fa : Int} (h : zK γ ρ) (t0 : 0 ≤ t) (t1 : t < ρ 0 0) (s0 : ρ 5 t ≠ 0) (s9 : ρ 5 t ≠ 9) (hco : 1 ≤ co ∧ co ≤ 4) : zRes ρ (cH_receiveVerdict γ t co fa) (rR_hear ρ t co fa) := by
  have hw := h.1.1
  have o := kB_one h.1 t0 t1
  have gm : 0 ≤ ρ 0 0 ∧ ρ 0 0 ≤ 20 := hw 0 0 (by decide)
  have g1 : 0 ≤ ρ 1 t ∧ ρ 1 t ≤ 3 := hw 1 t (by decide)
  have p := h.2.2.2.2.1 t t0 t1 s0 s9
  have gs := zshl_20 (k := t) (by omega)
  unfold cH_receiveVerdict rR_hear
  rw [o.2.2.2.2.1]
  by_cases c1 : ρ 5 t = 1
  · rw [if_neg (fun q => q c1), if_neg (fun q => q c1)]
    exact ⟨rfl, h, Int.le_refl _⟩
  rw [if_pos c1, if_pos c1]
  by_cases c2 : ρ 5 t = 2
  · rw [if_pos c2, if_pos c2]
    by_cases c3 : co = 1
    · subst c3
      have c3' : ¬ ((1 : Int) ≠ 1) := fun q => q rfl
      have l := L_fin (γ0 := γ) (N := rR_needs ρ t) (rc := zor (γ 26 t) (cT_concerned γ t)) (fa := fa) t0 (by rw [p.1]) 4 0 0 γ ρ h (kB_L h.1 t0 t1) rfl t1 s0 s9 (by omega) (by omega)
      have es : (cH_sendToOthers γ 4 t (zor (γ 26 t) (cT_concerned γ t))).2 = (lH_sendToOthers_6 γ 4 t (zor (γ 26 t) (cT_concerned γ t)) 4 0 0).2 := rfl
      rw [if_neg c3', if_neg c3', es]
      by_cases c4 : fa = 0
      · rw [if_neg (fun q => q c4), if_pos c4]
        have e27 : (lH_sendToOthers_6 γ 4 t (zor (γ 26 t) (cT_concerned γ t)) 4 0 0).2 27 t = rR_sound ρ t := by rw [kH_sendToOthers_6 4 t _ 4 0 0 (by decide) (by decide), p.2]
        have e20 : (lH_sendToOthers_6 γ 4 t (zor (γ 26 t) (cT_concerned γ t)) 4 0 0).2 20 t = ρ 1 t := by rw [kH_sendToOthers_6 4 t _ 4 0 0 (by decide) (by decide), o.1]
        have r1 : lR_hear_34 ρ t 1 fa 4 0 1 t = ρ 1 t := by rw [l.2.1 1 (by decide) (by decide)]
        have r0 : lR_hear_34 ρ t 1 fa 4 0 0 = ρ 0 := l.2.1 0 (by decide) (by decide)
        have r5 : lR_hear_34 ρ t 1 fa 4 0 5 = ρ 5 := l.2.1 5 (by decide) (by decide)
        have st : ∀ v : Int, 1 ≤ v → v ≤ 8 → zK (z_up (lH_sendToOthers_6 γ 4 t (zor (γ 26 t) (cT_concerned γ t)) 4 0 0).2 25 t v) (z_up (lR_hear_34 ρ t 1 fa 4 0) 5 t v) := by
          intro v v0 v1
          refine E_stage l.1 t0 (by rw [r0]; exact t1) v0 (by omega) (fun q => ?_) (fun _ => ⟨?_, by omega⟩)
          · rw [r5] at q
            exact absurd q s0
          · rw [r5]; exact s9
        have ec : cH_settle (lH_sendToOthers_6 γ 4 t (zor (γ 26 t) (cT_concerned γ t)) 4 0 0).2 t 1 = if rR_sound ρ t = 0 then (0, z_up (lH_sendToOthers_6 γ 4 t (zor (γ 26 t) (cT_concerned γ t)) 4 0 0).2 25 t 8) else (0, (cN_enter (z_up (lH_sendToOthers_6 γ 4 t (zor (γ 26 t) (cT_concerned γ t)) 4 0 0).2 25 t 3) (ρ 1 t) t).2) := by
          unfold cH_settle
          rw [if_neg (by omega), if_pos rfl, e27, e20]
        rw [ec, if_neg c3', r1]
        by_cases c5 : rR_sound ρ t = 0
        · rw [if_pos c5, if_pos c5, if_pos c5]
          exact ⟨rfl, st 8 (by decide) (by decide), l.2.2⟩
        · rw [if_neg c5, if_neg c5, if_neg c5]
          have k := st 3 (by decide) (by decide)
          generalize hδ : (lH_sendToOthers_6 γ 4 t (zor (γ 26 t) (cT_concerned γ t)) 4 0 0).2 = δ at k ⊢
          generalize hσ : lR_hear_34 ρ t 1 fa 4 0 = σ at k l r0 r5 ⊢
          have gk2 : 0 ≤ z_up δ 25 t 3 2 (ρ 1 t) ∧ z_up δ 25 t 3 2 (ρ 1 t) ≤ 1048575 := k.1.2.1 2 _ (by decide)
          have gk3 : 0 ≤ z_up δ 25 t 3 3 (ρ 1 t) ∧ z_up δ 25 t 3 3 (ρ 1 t) ≤ 1048575 := k.1.2.1 3 _ (by decide)
          refine ⟨rfl, ?_, l.2.2⟩
          refine E_enter (a := zor (z_up δ 25 t 3 2 (ρ 1 t)) (zshl 1 t)) (b := zor (z_up δ 25 t 3 3 (ρ 1 t)) (zshl 1 t)) k t0 (by show t < σ 0 0; rw [r0]; exact t1) g1.1 g1.2 (by rw [z_up_s, zup_s]; decide) (zor_20 gk2 (by omega)) (zor_20 gk3 (by omega)) ?_ ?_
          · intro p p0 p1
            rw [zB_or (by omega) (by omega), zB_shl (by omega) p0]
            by_cases q : p = t <;> simp [q]
          · intro p p0 p1
            rw [zB_or (by omega) (by omega), zB_shl (by omega) p0]
            by_cases q : p = t <;> simp [q]
      · rw [if_pos c4, if_neg c4]
        exact ⟨rfl, l.1, l.2.2⟩
    · rw [if_pos c3, if_pos c3]
      have el : lR_hear_34 ρ t co fa 4 0 = ρ := by
        show (if co ≠ 1 then ρ else _) = ρ
        rw [if_pos c3]
      rw [el]
      by_cases c4 : fa = 0
      · rw [if_neg (fun q => q c4), if_pos c4, if_pos c3]
        have ec : (cH_settle γ t co).2 = z_up γ 25 t (3 + co) := by
          have hc : co = 2 ∨ co = 3 ∨ co = 4 := by omega
          unfold cH_settle
          rcases hc with rfl | rfl | rfl
          · rw [if_neg (by omega), if_neg (by decide), if_pos rfl]; rfl
          · rw [if_neg (by omega), if_neg (by decide), if_neg (by decide)]; rfl
          · rw [if_pos (by omega)]; rfl
        rw [ec]
        exact ⟨rfl, E_stage h t0 t1 (by omega) (by omega) (fun q => absurd q s0) (fun _ => ⟨s9, by omega⟩), Int.le_refl _⟩
      · rw [if_pos c4, if_neg c4]
        exact ⟨rfl, h, Int.le_refl _⟩
  · rw [if_neg c2, if_neg c2]
    exact ⟨rfl, h, Int.le_refl _⟩
-- sealing a draft
theorem E_seal {b N S ha : Int} (h : zK γ ρ) (t0 : 0 ≤ t) (t1 : t < ρ 0 0) (hd : ρ 5 t = 0) (gb : 0 ≤ b ∧ b ≤ 15) (gN : 0 ≤ N ∧ N ≤ 15) (gS : 0 ≤ S ∧ S ≤ 1) (gh : 0 ≤ ha ∧ ha ≤ 1) : zK (z_up (z_up (z_up γ 28 t b) 26 t N) 27 t S) (z_up (z_up ρ 6 t ha) 7 t b) := by
  obtain ⟨hB, hN, hD, hM, hP, hV, hA, hI, hU, hW⟩ := h
  have hB0 := hB
  obtain ⟨hw, hc, he, hT, hS⟩ := hB
  have hw' : z_wf (z_up (z_up ρ 6 t ha) 7 t b) := z_wf_up (z_wf_up hw (by show (0 : Int) ≤ ha; omega) (by show ha ≤ 1; omega)) (by show (0 : Int) ≤ b; omega) (by show b ≤ 15; omega)
  have hc' : c_wf (z_up (z_up (z_up γ 28 t b) 26 t N) 27 t S) := c_wf_up (c_wf_up (c_wf_up hc (by show (0 : Int) ≤ b; omega) (by show b ≤ 15; omega)) (by show (0 : Int) ≤ N; omega) (by show N ≤ 15; omega)) (by show (0 : Int) ≤ S; omega) (by show S ≤ 1; omega)
  refine ⟨⟨hw', hc', he, ⟨hT.1, hT.2.1, ?_⟩, hS⟩, hN, hD, hM, ?_, hV, kA_fr hA rfl rfl rfl rfl (fun _ _ _ a => a), kI_fr hI rfl rfl (fun _ _ _ a => a), ?_, kW_fr hW rfl rfl (Int.le_refl _) (fun _ _ _ => ⟨rfl, rfl⟩) (fun _ _ _ a b => ⟨a, b⟩) (fun _ _ => rfl) (fun _ _ => rfl)⟩
  · intro w w0 w1
    obtain ⟨⟨o1, o2, o3, o4, o5, o6, o7, o8, o9⟩, i⟩ := hT.2.2 w w0 w1
    refine ⟨⟨o1, o2, o3, o4, o5, ?_, o7, o8, o9⟩, i⟩
    show zup (γ 28) t b w = zup (ρ 7) t b w
    exact zup_eq o6
  · intro w w0 w1 w2 w3
    have w2' : ρ 5 w ≠ 0 := w2
    have ne : w ≠ t := fun e => w2' (by rw [e]; exact hd)
    have L := kB_L hB0 w0 w1
    have L' : kL γ (z_up (z_up ρ 6 t ha) 7 t b) w := ⟨hw', L.2⟩
    have s := snd_same L L' (by show zup (ρ 6) t ha w = ρ 6 w; rw [zup_n ne])
    rw [s.1, s.2]
    show zup (γ 26) t N w = _ ∧ zup (γ 27) t S w = _
    rw [zup_n ne, zup_n ne]
    exact hP w w0 w1 w2 w3
  · intro w w0 w1
    have a := hU w w0 w1
    have w0' : ρ 0 0 ≤ w := w0
    refine ⟨⟨a.1.1, ?_, a.1.2.2⟩, a.2⟩
    show zup (ρ 7) t b w = 0
    rw [zup_n (by omega)]
    exact a.1.2.1
theorem R_seal {ha : Int} (h : zK γ ρ) (t0 : 0 ≤ t) (t1 : t < ρ 0 0) (gh : 0 ≤ ha ∧ ha ≤ 1) : cT_seal γ t ha = (0, z_up (z_up (z_up γ 28 t (zshl 1 (ρ 1 t))) 26 t (rR_needs ρ t)) 27 t (rR_sound (z_up (z_up ρ 6 t ha) 7 t (zshl 1 (ρ 1 t))) t)) ∧ rR_needs (z_up (z_up ρ 6 t ha) 7 t (zshl 1 (ρ 1 t))) t = rR_needs ρ t ∧ rR_alone (z_up (z_up ρ 6 t ha) 7 t (zshl 1 (ρ 1 t))) t = (if rR_needs ρ t ≠ zshl 1 (ρ 1 t) then 0 else 1) ∧ (0 ≤ rR_sound (z_up (z_up ρ 6 t ha) 7 t (zshl 1 (ρ 1 t))) t ∧ rR_sound (z_up (z_up ρ 6 t ha) 7 t (zshl 1 (ρ 1 t))) t ≤ 1) := by
  have o := kB_one h.1 t0 t1
  have L := kB_L h.1 t0 t1
  have hw := h.1.1
  have g1 : 0 ≤ ρ 1 t ∧ ρ 1 t ≤ 3 := hw 1 t (by decide)
  have gs := zshl_1 (n := ρ 1 t) (by omega)
  have hw' : z_wf (z_up (z_up ρ 6 t ha) 7 t (zshl 1 (ρ 1 t))) := z_wf_up (z_wf_up hw (by show (0 : Int) ≤ ha; omega) (by show ha ≤ 1; omega)) (by show (0 : Int) ≤ zshl 1 (ρ 1 t); omega) (by show zshl 1 (ρ 1 t) ≤ 15; omega)
  have L' : kL γ (z_up (z_up ρ 6 t ha) 7 t (zshl 1 (ρ 1 t))) t := ⟨hw', L.2⟩
  have n1 : cT_needs (z_up γ 28 t (zshl 1 (ρ 1 t))) t = rR_needs ρ t := k_needs (γ := z_up γ 28 t (zshl 1 (ρ 1 t))) L
  have v1 : cT_isValid (z_up (z_up γ 28 t (zshl 1 (ρ 1 t))) 26 t (rR_needs ρ t)) t = rR_valid ρ t := k_valid (γ := z_up (z_up γ 28 t (zshl 1 (ρ 1 t))) 26 t (rR_needs ρ t)) L
  have nr : rR_needs (z_up (z_up ρ 6 t ha) 7 t (zshl 1 (ρ 1 t))) t = rR_needs ρ t := by rw [← k_needs L, ← k_needs L']
  have vr : rR_valid (z_up (z_up ρ 6 t ha) 7 t (zshl 1 (ρ 1 t))) t = rR_valid ρ t := by rw [← k_valid L, ← k_valid L']
  have ar : rR_alone (z_up (z_up ρ 6 t ha) 7 t (zshl 1 (ρ 1 t))) t = (if rR_needs ρ t ≠ zshl 1 (ρ 1 t) then 0 else 1) := by
    unfold rR_alone
    rw [nr]
    rfl
  have a1 : cT_needsNobodyElse (z_up (z_up γ 28 t (zshl 1 (ρ 1 t))) 26 t (rR_needs ρ t)) t = (if rR_needs ρ t ≠ zshl 1 (ρ 1 t) then 0 else 1) := by
    unfold cT_needsNobodyElse
    rw [z_up_s, zup_s]
    show (if rR_needs ρ t ≠ zshl 1 (γ 20 t) then (0 : Int) else 1) = _
    rw [o.1]
  have e6 : z_up (z_up ρ 6 t ha) 7 t (zshl 1 (ρ 1 t)) 6 t = ha := by
    show zup (ρ 6) t ha t = ha
    rw [zup_s]
  have sr : rR_sound (z_up (z_up ρ 6 t ha) 7 t (zshl 1 (ρ 1 t))) t = (if rR_valid ρ t = 0 then 0 else if ha = 0 then 1 else if (if rR_needs ρ t ≠ zshl 1 (ρ 1 t) then (0 : Int) else 1) = 0 then 0 else 1) := by
    unfold rR_sound
    rw [vr, e6, ar]
  have eb : cH_bit γ (γ 20 t) = zshl 1 (ρ 1 t) := by
    show zshl 1 (γ 20 t) = _
    rw [o.1]
  refine ⟨?_, nr, ar, ?_⟩
  · unfold cT_seal
    rw [eb, n1, v1, a1, sr]
    by_cases c1 : rR_valid ρ t = 0
    · rw [if_pos c1, if_pos c1]
    · rw [if_neg c1, if_neg c1]
      by_cases c2 : ha = 0
      · rw [if_pos c2, if_pos c2]
      · rw [if_neg c2, if_neg c2]
        by_cases c3 : (if rR_needs ρ t ≠ zshl 1 (ρ 1 t) then (0 : Int) else 1) = 0
        · rw [if_pos c3, if_pos c3]
        · rw [if_neg c3, if_neg c3]
  · rw [sr]
    (repeat' split) <;> omega
end
