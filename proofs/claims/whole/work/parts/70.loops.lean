-- loops that send; the verdict; sealing
section
variable {γ ρ : z_Sg} {t n : Int}
theorem send_L {γ0 : z_Sg} {kd se re t' co : Int} (hw' : z_wf (rR_send ρ kd se re t' co).2) (hw : z_wf ρ) (L : kL γ0 ρ t) : kL γ0 (rR_send ρ kd se re t' co).2 t ∧ rR_needs (rR_send ρ kd se re t' co).2 t = rR_needs ρ t := by
  have x := send_Fx hw kd se re t' co
  have L' := zFx_L x hw' L
  exact ⟨L', (snd_same L L' (by rw [x.2.2.2.2.2.1])).1⟩
theorem L_fin {γ0 : z_Sg} {N rc fa : Int} (t0 : 0 ≤ t) (hrc : rc = zor N (cT_concerned γ0 t)) : ∀ (j : Nat) (k sn : Int) (γ ρ : z_Sg), zK γ ρ → kL γ0 ρ t → rR_needs ρ t = N → t < ρ 0 0 → ρ 5 t ≠ 0 → ρ 5 t ≠ 9 → 0 ≤ k → k + j = 4 → zK (lH_sendToOthers_6 γ 4 t rc j k sn).2 (lR_hear_34 ρ t 1 fa j k) ∧ (∀ c : Nat, c ≠ 22 → c ≠ 23 → lR_hear_34 ρ t 1 fa j k c = ρ c) ∧ ρ 23 0 ≤ lR_hear_34 ρ t 1 fa j k 23 0 := by
  intro j
  induction j with
  | zero => intro k sn γ ρ h _ _ _ _ _ _ _; exact ⟨h, fun c _ _ => rfl, Int.le_refl _⟩
  | succ j ih =>
    intro k sn γ ρ h L hN t1 s0 s9 hk hj
    have hw := h.1.1
    have o := kB_one h.1 t0 t1
    have gm : 0 ≤ ρ 0 0 ∧ ρ 0 0 ≤ 20 := hw 0 0 (by decide)
    have g1 : 0 ≤ ρ 1 t ∧ ρ 1 t ≤ 3 := hw 1 t (by decide)
    have told := k_told L (n := k) (by omega)
    rw [hN, ← hrc] at told
    have told' : rR_told ρ t k = if cH_has γ rc k ≠ 0 ∧ k ≠ ρ 1 t then 1 else 0 := told
    have sc : lH_sendToOthers_6 γ 4 t rc (j + 1) k sn = if cH_has γ rc k = 0 then lH_sendToOthers_6 γ 4 t rc j (k + 1) sn else if k = γ 20 t then lH_sendToOthers_6 γ 4 t rc j (k + 1) sn else lH_sendToOthers_6 (cH_send γ 4 t (γ 20 t) k 0).2 4 t rc j (k + 1) (sn + (cH_send γ 4 t (γ 20 t) k 0).1) := rfl
    have sr : lR_hear_34 ρ t 1 fa (j + 1) k = if rR_told ρ t k = 0 then lR_hear_34 ρ t 1 fa j (k + 1) else lR_hear_34 (rR_send ρ 4 (ρ 1 t) k t 0).2 t 1 fa j (k + 1) := by
      show (if (1 : Int) ≠ 1 then ρ else if rR_told ρ t k = 0 then lR_hear_34 ρ t 1 fa j (k + 1) else lR_hear_34 (rR_send ρ 4 (ρ 1 t) k t 0).2 t 1 fa j (k + 1)) = _
      rw [if_neg (fun q => q rfl)]
    have ta : cH_has γ rc k = 0 → rR_told ρ t k = 0 := fun a => by rw [told', if_neg (fun q => q.1 a)]
    have tb : k = ρ 1 t → rR_told ρ t k = 0 := fun b => by rw [told', if_neg (fun q => q.2 b)]
    have tc : cH_has γ rc k ≠ 0 → k ≠ ρ 1 t → rR_told ρ t k ≠ 0 := fun a b => by rw [told', if_pos ⟨a, b⟩]; decide
    clear told told'
    rw [sc, sr, o.1]
    by_cases a : cH_has γ rc k = 0
    · rw [if_pos a, if_pos (ta a)]
      exact ih (k + 1) sn γ ρ h L hN t1 s0 s9 (by omega) (by omega)
    · rw [if_neg a]
      by_cases b : k = ρ 1 t
      · rw [if_pos b, if_pos (tb b)]
        exact ih (k + 1) sn γ ρ h L hN t1 s0 s9 (by omega) (by omega)
      · rw [if_neg b, if_neg (tc a b)]
        have s := E_send (kd := 4) (se := ρ 1 t) (re := k) (co := 0) (t := t) h ⟨t, t0, t1, s0, s9, Or.inr (Or.inr (Or.inr (Or.inr ⟨k, hk, by omega, b, rfl⟩)))⟩ (by unfold zcode; omega)
        have L' := send_L s.2.1.1 hw L
        have q : ∀ c : Nat, c ≠ 22 → c ≠ 23 → (rR_send ρ 4 (ρ 1 t) k t 0).2 c = ρ c := fun c h1 h2 => kR_send hw _ _ _ _ _ h1 h2
        have i := ih (k + 1) (sn + (cH_send γ 4 t (ρ 1 t) k 0).1) _ _ s.2 L'.1 (by rw [L'.2]; exact hN) (by rw [q 0 (by decide) (by decide)]; exact t1) (by rw [q 5 (by decide) (by decide)]; exact s0) (by rw [q 5 (by decide) (by decide)]; exact s9) (by omega) (by omega)
        refine ⟨i.1, fun c h1 h2 => by rw [i.2.1 c h1 h2, q c h1 h2], ?_⟩
        have w := send_23 hw 4 (ρ 1 t) k t 0
        have w2 := i.2.2
        omega
theorem L_ask {γ0 : z_Sg} {N ha nd : Int} (t0 : 0 ≤ t) : ∀ (j : Nat) (k sn : Int) (γ ρ : z_Sg), zK γ ρ → kL γ0 ρ t → rR_needs ρ t = N → ρ 1 t = nd → t < ρ 0 0 → ρ 5 t ≠ 0 → ρ 5 t ≠ 9 → 0 ≤ k → k + j = 4 → (lH_sendToOthers_6 γ 0 t N j k sn).1 = (lR_propose_107 ρ t ha j k sn nd).1 ∧ zK (lH_sendToOthers_6 γ 0 t N j k sn).2 (lR_propose_107 ρ t ha j k sn nd).2 := by
  intro j
  induction j with
  | zero => intro k sn γ ρ h _ _ _ _ _ _ _ _; exact ⟨rfl, h⟩
  | succ j ih =>
    intro k sn γ ρ h L hN hb t1 s0 s9 hk hj
    have hw := h.1.1
    have o := kB_one h.1 t0 t1
    have gm : 0 ≤ ρ 0 0 ∧ ρ 0 0 ≤ 20 := hw 0 0 (by decide)
    have g1 : 0 ≤ ρ 1 t ∧ ρ 1 t ≤ 3 := hw 1 t (by decide)
    have gN := needs_15 L
    have hz : cH_has γ N k = if rR_mustSign ρ t k = 0 then 0 else 1 := by
      rw [← hN, zB_has γ (by omega) (by omega), needs_B L (by omega)]
      by_cases c : rR_mustSign ρ t k = 0 <;> simp [c, zb]
    have sc : lH_sendToOthers_6 γ 0 t N (j + 1) k sn = if cH_has γ N k = 0 then lH_sendToOthers_6 γ 0 t N j (k + 1) sn else if k = γ 20 t then lH_sendToOthers_6 γ 0 t N j (k + 1) sn else lH_sendToOthers_6 (cH_send γ 0 t (γ 20 t) k 0).2 0 t N j (k + 1) (sn + (cH_send γ 0 t (γ 20 t) k 0).1) := rfl
    have sr : lR_propose_107 ρ t ha (j + 1) k sn nd = if k = nd then lR_propose_107 ρ t ha j (k + 1) sn nd else if rR_mustSign ρ t k = 0 then lR_propose_107 ρ t ha j (k + 1) sn nd else lR_propose_107 (rR_send ρ 0 nd k t 0).2 t ha j (k + 1) (sn + (rR_send ρ 0 nd k t 0).1) nd := rfl
    rw [sc, sr, hz, o.1, hb]
    by_cases b : k = nd
    · rw [if_pos b, if_pos b]
      have i := ih (k + 1) sn γ ρ h L hN hb t1 s0 s9 (by omega) (by omega)
      split <;> exact i
    · rw [if_neg b, if_neg b]
      by_cases a : rR_mustSign ρ t k = 0
      · rw [if_pos a, if_pos rfl, if_pos a]
        exact ih (k + 1) sn γ ρ h L hN hb t1 s0 s9 (by omega) (by omega)
      · rw [if_neg a, if_neg (by decide), if_neg a]
        have s := E_send (kd := 0) (se := nd) (re := k) (co := 0) (t := t) h ⟨t, t0, t1, s0, s9, Or.inl ⟨k, hk, by omega, by rw [hb]; exact b, by rw [hb]⟩⟩ (by unfold zcode; omega)
        have L' := send_L s.2.1.1 hw L
        have q : ∀ c : Nat, c ≠ 22 → c ≠ 23 → (rR_send ρ 0 nd k t 0).2 c = ρ c := fun c h1 h2 => kR_send hw _ _ _ _ _ h1 h2
        rw [s.1]
        exact ih (k + 1) (sn + (rR_send ρ 0 nd k t 0).1) _ _ s.2 L'.1 (by rw [L'.2]; exact hN) (by rw [q 1 (by decide) (by decide)]; exact hb) (by rw [q 0 (by decide) (by decide)]; exact t1) (by rw [q 5 (by decide) (by decide)]; exact s0) (by rw [q 5 (by decide) (by decide)]; exact s9) (by omega) (by omega)
end
