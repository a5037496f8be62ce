-- what a message does
section
variable {γ ρ : z_Sg} {t n : Int}
def zRes (ρ : z_Sg) (x y : Int × z_Sg) : Prop := x.1 = y.1 ∧ zK x.2 y.2 ∧ ρ 23 0 ≤ y.2 23 0
theorem send_23 (hw : z_wf ρ) (kd se re t co : Int) : ρ 23 0 ≤ (rR_send ρ kd se re t co).2 23 0 := by
  rw [cR_send ρ kd se re t co hw]
  split
  · exact Int.le_refl _
  · show ρ 23 0 ≤ z_up (z_up ρ 22 (ρ 23 0) (zcode kd se re t co)) 23 0 (ρ 23 0 + 1) 23 0
    rw [z_up_s, zup_s]
    omega
theorem send_Fx (hw : z_wf ρ) (kd se re t co : Int) : zFx ρ (rR_send ρ kd se re t co).2 := by
  refine ⟨?_, ?_, ?_, ?_, ?_, ?_, ?_, ?_, ?_, ?_, ?_, ?_, ?_, ?_⟩ <;> exact kR_send hw kd se re t co (by decide) (by decide)
theorem node_c (γ : z_Sg) (h0 : 0 ≤ n) (h1 : n ≤ 3) : cH_isNode γ n = 1 := by
  unfold cH_isNode
  rw [if_neg (by omega), if_neg (by omega)]
def askC (γ : z_Sg) (t n fa : Int) : z_Sg := if cH_has γ (γ 30 t) n = 0 then (cH_send γ 1 t n (γ 20 t) 0).2 else if fa ≠ 0 then (cH_send γ 1 t n (γ 20 t) 1).2 else (cH_send (cN_fetch γ n (γ 24 t)).2 1 t n ((cN_fetch γ n (γ 24 t)).2 20 t) 1).2
def askR (ρ : z_Sg) (n t fa : Int) : z_Sg := if ρ 19 (20 * n + t) ≠ 1 then (rR_send ρ 1 n (ρ 1 t) t 0).2 else if fa ≠ 0 then (rR_send ρ 1 n (ρ 1 t) t 1).2 else (rR_send (rR_fetch ρ n t).2 1 n (ρ 1 t) t 1).2
theorem R_ask_t {fa : Int} (h : zK γ ρ) (t0 : 0 ≤ t) (t1 : t < ρ 0 0) (s0 : ρ 5 t ≠ 0) (s9 : ρ 5 t ≠ 9) (n0 : 0 ≤ n) (n1 : n ≤ 3) (hn : n ≠ ρ 1 t) (hd : ρ 19 (20 * n + t) ≠ 0) : zK (askC γ t n fa) (askR ρ n t fa) ∧ ρ 23 0 ≤ askR ρ n t fa 23 0 := by
  have hw := h.1.1
  have hc := h.1.2.1
  have o := kB_one h.1 t0 t1
  have gm : 0 ≤ ρ 0 0 ∧ ρ 0 0 ≤ 20 := hw 0 0 (by decide)
  have g1 : 0 ≤ ρ 1 t ∧ ρ 1 t ≤ 3 := hw 1 t (by decide)
  have g30 : 0 ≤ γ 30 t ∧ γ 30 t ≤ 15 := hc 30 t (by decide)
  have d := (h.2.2.1 t n t0 t1 n0 n1).2
  have hb : cH_has γ (γ 30 t) n = if ρ 19 (20 * n + t) = 1 then 1 else 0 := by
    rw [zB_has γ (by omega) (by omega), d]
    by_cases c : ρ 19 (20 * n + t) = 1 <;> simp [c, zb]
  unfold askC askR
  rw [hb, o.1]
  by_cases c : ρ 19 (20 * n + t) = 1
  · rw [if_pos c, if_neg (show ¬ ((1 : Int) = 0) by decide), if_neg (show ¬ (ρ 19 (20 * n + t) ≠ 1) from fun q => q c)]
    by_cases c2 : fa ≠ 0
    · rw [if_pos c2, if_pos c2]
      refine ⟨(E_send h ⟨t, t0, t1, s0, s9, Or.inr (Or.inl ⟨n, n0, n1, hn, hd, ?_⟩)⟩ (by unfold zcode; omega)).2, send_23 hw _ _ _ _ _⟩
      rw [if_pos c]
    · rw [if_neg c2, if_neg c2]
      have f := E_fetch h t0 t1 n0 n1
      have e0 : (rR_fetch ρ n t).2 0 = ρ 0 := kR_fetch n t (by decide) (by decide) (by decide)
      have e1 : (rR_fetch ρ n t).2 1 = ρ 1 := kR_fetch n t (by decide) (by decide) (by decide)
      have e5 : (rR_fetch ρ n t).2 5 = ρ 5 := kR_fetch n t (by decide) (by decide) (by decide)
      have e19 : (rR_fetch ρ n t).2 19 = ρ 19 := kR_fetch n t (by decide) (by decide) (by decide)
      have e23 : (rR_fetch ρ n t).2 23 = ρ 23 := kR_fetch n t (by decide) (by decide) (by decide)
      have e20 : (cN_fetch γ n (γ 24 t)).2 20 t = ρ 1 t := by rw [kN_fetch n (γ 24 t) (by decide) (by decide), o.1]
      rw [e20]
      refine ⟨(E_send f ⟨t, t0, by rw [e0]; exact t1, by rw [e5]; exact s0, by rw [e5]; exact s9, Or.inr (Or.inl ⟨n, n0, n1, by rw [e1]; exact hn, by rw [e19]; exact hd, ?_⟩)⟩ (by unfold zcode; omega)).2, ?_⟩
      · rw [e1, e19, if_pos c]
      · have q := send_23 f.1.1 1 n (ρ 1 t) t 1
        rw [e23] at q
        exact q
  · rw [if_neg c, if_pos rfl, if_pos c]
    refine ⟨(E_send h ⟨t, t0, t1, s0, s9, Or.inr (Or.inl ⟨n, n0, n1, hn, hd, ?_⟩)⟩ (by unfold zcode; omega)).2, send_23 hw _ _ _ _ _⟩
    rw [if_neg c]
theorem R_ask {fa : Int} (h : zK γ ρ) (t0 : 0 ≤ t) (t1 : t < ρ 0 0) (s0 : ρ 5 t ≠ 0) (s9 : ρ 5 t ≠ 9) (n0 : 0 ≤ n) (n1 : n ≤ 3) (hn : n ≠ ρ 1 t) : zRes ρ (cH_receiveAsk γ t n fa) (2, (rR_ask ρ n t fa).2) := by
  have hw := h.1.1
  have hc := h.1.2.1
  have o := kB_one h.1 t0 t1
  have g1 : 0 ≤ ρ 1 t ∧ ρ 1 t ≤ 3 := hw 1 t (by decide)
  have g19 : 0 ≤ ρ 19 (20 * n + t) ∧ ρ 19 (20 * n + t) ≤ 2 := hw 19 _ (by decide)
  have g29 : 0 ≤ γ 29 t ∧ γ 29 t ≤ 15 := hc 29 t (by decide)
  have g30 : 0 ≤ γ 30 t ∧ γ 30 t ≤ 15 := hc 30 t (by decide)
  have gs := zshl_1 (n := n) (by omega)
  have d := h.2.2.1 t n t0 t1 n0 n1
  have h29 : cH_has γ (γ 29 t) n = if ρ 19 (20 * n + t) = 0 then 0 else 1 := by
    rw [zB_has γ (by omega) (by omega), d.1]
    by_cases c : ρ 19 (20 * n + t) = 0 <;> simp [c, zb]
  have h5 : cH_has γ (γ 5 n) (γ 20 t) = if ρ 21 (4 * n + ρ 1 t) = 0 then 1 else 0 := by
    rw [o.1]
    exact k_has5 hc h.2.1 ⟨n0, n1⟩ g1
  have cls : cH_receiveAsk γ t n fa = (2, askC (cT_decide γ t n (cH_has γ (γ 5 n) (γ 20 t))).2 t n fa) := by
    have e20 : (cT_decide γ t n (cH_has γ (γ 5 n) (γ 20 t))).2 20 = γ 20 := kT_decide t n _ (by decide) (by decide)
    have e24 : (cT_decide γ t n (cH_has γ (γ 5 n) (γ 20 t))).2 24 = γ 24 := kT_decide t n _ (by decide) (by decide)
    unfold cH_receiveAsk askC
    rw [node_c γ n0 n1, if_pos (by decide), e20, e24]
    generalize (cT_decide γ t n (cH_has γ (γ 5 n) (γ 20 t))).2 = δ
    by_cases c : cH_has δ (δ 30 t) n = 0
    · rw [if_pos c, if_pos c, if_pos c]
    · rw [if_neg c, if_neg c, if_neg c, if_neg c]
      by_cases c2 : fa ≠ 0
      · rw [if_pos c2, if_pos c2]
      · rw [if_neg c2, if_neg c2]
  rw [cls]
  by_cases c : ρ 19 (20 * n + t) = 0
  · by_cases c2 : ρ 21 (4 * n + ρ 1 t) = 0
    · have ed : (cT_decide γ t n (cH_has γ (γ 5 n) (γ 20 t))).2 = z_up (z_up γ 29 t (zor (γ 29 t) (zshl 1 n))) 30 t (zor (γ 30 t) (zshl 1 n)) := by
        unfold cT_decide
        rw [h29, if_pos c, if_pos rfl, h5, if_pos c2, if_neg (by decide)]
        rfl
      have k := E_decide (w := 1) (a := zor (γ 29 t) (zshl 1 n)) (b := zor (γ 30 t) (zshl 1 n)) h t0 t1 n0 n1 (zor_15 g29 (by omega)) (zor_15 g30 (by omega)) (Or.inl rfl) c (by
        intro p p0 p1
        rw [zB_or (by omega) (by omega), zB_shl (by omega) p0]
        by_cases q : p = n <;> simp [q]) (by
        intro p p0 p1
        rw [zB_or (by omega) (by omega), zB_shl (by omega) p0]
        by_cases q : p = n <;> simp [q])
      have r := R_ask_t (fa := fa) k t0 t1 s0 s9 n0 n1 hn (by rw [z_up_s, zup_s]; decide)
      have er : (rR_ask ρ n t fa).2 = askR (z_up ρ 19 (20 * n + t) 1) n t fa := by
        unfold rR_ask askR
        rw [if_neg (show ¬ (ρ 19 (20 * n + t) ≠ 0) from fun q => q c), if_pos c2, z_up_s, zup_s, if_neg (show ¬ ((1 : Int) ≠ 1) from fun q => q rfl)]
        by_cases c3 : fa ≠ 0
        · rw [if_pos c3, if_pos c3]
          rfl
        · rw [if_neg c3, if_neg c3]
          rfl
      refine ⟨rfl, ?_, ?_⟩
      · show zK (askC (cT_decide γ t n (cH_has γ (γ 5 n) (γ 20 t))).2 t n fa) (rR_ask ρ n t fa).2
        rw [ed, er]
        exact r.1
      · show ρ 23 0 ≤ (rR_ask ρ n t fa).2 23 0
        rw [er]
        exact r.2
    · have ed : (cT_decide γ t n (cH_has γ (γ 5 n) (γ 20 t))).2 = z_up (z_up γ 29 t (zor (γ 29 t) (zshl 1 n))) 30 t (γ 30 t) := by
        unfold cT_decide
        rw [h29, if_pos c, if_pos rfl, h5, if_neg c2, if_pos rfl]
        have e : z_up (z_up γ 29 t (zor (γ 29 t) (zshl 1 n))) 30 t (z_up γ 29 t (zor (γ 29 t) (zshl 1 n)) 30 t) = z_up γ 29 t (zor (γ 29 t) (zshl 1 n)) := z_up_id
        exact e.symm
      have k := E_decide (w := 2) (a := zor (γ 29 t) (zshl 1 n)) (b := γ 30 t) h t0 t1 n0 n1 (zor_15 g29 (by omega)) g30 (Or.inr rfl) c (by
        intro p p0 p1
        rw [zB_or (by omega) (by omega), zB_shl (by omega) p0]
        by_cases q : p = n <;> simp [q]) (by
        intro p p0 p1
        by_cases q : p = n
        · subst q
          rw [if_pos rfl, d.2, c]
          rfl
        · rw [if_neg q])
      have r := R_ask_t (fa := fa) k t0 t1 s0 s9 n0 n1 hn (by rw [z_up_s, zup_s]; decide)
      have er : (rR_ask ρ n t fa).2 = askR (z_up ρ 19 (20 * n + t) 2) n t fa := by
        unfold rR_ask askR
        rw [if_neg (show ¬ (ρ 19 (20 * n + t) ≠ 0) from fun q => q c), if_neg c2, z_up_s, zup_s, if_pos (show (2 : Int) ≠ 1 by decide)]
        rfl
      refine ⟨rfl, ?_, ?_⟩
      · show zK (askC (cT_decide γ t n (cH_has γ (γ 5 n) (γ 20 t))).2 t n fa) (rR_ask ρ n t fa).2
        rw [ed, er]
        exact r.1
      · show ρ 23 0 ≤ (rR_ask ρ n t fa).2 23 0
        rw [er]
        exact r.2
  · have ed : (cT_decide γ t n (cH_has γ (γ 5 n) (γ 20 t))).2 = γ := by
      unfold cT_decide
      rw [h29, if_neg c, if_neg (by decide)]
    have r := R_ask_t (fa := fa) h t0 t1 s0 s9 n0 n1 hn c
    have er : (rR_ask ρ n t fa).2 = askR ρ n t fa := by
      unfold rR_ask askR
      by_cases c1 : ρ 19 (20 * n + t) = 1 <;> by_cases c3 : fa = 0 <;> simp [c, c1, c3]
    refine ⟨rfl, ?_, ?_⟩
    · show zK (askC (cT_decide γ t n (cH_has γ (γ 5 n) (γ 20 t))).2 t n fa) (rR_ask ρ n t fa).2
      rw [ed, er]
      exact r.1
    · show ρ 23 0 ≤ (rR_ask ρ n t fa).2 23 0
      rw [er]
      exact r.2
theorem has_bit : ∀ a : Fin 16, ∀ n : Fin 4, (zand ((a : Nat) : Int) (zshl 1 ((n : Nat) : Int)) = 0) ↔ zand (zshr ((a : Nat) : Int) ((n : Nat) : Int)) 1 ≠ 1 := by decide +kernel
theorem has_bit' {a : Int} (γ : z_Sg) (ha : 0 ≤ a ∧ a ≤ 15) (n0 : 0 ≤ n) (n1 : n ≤ 3) : cH_has γ a n = 0 ↔ zand (zshr a n) 1 ≠ 1 := by
  have k := has_bit ⟨a.toNat, by omega⟩ ⟨n.toNat, by omega⟩
  have e1 : ((a.toNat : Nat) : Int) = a := by omega
  have e2 : ((n.toNat : Nat) : Int) = n := by omega
  simp only [e1, e2] at k
  rw [← k]
  show (if zand a (zshl 1 n) = 0 then (0 : Int) else 1) = 0 ↔ _
  split
  · rename_i q; exact ⟨fun _ => q, fun _ => rfl⟩
  · rename_i q; exact ⟨fun e => absurd e (by decide), fun e => absurd e q⟩
theorem R_reply {co fa : Int} (h : zK γ ρ) (t0 : 0 ≤ t) (t1 : t < ρ 0 0) (s0 : ρ 5 t ≠ 0) (s9 : ρ 5 t ≠ 9) (n0 : 0 ≤ n) (n1 : n ≤ 3) : zRes ρ (cH_receiveReply γ t n co fa) (rR_reply ρ n t co fa) := by
  have hw := h.1.1
  have o := kB_one h.1 t0 t1
  have gm : 0 ≤ ρ 0 0 ∧ ρ 0 0 ≤ 20 := hw 0 0 (by decide)
  have g1 : 0 ≤ ρ 1 t ∧ ρ 1 t ≤ 3 := hw 1 t (by decide)
  have g2 : 0 ≤ ρ 2 t ∧ ρ 2 t ≤ 5 := hw 2 t (by decide)
  have g7 : 0 ≤ ρ 7 t ∧ ρ 7 t ≤ 15 := hw 7 t (by decide)
  have gs := zshl_1 (n := n) (by omega)
  have gz := zor_15 g7 (b := zshl 1 n) (by omega)
  have p := h.2.2.2.2.1 t t0 t1 s0 s9
  have sd := E_send (kd := 2) (se := ρ 1 t) (re := ρ 2 t) (co := 0) (t := t) h ⟨t, t0, t1, s0, s9, Or.inr (Or.inr (Or.inl rfl))⟩ (by unfold zcode; omega)
  have e5 : (rR_send ρ 2 (ρ 1 t) (ρ 2 t) t 0).2 5 = ρ 5 := kR_send hw _ _ _ _ _ (by decide) (by decide)
  have e0 : (rR_send ρ 2 (ρ 1 t) (ρ 2 t) t 0).2 0 = ρ 0 := kR_send hw _ _ _ _ _ (by decide) (by decide)
  have m23 := send_23 hw 2 (ρ 1 t) (ρ 2 t) t 0
  unfold cH_receiveReply rR_reply cH_sendNotarise
  rw [o.2.2.2.2.1, o.2.2.2.2.2.1, o.1, o.2.1, p.1]
  by_cases c1 : ρ 5 t ≠ 1
  · rw [if_pos c1, if_pos c1]
    exact ⟨rfl, h, Int.le_refl _⟩
  rw [if_neg c1, if_neg c1]
  have hb := has_bit' γ g7 n0 n1
  by_cases c2 : cH_has γ (ρ 7 t) n = 0
  · rw [if_pos c2, if_pos (hb.mp c2)]
    by_cases c3 : co ≠ 0
    · rw [if_pos c3, if_pos c3]
      by_cases c4 : zand (rR_needs ρ t) (zxor (zor (ρ 7 t) (zshl 1 n)) (-1)) ≠ 0
      · have c4' : zand (rR_needs ρ t) (zxor (zor (ρ 7 t) (cH_bit γ n)) (-1)) ≠ 0 := c4
        rw [if_pos c4', if_pos c4]
        by_cases c5 : fa ≠ 0
        · rw [if_pos c5, if_pos c5]
          exact ⟨rfl, h, Int.le_refl _⟩
        · rw [if_neg c5, if_neg c5]
          refine ⟨rfl, ?_, Int.le_refl _⟩
          exact E_stage (E_sign h t0 t1 gz.1 gz.2) t0 t1 (by decide) (by decide) (fun q => absurd q s0) (fun _ => ⟨s9, by decide⟩)
      · have c4' : ¬ zand (rR_needs ρ t) (zxor (zor (ρ 7 t) (cH_bit γ n)) (-1)) ≠ 0 := c4
        rw [if_neg c4', if_neg c4]
        by_cases c5 : fa ≠ 0
        · rw [if_pos c5, if_pos c5]
          exact ⟨rfl, sd.2, m23⟩
        · rw [if_neg c5, if_neg c5]
          refine ⟨rfl, ?_, m23⟩
          have t1' : t < (rR_send ρ 2 (ρ 1 t) (ρ 2 t) t 0).2 0 0 := by rw [e0]; exact t1
          refine E_stage (E_sign sd.2 t0 t1' gz.1 gz.2) t0 t1' (by decide) (by decide) (fun q => ?_) (fun _ => ⟨?_, by decide⟩)
          · have q' : (rR_send ρ 2 (ρ 1 t) (ρ 2 t) t 0).2 5 t = 0 := q
            rw [e5] at q'
            exact absurd q' s0
          · show (rR_send ρ 2 (ρ 1 t) (ρ 2 t) t 0).2 5 t ≠ 9
            rw [e5]
            exact s9
    · rw [if_neg c3, if_neg c3]
      by_cases c5 : fa ≠ 0
      · rw [if_pos c5, if_pos c5]
        exact ⟨rfl, h, Int.le_refl _⟩
      · rw [if_neg c5, if_neg c5]
        refine ⟨rfl, ?_, Int.le_refl _⟩
        exact E_stage h t0 t1 (by decide) (by decide) (fun q => absurd q s0) (fun _ => ⟨s9, by decide⟩)
  · rw [if_neg c2, if_neg (fun q => c2 (hb.mpr q))]
    exact ⟨rfl, h, Int.le_refl _⟩
theorem judge_rg (hw : z_wf ρ) : 1 ≤ rR_judge ρ t ∧ rR_judge ρ t ≤ 4 := by
  have key : ∀ (j : Nat) (k : Int), 1 ≤ lR_judge_50 ρ t j k ∧ lR_judge_50 ρ t j k ≤ 4 := by
    intro j
    induction j with
    | zero => intro k; show (1 : Int) ≤ 1 ∧ (1 : Int) ≤ 4; decide
    | succ j ih =>
      intro k
      rw [lR_judge_50]
      split
      · exact ih (k + 1)
      · exact ⟨by decide, by decide⟩
  have a := key (ρ 9 t).toNat 0
  unfold rR_judge
  (repeat' split) <;> omega
theorem R_use (t0 : 0 ≤ t) : ∀ (j : Nat) (k : Int) (γ ρ : z_Sg), zK γ ρ → t < ρ 0 0 → ρ 8 t = 1 → 0 ≤ k → k + j = ρ 9 t → zK (lH_useUpInputs_7 γ t j k) (lR_notarise_22 ρ t j k) := by
  intro j
  induction j with
  | zero => intro k γ ρ h _ _ _ _; exact h
  | succ j ih =>
    intro k γ ρ h t1 h8 hk hj
    have hw := h.1.1
    have gm : 0 ≤ ρ 0 0 ∧ ρ 0 0 ≤ 20 := hw 0 0 (by decide)
    have i := kB_in h.1 t0 t1 hk (by omega)
    have u := E_use h i.2 t0 (by omega)
    have e : lR_notarise_22 ρ t (j + 1) k = lR_notarise_22 (z_up ρ 17 (ρ 11 (4 * t + k)) t) t j (k + 1) := by
      show (if ρ 8 t ≠ 1 then ρ else lR_notarise_22 (z_up ρ 17 (ρ 11 (4 * t + k)) t) t j (k + 1)) = _
      rw [if_neg (fun q => q h8)]
    have ec : lH_useUpInputs_7 γ t (j + 1) k = lH_useUpInputs_7 (z_up γ 8 (ρ 11 (4 * t + k)) t) t j (k + 1) := by
      show lH_useUpInputs_7 (z_up γ 8 (γ 33 (4 * (2 * t) + k)) t) t j (k + 1) = _
      rw [i.1]
    rw [e, ec]
    exact ih (k + 1) _ _ u t1 h8 (by omega) (by show k + 1 + (j : Int) = ρ 9 t; omega)
theorem R_not (h : zK γ ρ) (t0 : 0 ≤ t) (t1 : t < ρ 0 0) (s0 : ρ 5 t ≠ 0) (s9 : ρ 5 t ≠ 9) : zRes ρ (cH_receiveNotarise γ t) (2, (rR_notarise ρ t).2) := by
  have hw := h.1.1
  have o := kB_one h.1 t0 t1
  have gm : 0 ≤ ρ 0 0 ∧ ρ 0 0 ≤ 20 := hw 0 0 (by decide)
  have g1 : 0 ≤ ρ 1 t ∧ ρ 1 t ≤ 3 := hw 1 t (by decide)
  have g2 : 0 ≤ ρ 2 t ∧ ρ 2 t ≤ 5 := hw 2 t (by decide)
  have g8 : 0 ≤ ρ 8 t ∧ ρ 8 t ≤ 4 := hw 8 t (by decide)
  have g9 : 0 ≤ ρ 9 t ∧ ρ 9 t ≤ 4 := hw 9 t (by decide)
  have p := h.2.2.2.2.1 t t0 t1 s0 s9
  have ju := k_judge h.1 t0 t1 p.2
  have gj := judge_rg (t := t) hw
  unfold cH_receiveNotarise rR_notarise
  rw [o.2.2.2.2.2.2.1, o.1, o.2.1, ju]
  by_cases c : ρ 8 t ≠ 0
  · rw [if_pos c, if_pos c]
    exact ⟨rfl, (E_send h ⟨t, t0, t1, s0, s9, Or.inr (Or.inr (Or.inr (Or.inl ⟨c, rfl⟩)))⟩ (by unfold zcode; omega)).2, send_23 hw _ _ _ _ _⟩
  · rw [if_neg c, if_neg c]
    have c0 : ρ 8 t = 0 := Decidable.not_not.mp c
    have v := E_verdict h t0 t1 (v := rR_judge ρ t) (by omega) c0
    have e8 : z_up ρ 8 t (rR_judge ρ t) 8 t = rR_judge ρ t := by rw [z_up_s, zup_s]
    have e9 : z_up ρ 8 t (rR_judge ρ t) 9 t = ρ 9 t := rfl
    rw [e9]
    by_cases c1 : rR_judge ρ t ≠ 1
    · rw [if_pos c1]
      have el : lR_notarise_22 (z_up ρ 8 t (rR_judge ρ t)) t (ρ 9 t).toNat 0 = z_up ρ 8 t (rR_judge ρ t) := by
        cases (ρ 9 t).toNat with
        | zero => rfl
        | succ j =>
          show (if z_up ρ 8 t (rR_judge ρ t) 8 t ≠ 1 then z_up ρ 8 t (rR_judge ρ t) else _) = _
          rw [e8, if_pos c1]
      rw [el]
      exact ⟨rfl, (E_send v ⟨t, t0, t1, s0, s9, Or.inr (Or.inr (Or.inr (Or.inl ⟨by rw [e8]; omega, by rw [e8]; rfl⟩)))⟩ (by unfold zcode; omega)).2, send_23 (ρ := z_up ρ 8 t (rR_judge ρ t)) v.1.1 _ _ _ _ _⟩
    · rw [if_neg c1]
      have c1' : rR_judge ρ t = 1 := Decidable.not_not.mp c1
      have u := R_use t0 (ρ 9 t).toNat 0 (z_up γ 31 t (rR_judge ρ t)) (z_up ρ 8 t (rR_judge ρ t)) v t1 (by rw [e8]; exact c1') (by omega) (by rw [e9]; omega)
      have ec : (cH_useUpInputs (z_up γ 31 t (rR_judge ρ t)) t).2 = lH_useUpInputs_7 (z_up γ 31 t (rR_judge ρ t)) t (ρ 9 t).toNat 0 := by
        show lH_useUpInputs_7 (z_up γ 31 t (rR_judge ρ t)) t (γ 32 (2 * t)).toNat 0 = _
        rw [o.2.2.2.2.2.2.2.1]
      have q : ∀ c : Nat, c ≠ 17 → lR_notarise_22 (z_up ρ 8 t (rR_judge ρ t)) t (ρ 9 t).toNat 0 c = z_up ρ 8 t (rR_judge ρ t) c := fun c hc => kR_notarise_22 v.1.1 t _ 0 hc
      rw [ec]
      refine ⟨rfl, (E_send u ⟨t, t0, ?_, ?_, ?_, Or.inr (Or.inr (Or.inr (Or.inl ⟨?_, ?_⟩)))⟩ (by unfold zcode; omega)).2, ?_⟩
      · rw [q 0 (by decide)]; exact t1
      · rw [q 5 (by decide)]; exact s0
      · rw [q 5 (by decide)]; exact s9
      · rw [q 8 (by decide), e8]; omega
      · rw [q 8 (by decide), q 1 (by decide), q 2 (by decide), e8]; rfl
      · have w := send_23 (ρ := lR_notarise_22 (z_up ρ 8 t (rR_judge ρ t)) t (ρ 9 t).toNat 0) u.1.1 3 (ρ 2 t) (ρ 1 t) t (rR_judge ρ t)
        rw [q 23 (by decide)] at w
        exact w
theorem R_close {fa : Int} (h : zK γ ρ) (t0 : 0 ≤ t) (t1 : t < ρ 0 0) (s0 : ρ 5 t ≠ 0) (s9 : ρ 5 t ≠ 9) (n0 : 0 ≤ n) (n1 : n ≤ 3) : zRes ρ (cH_receiveFinality γ t n fa) (rR_close ρ n t fa) := by
  have hw := h.1.1
  have hc := h.1.2.1
  have gm : 0 ≤ ρ 0 0 ∧ ρ 0 0 ≤ 20 := hw 0 0 (by decide)
  have p := h.2.2.2.2.1 t t0 t1 s0 s9
  have gs := zshl_20 (k := t) (by omega)
  unfold cH_receiveFinality rR_close
  rw [node_c γ n0 n1, if_pos (by decide), k_has3 hc h.2.1 ⟨n0, n1⟩ (by omega), p.2]
  by_cases c : ρ 18 (20 * n + t) = 2
  · rw [if_pos c, if_neg (by decide), if_neg (fun q => q c)]
    exact ⟨rfl, h, Int.le_refl _⟩
  · rw [if_neg c, if_pos rfl, if_pos c]
    by_cases c2 : rR_sound ρ t ≠ 0
    · rw [if_pos c2, if_pos c2]
      by_cases c3 : fa = 0
      · rw [if_neg (fun q => q c3), if_pos c3]
        have f := E_fetch h t0 t1 n0 n1
        have g2 : 0 ≤ (cN_fetch γ n (γ 24 t)).2 2 n ∧ (cN_fetch γ n (γ 24 t)).2 2 n ≤ 1048575 := f.1.2.1 2 n (by decide)
        have g3 : 0 ≤ (cN_fetch γ n (γ 24 t)).2 3 n ∧ (cN_fetch γ n (γ 24 t)).2 3 n ≤ 1048575 := f.1.2.1 3 n (by decide)
        have e0 : (rR_fetch ρ n t).2 0 = ρ 0 := kR_fetch n t (by decide) (by decide) (by decide)
        have e5 : (rR_fetch ρ n t).2 5 = ρ 5 := kR_fetch n t (by decide) (by decide) (by decide)
        have e23 : (rR_fetch ρ n t).2 23 = ρ 23 := kR_fetch n t (by decide) (by decide) (by decide)
        refine ⟨rfl, ?_, ?_⟩
        · refine E_enter (a := zor ((cN_fetch γ n (γ 24 t)).2 2 n) (zshl 1 t)) (b := zor ((cN_fetch γ n (γ 24 t)).2 3 n) (zshl 1 t)) f t0 (by rw [e0]; exact t1) n0 n1 (by rw [e5]; exact s0) (zor_20 g2 (by omega)) (zor_20 g3 (by omega)) ?_ ?_
          · intro p p0 p1
            rw [zB_or (by omega) (by omega), zB_shl (by omega) p0]
            by_cases q : p = t <;> simp [q]
          · intro p p0 p1
            rw [zB_or (by omega) (by omega), zB_shl (by omega) p0]
            by_cases q : p = t <;> simp [q]
        · show ρ 23 0 ≤ (rR_fetch ρ n t).2 23 0
          rw [e23]
          exact Int.le_refl _
      · rw [if_pos c3, if_neg c3]
        exact ⟨rfl, h, Int.le_refl _⟩
    · rw [if_neg c2, if_neg c2]
      exact ⟨rfl, h, Int.le_refl _⟩
end
