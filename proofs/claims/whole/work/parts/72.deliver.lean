-- deliver
section
variable {γ ρ : z_Sg} {t n : Int}
theorem P_fin {x y : Int × z_Sg} {k fa : Int} (r : zRes ρ x y) (k0 : 0 ≤ k) (k1 : k < ρ 23 0) : zAn (if fa ≠ 0 then (x.1, x.2) else if x.1 = 0 then (x.1, x.2) else (x.1, (cB_removeAt x.2 k).2)) (if fa ≠ 0 then (y.1, y.2) else if y.1 = 0 then (y.1, y.2) else (y.1, z_up (lR_deliver_159 y.2 k fa (y.2 23 0 - k - 1).toNat k) 23 0 (y.2 23 0 - 1))) := by
  obtain ⟨r1, r2, r3⟩ := r
  by_cases c : fa ≠ 0
  · rw [if_pos c, if_pos c]
    exact ⟨r1, r2⟩
  · rw [if_neg c, if_neg c, r1]
    by_cases c2 : y.1 = 0
    · rw [if_pos c2, if_pos c2]
      exact ⟨rfl, r2⟩
    · rw [if_neg c2, if_neg c2]
      exact ⟨rfl, E_remove r2 k0 (by omega)⟩
theorem P_fin2 {x : Int × z_Sg} {σ : z_Sg} {k fa : Int} (r : zRes ρ x (2, σ)) (k0 : 0 ≤ k) (k1 : k < ρ 23 0) : zAn (if fa ≠ 0 then (x.1, x.2) else if x.1 = 0 then (x.1, x.2) else (x.1, (cB_removeAt x.2 k).2)) (if fa ≠ 0 then (2, σ) else (2, z_up (lR_deliver_159 σ k fa (σ 23 0 - k - 1).toNat k) 23 0 (σ 23 0 - 1))) := P_fin (fa := fa) r k0 k1
theorem P_deliver {k fa : Int} (h : zK γ ρ) : zAn (cH_deliver γ k fa) (rR_deliver ρ k fa) := by
  have hw := h.1.1
  have hM := h.2.2.2.1
  have hW := h.2.2.2.2.2.2.2.2.2
  have gm : 0 ≤ ρ 0 0 ∧ ρ 0 0 ≤ 20 := hw 0 0 (by decide)
  by_cases ck : 0 ≤ k ∧ k < ρ 23 0
  case neg =>
    have ec : cH_deliver γ k fa = (-1, γ) := by
      have e : cB_holdsPlace γ k = 0 := by
        unfold cB_holdsPlace
        rw [hM.1]
        (repeat' split) <;> omega
      unfold cH_deliver
      rw [e, if_neg (by decide)]
    have er : rR_deliver ρ k fa = (-1, ρ) := by
      unfold rR_deliver
      by_cases c : k < 0
      · rw [if_pos c]
      · rw [if_neg c, if_neg (by omega)]
    rw [ec, er]
    exact ⟨rfl, h⟩
  obtain ⟨k0, k1⟩ := ck
  have ec : cH_deliver γ k fa = if fa ≠ 0 then ((cH_receive γ (ρ 22 k) fa).1, (cH_receive γ (ρ 22 k) fa).2) else if (cH_receive γ (ρ 22 k) fa).1 = 0 then ((cH_receive γ (ρ 22 k) fa).1, (cH_receive γ (ρ 22 k) fa).2) else ((cH_receive γ (ρ 22 k) fa).1, (cB_removeAt (cH_receive γ (ρ 22 k) fa).2 k).2) := by
    have e : cB_holdsPlace γ k = 1 := by
      unfold cB_holdsPlace
      rw [hM.1, if_neg (by omega), if_neg (by omega)]
    unfold cH_deliver
    rw [e, if_pos (by decide), hM.2 k k0 k1]
  rw [ec]
  unfold rR_deliver
  rw [if_neg (by omega : ¬ k < 0), if_pos k1]
  have hmg := hW.1 k k0 k1
  generalize ρ 22 k = m at hmg ⊢
  obtain ⟨t, t0, t1, s0, s9, hm⟩ := hmg
  have gt : 0 ≤ t ∧ t < γ 0 0 := ⟨t0, by rw [kB_many h.1]; exact t1⟩
  have g1 : 0 ≤ ρ 1 t ∧ ρ 1 t ≤ 3 := hw 1 t (by decide)
  have g2 : 0 ≤ ρ 2 t ∧ ρ 2 t ≤ 5 := hw 2 t (by decide)
  have g8 : 0 ≤ ρ 8 t ∧ ρ 8 t ≤ 4 := hw 8 t (by decide)
  rcases hm with ⟨n, n0, n1, n2, rfl⟩ | ⟨n, n0, n1, n2, n3, rfl⟩ | rfl | ⟨n1, rfl⟩ | ⟨n, n0, n1, n2, rfl⟩
  · obtain ⟨d1, d2, d3, d4, d5⟩ := dec_m (kd := 0) (se := ρ 1 t) (re := n) (u := t) (co := 0) (by omega) (by omega) (by omega) (by omega) (by omega)
    have e : cH_receive γ (zcode 0 (ρ 1 t) n t 0) fa = cH_receiveAsk γ t n fa := by
      unfold cH_receive cB_transactionOf cB_kindOf cB_receiverOf
      rw [d1, d3, d4, if_pos gt, if_neg (by omega), if_pos rfl]
    rw [e, d1, d3, d4, if_neg (show ¬ ((0 : Int) ≠ 0) from fun q => q rfl)]
    exact P_fin2 (R_ask h t0 t1 s0 s9 n0 n1 n2) k0 k1
  · obtain ⟨d1, d2, d3, d4, d5⟩ := dec_m (kd := 1) (se := n) (re := ρ 1 t) (u := t) (co := if ρ 19 (20 * n + t) = 1 then 1 else 0) (by omega) (by omega) (by omega) (by omega) (by split <;> omega)
    have e : cH_receive γ (zcode 1 n (ρ 1 t) t (if ρ 19 (20 * n + t) = 1 then 1 else 0)) fa = cH_receiveReply γ t n (if ρ 19 (20 * n + t) = 1 then 1 else 0) fa := by
      unfold cH_receive cB_transactionOf cB_kindOf cB_senderOf cB_contentOf
      rw [d1, d2, d4, d5, if_pos gt, if_neg (by omega), if_neg (by decide), if_pos rfl]
    rw [e, d1, d2, d4, d5, if_pos (show (1 : Int) ≠ 0 by decide), if_neg (show ¬ ((1 : Int) ≠ 1) from fun q => q rfl)]
    exact P_fin (R_reply h t0 t1 s0 s9 n0 n1) k0 k1
  · obtain ⟨d1, d2, d3, d4, d5⟩ := dec_m (kd := 2) (se := ρ 1 t) (re := ρ 2 t) (u := t) (co := 0) (by omega) (by omega) (by omega) (by omega) (by omega)
    have e : cH_receive γ (zcode 2 (ρ 1 t) (ρ 2 t) t 0) fa = cH_receiveNotarise γ t := by
      unfold cH_receive cB_transactionOf cB_kindOf
      rw [d1, d4, if_pos gt, if_neg (by omega), if_neg (by decide), if_neg (by decide), if_pos rfl]
    rw [e, d1, d4, if_pos (show (2 : Int) ≠ 0 by decide), if_pos (show (2 : Int) ≠ 1 by decide), if_neg (show ¬ ((2 : Int) ≠ 2) from fun q => q rfl)]
    exact P_fin2 (R_not h t0 t1 s0 s9) k0 k1
  · obtain ⟨d1, d2, d3, d4, d5⟩ := dec_m (kd := 3) (se := ρ 2 t) (re := ρ 1 t) (u := t) (co := ρ 8 t) (by omega) (by omega) (by omega) (by omega) (by omega)
    have e : cH_receive γ (zcode 3 (ρ 2 t) (ρ 1 t) t (ρ 8 t)) fa = cH_receiveVerdict γ t (ρ 8 t) fa := by
      unfold cH_receive cB_transactionOf cB_kindOf cB_contentOf
      rw [d1, d4, d5, if_pos gt, if_neg (by omega), if_neg (by decide), if_neg (by decide), if_neg (by decide)]
    rw [e, d1, d4, d5, if_pos (show (3 : Int) ≠ 0 by decide), if_pos (show (3 : Int) ≠ 1 by decide), if_pos (show (3 : Int) ≠ 2 by decide), if_neg (show ¬ ((3 : Int) ≠ 3) from fun q => q rfl)]
    exact P_fin (R_hear h t0 t1 s0 s9 (by omega)) k0 k1
  · obtain ⟨d1, d2, d3, d4, d5⟩ := dec_m (kd := 4) (se := ρ 1 t) (re := n) (u := t) (co := 0) (by omega) (by omega) (by omega) (by omega) (by omega)
    have e : cH_receive γ (zcode 4 (ρ 1 t) n t 0) fa = cH_receiveFinality γ t n fa := by
      unfold cH_receive cB_transactionOf cB_kindOf cB_receiverOf
      rw [d1, d3, d4, if_pos gt, if_pos (by omega)]
    rw [e, d1, d3, d4, if_pos (show (4 : Int) ≠ 0 by decide), if_pos (show (4 : Int) ≠ 1 by decide), if_pos (show (4 : Int) ≠ 2 by decide), if_pos (show (4 : Int) ≠ 3 by decide)]
    exact P_fin (R_close h t0 t1 s0 s9 n0 n1) k0 k1
/-- what the reference's deliver wants of a message -/
theorem K_Del {k : Int} (h : zK γ ρ) (k0 : 0 ≤ k) (k1 : k < ρ 23 0) : zDel (zPl ρ) ρ (ρ 22 k) ∧ (cB_kindOf γ (ρ 22 k) = 1 → cB_senderOf γ (ρ 22 k) ≤ 3) := by
  have hw := h.1.1
  have hW := h.2.2.2.2.2.2.2.2.2
  have gm : 0 ≤ ρ 0 0 ∧ ρ 0 0 ≤ 20 := hw 0 0 (by decide)
  have hmg := hW.1 k k0 k1
  generalize ρ 22 k = m at hmg ⊢
  obtain ⟨t, t0, t1, s0, s9, hm⟩ := hmg
  have g1 : 0 ≤ ρ 1 t ∧ ρ 1 t ≤ 3 := hw 1 t (by decide)
  have g2 : 0 ≤ ρ 2 t ∧ ρ 2 t ≤ 5 := hw 2 t (by decide)
  have g8 : 0 ≤ ρ 8 t ∧ ρ 8 t ≤ 4 := hw 8 t (by decide)
  unfold zDel cB_kindOf cB_senderOf
  rcases hm with ⟨n, n0, n1, n2, rfl⟩ | ⟨n, n0, n1, n2, n3, rfl⟩ | rfl | ⟨n1, rfl⟩ | ⟨n, n0, n1, n2, rfl⟩
  · obtain ⟨d1, d2, d3, d4, d5⟩ := dec_m (kd := 0) (se := ρ 1 t) (re := n) (u := t) (co := 0) (by omega) (by omega) (by omega) (by omega) (by omega)
    have r := zP_reply (n := n) hw t0 (by omega : t ≤ 19) ⟨n0, n1⟩ n2
    rw [d1, d2, d3, d4, d5]
    refine ⟨⟨by omega, by omega, fun _ => ⟨by omega, ?_, ?_, ?_, ?_⟩, fun q => absurd q (by decide), fun q => absurd q (by decide), fun q => absurd q (by decide), fun q => absurd rfl q⟩, fun q => absurd q (by decide)⟩
    · intro q
      have e : zrp ρ n t = 1 := by unfold zrp; rw [if_pos q]
      rw [e] at r; exact r
    · intro q
      have e : zrp ρ n t = 0 := by unfold zrp; rw [if_neg (by omega), if_pos q]
      rw [e] at r; exact r
    · intro q q2
      have e : zrp ρ n t = 1 := by unfold zrp; rw [if_neg (by omega), if_neg (by omega), if_pos q2]
      rw [e] at r; exact r
    · intro q q2
      have e : zrp ρ n t = 0 := by unfold zrp; rw [if_neg (by omega), if_neg (by omega), if_neg q2]
      rw [e] at r; exact r
  · obtain ⟨d1, d2, d3, d4, d5⟩ := dec_m (kd := 1) (se := n) (re := ρ 1 t) (u := t) (co := if ρ 19 (20 * n + t) = 1 then 1 else 0) (by omega) (by omega) (by omega) (by omega) (by split <;> omega)
    rw [d1, d2, d3, d4, d5]
    exact ⟨⟨by omega, by split <;> omega, fun q => absurd q (by decide), fun _ => ⟨by omega, zP_not t0 (by omega)⟩, fun q => absurd q (by decide), fun q => absurd q (by decide), fun _ q => absurd rfl q⟩, fun _ => n1⟩
  · obtain ⟨d1, d2, d3, d4, d5⟩ := dec_m (kd := 2) (se := ρ 1 t) (re := ρ 2 t) (u := t) (co := 0) (by omega) (by omega) (by omega) (by omega) (by omega)
    have r := zP_ver (ρ := ρ) t0 (by omega : t ≤ 19)
    rw [d1, d2, d3, d4, d5]
    refine ⟨⟨by omega, by omega, fun q => absurd q (by decide), fun q => absurd q (by decide), fun _ => ⟨?_, ?_⟩, fun q => absurd q (by decide), fun _ _ q => absurd rfl q⟩, fun q => absurd q (by decide)⟩
    · intro q
      have e : zvd ρ t = ρ 8 t := by unfold zvd; rw [if_pos q]
      rw [e] at r; exact r
    · intro q
      have e : zvd ρ t = rR_judge ρ t := by unfold zvd; rw [if_neg (fun w => w q)]
      rw [e] at r; exact r
  · obtain ⟨d1, d2, d3, d4, d5⟩ := dec_m (kd := 3) (se := ρ 2 t) (re := ρ 1 t) (u := t) (co := ρ 8 t) (by omega) (by omega) (by omega) (by omega) (by omega)
    rw [d1, d2, d3, d4, d5]
    exact ⟨⟨by omega, by omega, fun q => absurd q (by decide), fun q => absurd q (by decide), fun q => absurd q (by decide), fun _ n a b c => zP_fin hw t0 (by omega) ⟨a, b⟩ c, fun _ _ _ q => absurd rfl q⟩, fun q => absurd q (by decide)⟩
  · obtain ⟨d1, d2, d3, d4, d5⟩ := dec_m (kd := 4) (se := ρ 1 t) (re := n) (u := t) (co := 0) (by omega) (by omega) (by omega) (by omega) (by omega)
    rw [d1, d2, d3, d4, d5]
    exact ⟨⟨by omega, by omega, fun q => absurd q (by decide), fun q => absurd q (by decide), fun q => absurd q (by decide), fun q => absurd q (by decide), fun _ _ _ _ => ⟨n0, n1⟩⟩, fun q => absurd q (by decide)⟩
end
