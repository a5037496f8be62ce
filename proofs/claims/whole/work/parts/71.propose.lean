-- propose
section
variable {γ ρ : z_Sg} {t n : Int}
theorem isTx_iff (ρ : z_Sg) (t : Int) : rR_isTx ρ t = if 0 ≤ t ∧ t < ρ 0 0 then 1 else 0 := by
  unfold rR_isTx
  (repeat' split) <;> omega
theorem isSt_iff (ρ : z_Sg) (u o : Int) : rR_isState ρ u o = if 0 ≤ u ∧ u < ρ 0 0 ∧ 0 ≤ o ∧ o < ρ 10 u then 1 else 0 := by
  unfold rR_isState
  rw [isTx_iff]
  (repeat' split) <;> omega
theorem isN_iff (ρ : z_Sg) (n : Int) : rR_isNode ρ n = if 0 ≤ n ∧ n ≤ 3 then 1 else 0 := by
  unfold rR_isNode
  (repeat' split) <;> omega
theorem isN_c (γ : z_Sg) (n : Int) : cH_isNode γ n = if 0 ≤ n ∧ n ≤ 3 then 1 else 0 := by
  unfold cH_isNode
  (repeat' split) <;> omega
def zAn (x y : Int × z_Sg) : Prop := x.1 = y.1 ∧ zK x.2 y.2
theorem R_seal2 {ha : Int} (h : zK γ ρ) (t0 : 0 ≤ t) (t1 : t < ρ 0 0) (hd : ρ 5 t = 0) (gh : 0 ≤ ha ∧ ha ≤ 1) : ∃ γ6 ρ6 : z_Sg, ρ6 = z_up (z_up ρ 6 t ha) 7 t (zshl 1 (ρ 1 t)) ∧ cT_seal γ t ha = (0, γ6) ∧ zK γ6 ρ6 ∧ (γ6 26 t = rR_needs ρ6 t ∧ γ6 27 t = rR_sound ρ6 t) ∧ cT_needsNobodyElse γ6 t = rR_alone ρ6 t := by
  have o := kB_one h.1 t0 t1
  have hw := h.1.1
  have g1 : 0 ≤ ρ 1 t ∧ ρ 1 t ≤ 3 := hw 1 t (by decide)
  have gs := zshl_1 (n := ρ 1 t) (by omega)
  have gN := needs_15 (kB_L h.1 t0 t1)
  have R := R_seal h t0 t1 gh
  have S := E_seal (S := rR_sound (z_up (z_up ρ 6 t ha) 7 t (zshl 1 (ρ 1 t))) t) h t0 t1 hd (b := zshl 1 (ρ 1 t)) (by omega) gN R.2.2.2 gh
  refine ⟨_, _, rfl, R.1, S, ⟨?_, ?_⟩, ?_⟩
  · rw [R.2.1]
    show zup (γ 26) t (rR_needs ρ t) t = rR_needs ρ t
    rw [zup_s]
  · rw [z_up_s, zup_s]
  · rw [R.2.2.1]
    unfold cT_needsNobodyElse
    show (if zup (γ 26) t (rR_needs ρ t) t ≠ zshl 1 (γ 20 t) then (0 : Int) else 1) = _
    rw [zup_s, o.1]
theorem P_propose {ha : Int} (h : zK γ ρ) (gh : 0 ≤ ha ∧ ha ≤ 1) : zAn (cH_propose γ t ha) (rR_propose ρ t ha) := by
  unfold cH_propose rR_propose
  rw [isTx_iff, kB_many h.1]
  by_cases c0 : 0 ≤ t ∧ t < ρ 0 0
  case neg =>
    rw [if_neg c0, if_neg c0, if_neg (show ¬ ((0 : Int) ≠ 0) from fun q => q rfl)]
    exact ⟨rfl, h⟩
  obtain ⟨t0, t1⟩ := c0
  rw [if_pos (⟨t0, t1⟩ : 0 ≤ t ∧ t < ρ 0 0), if_pos (⟨t0, t1⟩ : 0 ≤ t ∧ t < ρ 0 0), if_pos (show (1 : Int) ≠ 0 by decide)]
  have o := kB_one h.1 t0 t1
  have hw := h.1.1
  have gm : 0 ≤ ρ 0 0 ∧ ρ 0 0 ≤ 20 := hw 0 0 (by decide)
  have g1 : 0 ≤ ρ 1 t ∧ ρ 1 t ≤ 3 := hw 1 t (by decide)
  have g2 : 0 ≤ ρ 2 t ∧ ρ 2 t ≤ 5 := hw 2 t (by decide)
  rw [o.2.2.2.2.1, k_valid (kB_L h.1 t0 t1)]
  by_cases c1 : ρ 5 t = 0
  case neg =>
    rw [if_neg c1, if_neg c1]
    exact ⟨rfl, h⟩
  rw [if_pos c1, if_pos c1]
  obtain ⟨γ6, ρ6, hρ6, hc6, K6, P6, A6⟩ := R_seal2 h t0 t1 c1 gh
  have q1 : ρ6 1 t = ρ 1 t := by rw [hρ6]; rfl
  have q2 : ρ6 2 t = ρ 2 t := by rw [hρ6]; rfl
  have q5 : ρ6 5 t = 0 := by rw [hρ6]; exact c1
  have q0 : t < ρ6 0 0 := by rw [hρ6]; exact t1
  rw [hc6, ← hρ6]
  have T : ∀ v : Int, v = 1 ∨ v = 2 → zK (z_up γ6 25 t v) (z_up ρ6 5 t v) := by
    intro v hv
    exact E_stage K6 t0 q0 (by omega) (by omega) (fun _ _ => P6) (fun q => absurd q5 q)
  have NC : zAn (cH_sendNotarise (z_up γ6 25 t 2) t) (rR_send (z_up ρ6 5 t 2) 2 (ρ 1 t) (ρ 2 t) t 0) := by
    have K := T 2 (Or.inr rfl)
    have o2 := kB_one K.1 t0 (t := t) q0
    have a1 : z_up γ6 25 t 2 20 t = ρ 1 t := o2.1.trans q1
    have a2 : z_up γ6 25 t 2 21 t = ρ 2 t := o2.2.1.trans q2
    unfold cH_sendNotarise
    rw [a1, a2]
    exact E_send (kd := 2) (se := ρ 1 t) (re := ρ 2 t) (co := 0) (t := t) K ⟨t, t0, q0, by rw [z_up_s, zup_s]; decide, by rw [z_up_s, zup_s]; decide, Or.inr (Or.inr (Or.inl (by show _ = zcode 2 (ρ6 1 t) (ρ6 2 t) t 0; rw [q1, q2])))⟩ (by unfold zcode; omega)
  have AC : zAn (cH_sendToOthers (z_up γ6 25 t 1) 0 t (γ6 26 t)) (lR_propose_107 (z_up ρ6 5 t 1) t ha 4 0 0 (ρ 1 t)) := by
    have K := T 1 (Or.inl rfl)
    have s0 : z_up ρ6 5 t 1 5 t ≠ 0 := by rw [z_up_s, zup_s]; decide
    have s9 : z_up ρ6 5 t 1 5 t ≠ 9 := by rw [z_up_s, zup_s]; decide
    have p := (K.2.2.2.2.1 t t0 q0 s0 s9).1
    exact L_ask (ha := ha) t0 4 0 0 _ _ K (kB_L K.1 t0 q0) p.symm q1 q0 s0 s9 (by omega) (by omega)
  show zAn (if ha ≠ 0 then if ha ≠ 0 then ((cH_sendNotarise (z_up γ6 25 t 2) t).1, (cH_sendNotarise (z_up γ6 25 t 2) t).2) else if cT_needsNobodyElse γ6 t = 0 then ((cH_sendToOthers (z_up γ6 25 t 1) 0 t (γ6 26 t)).1, (cH_sendToOthers (z_up γ6 25 t 1) 0 t (γ6 26 t)).2) else ((cH_sendNotarise (z_up γ6 25 t 2) t).1, (cH_sendNotarise (z_up γ6 25 t 2) t).2) else if rR_valid ρ t ≠ 0 then if ha ≠ 0 then ((cH_sendNotarise (z_up γ6 25 t 2) t).1, (cH_sendNotarise (z_up γ6 25 t 2) t).2) else if cT_needsNobodyElse γ6 t = 0 then ((cH_sendToOthers (z_up γ6 25 t 1) 0 t (γ6 26 t)).1, (cH_sendToOthers (z_up γ6 25 t 1) 0 t (γ6 26 t)).2) else ((cH_sendNotarise (z_up γ6 25 t 2) t).1, (cH_sendNotarise (z_up γ6 25 t 2) t).2) else (-8, γ)) _
  rw [A6]
  by_cases ch : ha ≠ 0
  · rw [if_pos ch, if_pos ch, if_pos ch, if_pos ch]
    exact NC
  · rw [if_neg ch, if_neg ch]
    by_cases cv : rR_valid ρ t ≠ 0
    · rw [if_pos cv, if_pos cv, if_neg ch, if_neg ch]
      by_cases ca : rR_alone ρ6 t = 0
      · rw [if_pos ca, if_pos ca]
        exact AC
      · rw [if_neg ca, if_neg ca]
        exact NC
    · simp only [if_neg ch, if_neg cv]
      exact ⟨rfl, h⟩
-- messages read
theorem zshr_l {a : Int} (k : Nat) (hk : k < 31) (ha : 0 ≤ a ∧ a < 2147483648) : zshr a (k : Int) = a / 2 ^ k := by
  unfold zshr
  rw [iI_shr k ha hk]
  apply iI_toInt
  have h1 : 0 ≤ a / 2 ^ k := Int.ediv_nonneg ha.1 (Int.le_of_lt (Int.pow_pos (by decide)))
  have h2 : a / 2 ^ k ≤ a := Int.ediv_le_self _ ha.1
  exact ⟨by omega, by omega⟩
theorem zand_l {a m : Int} (k : Nat) (ha : 0 ≤ a ∧ a < 2147483648) (hm : (iI m).toBitVec.toNat = 2 ^ k - 1) (hb : a % 2 ^ k ≤ a ∧ 0 ≤ a % 2 ^ k) : zand a m = a % 2 ^ k := by
  unfold zand
  rw [iI_mask k ha hm]
  exact iI_toInt ⟨by omega, by omega⟩
theorem dec_m {kd se re u co : Int} (h0 : 0 ≤ kd ∧ kd ≤ 4) (h1 : 0 ≤ se ∧ se ≤ 5) (h2 : 0 ≤ re ∧ re ≤ 5) (h3 : 0 ≤ u ∧ u ≤ 19) (h4 : 0 ≤ co ∧ co ≤ 4) : zand (zcode kd se re u co) 7 = kd ∧ zand (zshr (zcode kd se re u co) 3) 7 = se ∧ zand (zshr (zcode kd se re u co) 6) 7 = re ∧ zand (zshr (zcode kd se re u co) 9) 31 = u ∧ zshr (zcode kd se re u co) 14 = co := by
  have b : 0 ≤ zcode kd se re u co ∧ zcode kd se re u co < 2147483648 := by unfold zcode; omega
  have e3 : zshr (zcode kd se re u co) 3 = zcode kd se re u co / 2 ^ 3 := zshr_l 3 (by decide) b
  have e6 : zshr (zcode kd se re u co) 6 = zcode kd se re u co / 2 ^ 6 := zshr_l 6 (by decide) b
  have e9 : zshr (zcode kd se re u co) 9 = zcode kd se re u co / 2 ^ 9 := zshr_l 9 (by decide) b
  have e14 : zshr (zcode kd se re u co) 14 = zcode kd se re u co / 2 ^ 14 := zshr_l 14 (by decide) b
  rw [e3, e6, e9, e14]
  have m7 : ∀ x : Int, 0 ≤ x ∧ x < 2147483648 → zand x 7 = x % 2 ^ 3 := fun x hx => zand_l 3 hx (by decide) (by omega)
  have m31 : ∀ x : Int, 0 ≤ x ∧ x < 2147483648 → zand x 31 = x % 2 ^ 5 := fun x hx => zand_l 5 hx (by decide) (by omega)
  rw [m7 _ b, m7 _ (by omega), m7 _ (by omega), m31 _ (by omega)]
  unfold zcode
  omega
-- taking a message out
theorem rem_c {k : Int} : ∀ (j : Nat) (q : Int) (γ : z_Sg) (x : Int), lB_removeAt_13 γ k j q 7 x = if q - 1 ≤ x ∧ x < q - 1 + j then γ 7 (x + 1) else γ 7 x := by
  intro j
  induction j with
  | zero =>
    intro q γ x
    rw [if_neg (by omega)]
    rfl
  | succ j ih =>
    intro q γ x
    have e : lB_removeAt_13 γ k (j + 1) q = lB_removeAt_13 (z_up γ 7 (q - 1) (γ 7 q)) k j (q + 1) := rfl
    rw [e, ih, z_up_s]
    by_cases c1 : x = q - 1
    · subst c1
      rw [if_neg (by omega), zup_s, if_pos (by omega), show q - 1 + 1 = q by omega]
    · rw [zup_n c1]
      by_cases c2 : q - 1 ≤ x ∧ x < q - 1 + ((j + 1 : Nat) : Int)
      · rw [if_pos c2, if_pos (by omega), zup_n (by omega)]
      · rw [if_neg c2, if_neg (by omega)]
theorem rem_r {k fa : Int} : ∀ (j : Nat) (q : Int) (ρ : z_Sg) (x : Int), lR_deliver_159 ρ k fa j q 22 x = if q ≤ x ∧ x < q + j then ρ 22 (x + 1) else ρ 22 x := by
  intro j
  induction j with
  | zero =>
    intro q ρ x
    rw [if_neg (by omega)]
    rfl
  | succ j ih =>
    intro q ρ x
    have e : lR_deliver_159 ρ k fa (j + 1) q = lR_deliver_159 (z_up ρ 22 q (ρ 22 (q + 1))) k fa j (q + 1) := rfl
    rw [e, ih, z_up_s]
    by_cases c1 : x = q
    · subst c1
      rw [if_neg (by omega), zup_s, if_pos (by omega)]
    · rw [zup_n c1]
      by_cases c2 : q ≤ x ∧ x < q + ((j + 1 : Nat) : Int)
      · rw [if_pos c2, if_pos (by omega), zup_n (by omega)]
      · rw [if_neg c2, if_neg (by omega)]
theorem E_mail {F G : Int → Int} {m : Int} (h : zK γ ρ) (gF : ∀ x : Int, 0 ≤ F x ∧ F x ≤ 131071) (gG : ∀ x : Int, 0 ≤ G x ∧ G x ≤ 131071) (gm : 0 ≤ m ∧ m ≤ 220) (he : ∀ x : Int, 0 ≤ x → x < m → F x = G x) (h1 : ∀ x : Int, 0 ≤ x → x < m → zMg ρ (G x)) (h2 : ∀ i j : Int, 0 ≤ i → i < j → j < m → G i ≠ G j) : zK (z_up (z_fc γ 7 F) 6 0 m) (z_up (z_fc ρ 22 G) 23 0 m) := by
  obtain ⟨hB, hN, hD, hM, hP, hV, hA, hI, hU, hW⟩ := h
  have hB0 := hB
  obtain ⟨hw, hc, he', hT, hS⟩ := hB
  have hw' : z_wf (z_up (z_fc ρ 22 G) 23 0 m) := z_wf_up (z_wf_cl hw gG) (by show (0 : Int) ≤ m; omega) (by show m ≤ 220; omega)
  have x : zFx ρ (z_up (z_fc ρ 22 G) 23 0 m) := ⟨rfl, rfl, rfl, rfl, rfl, rfl, rfl, rfl, rfl, rfl, rfl, rfl, rfl, rfl⟩
  have e23 : z_up (z_fc ρ 22 G) 23 0 m 23 0 = m := by rw [z_up_s, zup_s]
  have e22 : z_up (z_fc ρ 22 G) 23 0 m 22 = G := by rw [z_up_n (by decide), z_fc_s]
  have f6 : z_up (z_fc γ 7 F) 6 0 m 6 0 = m := by rw [z_up_s, zup_s]
  have f7 : z_up (z_fc γ 7 F) 6 0 m 7 = F := by rw [z_up_n (by decide), z_fc_s]
  refine ⟨⟨hw', c_wf_up (c_wf_cl hc gF) (by show (0 : Int) ≤ m; omega) (by show m ≤ 220; omega), he', hT, hS⟩, hN, hD, ?_, kP_fr hB0 hP hw' x rfl rfl (fun _ _ _ a b => ⟨a, b⟩), hV, kA_fr hA rfl rfl rfl rfl (fun _ _ _ a => a), kI_fr hI rfl rfl (fun _ _ _ a => a), hU, ?_⟩
  · unfold kM
    rw [f6, e23, f7, e22]
    exact ⟨rfl, he⟩
  · unfold kW
    rw [e23, e22]
    refine ⟨fun k k0 k1 => ?_, h2⟩
    exact zMg_fr (ρ' := z_up (z_fc ρ 22 G) 23 0 m) (Int.le_refl _) (fun _ _ _ => ⟨rfl, rfl⟩) (fun _ _ _ a b => ⟨a, b⟩) (fun _ _ => rfl) (fun _ _ => rfl) (h1 k k0 k1)
theorem E_remove {k fa : Int} (h : zK γ ρ) (k0 : 0 ≤ k) (k1 : k < ρ 23 0) : zK (cB_removeAt γ k).2 (z_up (lR_deliver_159 ρ k fa (ρ 23 0 - k - 1).toNat k) 23 0 (ρ 23 0 - 1)) := by
  have hM := h.2.2.2.1
  have hW := h.2.2.2.2.2.2.2.2.2
  have hw := h.1.1
  have hc := h.1.2.1
  have g23 : 0 ≤ ρ 23 0 ∧ ρ 23 0 ≤ 220 := hw 23 0 (by decide)
  have ec : (cB_removeAt γ k).2 = z_up (z_fc γ 7 (fun x => if k ≤ x ∧ x < ρ 23 0 - 1 then γ 7 (x + 1) else γ 7 x)) 6 0 (ρ 23 0 - 1) := by
    have e1 : cB_removeAt γ k = (0, z_up (lB_removeAt_13 γ k (ρ 23 0 - (k + 1)).toNat (k + 1)) 6 0 (ρ 23 0 - 1)) := by
      unfold cB_removeAt cB_holdsPlace
      rw [hM.1, if_neg (show ¬ k < 0 by omega), if_neg (show ¬ ρ 23 0 ≤ k by omega), if_pos (show (1 : Int) ≠ 0 by decide)]
    rw [e1]
    show z_up (lB_removeAt_13 γ k (ρ 23 0 - (k + 1)).toNat (k + 1)) 6 0 (ρ 23 0 - 1) = _
    congr 1
    funext c x
    by_cases cc : c = 7
    · subst cc
      rw [rem_c, z_fc_s]
      by_cases cx : k ≤ x ∧ x < ρ 23 0 - 1
      · rw [if_pos (by omega), if_pos cx]
      · rw [if_neg (by omega), if_neg cx]
    · rw [z_fc_n cc, kB_removeAt_13 k _ _ cc]
  have er : lR_deliver_159 ρ k fa (ρ 23 0 - k - 1).toNat k = z_fc ρ 22 (fun x => if k ≤ x ∧ x < ρ 23 0 - 1 then ρ 22 (x + 1) else ρ 22 x) := by
    funext c x
    by_cases cc : c = 22
    · subst cc
      rw [rem_r, z_fc_s]
      by_cases cx : k ≤ x ∧ x < ρ 23 0 - 1
      · rw [if_pos (by omega), if_pos cx]
      · rw [if_neg (by omega), if_neg cx]
    · rw [z_fc_n cc, kR_deliver_159 hw k fa _ _ cc]
  rw [ec, er]
  refine E_mail h ?_ ?_ (by omega) ?_ ?_ ?_
  · intro x
    show (0 : Int) ≤ (if k ≤ x ∧ x < ρ 23 0 - 1 then γ 7 (x + 1) else γ 7 x) ∧ (if k ≤ x ∧ x < ρ 23 0 - 1 then γ 7 (x + 1) else γ 7 x) ≤ 131071
    split
    · exact hc 7 _ (by decide)
    · exact hc 7 _ (by decide)
  · intro x
    show (0 : Int) ≤ (if k ≤ x ∧ x < ρ 23 0 - 1 then ρ 22 (x + 1) else ρ 22 x) ∧ (if k ≤ x ∧ x < ρ 23 0 - 1 then ρ 22 (x + 1) else ρ 22 x) ≤ 131071
    split
    · exact hw 22 _ (by decide)
    · exact hw 22 _ (by decide)
  · intro x x0 x1
    show (if k ≤ x ∧ x < ρ 23 0 - 1 then γ 7 (x + 1) else γ 7 x) = if k ≤ x ∧ x < ρ 23 0 - 1 then ρ 22 (x + 1) else ρ 22 x
    split
    · exact hM.2 (x + 1) (by omega) (by omega)
    · exact hM.2 x x0 (by omega)
  · intro x x0 x1
    show zMg ρ (if k ≤ x ∧ x < ρ 23 0 - 1 then ρ 22 (x + 1) else ρ 22 x)
    split
    · exact hW.1 (x + 1) (by omega) (by omega)
    · exact hW.1 x x0 (by omega)
  · intro i j i0 i1 j1
    show (if k ≤ i ∧ i < ρ 23 0 - 1 then ρ 22 (i + 1) else ρ 22 i) ≠ if k ≤ j ∧ j < ρ 23 0 - 1 then ρ 22 (j + 1) else ρ 22 j
    split
    · split
      · exact hW.2 (i + 1) (j + 1) (by omega) (by omega) (by omega)
      · omega
    · split
      · exact hW.2 i (j + 1) i0 (by omega) (by omega)
      · exact hW.2 i j i0 i1 (by omega)
end
