abbrev zcode (kind se re t co : Int) : Int := ((((kind + (8 * se)) + (64 * re)) + (512 * t)) + (16384 * co))
theorem z_nf {f : Int → Int} {m k : Int} (c : ∀ i : Int, 0 ≤ i → i < k → f i ≠ m) (h : f k ≠ m) : ∀ i : Int, 0 ≤ i → i < k + 1 → f i ≠ m := by
  intro i h0 h1
  by_cases e : i = k
  · rw [e]; exact h
  · exact c i h0 (by omega)
def zroom (ρ : z_Sg) (m : Int) : Prop := (∃ k : Int, 0 ≤ k ∧ k < ρ 23 0 ∧ ρ 22 k = m) ∨ ρ 23 0 ≤ 219
/-- what waits is of P, and nothing waits twice -/
def zRm (P : List Int) (ρ : z_Sg) : Prop := P.length ≤ 220 ∧ (∀ k : Int, 0 ≤ k → k < ρ 23 0 → ρ 22 k ∈ P) ∧ ∀ i j : Int, 0 ≤ i → i < j → j < ρ 23 0 → ρ 22 i ≠ ρ 22 j
theorem zRm_room {P : List Int} {ρ : z_Sg} {m : Int} (h : zRm P ρ) (hm : m ∈ P) (hw : z_wf ρ) : zroom ρ m := by
  by_cases hf : ∃ k : Int, 0 ≤ k ∧ k < ρ 23 0 ∧ ρ 22 k = m
  · exact Or.inl hf
  · refine Or.inr ?_
    have g : 0 ≤ ρ 23 0 ∧ ρ 23 0 ≤ 220 := hw 23 0 (by decide)
    have hn : (m :: (List.range (ρ 23 0).toNat).map (fun k : Nat => ρ 22 (k : Int))).Nodup := by
      rw [List.nodup_cons]
      refine ⟨fun hmem => ?_, ?_⟩
      · obtain ⟨k, hk, e⟩ := List.mem_map.mp hmem
        rw [List.mem_range] at hk
        exact hf ⟨k, by omega, by omega, e⟩
      · rw [List.nodup_iff_pairwise_ne, List.pairwise_map]
        refine List.Pairwise.imp_of_mem ?_ List.pairwise_lt_range
        intro i j hi hj hij
        rw [List.mem_range] at hi hj
        exact h.2.2 i j (by omega) (by omega) (by omega)
    have hs : (m :: (List.range (ρ 23 0).toNat).map (fun k : Nat => ρ 22 (k : Int))) ⊆ P := by
      intro x hx
      rcases List.mem_cons.mp hx with rfl | hx
      · exact hm
      · obtain ⟨k, hk, rfl⟩ := List.mem_map.mp hx
        rw [List.mem_range] at hk
        exact h.2.1 k (by omega) (by omega)
    have hl := hn.length_le_of_subset hs
    have hp := h.1
    simp only [List.length_cons, List.length_map, List.length_range] at hl
    omega

def lR_send_30 (ρ : z_Sg) (kind se re t co : Int) (j : Nat) (k : Int) : Int × z_Sg := match j with
  | 0 => (1, (z_up (z_up ρ 22 (ρ 23 0) ((((kind + (8 * se)) + (64 * re)) + (512 * t)) + (16384 * co))) 23 0 ((ρ 23 0) + 1)))
  | j + 1 => if (ρ 22 k) ≠ ((((kind + (8 * se)) + (64 * re)) + (512 * t)) + (16384 * co)) then lR_send_30 ρ kind se re t co j (k + 1) else (0, ρ)
set_option maxRecDepth 100000 in
set_option maxHeartbeats 4000000 in
theorem eR_send_30 {κ ρ : z_Sg} {a : Int → Nat} {B : List va_E} (hw : z_wf ρ) (kind se re t co : Int) (hp0 : 0 ≤ kind ∧ kind ≤ 4) (hp1 : 0 ≤ se ∧ se ≤ 5) (hp2 : 0 ≤ re ∧ re ≤ 5) (hp3 : 0 ≤ t ∧ t ≤ 19) (hp4 : 0 ≤ co ∧ co ≤ 4) (he0 : zroom ρ (zcode kind se re t co)) : ∀ (j : Nat) (k : Int), 0 ≤ k → k + j = ρ 23 0 → (∀ i : Int, 0 ≤ i → i < k → ρ 22 i ≠ zcode kind se re t co) → z_Ev mR_send (0, 0) 0 0 30 [.ref 12, zi kind, zi se, zi re, zi t, zi co, zi ((((kind + (8 * se)) + (64 * re)) + (512 * t)) + (16384 * co)), zi k] [] (zM κ a ρ B) (fun r M' => r = some (zi (lR_send_30 ρ kind se re t co j k).1) ∧ M' = zM κ a (lR_send_30 ρ kind se re t co j k).2 B) := by
  intro j
  induction j generalizing ρ with
  | zero =>
    intro k  c0 c1 c2
    have hz9 : ρ 23 0 ≤ 219 := by
      rcases he0 with ⟨i, i0, i1, i2⟩ | h
      · exact absurd i2 (c2 i i0 (by omega))
      · exact h
    refine ev_iload (q := 32) dR_send_30 (by rfl) rfl ?_
    refine ev_aload_n 0 (q := 33) dR_send_32 rfl (by rfl) rfl ?_
    refine ev_get (q := 36) (v := zi (ρ 23 0)) dR_send_33 fR_143 atR rfl rfl ?_
    have g1 : 0 ≤ ρ 23 0 ∧ ρ 23 0 ≤ 220 := hw 23 0 (by decide)
    refine zr_icmp_ge (t := 59) (q := 39) dR_send_36 rfl rfl ⟨by omega, by omega⟩ ⟨by omega, by omega⟩ (fun h2 => ?_) (fun h2 => ?_)
    · refine ev_aload_n 0 (q := 60) dR_send_59 rfl (by rfl) rfl ?_
      refine ev_get (q := 63) dR_send_60 fR_74 atR (by rfl) rfl ?_
      refine ev_aload_n 0 (q := 64) dR_send_63 rfl (by rfl) rfl ?_
      refine ev_get (q := 67) (v := zi (ρ 23 0)) dR_send_64 fR_143 atR rfl rfl ?_
      have g3 : 0 ≤ ρ 23 0 ∧ ρ 23 0 ≤ 220 := hw 23 0 (by decide)
      refine ev_iload (q := 69) dR_send_67 (by rfl) rfl ?_
      refine zr_iast (q := 70) dR_send_69 at_waiting (by decide) ⟨by omega, by omega⟩ st_waiting rfl ?_
      have hw4 : z_wf (z_up ρ 22 (ρ 23 0) ((((kind + (8 * se)) + (64 * re)) + (512 * t)) + (16384 * co))) := z_wf_up hw (show (0 : Int) ≤ ((((kind + (8 * se)) + (64 * re)) + (512 * t)) + (16384 * co)) by omega) (show ((((kind + (8 * se)) + (64 * re)) + (512 * t)) + (16384 * co)) ≤ (131071 : Int) by omega)
      refine ev_aload_n 0 (q := 71) dR_send_70 rfl (by rfl) rfl ?_
      refine ev_dup (q := 72) dR_send_71 rfl rfl ?_
      refine ev_get (q := 75) (v := zi (ρ 23 0)) dR_send_72 fR_143 atR rfl rfl ?_
      have g5 : 0 ≤ ρ 23 0 ∧ ρ 23 0 ≤ 220 := hw 23 0 (by decide)
      refine ev_iconst (v := iI 1) (q := 76) dR_send_75 rfl rfl ?_
      refine zr_iadd (q := 77) dR_send_76 rfl ?_
      refine zr_puti (q := 80) dR_send_77 gR_143 atR (Nat.le_of_ble_eq_true rfl) rfl st_waits rfl ?_
      have hw6 : z_wf (z_up (z_up ρ 22 (ρ 23 0) ((((kind + (8 * se)) + (64 * re)) + (512 * t)) + (16384 * co))) 23 0 ((ρ 23 0) + 1)) := z_wf_up hw4 (show (0 : Int) ≤ ((ρ 23 0) + 1) by omega) (show ((ρ 23 0) + 1) ≤ (220 : Int) by omega)
      refine ev_iconst (v := iI 1) (q := 81) dR_send_80 rfl rfl ?_
      exact zr_iret dR_send_81 rfl ⟨by rw [lR_send_30], by rw [lR_send_30]⟩
    · exfalso
      omega
  | succ j ih =>
    intro k  c0 c1 c2
    refine ev_iload (q := 32) dR_send_30 (by rfl) rfl ?_
    refine ev_aload_n 0 (q := 33) dR_send_32 rfl (by rfl) rfl ?_
    refine ev_get (q := 36) (v := zi (ρ 23 0)) dR_send_33 fR_143 atR rfl rfl ?_
    have g1 : 0 ≤ ρ 23 0 ∧ ρ 23 0 ≤ 220 := hw 23 0 (by decide)
    refine zr_icmp_ge (t := 59) (q := 39) dR_send_36 rfl rfl ⟨by omega, by omega⟩ ⟨by omega, by omega⟩ (fun h2 => ?_) (fun h2 => ?_)
    · exfalso
      omega
    · refine ev_aload_n 0 (q := 40) dR_send_39 rfl (by rfl) rfl ?_
      refine ev_get (q := 43) dR_send_40 fR_74 atR (by rfl) rfl ?_
      refine ev_iload (q := 45) dR_send_43 (by rfl) rfl ?_
      refine zr_iald (q := 46) (g := ρ 22) dR_send_45 at_waiting (by decide) ⟨by omega, by omega⟩ rfl ?_
      have g3 : 0 ≤ ρ 22 k ∧ ρ 22 k ≤ 131071 := hw 22 k (by decide)
      refine ev_iload (q := 48) dR_send_46 (by rfl) rfl ?_
      refine zr_icmp_ne (t := 53) (q := 51) dR_send_48 rfl rfl ⟨by omega, by omega⟩ ⟨by omega, by omega⟩ (fun h4 => ?_) (fun h4 => ?_)
      · refine zr_iinc (q := 56) dR_send_53 (by rfl) (by decide) rfl rfl ?_
        dsimp only [List.set]
        refine ev_goto (t := 30) (q := 30) dR_send_56 rfl rfl ?_
        rw [show lR_send_30 ρ kind se re t co (j + 1) k = lR_send_30 ρ kind se re t co j (k + 1) from by rw [lR_send_30, if_pos h4]]
        exact ih hw he0 (k + 1)  (by omega) (by omega) (z_nf c2 (by assumption))
      · refine ev_iconst (v := iI 0) (q := 52) dR_send_51 rfl rfl ?_
        exact zr_iret dR_send_52 rfl ⟨by rw [lR_send_30, if_neg (fun z => z h4)], by rw [lR_send_30, if_neg (fun z => z h4)]⟩
set_option maxRecDepth 100000 in
set_option maxHeartbeats 4000000 in
theorem wlR_send_30 {ρ : z_Sg} (hw : z_wf ρ) (kind se re t co : Int) (hp0 : 0 ≤ kind ∧ kind ≤ 4) (hp1 : 0 ≤ se ∧ se ≤ 5) (hp2 : 0 ≤ re ∧ re ≤ 5) (hp3 : 0 ≤ t ∧ t ≤ 19) (hp4 : 0 ≤ co ∧ co ≤ 4) (he0 : zroom ρ (zcode kind se re t co)) : ∀ (j : Nat) (k : Int), 0 ≤ k → k + j = ρ 23 0 → (∀ i : Int, 0 ≤ i → i < k → ρ 22 i ≠ zcode kind se re t co) → z_wf (lR_send_30 ρ kind se re t co j k).2 := by
  intro j
  induction j generalizing ρ with
  | zero =>
    intro k c0 c1 c2
    rw [lR_send_30]
    have hz9 : ρ 23 0 ≤ 219 := by
      rcases he0 with ⟨i, i0, i1, i2⟩ | h
      · exact absurd i2 (c2 i i0 (by omega))
      · exact h
    have g1 : 0 ≤ ρ 23 0 ∧ ρ 23 0 ≤ 220 := hw 23 0 (by decide)
    have g3 : 0 ≤ ρ 23 0 ∧ ρ 23 0 ≤ 220 := hw 23 0 (by decide)
    have hw4 : z_wf (z_up ρ 22 (ρ 23 0) ((((kind + (8 * se)) + (64 * re)) + (512 * t)) + (16384 * co))) := z_wf_up hw (show (0 : Int) ≤ ((((kind + (8 * se)) + (64 * re)) + (512 * t)) + (16384 * co)) by omega) (show ((((kind + (8 * se)) + (64 * re)) + (512 * t)) + (16384 * co)) ≤ (131071 : Int) by omega)
    have g5 : 0 ≤ ρ 23 0 ∧ ρ 23 0 ≤ 220 := hw 23 0 (by decide)
    have hw6 : z_wf (z_up (z_up ρ 22 (ρ 23 0) ((((kind + (8 * se)) + (64 * re)) + (512 * t)) + (16384 * co))) 23 0 ((ρ 23 0) + 1)) := z_wf_up hw4 (show (0 : Int) ≤ ((ρ 23 0) + 1) by omega) (show ((ρ 23 0) + 1) ≤ (220 : Int) by omega)
    exact hw6
  | succ j ihw =>
    intro k c0 c1 c2
    rw [lR_send_30]
    have g1 : 0 ≤ ρ 23 0 ∧ ρ 23 0 ≤ 220 := hw 23 0 (by decide)
    have g3 : 0 ≤ ρ 22 k ∧ ρ 22 k ≤ 131071 := hw 22 k (by decide)
    by_cases h4 : (ρ 22 k) ≠ ((((kind + (8 * se)) + (64 * re)) + (512 * t)) + (16384 * co))
    · rw [if_pos h4]
      exact ihw hw he0 (k + 1)  (by omega) (by omega) (z_nf c2 (by assumption))
    · rw [if_neg h4]
      exact hw
def rR_send (ρ : z_Sg) (kind se re t co : Int) : Int × z_Sg := lR_send_30 ρ kind se re t co (ρ 23 0).toNat 0
set_option maxRecDepth 100000 in
set_option maxHeartbeats 4000000 in
theorem sR_send {κ ρ : z_Sg} {a : Int → Nat} {B : List va_E} (hw : z_wf ρ) (kind se re t co : Int) (hp0 : 0 ≤ kind ∧ kind ≤ 4) (hp1 : 0 ≤ se ∧ se ≤ 5) (hp2 : 0 ≤ re ∧ re ≤ 5) (hp3 : 0 ≤ t ∧ t ≤ 19) (hp4 : 0 ≤ co ∧ co ≤ 4) (he0 : zroom ρ (zcode kind se re t co)) : z_Sp mR_send (0, 0) 0 0 [.ref 12, zi kind, zi se, zi re, zi t, zi co] (zM κ a ρ B) (fun r M' => r = some (zi (rR_send ρ kind se re t co).1) ∧ M' = zM κ a (rR_send ρ kind se re t co).2 B) := by
  refine z_Sp_of (L := [.ref 12, zi kind, zi se, zi re, zi t, zi co, .float 0, .float 0]) (by decide) rfl rfl rfl (Nat.le_of_ble_eq_true rfl) ?_
  refine ev_iload_n 1 (q := 1) dR_send_0 rfl (by rfl) rfl ?_
  refine ev_bipush (v := iI 8) (q := 3) dR_send_1 (by decide) rfl ?_
  refine ev_iload_n 2 (q := 4) dR_send_3 rfl (by rfl) rfl ?_
  refine zr_imul (q := 5) dR_send_4 rfl ?_
  refine zr_iadd (q := 6) dR_send_5 rfl ?_
  refine ev_bipush (v := iI 64) (q := 8) dR_send_6 (by decide) rfl ?_
  refine ev_iload_n 3 (q := 9) dR_send_8 rfl (by rfl) rfl ?_
  refine zr_imul (q := 10) dR_send_9 rfl ?_
  refine zr_iadd (q := 11) dR_send_10 rfl ?_
  refine ev_sipush (v := iI 512) (q := 14) dR_send_11 (by decide) rfl ?_
  refine ev_iload (q := 16) dR_send_14 (by rfl) rfl ?_
  refine zr_imul (q := 17) dR_send_16 rfl ?_
  refine zr_iadd (q := 18) dR_send_17 rfl ?_
  refine ev_sipush (v := iI 16384) (q := 21) dR_send_18 (by decide) rfl ?_
  refine ev_iload (q := 23) dR_send_21 (by rfl) rfl ?_
  refine zr_imul (q := 24) dR_send_23 rfl ?_
  refine zr_iadd (q := 25) dR_send_24 rfl ?_
  refine ev_istore (q := 27) dR_send_25 (by decide) rfl rfl ?_
  dsimp only [List.set]
  refine ev_iconst (v := iI 0) (q := 28) dR_send_27 rfl rfl ?_
  refine ev_istore (q := 30) dR_send_28 (by decide) rfl rfl ?_
  dsimp only [List.set]
  have g1 : 0 ≤ ρ 23 0 ∧ ρ 23 0 ≤ 220 := hw 23 0 (by decide)
  rw [show rR_send ρ kind se re t co = lR_send_30 ρ kind se re t co (ρ 23 0).toNat 0 from by rw [rR_send]]
  exact eR_send_30 hw kind se re t co hp0 hp1 hp2 hp3 hp4 he0 (ρ 23 0).toNat 0  (by omega) (by omega) (fun i h0 h1 => by omega)
set_option maxRecDepth 100000 in
set_option maxHeartbeats 4000000 in
theorem wR_send {ρ : z_Sg} (hw : z_wf ρ) (kind se re t co : Int) (hp0 : 0 ≤ kind ∧ kind ≤ 4) (hp1 : 0 ≤ se ∧ se ≤ 5) (hp2 : 0 ≤ re ∧ re ≤ 5) (hp3 : 0 ≤ t ∧ t ≤ 19) (hp4 : 0 ≤ co ∧ co ≤ 4) (he0 : zroom ρ (zcode kind se re t co)) : z_wf (rR_send ρ kind se re t co).2 := by
  rw [rR_send]
  have g1 : 0 ≤ ρ 23 0 ∧ ρ 23 0 ≤ 220 := hw 23 0 (by decide)
  exact wlR_send_30 hw kind se re t co hp0 hp1 hp2 hp3 hp4 he0 (ρ 23 0).toNat 0  (by omega) (by omega) (fun i h0 h1 => by omega)

theorem cR_send (ρ : z_Sg) (kind se re t co : Int) (hw : z_wf ρ) : rR_send ρ kind se re t co = if anyZ (ρ 23 0) (fun k => decide (ρ 22 k = zcode kind se re t co)) = true then (0, ρ) else (1, z_up (z_up ρ 22 (ρ 23 0) (zcode kind se re t co)) 23 0 (ρ 23 0 + 1)) := by
  have g : 0 ≤ ρ 23 0 ∧ ρ 23 0 ≤ 220 := hw 23 0 (by decide)
  have key : ∀ (j : Nat) (k : Int), 0 ≤ k → k + j = ρ 23 0 → (∀ i : Int, 0 ≤ i → i < k → ρ 22 i ≠ zcode kind se re t co) → lR_send_30 ρ kind se re t co j k = if anyZ (ρ 23 0) (fun k => decide (ρ 22 k = zcode kind se re t co)) = true then (0, ρ) else (1, z_up (z_up ρ 22 (ρ 23 0) (zcode kind se re t co)) 23 0 (ρ 23 0 + 1)) := by
    intro j
    induction j with
    | zero =>
      intro k c0 c1 c2
      rw [lR_send_30, if_neg]
      rw [anyZ_f]
      · decide
      · intro i h0 h1
        exact decide_eq_false (c2 i h0 (by omega))
    | succ j ih =>
      intro k c0 c1 c2
      rw [lR_send_30]
      split
      · rename_i h
        refine ih (k + 1) (by omega) (by omega) ?_
        intro i h0 h1
        by_cases e : i = k
        · subst e; exact h
        · exact c2 i h0 (by omega)
      · rename_i h
        rw [if_pos]
        exact anyZ_t k c0 (by omega) (decide_eq_true (Decidable.not_not.mp h))
  exact key _ _ (by omega) (by omega) (fun i h0 h1 => by omega)
theorem kR_send {ρ : z_Sg} (hw : z_wf ρ) (kind se re t co : Int) {c : Nat} (h1 : c ≠ 22) (h2 : c ≠ 23) : (rR_send ρ kind se re t co).2 c = ρ c := by
  rw [cR_send ρ kind se re t co hw]
  split
  · rfl
  · show z_up (z_up ρ 22 _ _) 23 0 _ c = ρ c
    rw [z_up_n h2, z_up_n h1]
theorem zRm_send {P : List Int} {ρ : z_Sg} (h : zRm P ρ) (hw : z_wf ρ) {kind se re t co : Int} (hm : zcode kind se re t co ∈ P) : zRm P (rR_send ρ kind se re t co).2 := by
  rw [cR_send ρ kind se re t co hw]
  split
  · exact h
  · rename_i hf
    have g : 0 ≤ ρ 23 0 ∧ ρ 23 0 ≤ 220 := hw 23 0 (by decide)
    have hf2 : ∀ i : Int, 0 ≤ i → i < ρ 23 0 → ρ 22 i ≠ zcode kind se re t co := fun i h0 h1 e => hf (anyZ_t i h0 h1 (decide_eq_true e))
    show P.length ≤ 220 ∧ (∀ k : Int, 0 ≤ k → k < ρ 23 0 + 1 → zup (ρ 22) (ρ 23 0) (zcode kind se re t co) k ∈ P) ∧ ∀ i j : Int, 0 ≤ i → i < j → j < ρ 23 0 + 1 → zup (ρ 22) (ρ 23 0) (zcode kind se re t co) i ≠ zup (ρ 22) (ρ 23 0) (zcode kind se re t co) j
    refine ⟨h.1, fun k h0 h1 => ?_, fun i j h0 h1 h2 => ?_⟩
    · by_cases e : k = ρ 23 0
      · rw [e, zup_s]; exact hm
      · rw [zup_n e]; exact h.2.1 k h0 (by omega)
    · have ei : i ≠ ρ 23 0 := by omega
      rw [zup_n ei]
      by_cases e : j = ρ 23 0
      · rw [e, zup_s]; exact hf2 i h0 (by omega)
      · rw [zup_n e]; exact h.2.2 i j h0 h1 (by omega)
theorem bR_send (ρ : z_Sg) (kind se re t co : Int) (hw : z_wf ρ) : (rR_send ρ kind se re t co).1 = 0 ∨ (rR_send ρ kind se re t co).1 = 1 := by
  rw [cR_send ρ kind se re t co hw]
  split
  · exact Or.inl rfl
  · exact Or.inr rfl
