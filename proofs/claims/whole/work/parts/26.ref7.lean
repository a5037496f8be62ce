theorem kR_fetch {ρ : z_Sg} (node t : Int) {c : Nat} (h1 : c ≠ 18) (h2 : c ≠ 20) (h3 : c ≠ 25) : (rR_fetch ρ node t).2 c = ρ c := by
  have k2 : ∀ (j : Nat) (ρ : z_Sg) (k : Int), lR_fetch_2 ρ node t j k c = ρ c := by
    intro j
    induction j with
    | zero => intro ρ k; rfl
    | succ j ih => intro ρ k; rw [lR_fetch_2, ih, z_up_n h3]
  have k23 : ∀ (j : Nat) (ρ : z_Sg) (k : Int), lR_fetch_23 ρ node t j k c = ρ c := by
    intro j
    induction j with
    | zero => intro ρ k; rfl
    | succ j ih => intro ρ k; rw [lR_fetch_23, ih, z_up_n h3]
  have k78 : ∀ (j : Nat) (ρ : z_Sg) (k mo : Int), (lR_fetch_78 ρ node t j k mo).2 c = ρ c := by
    intro j
    induction j with
    | zero => intro ρ k mo; rfl
    | succ j ih =>
      intro ρ k mo
      rw [lR_fetch_78]
      repeat' split
      all_goals (rw [ih]; try rw [z_up_n h3])
  have k62 : ∀ (j : Nat) (ρ : z_Sg) (k mo : Int), lR_fetch_62 ρ node t j k mo c = ρ c := by
    intro j
    induction j with
    | zero => intro ρ k mo; rfl
    | succ j ih =>
      intro ρ k mo
      rw [lR_fetch_62]
      split
      · rfl
      · rw [ih, k78]
  have k183 : ∀ (j : Nat) (ρ : z_Sg) (k : Int), lR_fetch_183 ρ node t j k c = ρ c := by
    intro j
    induction j with
    | zero => intro ρ k; rfl
    | succ j ih =>
      intro ρ k
      rw [lR_fetch_183]
      repeat' split
      all_goals (rw [ih]; try rw [z_up_n h2, z_up_n h1])
  show lR_fetch_183 _ node t _ _ c = ρ c
  rw [k183, k62, k23, k2]
theorem zRm_of {P : List Int} {ρ ρ' : z_Sg} (h : zRm P ρ) (h1 : ρ' 22 = ρ 22) (h2 : ρ' 23 = ρ 23) : zRm P ρ' := by
  unfold zRm at h ⊢
  rw [h1, h2]
  exact h

def rR_close (ρ : z_Sg) (node t fa : Int) : Int × z_Sg := if (ρ 18 ((20 * node) + t)) ≠ 2 then if (rR_sound ρ t) ≠ 0 then if fa = 0 then (2, (z_up ((rR_fetch ρ node t)).2 18 ((20 * node) + t) 2)) else (2, ρ) else (3, ρ) else (1, ρ)
set_option maxRecDepth 100000 in
set_option maxHeartbeats 4000000 in
theorem sR_close {κ ρ : z_Sg} {a : Int → Nat} {B : List va_E} (hw : z_wf ρ) (node t fa : Int) (hp0 : 0 ≤ node ∧ node ≤ 3) (hp1 : 0 ≤ t ∧ t ≤ 19) (hp2 : 0 ≤ fa ∧ fa ≤ 1) : z_Sp mR_close (6, 144) 0 0 [.ref 12, zi node, zi t, zi fa] (zM κ a ρ B) (fun r M' => r = some (zi (rR_close ρ node t fa).1) ∧ M' = zM κ a (rR_close ρ node t fa).2 B) := by
  refine z_Sp_of (L := [.ref 12, zi node, zi t, zi fa]) (by decide) rfl rfl rfl (Nat.le_of_ble_eq_true rfl) ?_
  refine ev_aload_n 0 (q := 1) dR_close_0 rfl (by rfl) rfl ?_
  refine ev_get (q := 4) dR_close_1 fR_62 atR (by rfl) rfl ?_
  refine ev_bipush (v := iI 20) (q := 6) dR_close_4 (by decide) rfl ?_
  refine ev_iload_n 1 (q := 7) dR_close_6 rfl (by rfl) rfl ?_
  refine zr_imul (q := 8) dR_close_7 rfl ?_
  refine ev_iload_n 2 (q := 9) dR_close_8 rfl (by rfl) rfl ?_
  refine zr_iadd (q := 10) dR_close_9 rfl ?_
  refine zr_iald (q := 11) (g := ρ 18) dR_close_10 at_knows (by decide) ⟨by omega, by omega⟩ rfl ?_
  have g1 : 0 ≤ ρ 18 ((20 * node) + t) ∧ ρ 18 ((20 * node) + t) ≤ 2 := hw 18 ((20 * node) + t) (by decide)
  refine ev_iconst (v := iI 2) (q := 12) dR_close_11 rfl rfl ?_
  refine zr_icmp_ne (t := 17) (q := 15) dR_close_12 rfl rfl ⟨by omega, by omega⟩ ⟨by omega, by omega⟩ (fun h2 => ?_) (fun h2 => ?_)
  · refine ev_aload_n 0 (q := 18) dR_close_17 rfl (by rfl) rfl ?_
    refine ev_iload_n 2 (q := 19) dR_close_18 rfl (by rfl) rfl ?_
    refine cv_V (As := [_]) (q := 22) dR_close_19 kR_175 atR rfl rfl (Nat.le_of_ble_eq_true rfl) rfl rfl rfl (by decide) (sR_sound hw t ⟨by omega, by omega⟩ ) ?_
    have g3 : (rR_sound ρ t) = 0 ∨ (rR_sound ρ t) = 1 := bR_sound _ _
    refine zr_if_ne (t := 27) (q := 25) dR_close_22 rfl rfl ⟨by omega, by omega⟩ (fun h4 => ?_) (fun h4 => ?_)
    · refine ev_iload_n 3 (q := 28) dR_close_27 rfl (by rfl) rfl ?_
      refine zr_if_eq (t := 33) (q := 31) dR_close_28 rfl rfl ⟨by omega, by omega⟩ (fun h5 => ?_) (fun h5 => ?_)
      · refine ev_aload_n 0 (q := 34) dR_close_33 rfl (by rfl) rfl ?_
        refine ev_iload_n 1 (q := 35) dR_close_34 rfl (by rfl) rfl ?_
        refine ev_iload_n 2 (q := 36) dR_close_35 rfl (by rfl) rfl ?_
        refine cv_Vv (As := [_, _]) (q := 39) dR_close_36 kR_169 atR rfl rfl (Nat.le_of_ble_eq_true rfl) rfl rfl rfl (by decide) (sR_fetch hw node t ⟨by omega, by omega⟩ ⟨by omega, by omega⟩ ) ?_
        have hw6 : z_wf ((rR_fetch ρ node t)).2 := wR_fetch hw node t ⟨by omega, by omega⟩ ⟨by omega, by omega⟩ 
        refine ev_aload_n 0 (q := 40) dR_close_39 rfl (by rfl) rfl ?_
        refine ev_get (q := 43) dR_close_40 fR_62 atR (by rfl) rfl ?_
        refine ev_bipush (v := iI 20) (q := 45) dR_close_43 (by decide) rfl ?_
        refine ev_iload_n 1 (q := 46) dR_close_45 rfl (by rfl) rfl ?_
        refine zr_imul (q := 47) dR_close_46 rfl ?_
        refine ev_iload_n 2 (q := 48) dR_close_47 rfl (by rfl) rfl ?_
        refine zr_iadd (q := 49) dR_close_48 rfl ?_
        refine ev_iconst (v := iI 2) (q := 50) dR_close_49 rfl rfl ?_
        refine zr_iast (q := 51) dR_close_50 at_knows (by decide) ⟨by omega, by omega⟩ st_knows rfl ?_
        have hw7 : z_wf (z_up ((rR_fetch ρ node t)).2 18 ((20 * node) + t) 2) := z_wf_up hw6 (show (0 : Int) ≤ 2 by omega) (show 2 ≤ (2 : Int) by omega)
        refine ev_iconst (v := iI 2) (q := 52) dR_close_51 rfl rfl ?_
        exact zr_iret dR_close_52 rfl ⟨by rw [rR_close, if_pos h2, if_pos h4, if_pos h5], by rw [rR_close, if_pos h2, if_pos h4, if_pos h5]⟩
      · refine ev_iconst (v := iI 2) (q := 32) dR_close_31 rfl rfl ?_
        exact zr_iret dR_close_32 rfl ⟨by rw [rR_close, if_pos h2, if_pos h4, if_neg h5], by rw [rR_close, if_pos h2, if_pos h4, if_neg h5]⟩
    · refine ev_iconst (v := iI 3) (q := 26) dR_close_25 rfl rfl ?_
      exact zr_iret dR_close_26 rfl ⟨by rw [rR_close, if_pos h2, if_neg (fun z => z h4)], by rw [rR_close, if_pos h2, if_neg (fun z => z h4)]⟩
  · refine ev_iconst (v := iI 1) (q := 16) dR_close_15 rfl rfl ?_
    exact zr_iret dR_close_16 rfl ⟨by rw [rR_close, if_neg (fun z => z h2)], by rw [rR_close, if_neg (fun z => z h2)]⟩
set_option maxRecDepth 100000 in
set_option maxHeartbeats 4000000 in
theorem wR_close {ρ : z_Sg} (hw : z_wf ρ) (node t fa : Int) (hp0 : 0 ≤ node ∧ node ≤ 3) (hp1 : 0 ≤ t ∧ t ≤ 19) (hp2 : 0 ≤ fa ∧ fa ≤ 1) : z_wf (rR_close ρ node t fa).2 := by
  rw [rR_close]
  have g1 : 0 ≤ ρ 18 ((20 * node) + t) ∧ ρ 18 ((20 * node) + t) ≤ 2 := hw 18 ((20 * node) + t) (by decide)
  by_cases h2 : (ρ 18 ((20 * node) + t)) ≠ 2
  · rw [if_pos h2]
    have g3 : (rR_sound ρ t) = 0 ∨ (rR_sound ρ t) = 1 := bR_sound _ _
    by_cases h4 : (rR_sound ρ t) ≠ 0
    · rw [if_pos h4]
      by_cases h5 : fa = 0
      · rw [if_pos h5]
        have hw6 : z_wf ((rR_fetch ρ node t)).2 := wR_fetch hw node t ⟨by omega, by omega⟩ ⟨by omega, by omega⟩ 
        have hw7 : z_wf (z_up ((rR_fetch ρ node t)).2 18 ((20 * node) + t) 2) := z_wf_up hw6 (show (0 : Int) ≤ 2 by omega) (show 2 ≤ (2 : Int) by omega)
        exact hw7
      · rw [if_neg h5]
        exact hw
    · rw [if_neg h4]
      exact hw
  · rw [if_neg h2]
    exact hw

def rR_ask (ρ : z_Sg) (node t fa : Int) : Int × z_Sg := if (ρ 19 ((20 * node) + t)) ≠ 0 then if (ρ 19 ((20 * node) + t)) ≠ 1 then if (ρ 19 ((20 * node) + t)) ≠ 1 then (0, ((rR_send ρ 1 node (ρ 1 t) t 0)).2) else (0, ((rR_send ρ 1 node (ρ 1 t) t 1)).2) else if fa ≠ 0 then if (ρ 19 ((20 * node) + t)) ≠ 1 then (0, ((rR_send ρ 1 node (ρ 1 t) t 0)).2) else (0, ((rR_send ρ 1 node (ρ 1 t) t 1)).2) else if (ρ 19 ((20 * node) + t)) ≠ 1 then (0, ((rR_send ((rR_fetch ρ node t)).2 1 node (ρ 1 t) t 0)).2) else (0, ((rR_send ((rR_fetch ρ node t)).2 1 node (ρ 1 t) t 1)).2) else if (ρ 21 ((4 * node) + (ρ 1 t))) = 0 then if fa ≠ 0 then (0, ((rR_send (z_up ρ 19 ((20 * node) + t) 1) 1 node (ρ 1 t) t 1)).2) else (0, ((rR_send ((rR_fetch (z_up ρ 19 ((20 * node) + t) 1) node t)).2 1 node (ρ 1 t) t 1)).2) else (0, ((rR_send (z_up ρ 19 ((20 * node) + t) 2) 1 node (ρ 1 t) t 0)).2)
set_option maxRecDepth 100000 in
set_option maxHeartbeats 4000000 in
theorem sR_ask {κ ρ : z_Sg} {a : Int → Nat} {B : List va_E} (hw : z_wf ρ) (node t fa : Int) {P : List Int} (hp0 : 0 ≤ node ∧ node ≤ 3) (hp1 : 0 ≤ t ∧ t ≤ 19) (hp2 : 0 ≤ fa ∧ fa ≤ 1) (he0 : zRm P ρ) (he1 : (ρ 19 ((20 * node) + t) = 1 → zcode 1 node (ρ 1 t) t 1 ∈ P)) (he2 : (ρ 19 ((20 * node) + t) = 2 → zcode 1 node (ρ 1 t) t 0 ∈ P)) (he3 : (ρ 19 ((20 * node) + t) = 0 → ρ 21 ((4 * node) + (ρ 1 t)) = 0 → zcode 1 node (ρ 1 t) t 1 ∈ P)) (he4 : (ρ 19 ((20 * node) + t) = 0 → ρ 21 ((4 * node) + (ρ 1 t)) ≠ 0 → zcode 1 node (ρ 1 t) t 0 ∈ P)) : z_Sp mR_ask (1, 28) 0 0 [.ref 12, zi node, zi t, zi fa] (zM κ a ρ B) (fun r M' => r = none ∧ M' = zM κ a (rR_ask ρ node t fa).2 B) := by
  refine z_Sp_of (L := [.ref 12, zi node, zi t, zi fa, .float 0]) (by decide) rfl rfl rfl (Nat.le_of_ble_eq_true rfl) ?_
  refine ev_bipush (v := iI 20) (q := 2) dR_ask_0 (by decide) rfl ?_
  refine ev_iload_n 1 (q := 3) dR_ask_2 rfl (by rfl) rfl ?_
  refine zr_imul (q := 4) dR_ask_3 rfl ?_
  refine ev_iload_n 2 (q := 5) dR_ask_4 rfl (by rfl) rfl ?_
  refine zr_iadd (q := 6) dR_ask_5 rfl ?_
  refine ev_istore (q := 8) dR_ask_6 (by decide) rfl rfl ?_
  dsimp only [List.set]
  refine ev_aload_n 0 (q := 9) dR_ask_8 rfl (by rfl) rfl ?_
  refine ev_get (q := 12) dR_ask_9 fR_65 atR (by rfl) rfl ?_
  refine ev_iload (q := 14) dR_ask_12 (by rfl) rfl ?_
  refine zr_iald (q := 15) (g := ρ 19) dR_ask_14 at_decided (by decide) ⟨by omega, by omega⟩ rfl ?_
  have g1 : 0 ≤ ρ 19 ((20 * node) + t) ∧ ρ 19 ((20 * node) + t) ≤ 2 := hw 19 ((20 * node) + t) (by decide)
  refine zr_if_ne (t := 48) (q := 18) dR_ask_15 rfl rfl ⟨by omega, by omega⟩ (fun h2 => ?_) (fun h2 => ?_)
  · refine ev_aload_n 0 (q := 49) dR_ask_48 rfl (by rfl) rfl ?_
    refine ev_get (q := 52) dR_ask_49 fR_65 atR (by rfl) rfl ?_
    refine ev_iload (q := 54) dR_ask_52 (by rfl) rfl ?_
    refine zr_iald (q := 55) (g := ρ 19) dR_ask_54 at_decided (by decide) ⟨by omega, by omega⟩ rfl ?_
    have g3 : 0 ≤ ρ 19 ((20 * node) + t) ∧ ρ 19 ((20 * node) + t) ≤ 2 := hw 19 ((20 * node) + t) (by decide)
    refine ev_iconst (v := iI 1) (q := 56) dR_ask_55 rfl rfl ?_
    refine zr_icmp_ne (t := 69) (q := 59) dR_ask_56 rfl rfl ⟨by omega, by omega⟩ ⟨by omega, by omega⟩ (fun h4 => ?_) (fun h4 => ?_)
    · refine ev_aload_n 0 (q := 70) dR_ask_69 rfl (by rfl) rfl ?_
      refine ev_iconst (v := iI 1) (q := 71) dR_ask_70 rfl rfl ?_
      refine ev_iload_n 1 (q := 72) dR_ask_71 rfl (by rfl) rfl ?_
      refine ev_aload_n 0 (q := 73) dR_ask_72 rfl (by rfl) rfl ?_
      refine ev_get (q := 76) dR_ask_73 fR_7 atR (by rfl) rfl ?_
      refine ev_iload_n 2 (q := 77) dR_ask_76 rfl (by rfl) rfl ?_
      refine zr_iald (q := 78) (g := ρ 1) dR_ask_77 at_begunBy (by decide) ⟨by omega, by omega⟩ rfl ?_
      have g5 : 0 ≤ ρ 1 t ∧ ρ 1 t ≤ 3 := hw 1 t (by decide)
      refine ev_iload_n 2 (q := 79) dR_ask_78 rfl (by rfl) rfl ?_
      refine ev_aload_n 0 (q := 80) dR_ask_79 rfl (by rfl) rfl ?_
      refine ev_get (q := 83) dR_ask_80 fR_65 atR (by rfl) rfl ?_
      refine ev_iload (q := 85) dR_ask_83 (by rfl) rfl ?_
      refine zr_iald (q := 86) (g := ρ 19) dR_ask_85 at_decided (by decide) ⟨by omega, by omega⟩ rfl ?_
      have g6 : 0 ≤ ρ 19 ((20 * node) + t) ∧ ρ 19 ((20 * node) + t) ≤ 2 := hw 19 ((20 * node) + t) (by decide)
      refine ev_iconst (v := iI 1) (q := 87) dR_ask_86 rfl rfl ?_
      refine zr_icmp_ne (t := 94) (q := 90) dR_ask_87 rfl rfl ⟨by omega, by omega⟩ ⟨by omega, by omega⟩ (fun h7 => ?_) (fun h7 => ?_)
      · refine ev_iconst (v := iI 0) (q := 95) dR_ask_94 rfl rfl ?_
        refine cv_V (As := [_, _, _, _, _]) (q := 98) dR_ask_95 kR_146 atR rfl rfl (Nat.le_of_ble_eq_true rfl) rfl rfl rfl (by decide) (sR_send hw 1 node (ρ 1 t) t 0 ⟨by omega, by omega⟩ ⟨by omega, by omega⟩ ⟨by omega, by omega⟩ ⟨by omega, by omega⟩ ⟨by omega, by omega⟩ (zRm_room (ρ := ρ) he0 (by first | exact he1 (by omega) | exact he2 (by omega) | exact he3 (by omega) (by omega) | exact he4 (by omega) (by omega) | (exfalso; omega)) hw)) ?_
        have hw8 : z_wf ((rR_send ρ 1 node (ρ 1 t) t 0)).2 := wR_send hw 1 node (ρ 1 t) t 0 ⟨by omega, by omega⟩ ⟨by omega, by omega⟩ ⟨by omega, by omega⟩ ⟨by omega, by omega⟩ ⟨by omega, by omega⟩ (zRm_room (ρ := ρ) he0 (by first | exact he1 (by omega) | exact he2 (by omega) | exact he3 (by omega) (by omega) | exact he4 (by omega) (by omega) | (exfalso; omega)) hw)
        have hr9 : zRm P ((rR_send ρ 1 node (ρ 1 t) t 0)).2 := zRm_send (ρ := ρ) he0 hw (by first | exact he1 (by omega) | exact he2 (by omega) | exact he3 (by omega) (by omega) | exact he4 (by omega) (by omega) | (exfalso; omega))
        refine ev_pop (q := 99) dR_ask_98 rfl rfl ?_
        exact ev_ret dR_ask_99 rfl ⟨rfl, by rw [rR_ask, if_pos h2, if_pos h4, if_pos h7]⟩
      · refine ev_iconst (v := iI 1) (q := 91) dR_ask_90 rfl rfl ?_
        refine ev_goto (t := 95) (q := 95) dR_ask_91 rfl rfl ?_
        refine cv_V (As := [_, _, _, _, _]) (q := 98) dR_ask_95 kR_146 atR rfl rfl (Nat.le_of_ble_eq_true rfl) rfl rfl rfl (by decide) (sR_send hw 1 node (ρ 1 t) t 1 ⟨by omega, by omega⟩ ⟨by omega, by omega⟩ ⟨by omega, by omega⟩ ⟨by omega, by omega⟩ ⟨by omega, by omega⟩ (zRm_room (ρ := ρ) he0 (by first | exact he1 (by omega) | exact he2 (by omega) | exact he3 (by omega) (by omega) | exact he4 (by omega) (by omega) | (exfalso; omega)) hw)) ?_
        have hw11 : z_wf ((rR_send ρ 1 node (ρ 1 t) t 1)).2 := wR_send hw 1 node (ρ 1 t) t 1 ⟨by omega, by omega⟩ ⟨by omega, by omega⟩ ⟨by omega, by omega⟩ ⟨by omega, by omega⟩ ⟨by omega, by omega⟩ (zRm_room (ρ := ρ) he0 (by first | exact he1 (by omega) | exact he2 (by omega) | exact he3 (by omega) (by omega) | exact he4 (by omega) (by omega) | (exfalso; omega)) hw)
        have hr12 : zRm P ((rR_send ρ 1 node (ρ 1 t) t 1)).2 := zRm_send (ρ := ρ) he0 hw (by first | exact he1 (by omega) | exact he2 (by omega) | exact he3 (by omega) (by omega) | exact he4 (by omega) (by omega) | (exfalso; omega))
        refine ev_pop (q := 99) dR_ask_98 rfl rfl ?_
        exact ev_ret dR_ask_99 rfl ⟨rfl, by rw [rR_ask, if_pos h2, if_pos h4, if_neg (fun z => z h7)]⟩
    · refine ev_iload_n 3 (q := 60) dR_ask_59 rfl (by rfl) rfl ?_
      refine zr_if_ne (t := 69) (q := 63) dR_ask_60 rfl rfl ⟨by omega, by omega⟩ (fun h14 => ?_) (fun h14 => ?_)
      · refine ev_aload_n 0 (q := 70) dR_ask_69 rfl (by rfl) rfl ?_
        refine ev_iconst (v := iI 1) (q := 71) dR_ask_70 rfl rfl ?_
        refine ev_iload_n 1 (q := 72) dR_ask_71 rfl (by rfl) rfl ?_
        refine ev_aload_n 0 (q := 73) dR_ask_72 rfl (by rfl) rfl ?_
        refine ev_get (q := 76) dR_ask_73 fR_7 atR (by rfl) rfl ?_
        refine ev_iload_n 2 (q := 77) dR_ask_76 rfl (by rfl) rfl ?_
        refine zr_iald (q := 78) (g := ρ 1) dR_ask_77 at_begunBy (by decide) ⟨by omega, by omega⟩ rfl ?_
        have g15 : 0 ≤ ρ 1 t ∧ ρ 1 t ≤ 3 := hw 1 t (by decide)
        refine ev_iload_n 2 (q := 79) dR_ask_78 rfl (by rfl) rfl ?_
        refine ev_aload_n 0 (q := 80) dR_ask_79 rfl (by rfl) rfl ?_
        refine ev_get (q := 83) dR_ask_80 fR_65 atR (by rfl) rfl ?_
        refine ev_iload (q := 85) dR_ask_83 (by rfl) rfl ?_
        refine zr_iald (q := 86) (g := ρ 19) dR_ask_85 at_decided (by decide) ⟨by omega, by omega⟩ rfl ?_
        have g16 : 0 ≤ ρ 19 ((20 * node) + t) ∧ ρ 19 ((20 * node) + t) ≤ 2 := hw 19 ((20 * node) + t) (by decide)
        refine ev_iconst (v := iI 1) (q := 87) dR_ask_86 rfl rfl ?_
        refine zr_icmp_ne (t := 94) (q := 90) dR_ask_87 rfl rfl ⟨by omega, by omega⟩ ⟨by omega, by omega⟩ (fun h17 => ?_) (fun h17 => ?_)
        · refine ev_iconst (v := iI 0) (q := 95) dR_ask_94 rfl rfl ?_
          refine cv_V (As := [_, _, _, _, _]) (q := 98) dR_ask_95 kR_146 atR rfl rfl (Nat.le_of_ble_eq_true rfl) rfl rfl rfl (by decide) (sR_send hw 1 node (ρ 1 t) t 0 ⟨by omega, by omega⟩ ⟨by omega, by omega⟩ ⟨by omega, by omega⟩ ⟨by omega, by omega⟩ ⟨by omega, by omega⟩ (zRm_room (ρ := ρ) he0 (by first | exact he1 (by omega) | exact he2 (by omega) | exact he3 (by omega) (by omega) | exact he4 (by omega) (by omega) | (exfalso; omega)) hw)) ?_
          have hw18 : z_wf ((rR_send ρ 1 node (ρ 1 t) t 0)).2 := wR_send hw 1 node (ρ 1 t) t 0 ⟨by omega, by omega⟩ ⟨by omega, by omega⟩ ⟨by omega, by omega⟩ ⟨by omega, by omega⟩ ⟨by omega, by omega⟩ (zRm_room (ρ := ρ) he0 (by first | exact he1 (by omega) | exact he2 (by omega) | exact he3 (by omega) (by omega) | exact he4 (by omega) (by omega) | (exfalso; omega)) hw)
          have hr19 : zRm P ((rR_send ρ 1 node (ρ 1 t) t 0)).2 := zRm_send (ρ := ρ) he0 hw (by first | exact he1 (by omega) | exact he2 (by omega) | exact he3 (by omega) (by omega) | exact he4 (by omega) (by omega) | (exfalso; omega))
          refine ev_pop (q := 99) dR_ask_98 rfl rfl ?_
          exact ev_ret dR_ask_99 rfl ⟨rfl, by rw [rR_ask, if_pos h2, if_neg (fun z => z h4), if_pos h14, if_pos h17]⟩
        · refine ev_iconst (v := iI 1) (q := 91) dR_ask_90 rfl rfl ?_
          refine ev_goto (t := 95) (q := 95) dR_ask_91 rfl rfl ?_
          refine cv_V (As := [_, _, _, _, _]) (q := 98) dR_ask_95 kR_146 atR rfl rfl (Nat.le_of_ble_eq_true rfl) rfl rfl rfl (by decide) (sR_send hw 1 node (ρ 1 t) t 1 ⟨by omega, by omega⟩ ⟨by omega, by omega⟩ ⟨by omega, by omega⟩ ⟨by omega, by omega⟩ ⟨by omega, by omega⟩ (zRm_room (ρ := ρ) he0 (by first | exact he1 (by omega) | exact he2 (by omega) | exact he3 (by omega) (by omega) | exact he4 (by omega) (by omega) | (exfalso; omega)) hw)) ?_
          have hw21 : z_wf ((rR_send ρ 1 node (ρ 1 t) t 1)).2 := wR_send hw 1 node (ρ 1 t) t 1 ⟨by omega, by omega⟩ ⟨by omega, by omega⟩ ⟨by omega, by omega⟩ ⟨by omega, by omega⟩ ⟨by omega, by omega⟩ (zRm_room (ρ := ρ) he0 (by first | exact he1 (by omega) | exact he2 (by omega) | exact he3 (by omega) (by omega) | exact he4 (by omega) (by omega) | (exfalso; omega)) hw)
          have hr22 : zRm P ((rR_send ρ 1 node (ρ 1 t) t 1)).2 := zRm_send (ρ := ρ) he0 hw (by first | exact he1 (by omega) | exact he2 (by omega) | exact he3 (by omega) (by omega) | exact he4 (by omega) (by omega) | (exfalso; omega))
          refine ev_pop (q := 99) dR_ask_98 rfl rfl ?_
          exact ev_ret dR_ask_99 rfl ⟨rfl, by rw [rR_ask, if_pos h2, if_neg (fun z => z h4), if_pos h14, if_neg (fun z => z h17)]⟩
      · refine ev_aload_n 0 (q := 64) dR_ask_63 rfl (by rfl) rfl ?_
        refine ev_iload_n 1 (q := 65) dR_ask_64 rfl (by rfl) rfl ?_
        refine ev_iload_n 2 (q := 66) dR_ask_65 rfl (by rfl) rfl ?_
        refine cv_Vv (As := [_, _]) (q := 69) dR_ask_66 kR_169 atR rfl rfl (Nat.le_of_ble_eq_true rfl) rfl rfl rfl (by decide) (sR_fetch hw node t ⟨by omega, by omega⟩ ⟨by omega, by omega⟩ ) ?_
        have hw24 : z_wf ((rR_fetch ρ node t)).2 := wR_fetch hw node t ⟨by omega, by omega⟩ ⟨by omega, by omega⟩ 
        have hr25 : zRm P ((rR_fetch ρ node t)).2 := zRm_of (ρ := ρ) he0 (kR_fetch node t (by decide) (by decide) (by decide)) (kR_fetch node t (by decide) (by decide) (by decide))
        refine ev_aload_n 0 (q := 70) dR_ask_69 rfl (by rfl) rfl ?_
        refine ev_iconst (v := iI 1) (q := 71) dR_ask_70 rfl rfl ?_
        refine ev_iload_n 1 (q := 72) dR_ask_71 rfl (by rfl) rfl ?_
        refine ev_aload_n 0 (q := 73) dR_ask_72 rfl (by rfl) rfl ?_
        refine ev_get (q := 76) dR_ask_73 fR_7 atR (by rfl) rfl ?_
        refine ev_iload_n 2 (q := 77) dR_ask_76 rfl (by rfl) rfl ?_
        refine zr_iald (q := 78) (g := ((rR_fetch ρ node t)).2 1) dR_ask_77 at_begunBy (by decide) ⟨by omega, by omega⟩ rfl ?_
        rw [show ((rR_fetch ρ node t)).2 1 t = (ρ 1 t) from (congrFun (kR_fetch node t (c := 1) (by decide) (by decide) (by decide)) t).trans rfl]
        have g26 : 0 ≤ ρ 1 t ∧ ρ 1 t ≤ 3 := hw 1 t (by decide)
        refine ev_iload_n 2 (q := 79) dR_ask_78 rfl (by rfl) rfl ?_
        refine ev_aload_n 0 (q := 80) dR_ask_79 rfl (by rfl) rfl ?_
        refine ev_get (q := 83) dR_ask_80 fR_65 atR (by rfl) rfl ?_
        refine ev_iload (q := 85) dR_ask_83 (by rfl) rfl ?_
        refine zr_iald (q := 86) (g := ((rR_fetch ρ node t)).2 19) dR_ask_85 at_decided (by decide) ⟨by omega, by omega⟩ rfl ?_
        rw [show ((rR_fetch ρ node t)).2 19 ((20 * node) + t) = (ρ 19 ((20 * node) + t)) from (congrFun (kR_fetch node t (c := 19) (by decide) (by decide) (by decide)) ((20 * node) + t)).trans rfl]
        have g27 : 0 ≤ ρ 19 ((20 * node) + t) ∧ ρ 19 ((20 * node) + t) ≤ 2 := hw 19 ((20 * node) + t) (by decide)
        refine ev_iconst (v := iI 1) (q := 87) dR_ask_86 rfl rfl ?_
        refine zr_icmp_ne (t := 94) (q := 90) dR_ask_87 rfl rfl ⟨by omega, by omega⟩ ⟨by omega, by omega⟩ (fun h28 => ?_) (fun h28 => ?_)
        · refine ev_iconst (v := iI 0) (q := 95) dR_ask_94 rfl rfl ?_
          refine cv_V (As := [_, _, _, _, _]) (q := 98) dR_ask_95 kR_146 atR rfl rfl (Nat.le_of_ble_eq_true rfl) rfl rfl rfl (by decide) (sR_send hw24 1 node (ρ 1 t) t 0 ⟨by omega, by omega⟩ ⟨by omega, by omega⟩ ⟨by omega, by omega⟩ ⟨by omega, by omega⟩ ⟨by omega, by omega⟩ (zRm_room (ρ := ((rR_fetch ρ node t)).2) hr25 (by first | exact he1 (by omega) | exact he2 (by omega) | exact he3 (by omega) (by omega) | exact he4 (by omega) (by omega) | (exfalso; omega)) hw24)) ?_
          have hw29 : z_wf ((rR_send ((rR_fetch ρ node t)).2 1 node (ρ 1 t) t 0)).2 := wR_send hw24 1 node (ρ 1 t) t 0 ⟨by omega, by omega⟩ ⟨by omega, by omega⟩ ⟨by omega, by omega⟩ ⟨by omega, by omega⟩ ⟨by omega, by omega⟩ (zRm_room (ρ := ((rR_fetch ρ node t)).2) hr25 (by first | exact he1 (by omega) | exact he2 (by omega) | exact he3 (by omega) (by omega) | exact he4 (by omega) (by omega) | (exfalso; omega)) hw24)
          have hr30 : zRm P ((rR_send ((rR_fetch ρ node t)).2 1 node (ρ 1 t) t 0)).2 := zRm_send (ρ := ((rR_fetch ρ node t)).2) hr25 hw24 (by first | exact he1 (by omega) | exact he2 (by omega) | exact he3 (by omega) (by omega) | exact he4 (by omega) (by omega) | (exfalso; omega))
          refine ev_pop (q := 99) dR_ask_98 rfl rfl ?_
          exact ev_ret dR_ask_99 rfl ⟨rfl, by rw [rR_ask, if_pos h2, if_neg (fun z => z h4), if_neg (fun z => z h14), if_pos h28]⟩
        · refine ev_iconst (v := iI 1) (q := 91) dR_ask_90 rfl rfl ?_
          refine ev_goto (t := 95) (q := 95) dR_ask_91 rfl rfl ?_
          refine cv_V (As := [_, _, _, _, _]) (q := 98) dR_ask_95 kR_146 atR rfl rfl (Nat.le_of_ble_eq_true rfl) rfl rfl rfl (by decide) (sR_send hw24 1 node (ρ 1 t) t 1 ⟨by omega, by omega⟩ ⟨by omega, by omega⟩ ⟨by omega, by omega⟩ ⟨by omega, by omega⟩ ⟨by omega, by omega⟩ (zRm_room (ρ := ((rR_fetch ρ node t)).2) hr25 (by first | exact he1 (by omega) | exact he2 (by omega) | exact he3 (by omega) (by omega) | exact he4 (by omega) (by omega) | (exfalso; omega)) hw24)) ?_
          have hw32 : z_wf ((rR_send ((rR_fetch ρ node t)).2 1 node (ρ 1 t) t 1)).2 := wR_send hw24 1 node (ρ 1 t) t 1 ⟨by omega, by omega⟩ ⟨by omega, by omega⟩ ⟨by omega, by omega⟩ ⟨by omega, by omega⟩ ⟨by omega, by omega⟩ (zRm_room (ρ := ((rR_fetch ρ node t)).2) hr25 (by first | exact he1 (by omega) | exact he2 (by omega) | exact he3 (by omega) (by omega) | exact he4 (by omega) (by omega) | (exfalso; omega)) hw24)
          have hr33 : zRm P ((rR_send ((rR_fetch ρ node t)).2 1 node (ρ 1 t) t 1)).2 := zRm_send (ρ := ((rR_fetch ρ node t)).2) hr25 hw24 (by first | exact he1 (by omega) | exact he2 (by omega) | exact he3 (by omega) (by omega) | exact he4 (by omega) (by omega) | (exfalso; omega))
          refine ev_pop (q := 99) dR_ask_98 rfl rfl ?_
          exact ev_ret dR_ask_99 rfl ⟨rfl, by rw [rR_ask, if_pos h2, if_neg (fun z => z h4), if_neg (fun z => z h14), if_neg (fun z => z h28)]⟩
  · refine ev_aload_n 0 (q := 19) dR_ask_18 rfl (by rfl) rfl ?_
    refine ev_get (q := 22) dR_ask_19 fR_65 atR (by rfl) rfl ?_
    refine ev_iload (q := 24) dR_ask_22 (by rfl) rfl ?_
    refine ev_aload_n 0 (q := 25) dR_ask_24 rfl (by rfl) rfl ?_
    refine ev_get (q := 28) dR_ask_25 fR_71 atR (by rfl) rfl ?_
    refine ev_iconst (v := iI 4) (q := 29) dR_ask_28 rfl rfl ?_
    refine ev_iload_n 1 (q := 30) dR_ask_29 rfl (by rfl) rfl ?_
    refine zr_imul (q := 31) dR_ask_30 rfl ?_
    refine ev_aload_n 0 (q := 32) dR_ask_31 rfl (by rfl) rfl ?_
    refine ev_get (q := 35) dR_ask_32 fR_7 atR (by rfl) rfl ?_
    refine ev_iload_n 2 (q := 36) dR_ask_35 rfl (by rfl) rfl ?_
    refine zr_iald (q := 37) (g := ρ 1) dR_ask_36 at_begunBy (by decide) ⟨by omega, by omega⟩ rfl ?_
    have g35 : 0 ≤ ρ 1 t ∧ ρ 1 t ≤ 3 := hw 1 t (by decide)
    refine zr_iadd (q := 38) dR_ask_37 rfl ?_
    refine zr_zald (q := 39) (g := ρ 21) dR_ask_38 at_declines (by decide) ⟨by omega, by omega⟩ rfl ?_
    have g36 : 0 ≤ ρ 21 ((4 * node) + (ρ 1 t)) ∧ ρ 21 ((4 * node) + (ρ 1 t)) ≤ 1 := hw 21 ((4 * node) + (ρ 1 t)) (by decide)
    refine zr_if_eq (t := 46) (q := 42) dR_ask_39 rfl rfl ⟨by omega, by omega⟩ (fun h37 => ?_) (fun h37 => ?_)
    · refine ev_iconst (v := iI 1) (q := 47) dR_ask_46 rfl rfl ?_
      refine zr_iast (q := 48) dR_ask_47 at_decided (by decide) ⟨by omega, by omega⟩ st_decided rfl ?_
      have hw38 : z_wf (z_up ρ 19 ((20 * node) + t) 1) := z_wf_up hw (show (0 : Int) ≤ 1 by omega) (show 1 ≤ (2 : Int) by omega)
      refine ev_aload_n 0 (q := 49) dR_ask_48 rfl (by rfl) rfl ?_
      refine ev_get (q := 52) dR_ask_49 fR_65 atR (by rfl) rfl ?_
      refine ev_iload (q := 54) dR_ask_52 (by rfl) rfl ?_
      refine zr_iald (q := 55) (g := (z_up ρ 19 ((20 * node) + t) 1) 19) dR_ask_54 at_decided (by decide) ⟨by omega, by omega⟩ rfl ?_
      rw [show (z_up ρ 19 ((20 * node) + t) 1) 19 ((20 * node) + t) = 1 from by rw [z_up_s, zup_s]]
      refine ev_iconst (v := iI 1) (q := 56) dR_ask_55 rfl rfl ?_
      refine zr_icmp_ne (t := 69) (q := 59) dR_ask_56 rfl rfl ⟨by omega, by omega⟩ ⟨by omega, by omega⟩ (fun h39 => ?_) (fun h39 => ?_)
      · exfalso
        omega
      · refine ev_iload_n 3 (q := 60) dR_ask_59 rfl (by rfl) rfl ?_
        refine zr_if_ne (t := 69) (q := 63) dR_ask_60 rfl rfl ⟨by omega, by omega⟩ (fun h40 => ?_) (fun h40 => ?_)
        · refine ev_aload_n 0 (q := 70) dR_ask_69 rfl (by rfl) rfl ?_
          refine ev_iconst (v := iI 1) (q := 71) dR_ask_70 rfl rfl ?_
          refine ev_iload_n 1 (q := 72) dR_ask_71 rfl (by rfl) rfl ?_
          refine ev_aload_n 0 (q := 73) dR_ask_72 rfl (by rfl) rfl ?_
          refine ev_get (q := 76) dR_ask_73 fR_7 atR (by rfl) rfl ?_
          refine ev_iload_n 2 (q := 77) dR_ask_76 rfl (by rfl) rfl ?_
          refine zr_iald (q := 78) (g := ρ 1) dR_ask_77 at_begunBy (by decide) ⟨by omega, by omega⟩ rfl ?_
          have g41 : 0 ≤ ρ 1 t ∧ ρ 1 t ≤ 3 := hw 1 t (by decide)
          refine ev_iload_n 2 (q := 79) dR_ask_78 rfl (by rfl) rfl ?_
          refine ev_aload_n 0 (q := 80) dR_ask_79 rfl (by rfl) rfl ?_
          refine ev_get (q := 83) dR_ask_80 fR_65 atR (by rfl) rfl ?_
          refine ev_iload (q := 85) dR_ask_83 (by rfl) rfl ?_
          refine zr_iald (q := 86) (g := (z_up ρ 19 ((20 * node) + t) 1) 19) dR_ask_85 at_decided (by decide) ⟨by omega, by omega⟩ rfl ?_
          rw [show (z_up ρ 19 ((20 * node) + t) 1) 19 ((20 * node) + t) = 1 from by rw [z_up_s, zup_s]]
          refine ev_iconst (v := iI 1) (q := 87) dR_ask_86 rfl rfl ?_
          refine zr_icmp_ne (t := 94) (q := 90) dR_ask_87 rfl rfl ⟨by omega, by omega⟩ ⟨by omega, by omega⟩ (fun h42 => ?_) (fun h42 => ?_)
          · exfalso
            omega
          · refine ev_iconst (v := iI 1) (q := 91) dR_ask_90 rfl rfl ?_
            refine ev_goto (t := 95) (q := 95) dR_ask_91 rfl rfl ?_
            refine cv_V (As := [_, _, _, _, _]) (q := 98) dR_ask_95 kR_146 atR rfl rfl (Nat.le_of_ble_eq_true rfl) rfl rfl rfl (by decide) (sR_send hw38 1 node (ρ 1 t) t 1 ⟨by omega, by omega⟩ ⟨by omega, by omega⟩ ⟨by omega, by omega⟩ ⟨by omega, by omega⟩ ⟨by omega, by omega⟩ (zRm_room (ρ := (z_up ρ 19 ((20 * node) + t) 1)) he0 (by first | exact he1 (by omega) | exact he2 (by omega) | exact he3 (by omega) (by omega) | exact he4 (by omega) (by omega) | (exfalso; omega)) hw38)) ?_
            have hw43 : z_wf ((rR_send (z_up ρ 19 ((20 * node) + t) 1) 1 node (ρ 1 t) t 1)).2 := wR_send hw38 1 node (ρ 1 t) t 1 ⟨by omega, by omega⟩ ⟨by omega, by omega⟩ ⟨by omega, by omega⟩ ⟨by omega, by omega⟩ ⟨by omega, by omega⟩ (zRm_room (ρ := (z_up ρ 19 ((20 * node) + t) 1)) he0 (by first | exact he1 (by omega) | exact he2 (by omega) | exact he3 (by omega) (by omega) | exact he4 (by omega) (by omega) | (exfalso; omega)) hw38)
            have hr44 : zRm P ((rR_send (z_up ρ 19 ((20 * node) + t) 1) 1 node (ρ 1 t) t 1)).2 := zRm_send (ρ := (z_up ρ 19 ((20 * node) + t) 1)) he0 hw38 (by first | exact he1 (by omega) | exact he2 (by omega) | exact he3 (by omega) (by omega) | exact he4 (by omega) (by omega) | (exfalso; omega))
            refine ev_pop (q := 99) dR_ask_98 rfl rfl ?_
            exact ev_ret dR_ask_99 rfl ⟨rfl, by rw [rR_ask, if_neg (fun z => z h2), if_pos h37, if_pos h40]⟩
        · refine ev_aload_n 0 (q := 64) dR_ask_63 rfl (by rfl) rfl ?_
          refine ev_iload_n 1 (q := 65) dR_ask_64 rfl (by rfl) rfl ?_
          refine ev_iload_n 2 (q := 66) dR_ask_65 rfl (by rfl) rfl ?_
          refine cv_Vv (As := [_, _]) (q := 69) dR_ask_66 kR_169 atR rfl rfl (Nat.le_of_ble_eq_true rfl) rfl rfl rfl (by decide) (sR_fetch hw38 node t ⟨by omega, by omega⟩ ⟨by omega, by omega⟩ ) ?_
          have hw46 : z_wf ((rR_fetch (z_up ρ 19 ((20 * node) + t) 1) node t)).2 := wR_fetch hw38 node t ⟨by omega, by omega⟩ ⟨by omega, by omega⟩ 
          have hr47 : zRm P ((rR_fetch (z_up ρ 19 ((20 * node) + t) 1) node t)).2 := zRm_of (ρ := (z_up ρ 19 ((20 * node) + t) 1)) he0 (kR_fetch node t (by decide) (by decide) (by decide)) (kR_fetch node t (by decide) (by decide) (by decide))
          refine ev_aload_n 0 (q := 70) dR_ask_69 rfl (by rfl) rfl ?_
          refine ev_iconst (v := iI 1) (q := 71) dR_ask_70 rfl rfl ?_
          refine ev_iload_n 1 (q := 72) dR_ask_71 rfl (by rfl) rfl ?_
          refine ev_aload_n 0 (q := 73) dR_ask_72 rfl (by rfl) rfl ?_
          refine ev_get (q := 76) dR_ask_73 fR_7 atR (by rfl) rfl ?_
          refine ev_iload_n 2 (q := 77) dR_ask_76 rfl (by rfl) rfl ?_
          refine zr_iald (q := 78) (g := ((rR_fetch (z_up ρ 19 ((20 * node) + t) 1) node t)).2 1) dR_ask_77 at_begunBy (by decide) ⟨by omega, by omega⟩ rfl ?_
          rw [show ((rR_fetch (z_up ρ 19 ((20 * node) + t) 1) node t)).2 1 t = (ρ 1 t) from (congrFun (kR_fetch node t (c := 1) (by decide) (by decide) (by decide)) t).trans rfl]
          have g48 : 0 ≤ ρ 1 t ∧ ρ 1 t ≤ 3 := hw 1 t (by decide)
          refine ev_iload_n 2 (q := 79) dR_ask_78 rfl (by rfl) rfl ?_
          refine ev_aload_n 0 (q := 80) dR_ask_79 rfl (by rfl) rfl ?_
          refine ev_get (q := 83) dR_ask_80 fR_65 atR (by rfl) rfl ?_
          refine ev_iload (q := 85) dR_ask_83 (by rfl) rfl ?_
          refine zr_iald (q := 86) (g := ((rR_fetch (z_up ρ 19 ((20 * node) + t) 1) node t)).2 19) dR_ask_85 at_decided (by decide) ⟨by omega, by omega⟩ rfl ?_
          rw [show ((rR_fetch (z_up ρ 19 ((20 * node) + t) 1) node t)).2 19 ((20 * node) + t) = 1 from (congrFun (kR_fetch node t (c := 19) (by decide) (by decide) (by decide)) ((20 * node) + t)).trans (by rw [z_up_s, zup_s])]
          refine ev_iconst (v := iI 1) (q := 87) dR_ask_86 rfl rfl ?_
          refine zr_icmp_ne (t := 94) (q := 90) dR_ask_87 rfl rfl ⟨by omega, by omega⟩ ⟨by omega, by omega⟩ (fun h49 => ?_) (fun h49 => ?_)
          · exfalso
            omega
          · refine ev_iconst (v := iI 1) (q := 91) dR_ask_90 rfl rfl ?_
            refine ev_goto (t := 95) (q := 95) dR_ask_91 rfl rfl ?_
            refine cv_V (As := [_, _, _, _, _]) (q := 98) dR_ask_95 kR_146 atR rfl rfl (Nat.le_of_ble_eq_true rfl) rfl rfl rfl (by decide) (sR_send hw46 1 node (ρ 1 t) t 1 ⟨by omega, by omega⟩ ⟨by omega, by omega⟩ ⟨by omega, by omega⟩ ⟨by omega, by omega⟩ ⟨by omega, by omega⟩ (zRm_room (ρ := ((rR_fetch (z_up ρ 19 ((20 * node) + t) 1) node t)).2) hr47 (by first | exact he1 (by omega) | exact he2 (by omega) | exact he3 (by omega) (by omega) | exact he4 (by omega) (by omega) | (exfalso; omega)) hw46)) ?_
            have hw50 : z_wf ((rR_send ((rR_fetch (z_up ρ 19 ((20 * node) + t) 1) node t)).2 1 node (ρ 1 t) t 1)).2 := wR_send hw46 1 node (ρ 1 t) t 1 ⟨by omega, by omega⟩ ⟨by omega, by omega⟩ ⟨by omega, by omega⟩ ⟨by omega, by omega⟩ ⟨by omega, by omega⟩ (zRm_room (ρ := ((rR_fetch (z_up ρ 19 ((20 * node) + t) 1) node t)).2) hr47 (by first | exact he1 (by omega) | exact he2 (by omega) | exact he3 (by omega) (by omega) | exact he4 (by omega) (by omega) | (exfalso; omega)) hw46)
            have hr51 : zRm P ((rR_send ((rR_fetch (z_up ρ 19 ((20 * node) + t) 1) node t)).2 1 node (ρ 1 t) t 1)).2 := zRm_send (ρ := ((rR_fetch (z_up ρ 19 ((20 * node) + t) 1) node t)).2) hr47 hw46 (by first | exact he1 (by omega) | exact he2 (by omega) | exact he3 (by omega) (by omega) | exact he4 (by omega) (by omega) | (exfalso; omega))
            refine ev_pop (q := 99) dR_ask_98 rfl rfl ?_
            exact ev_ret dR_ask_99 rfl ⟨rfl, by rw [rR_ask, if_neg (fun z => z h2), if_pos h37, if_neg (fun z => z h40)]⟩
    · refine ev_iconst (v := iI 2) (q := 43) dR_ask_42 rfl rfl ?_
      refine ev_goto (t := 47) (q := 47) dR_ask_43 rfl rfl ?_
      refine zr_iast (q := 48) dR_ask_47 at_decided (by decide) ⟨by omega, by omega⟩ st_decided rfl ?_
      have hw53 : z_wf (z_up ρ 19 ((20 * node) + t) 2) := z_wf_up hw (show (0 : Int) ≤ 2 by omega) (show 2 ≤ (2 : Int) by omega)
      refine ev_aload_n 0 (q := 49) dR_ask_48 rfl (by rfl) rfl ?_
      refine ev_get (q := 52) dR_ask_49 fR_65 atR (by rfl) rfl ?_
      refine ev_iload (q := 54) dR_ask_52 (by rfl) rfl ?_
      refine zr_iald (q := 55) (g := (z_up ρ 19 ((20 * node) + t) 2) 19) dR_ask_54 at_decided (by decide) ⟨by omega, by omega⟩ rfl ?_
      rw [show (z_up ρ 19 ((20 * node) + t) 2) 19 ((20 * node) + t) = 2 from by rw [z_up_s, zup_s]]
      refine ev_iconst (v := iI 1) (q := 56) dR_ask_55 rfl rfl ?_
      refine zr_icmp_ne (t := 69) (q := 59) dR_ask_56 rfl rfl ⟨by omega, by omega⟩ ⟨by omega, by omega⟩ (fun h54 => ?_) (fun h54 => ?_)
      · refine ev_aload_n 0 (q := 70) dR_ask_69 rfl (by rfl) rfl ?_
        refine ev_iconst (v := iI 1) (q := 71) dR_ask_70 rfl rfl ?_
        refine ev_iload_n 1 (q := 72) dR_ask_71 rfl (by rfl) rfl ?_
        refine ev_aload_n 0 (q := 73) dR_ask_72 rfl (by rfl) rfl ?_
        refine ev_get (q := 76) dR_ask_73 fR_7 atR (by rfl) rfl ?_
        refine ev_iload_n 2 (q := 77) dR_ask_76 rfl (by rfl) rfl ?_
        refine zr_iald (q := 78) (g := ρ 1) dR_ask_77 at_begunBy (by decide) ⟨by omega, by omega⟩ rfl ?_
        have g55 : 0 ≤ ρ 1 t ∧ ρ 1 t ≤ 3 := hw 1 t (by decide)
        refine ev_iload_n 2 (q := 79) dR_ask_78 rfl (by rfl) rfl ?_
        refine ev_aload_n 0 (q := 80) dR_ask_79 rfl (by rfl) rfl ?_
        refine ev_get (q := 83) dR_ask_80 fR_65 atR (by rfl) rfl ?_
        refine ev_iload (q := 85) dR_ask_83 (by rfl) rfl ?_
        refine zr_iald (q := 86) (g := (z_up ρ 19 ((20 * node) + t) 2) 19) dR_ask_85 at_decided (by decide) ⟨by omega, by omega⟩ rfl ?_
        rw [show (z_up ρ 19 ((20 * node) + t) 2) 19 ((20 * node) + t) = 2 from by rw [z_up_s, zup_s]]
        refine ev_iconst (v := iI 1) (q := 87) dR_ask_86 rfl rfl ?_
        refine zr_icmp_ne (t := 94) (q := 90) dR_ask_87 rfl rfl ⟨by omega, by omega⟩ ⟨by omega, by omega⟩ (fun h56 => ?_) (fun h56 => ?_)
        · refine ev_iconst (v := iI 0) (q := 95) dR_ask_94 rfl rfl ?_
          refine cv_V (As := [_, _, _, _, _]) (q := 98) dR_ask_95 kR_146 atR rfl rfl (Nat.le_of_ble_eq_true rfl) rfl rfl rfl (by decide) (sR_send hw53 1 node (ρ 1 t) t 0 ⟨by omega, by omega⟩ ⟨by omega, by omega⟩ ⟨by omega, by omega⟩ ⟨by omega, by omega⟩ ⟨by omega, by omega⟩ (zRm_room (ρ := (z_up ρ 19 ((20 * node) + t) 2)) he0 (by first | exact he1 (by omega) | exact he2 (by omega) | exact he3 (by omega) (by omega) | exact he4 (by omega) (by omega) | (exfalso; omega)) hw53)) ?_
          have hw57 : z_wf ((rR_send (z_up ρ 19 ((20 * node) + t) 2) 1 node (ρ 1 t) t 0)).2 := wR_send hw53 1 node (ρ 1 t) t 0 ⟨by omega, by omega⟩ ⟨by omega, by omega⟩ ⟨by omega, by omega⟩ ⟨by omega, by omega⟩ ⟨by omega, by omega⟩ (zRm_room (ρ := (z_up ρ 19 ((20 * node) + t) 2)) he0 (by first | exact he1 (by omega) | exact he2 (by omega) | exact he3 (by omega) (by omega) | exact he4 (by omega) (by omega) | (exfalso; omega)) hw53)
          have hr58 : zRm P ((rR_send (z_up ρ 19 ((20 * node) + t) 2) 1 node (ρ 1 t) t 0)).2 := zRm_send (ρ := (z_up ρ 19 ((20 * node) + t) 2)) he0 hw53 (by first | exact he1 (by omega) | exact he2 (by omega) | exact he3 (by omega) (by omega) | exact he4 (by omega) (by omega) | (exfalso; omega))
          refine ev_pop (q := 99) dR_ask_98 rfl rfl ?_
          exact ev_ret dR_ask_99 rfl ⟨rfl, by rw [rR_ask, if_neg (fun z => z h2), if_neg h37]⟩
        · exfalso
          omega
      · exfalso
        omega
set_option maxRecDepth 100000 in
set_option maxHeartbeats 4000000 in
theorem wR_ask {ρ : z_Sg} (hw : z_wf ρ) (node t fa : Int) {P : List Int} (hp0 : 0 ≤ node ∧ node ≤ 3) (hp1 : 0 ≤ t ∧ t ≤ 19) (hp2 : 0 ≤ fa ∧ fa ≤ 1) (he0 : zRm P ρ) (he1 : (ρ 19 ((20 * node) + t) = 1 → zcode 1 node (ρ 1 t) t 1 ∈ P)) (he2 : (ρ 19 ((20 * node) + t) = 2 → zcode 1 node (ρ 1 t) t 0 ∈ P)) (he3 : (ρ 19 ((20 * node) + t) = 0 → ρ 21 ((4 * node) + (ρ 1 t)) = 0 → zcode 1 node (ρ 1 t) t 1 ∈ P)) (he4 : (ρ 19 ((20 * node) + t) = 0 → ρ 21 ((4 * node) + (ρ 1 t)) ≠ 0 → zcode 1 node (ρ 1 t) t 0 ∈ P)) : z_wf (rR_ask ρ node t fa).2 := by
  rw [rR_ask]
  have g1 : 0 ≤ ρ 19 ((20 * node) + t) ∧ ρ 19 ((20 * node) + t) ≤ 2 := hw 19 ((20 * node) + t) (by decide)
  by_cases h2 : (ρ 19 ((20 * node) + t)) ≠ 0
  · rw [if_pos h2]
    have g3 : 0 ≤ ρ 19 ((20 * node) + t) ∧ ρ 19 ((20 * node) + t) ≤ 2 := hw 19 ((20 * node) + t) (by decide)
    by_cases h4 : (ρ 19 ((20 * node) + t)) ≠ 1
    · rw [if_pos h4]
      have g5 : 0 ≤ ρ 1 t ∧ ρ 1 t ≤ 3 := hw 1 t (by decide)
      have g6 : 0 ≤ ρ 19 ((20 * node) + t) ∧ ρ 19 ((20 * node) + t) ≤ 2 := hw 19 ((20 * node) + t) (by decide)
      by_cases h7 : (ρ 19 ((20 * node) + t)) ≠ 1
      · rw [if_pos h7]
        have hw8 : z_wf ((rR_send ρ 1 node (ρ 1 t) t 0)).2 := wR_send hw 1 node (ρ 1 t) t 0 ⟨by omega, by omega⟩ ⟨by omega, by omega⟩ ⟨by omega, by omega⟩ ⟨by omega, by omega⟩ ⟨by omega, by omega⟩ (zRm_room (ρ := ρ) he0 (by first | exact he1 (by omega) | exact he2 (by omega) | exact he3 (by omega) (by omega) | exact he4 (by omega) (by omega) | (exfalso; omega)) hw)
        have hr9 : zRm P ((rR_send ρ 1 node (ρ 1 t) t 0)).2 := zRm_send (ρ := ρ) he0 hw (by first | exact he1 (by omega) | exact he2 (by omega) | exact he3 (by omega) (by omega) | exact he4 (by omega) (by omega) | (exfalso; omega))
        exact hw8
      · rw [if_neg h7]
        have hw11 : z_wf ((rR_send ρ 1 node (ρ 1 t) t 1)).2 := wR_send hw 1 node (ρ 1 t) t 1 ⟨by omega, by omega⟩ ⟨by omega, by omega⟩ ⟨by omega, by omega⟩ ⟨by omega, by omega⟩ ⟨by omega, by omega⟩ (zRm_room (ρ := ρ) he0 (by first | exact he1 (by omega) | exact he2 (by omega) | exact he3 (by omega) (by omega) | exact he4 (by omega) (by omega) | (exfalso; omega)) hw)
        have hr12 : zRm P ((rR_send ρ 1 node (ρ 1 t) t 1)).2 := zRm_send (ρ := ρ) he0 hw (by first | exact he1 (by omega) | exact he2 (by omega) | exact he3 (by omega) (by omega) | exact he4 (by omega) (by omega) | (exfalso; omega))
        exact hw11
    · rw [if_neg h4]
      by_cases h14 : fa ≠ 0
      · rw [if_pos h14]
        have g15 : 0 ≤ ρ 1 t ∧ ρ 1 t ≤ 3 := hw 1 t (by decide)
        have g16 : 0 ≤ ρ 19 ((20 * node) + t) ∧ ρ 19 ((20 * node) + t) ≤ 2 := hw 19 ((20 * node) + t) (by decide)
        by_cases h17 : (ρ 19 ((20 * node) + t)) ≠ 1
        · rw [if_pos h17]
          have hw18 : z_wf ((rR_send ρ 1 node (ρ 1 t) t 0)).2 := wR_send hw 1 node (ρ 1 t) t 0 ⟨by omega, by omega⟩ ⟨by omega, by omega⟩ ⟨by omega, by omega⟩ ⟨by omega, by omega⟩ ⟨by omega, by omega⟩ (zRm_room (ρ := ρ) he0 (by first | exact he1 (by omega) | exact he2 (by omega) | exact he3 (by omega) (by omega) | exact he4 (by omega) (by omega) | (exfalso; omega)) hw)
          have hr19 : zRm P ((rR_send ρ 1 node (ρ 1 t) t 0)).2 := zRm_send (ρ := ρ) he0 hw (by first | exact he1 (by omega) | exact he2 (by omega) | exact he3 (by omega) (by omega) | exact he4 (by omega) (by omega) | (exfalso; omega))
          exact hw18
        · rw [if_neg h17]
          have hw21 : z_wf ((rR_send ρ 1 node (ρ 1 t) t 1)).2 := wR_send hw 1 node (ρ 1 t) t 1 ⟨by omega, by omega⟩ ⟨by omega, by omega⟩ ⟨by omega, by omega⟩ ⟨by omega, by omega⟩ ⟨by omega, by omega⟩ (zRm_room (ρ := ρ) he0 (by first | exact he1 (by omega) | exact he2 (by omega) | exact he3 (by omega) (by omega) | exact he4 (by omega) (by omega) | (exfalso; omega)) hw)
          have hr22 : zRm P ((rR_send ρ 1 node (ρ 1 t) t 1)).2 := zRm_send (ρ := ρ) he0 hw (by first | exact he1 (by omega) | exact he2 (by omega) | exact he3 (by omega) (by omega) | exact he4 (by omega) (by omega) | (exfalso; omega))
          exact hw21
      · rw [if_neg h14]
        have hw24 : z_wf ((rR_fetch ρ node t)).2 := wR_fetch hw node t ⟨by omega, by omega⟩ ⟨by omega, by omega⟩ 
        have hr25 : zRm P ((rR_fetch ρ node t)).2 := zRm_of (ρ := ρ) he0 (kR_fetch node t (by decide) (by decide) (by decide)) (kR_fetch node t (by decide) (by decide) (by decide))
        have g26 : 0 ≤ ρ 1 t ∧ ρ 1 t ≤ 3 := hw 1 t (by decide)
        have g27 : 0 ≤ ρ 19 ((20 * node) + t) ∧ ρ 19 ((20 * node) + t) ≤ 2 := hw 19 ((20 * node) + t) (by decide)
        by_cases h28 : (ρ 19 ((20 * node) + t)) ≠ 1
        · rw [if_pos h28]
          have hw29 : z_wf ((rR_send ((rR_fetch ρ node t)).2 1 node (ρ 1 t) t 0)).2 := wR_send hw24 1 node (ρ 1 t) t 0 ⟨by omega, by omega⟩ ⟨by omega, by omega⟩ ⟨by omega, by omega⟩ ⟨by omega, by omega⟩ ⟨by omega, by omega⟩ (zRm_room (ρ := ((rR_fetch ρ node t)).2) hr25 (by first | exact he1 (by omega) | exact he2 (by omega) | exact he3 (by omega) (by omega) | exact he4 (by omega) (by omega) | (exfalso; omega)) hw24)
          have hr30 : zRm P ((rR_send ((rR_fetch ρ node t)).2 1 node (ρ 1 t) t 0)).2 := zRm_send (ρ := ((rR_fetch ρ node t)).2) hr25 hw24 (by first | exact he1 (by omega) | exact he2 (by omega) | exact he3 (by omega) (by omega) | exact he4 (by omega) (by omega) | (exfalso; omega))
          exact hw29
        · rw [if_neg h28]
          have hw32 : z_wf ((rR_send ((rR_fetch ρ node t)).2 1 node (ρ 1 t) t 1)).2 := wR_send hw24 1 node (ρ 1 t) t 1 ⟨by omega, by omega⟩ ⟨by omega, by omega⟩ ⟨by omega, by omega⟩ ⟨by omega, by omega⟩ ⟨by omega, by omega⟩ (zRm_room (ρ := ((rR_fetch ρ node t)).2) hr25 (by first | exact he1 (by omega) | exact he2 (by omega) | exact he3 (by omega) (by omega) | exact he4 (by omega) (by omega) | (exfalso; omega)) hw24)
          have hr33 : zRm P ((rR_send ((rR_fetch ρ node t)).2 1 node (ρ 1 t) t 1)).2 := zRm_send (ρ := ((rR_fetch ρ node t)).2) hr25 hw24 (by first | exact he1 (by omega) | exact he2 (by omega) | exact he3 (by omega) (by omega) | exact he4 (by omega) (by omega) | (exfalso; omega))
          exact hw32
  · rw [if_neg h2]
    have g35 : 0 ≤ ρ 1 t ∧ ρ 1 t ≤ 3 := hw 1 t (by decide)
    have g36 : 0 ≤ ρ 21 ((4 * node) + (ρ 1 t)) ∧ ρ 21 ((4 * node) + (ρ 1 t)) ≤ 1 := hw 21 ((4 * node) + (ρ 1 t)) (by decide)
    by_cases h37 : (ρ 21 ((4 * node) + (ρ 1 t))) = 0
    · rw [if_pos h37]
      have hw38 : z_wf (z_up ρ 19 ((20 * node) + t) 1) := z_wf_up hw (show (0 : Int) ≤ 1 by omega) (show 1 ≤ (2 : Int) by omega)
      by_cases h40 : fa ≠ 0
      · rw [if_pos h40]
        have g41 : 0 ≤ ρ 1 t ∧ ρ 1 t ≤ 3 := hw 1 t (by decide)
        have hw43 : z_wf ((rR_send (z_up ρ 19 ((20 * node) + t) 1) 1 node (ρ 1 t) t 1)).2 := wR_send hw38 1 node (ρ 1 t) t 1 ⟨by omega, by omega⟩ ⟨by omega, by omega⟩ ⟨by omega, by omega⟩ ⟨by omega, by omega⟩ ⟨by omega, by omega⟩ (zRm_room (ρ := (z_up ρ 19 ((20 * node) + t) 1)) he0 (by first | exact he1 (by omega) | exact he2 (by omega) | exact he3 (by omega) (by omega) | exact he4 (by omega) (by omega) | (exfalso; omega)) hw38)
        have hr44 : zRm P ((rR_send (z_up ρ 19 ((20 * node) + t) 1) 1 node (ρ 1 t) t 1)).2 := zRm_send (ρ := (z_up ρ 19 ((20 * node) + t) 1)) he0 hw38 (by first | exact he1 (by omega) | exact he2 (by omega) | exact he3 (by omega) (by omega) | exact he4 (by omega) (by omega) | (exfalso; omega))
        exact hw43
      · rw [if_neg h40]
        have hw46 : z_wf ((rR_fetch (z_up ρ 19 ((20 * node) + t) 1) node t)).2 := wR_fetch hw38 node t ⟨by omega, by omega⟩ ⟨by omega, by omega⟩ 
        have hr47 : zRm P ((rR_fetch (z_up ρ 19 ((20 * node) + t) 1) node t)).2 := zRm_of (ρ := (z_up ρ 19 ((20 * node) + t) 1)) he0 (kR_fetch node t (by decide) (by decide) (by decide)) (kR_fetch node t (by decide) (by decide) (by decide))
        have g48 : 0 ≤ ρ 1 t ∧ ρ 1 t ≤ 3 := hw 1 t (by decide)
        have hw50 : z_wf ((rR_send ((rR_fetch (z_up ρ 19 ((20 * node) + t) 1) node t)).2 1 node (ρ 1 t) t 1)).2 := wR_send hw46 1 node (ρ 1 t) t 1 ⟨by omega, by omega⟩ ⟨by omega, by omega⟩ ⟨by omega, by omega⟩ ⟨by omega, by omega⟩ ⟨by omega, by omega⟩ (zRm_room (ρ := ((rR_fetch (z_up ρ 19 ((20 * node) + t) 1) node t)).2) hr47 (by first | exact he1 (by omega) | exact he2 (by omega) | exact he3 (by omega) (by omega) | exact he4 (by omega) (by omega) | (exfalso; omega)) hw46)
        have hr51 : zRm P ((rR_send ((rR_fetch (z_up ρ 19 ((20 * node) + t) 1) node t)).2 1 node (ρ 1 t) t 1)).2 := zRm_send (ρ := ((rR_fetch (z_up ρ 19 ((20 * node) + t) 1) node t)).2) hr47 hw46 (by first | exact he1 (by omega) | exact he2 (by omega) | exact he3 (by omega) (by omega) | exact he4 (by omega) (by omega) | (exfalso; omega))
        exact hw50
    · rw [if_neg h37]
      have hw53 : z_wf (z_up ρ 19 ((20 * node) + t) 2) := z_wf_up hw (show (0 : Int) ≤ 2 by omega) (show 2 ≤ (2 : Int) by omega)
      have g55 : 0 ≤ ρ 1 t ∧ ρ 1 t ≤ 3 := hw 1 t (by decide)
      have hw57 : z_wf ((rR_send (z_up ρ 19 ((20 * node) + t) 2) 1 node (ρ 1 t) t 0)).2 := wR_send hw53 1 node (ρ 1 t) t 0 ⟨by omega, by omega⟩ ⟨by omega, by omega⟩ ⟨by omega, by omega⟩ ⟨by omega, by omega⟩ ⟨by omega, by omega⟩ (zRm_room (ρ := (z_up ρ 19 ((20 * node) + t) 2)) he0 (by first | exact he1 (by omega) | exact he2 (by omega) | exact he3 (by omega) (by omega) | exact he4 (by omega) (by omega) | (exfalso; omega)) hw53)
      have hr58 : zRm P ((rR_send (z_up ρ 19 ((20 * node) + t) 2) 1 node (ρ 1 t) t 0)).2 := zRm_send (ρ := (z_up ρ 19 ((20 * node) + t) 2)) he0 hw53 (by first | exact he1 (by omega) | exact he2 (by omega) | exact he3 (by omega) (by omega) | exact he4 (by omega) (by omega) | (exfalso; omega))
      exact hw57

def rR_reply (ρ : z_Sg) (node t co fa : Int) : Int × z_Sg := if (ρ 5 t) ≠ 1 then (1, ρ) else if (zand (zshr (ρ 7 t) node) 1) ≠ 1 then if co ≠ 0 then if (zand (rR_needs ρ t) (zxor (zor (ρ 7 t) (zshl 1 node)) (-1))) ≠ 0 then if fa ≠ 0 then (2, ρ) else (2, (z_up (z_up ρ 7 t (zor (ρ 7 t) (zshl 1 node))) 5 t 1)) else if fa ≠ 0 then (2, ((rR_send ρ 2 (ρ 1 t) (ρ 2 t) t 0)).2) else (2, (z_up (z_up ((rR_send ρ 2 (ρ 1 t) (ρ 2 t) t 0)).2 7 t (zor (ρ 7 t) (zshl 1 node))) 5 t 2)) else if fa ≠ 0 then (2, ρ) else (2, (z_up ρ 5 t 4)) else (1, ρ)
set_option maxRecDepth 100000 in
set_option maxHeartbeats 4000000 in
theorem sR_reply {κ ρ : z_Sg} {a : Int → Nat} {B : List va_E} (hw : z_wf ρ) (node t co fa : Int) {P : List Int} (hp0 : 0 ≤ node ∧ node ≤ 3) (hp1 : 0 ≤ t ∧ t ≤ 19) (hp2 : 0 ≤ co ∧ co ≤ 4) (hp3 : 0 ≤ fa ∧ fa ≤ 1) (he0 : zRm P ρ) (he1 : zcode 2 (ρ 1 t) (ρ 2 t) t 0 ∈ P) : z_Sp mR_reply (4, 102) 0 0 [.ref 12, zi node, zi t, zi co, zi fa] (zM κ a ρ B) (fun r M' => r = some (zi (rR_reply ρ node t co fa).1) ∧ M' = zM κ a (rR_reply ρ node t co fa).2 B) := by
  refine z_Sp_of (L := [.ref 12, zi node, zi t, zi co, zi fa, .float 0, .float 0]) (by decide) rfl rfl rfl (Nat.le_of_ble_eq_true rfl) ?_
  refine ev_aload_n 0 (q := 1) dR_reply_0 rfl (by rfl) rfl ?_
  refine ev_get (q := 4) dR_reply_1 fR_22 atR (by rfl) rfl ?_
  refine ev_iload_n 2 (q := 5) dR_reply_4 rfl (by rfl) rfl ?_
  refine zr_iald (q := 6) (g := ρ 5) dR_reply_5 at_stageOf (by decide) ⟨by omega, by omega⟩ rfl ?_
  have g1 : 0 ≤ ρ 5 t ∧ ρ 5 t ≤ 9 := hw 5 t (by decide)
  refine ev_iconst (v := iI 1) (q := 7) dR_reply_6 rfl rfl ?_
  refine zr_icmp_ne (t := 24) (q := 10) dR_reply_7 rfl rfl ⟨by omega, by omega⟩ ⟨by omega, by omega⟩ (fun h2 => ?_) (fun h2 => ?_)
  · refine ev_iconst (v := iI 1) (q := 25) dR_reply_24 rfl rfl ?_
    exact zr_iret dR_reply_25 rfl ⟨by rw [rR_reply, if_pos h2], by rw [rR_reply, if_pos h2]⟩
  · refine ev_aload_n 0 (q := 11) dR_reply_10 rfl (by rfl) rfl ?_
    refine ev_get (q := 14) dR_reply_11 fR_29 atR (by rfl) rfl ?_
    refine ev_iload_n 2 (q := 15) dR_reply_14 rfl (by rfl) rfl ?_
    refine zr_iald (q := 16) (g := ρ 7) dR_reply_15 at_signed (by decide) ⟨by omega, by omega⟩ rfl ?_
    have g3 : 0 ≤ ρ 7 t ∧ ρ 7 t ≤ 15 := hw 7 t (by decide)
    refine ev_iload_n 1 (q := 17) dR_reply_16 rfl (by rfl) rfl ?_
    refine zr_ishr (q := 18) dR_reply_17 rfl ?_
    have g4 : z_rg (zshr (ρ 7 t) node) := iI_rg _
    refine ev_iconst (v := iI 1) (q := 19) dR_reply_18 rfl rfl ?_
    refine zr_iand (q := 20) dR_reply_19 rfl ?_
    have g5 : z_rg (zand (zshr (ρ 7 t) node) 1) := iI_rg _
    refine ev_iconst (v := iI 1) (q := 21) dR_reply_20 rfl rfl ?_
    refine zr_icmp_ne (t := 26) (q := 24) dR_reply_21 rfl rfl ⟨by omega, by omega⟩ ⟨by omega, by omega⟩ (fun h6 => ?_) (fun h6 => ?_)
    · refine ev_iload_n 3 (q := 27) dR_reply_26 rfl (by rfl) rfl ?_
      refine zr_if_ne (t := 44) (q := 30) dR_reply_27 rfl rfl ⟨by omega, by omega⟩ (fun h7 => ?_) (fun h7 => ?_)
      · refine ev_aload_n 0 (q := 45) dR_reply_44 rfl (by rfl) rfl ?_
        refine ev_get (q := 48) dR_reply_45 fR_29 atR (by rfl) rfl ?_
        refine ev_iload_n 2 (q := 49) dR_reply_48 rfl (by rfl) rfl ?_
        refine zr_iald (q := 50) (g := ρ 7) dR_reply_49 at_signed (by decide) ⟨by omega, by omega⟩ rfl ?_
        have g8 : 0 ≤ ρ 7 t ∧ ρ 7 t ≤ 15 := hw 7 t (by decide)
        refine ev_iconst (v := iI 1) (q := 51) dR_reply_50 rfl rfl ?_
        refine ev_iload_n 1 (q := 52) dR_reply_51 rfl (by rfl) rfl ?_
        refine zr_ishl (q := 53) dR_reply_52 rfl ?_
        have g9 : z_rg (zshl 1 node) := iI_rg _
        have g10 := zshl_1 (n := node) ⟨by omega, by omega⟩
        refine zr_ior (q := 54) dR_reply_53 rfl ?_
        have g11 : z_rg (zor (ρ 7 t) (zshl 1 node)) := iI_rg _
        have g12 := zor_15 (a := (ρ 7 t)) (b := (zshl 1 node)) ⟨by omega, by omega⟩ ⟨by omega, by omega⟩
        refine ev_istore (q := 56) dR_reply_54 (by decide) rfl rfl ?_
        dsimp only [List.set]
        refine ev_aload_n 0 (q := 57) dR_reply_56 rfl (by rfl) rfl ?_
        refine ev_iload_n 2 (q := 58) dR_reply_57 rfl (by rfl) rfl ?_
        refine cv_V (As := [_]) (q := 61) dR_reply_58 kR_133 atR rfl rfl (Nat.le_of_ble_eq_true rfl) rfl rfl rfl (by decide) (sR_needs hw t ⟨by omega, by omega⟩ ) ?_
        have g13 := bR_needs hw t ⟨by omega, by omega⟩ 
        refine ev_iload (q := 63) dR_reply_61 (by rfl) rfl ?_
        refine ev_iconst (v := iI (-1)) (q := 64) dR_reply_63 rfl rfl ?_
        refine zr_ixor (q := 65) dR_reply_64 rfl ?_
        have g14 : z_rg (zxor (zor (ρ 7 t) (zshl 1 node)) (-1)) := iI_rg _
        refine zr_iand (q := 66) dR_reply_65 rfl ?_
        have g15 : z_rg (zand (rR_needs ρ t) (zxor (zor (ρ 7 t) (zshl 1 node)) (-1))) := iI_rg _
        refine zr_if_ne (t := 73) (q := 69) dR_reply_66 rfl rfl ⟨by omega, by omega⟩ (fun h16 => ?_) (fun h16 => ?_)
        · refine ev_iconst (v := iI 0) (q := 74) dR_reply_73 rfl rfl ?_
          refine ev_istore (q := 76) dR_reply_74 (by decide) rfl rfl ?_
          dsimp only [List.set]
          refine ev_iload (q := 78) dR_reply_76 (by rfl) rfl ?_
          refine zr_if_eq (t := 101) (q := 81) dR_reply_78 rfl rfl ⟨by omega, by omega⟩ (fun h17 => ?_) (fun h17 => ?_)
          · refine ev_iload (q := 103) dR_reply_101 (by rfl) rfl ?_
            refine zr_if_ne (t := 130) (q := 106) dR_reply_103 rfl rfl ⟨by omega, by omega⟩ (fun h18 => ?_) (fun h18 => ?_)
            · refine ev_iconst (v := iI 2) (q := 131) dR_reply_130 rfl rfl ?_
              exact zr_iret dR_reply_131 rfl ⟨by rw [rR_reply, if_neg (fun z => z h2), if_pos h6, if_pos h7, if_pos h16, if_pos h18], by rw [rR_reply, if_neg (fun z => z h2), if_pos h6, if_pos h7, if_pos h16, if_pos h18]⟩
            · refine ev_aload_n 0 (q := 107) dR_reply_106 rfl (by rfl) rfl ?_
              refine ev_get (q := 110) dR_reply_107 fR_29 atR (by rfl) rfl ?_
              refine ev_iload_n 2 (q := 111) dR_reply_110 rfl (by rfl) rfl ?_
              refine ev_iload (q := 113) dR_reply_111 (by rfl) rfl ?_
              refine zr_iast (q := 114) dR_reply_113 at_signed (by decide) ⟨by omega, by omega⟩ st_signed rfl ?_
              have hw19 : z_wf (z_up ρ 7 t (zor (ρ 7 t) (zshl 1 node))) := z_wf_up hw (show (0 : Int) ≤ (zor (ρ 7 t) (zshl 1 node)) by omega) (show (zor (ρ 7 t) (zshl 1 node)) ≤ (15 : Int) by omega)
              refine ev_aload_n 0 (q := 115) dR_reply_114 rfl (by rfl) rfl ?_
              refine ev_get (q := 118) dR_reply_115 fR_22 atR (by rfl) rfl ?_
              refine ev_iload_n 2 (q := 119) dR_reply_118 rfl (by rfl) rfl ?_
              refine ev_iload (q := 121) dR_reply_119 (by rfl) rfl ?_
              refine zr_if_eq (t := 128) (q := 124) dR_reply_121 rfl rfl ⟨by omega, by omega⟩ (fun h20 => ?_) (fun h20 => ?_)
              · refine ev_iconst (v := iI 1) (q := 129) dR_reply_128 rfl rfl ?_
                refine zr_iast (q := 130) dR_reply_129 at_stageOf (by decide) ⟨by omega, by omega⟩ st_stageOf rfl ?_
                have hw21 : z_wf (z_up (z_up ρ 7 t (zor (ρ 7 t) (zshl 1 node))) 5 t 1) := z_wf_up hw19 (show (0 : Int) ≤ 1 by omega) (show 1 ≤ (9 : Int) by omega)
                refine ev_iconst (v := iI 2) (q := 131) dR_reply_130 rfl rfl ?_
                exact zr_iret dR_reply_131 rfl ⟨by rw [rR_reply, if_neg (fun z => z h2), if_pos h6, if_pos h7, if_pos h16, if_neg (fun z => z h18)], by rw [rR_reply, if_neg (fun z => z h2), if_pos h6, if_pos h7, if_pos h16, if_neg (fun z => z h18)]⟩
              · exfalso
                omega
          · exfalso
            omega
        · refine ev_iconst (v := iI 1) (q := 70) dR_reply_69 rfl rfl ?_
          refine ev_goto (t := 74) (q := 74) dR_reply_70 rfl rfl ?_
          refine ev_istore (q := 76) dR_reply_74 (by decide) rfl rfl ?_
          dsimp only [List.set]
          refine ev_iload (q := 78) dR_reply_76 (by rfl) rfl ?_
          refine zr_if_eq (t := 101) (q := 81) dR_reply_78 rfl rfl ⟨by omega, by omega⟩ (fun h22 => ?_) (fun h22 => ?_)
          · exfalso
            omega
          · refine ev_aload_n 0 (q := 82) dR_reply_81 rfl (by rfl) rfl ?_
            refine ev_iconst (v := iI 2) (q := 83) dR_reply_82 rfl rfl ?_
            refine ev_aload_n 0 (q := 84) dR_reply_83 rfl (by rfl) rfl ?_
            refine ev_get (q := 87) dR_reply_84 fR_7 atR (by rfl) rfl ?_
            refine ev_iload_n 2 (q := 88) dR_reply_87 rfl (by rfl) rfl ?_
            refine zr_iald (q := 89) (g := ρ 1) dR_reply_88 at_begunBy (by decide) ⟨by omega, by omega⟩ rfl ?_
            have g23 : 0 ≤ ρ 1 t ∧ ρ 1 t ≤ 3 := hw 1 t (by decide)
            refine ev_aload_n 0 (q := 90) dR_reply_89 rfl (by rfl) rfl ?_
            refine ev_get (q := 93) dR_reply_90 fR_13 atR (by rfl) rfl ?_
            refine ev_iload_n 2 (q := 94) dR_reply_93 rfl (by rfl) rfl ?_
            refine zr_iald (q := 95) (g := ρ 2) dR_reply_94 at_notaryOf (by decide) ⟨by omega, by omega⟩ rfl ?_
            have g24 : 0 ≤ ρ 2 t ∧ ρ 2 t ≤ 5 := hw 2 t (by decide)
            refine ev_iload_n 2 (q := 96) dR_reply_95 rfl (by rfl) rfl ?_
            refine ev_iconst (v := iI 0) (q := 97) dR_reply_96 rfl rfl ?_
            refine cv_V (As := [_, _, _, _, _]) (q := 100) dR_reply_97 kR_146 atR rfl rfl (Nat.le_of_ble_eq_true rfl) rfl rfl rfl (by decide) (sR_send hw 2 (ρ 1 t) (ρ 2 t) t 0 ⟨by omega, by omega⟩ ⟨by omega, by omega⟩ ⟨by omega, by omega⟩ ⟨by omega, by omega⟩ ⟨by omega, by omega⟩ (zRm_room (ρ := ρ) he0 he1 hw)) ?_
            have hw25 : z_wf ((rR_send ρ 2 (ρ 1 t) (ρ 2 t) t 0)).2 := wR_send hw 2 (ρ 1 t) (ρ 2 t) t 0 ⟨by omega, by omega⟩ ⟨by omega, by omega⟩ ⟨by omega, by omega⟩ ⟨by omega, by omega⟩ ⟨by omega, by omega⟩ (zRm_room (ρ := ρ) he0 he1 hw)
            have hr26 : zRm P ((rR_send ρ 2 (ρ 1 t) (ρ 2 t) t 0)).2 := zRm_send (ρ := ρ) he0 hw he1
            refine ev_pop (q := 101) dR_reply_100 rfl rfl ?_
            refine ev_iload (q := 103) dR_reply_101 (by rfl) rfl ?_
            refine zr_if_ne (t := 130) (q := 106) dR_reply_103 rfl rfl ⟨by omega, by omega⟩ (fun h28 => ?_) (fun h28 => ?_)
            · refine ev_iconst (v := iI 2) (q := 131) dR_reply_130 rfl rfl ?_
              exact zr_iret dR_reply_131 rfl ⟨by rw [rR_reply, if_neg (fun z => z h2), if_pos h6, if_pos h7, if_neg (fun z => z h16), if_pos h28], by rw [rR_reply, if_neg (fun z => z h2), if_pos h6, if_pos h7, if_neg (fun z => z h16), if_pos h28]⟩
            · refine ev_aload_n 0 (q := 107) dR_reply_106 rfl (by rfl) rfl ?_
              refine ev_get (q := 110) dR_reply_107 fR_29 atR (by rfl) rfl ?_
              refine ev_iload_n 2 (q := 111) dR_reply_110 rfl (by rfl) rfl ?_
              refine ev_iload (q := 113) dR_reply_111 (by rfl) rfl ?_
              refine zr_iast (q := 114) dR_reply_113 at_signed (by decide) ⟨by omega, by omega⟩ st_signed rfl ?_
              have hw29 : z_wf (z_up ((rR_send ρ 2 (ρ 1 t) (ρ 2 t) t 0)).2 7 t (zor (ρ 7 t) (zshl 1 node))) := z_wf_up hw25 (show (0 : Int) ≤ (zor (ρ 7 t) (zshl 1 node)) by omega) (show (zor (ρ 7 t) (zshl 1 node)) ≤ (15 : Int) by omega)
              refine ev_aload_n 0 (q := 115) dR_reply_114 rfl (by rfl) rfl ?_
              refine ev_get (q := 118) dR_reply_115 fR_22 atR (by rfl) rfl ?_
              refine ev_iload_n 2 (q := 119) dR_reply_118 rfl (by rfl) rfl ?_
              refine ev_iload (q := 121) dR_reply_119 (by rfl) rfl ?_
              refine zr_if_eq (t := 128) (q := 124) dR_reply_121 rfl rfl ⟨by omega, by omega⟩ (fun h30 => ?_) (fun h30 => ?_)
              · exfalso
                omega
              · refine ev_iconst (v := iI 2) (q := 125) dR_reply_124 rfl rfl ?_
                refine ev_goto (t := 129) (q := 129) dR_reply_125 rfl rfl ?_
                refine zr_iast (q := 130) dR_reply_129 at_stageOf (by decide) ⟨by omega, by omega⟩ st_stageOf rfl ?_
                have hw31 : z_wf (z_up (z_up ((rR_send ρ 2 (ρ 1 t) (ρ 2 t) t 0)).2 7 t (zor (ρ 7 t) (zshl 1 node))) 5 t 2) := z_wf_up hw29 (show (0 : Int) ≤ 2 by omega) (show 2 ≤ (9 : Int) by omega)
                refine ev_iconst (v := iI 2) (q := 131) dR_reply_130 rfl rfl ?_
                exact zr_iret dR_reply_131 rfl ⟨by rw [rR_reply, if_neg (fun z => z h2), if_pos h6, if_pos h7, if_neg (fun z => z h16), if_neg (fun z => z h28)], by rw [rR_reply, if_neg (fun z => z h2), if_pos h6, if_pos h7, if_neg (fun z => z h16), if_neg (fun z => z h28)]⟩
      · refine ev_iload (q := 32) dR_reply_30 (by rfl) rfl ?_
        refine zr_if_ne (t := 42) (q := 35) dR_reply_32 rfl rfl ⟨by omega, by omega⟩ (fun h32 => ?_) (fun h32 => ?_)
        · refine ev_iconst (v := iI 2) (q := 43) dR_reply_42 rfl rfl ?_
          exact zr_iret dR_reply_43 rfl ⟨by rw [rR_reply, if_neg (fun z => z h2), if_pos h6, if_neg (fun z => z h7), if_pos h32], by rw [rR_reply, if_neg (fun z => z h2), if_pos h6, if_neg (fun z => z h7), if_pos h32]⟩
        · refine ev_aload_n 0 (q := 36) dR_reply_35 rfl (by rfl) rfl ?_
          refine ev_get (q := 39) dR_reply_36 fR_22 atR (by rfl) rfl ?_
          refine ev_iload_n 2 (q := 40) dR_reply_39 rfl (by rfl) rfl ?_
          refine ev_iconst (v := iI 4) (q := 41) dR_reply_40 rfl rfl ?_
          refine zr_iast (q := 42) dR_reply_41 at_stageOf (by decide) ⟨by omega, by omega⟩ st_stageOf rfl ?_
          have hw33 : z_wf (z_up ρ 5 t 4) := z_wf_up hw (show (0 : Int) ≤ 4 by omega) (show 4 ≤ (9 : Int) by omega)
          refine ev_iconst (v := iI 2) (q := 43) dR_reply_42 rfl rfl ?_
          exact zr_iret dR_reply_43 rfl ⟨by rw [rR_reply, if_neg (fun z => z h2), if_pos h6, if_neg (fun z => z h7), if_neg (fun z => z h32)], by rw [rR_reply, if_neg (fun z => z h2), if_pos h6, if_neg (fun z => z h7), if_neg (fun z => z h32)]⟩
    · refine ev_iconst (v := iI 1) (q := 25) dR_reply_24 rfl rfl ?_
      exact zr_iret dR_reply_25 rfl ⟨by rw [rR_reply, if_neg (fun z => z h2), if_neg (fun z => z h6)], by rw [rR_reply, if_neg (fun z => z h2), if_neg (fun z => z h6)]⟩
set_option maxRecDepth 100000 in
set_option maxHeartbeats 4000000 in
theorem wR_reply {ρ : z_Sg} (hw : z_wf ρ) (node t co fa : Int) {P : List Int} (hp0 : 0 ≤ node ∧ node ≤ 3) (hp1 : 0 ≤ t ∧ t ≤ 19) (hp2 : 0 ≤ co ∧ co ≤ 4) (hp3 : 0 ≤ fa ∧ fa ≤ 1) (he0 : zRm P ρ) (he1 : zcode 2 (ρ 1 t) (ρ 2 t) t 0 ∈ P) : z_wf (rR_reply ρ node t co fa).2 := by
  rw [rR_reply]
  have g1 : 0 ≤ ρ 5 t ∧ ρ 5 t ≤ 9 := hw 5 t (by decide)
  by_cases h2 : (ρ 5 t) ≠ 1
  · rw [if_pos h2]
    exact hw
  · rw [if_neg h2]
    have g3 : 0 ≤ ρ 7 t ∧ ρ 7 t ≤ 15 := hw 7 t (by decide)
    have g4 : z_rg (zshr (ρ 7 t) node) := iI_rg _
    have g5 : z_rg (zand (zshr (ρ 7 t) node) 1) := iI_rg _
    by_cases h6 : (zand (zshr (ρ 7 t) node) 1) ≠ 1
    · rw [if_pos h6]
      by_cases h7 : co ≠ 0
      · rw [if_pos h7]
        have g8 : 0 ≤ ρ 7 t ∧ ρ 7 t ≤ 15 := hw 7 t (by decide)
        have g9 : z_rg (zshl 1 node) := iI_rg _
        have g10 := zshl_1 (n := node) ⟨by omega, by omega⟩
        have g11 : z_rg (zor (ρ 7 t) (zshl 1 node)) := iI_rg _
        have g12 := zor_15 (a := (ρ 7 t)) (b := (zshl 1 node)) ⟨by omega, by omega⟩ ⟨by omega, by omega⟩
        have g13 := bR_needs hw t ⟨by omega, by omega⟩ 
        have g14 : z_rg (zxor (zor (ρ 7 t) (zshl 1 node)) (-1)) := iI_rg _
        have g15 : z_rg (zand (rR_needs ρ t) (zxor (zor (ρ 7 t) (zshl 1 node)) (-1))) := iI_rg _
        by_cases h16 : (zand (rR_needs ρ t) (zxor (zor (ρ 7 t) (zshl 1 node)) (-1))) ≠ 0
        · rw [if_pos h16]
          by_cases h18 : fa ≠ 0
          · rw [if_pos h18]
            exact hw
          · rw [if_neg h18]
            have hw19 : z_wf (z_up ρ 7 t (zor (ρ 7 t) (zshl 1 node))) := z_wf_up hw (show (0 : Int) ≤ (zor (ρ 7 t) (zshl 1 node)) by omega) (show (zor (ρ 7 t) (zshl 1 node)) ≤ (15 : Int) by omega)
            have hw21 : z_wf (z_up (z_up ρ 7 t (zor (ρ 7 t) (zshl 1 node))) 5 t 1) := z_wf_up hw19 (show (0 : Int) ≤ 1 by omega) (show 1 ≤ (9 : Int) by omega)
            exact hw21
        · rw [if_neg h16]
          have g23 : 0 ≤ ρ 1 t ∧ ρ 1 t ≤ 3 := hw 1 t (by decide)
          have g24 : 0 ≤ ρ 2 t ∧ ρ 2 t ≤ 5 := hw 2 t (by decide)
          have hw25 : z_wf ((rR_send ρ 2 (ρ 1 t) (ρ 2 t) t 0)).2 := wR_send hw 2 (ρ 1 t) (ρ 2 t) t 0 ⟨by omega, by omega⟩ ⟨by omega, by omega⟩ ⟨by omega, by omega⟩ ⟨by omega, by omega⟩ ⟨by omega, by omega⟩ (zRm_room (ρ := ρ) he0 he1 hw)
          have hr26 : zRm P ((rR_send ρ 2 (ρ 1 t) (ρ 2 t) t 0)).2 := zRm_send (ρ := ρ) he0 hw he1
          by_cases h28 : fa ≠ 0
          · rw [if_pos h28]
            exact hw25
          · rw [if_neg h28]
            have hw29 : z_wf (z_up ((rR_send ρ 2 (ρ 1 t) (ρ 2 t) t 0)).2 7 t (zor (ρ 7 t) (zshl 1 node))) := z_wf_up hw25 (show (0 : Int) ≤ (zor (ρ 7 t) (zshl 1 node)) by omega) (show (zor (ρ 7 t) (zshl 1 node)) ≤ (15 : Int) by omega)
            have hw31 : z_wf (z_up (z_up ((rR_send ρ 2 (ρ 1 t) (ρ 2 t) t 0)).2 7 t (zor (ρ 7 t) (zshl 1 node))) 5 t 2) := z_wf_up hw29 (show (0 : Int) ≤ 2 by omega) (show 2 ≤ (9 : Int) by omega)
            exact hw31
      · rw [if_neg h7]
        by_cases h32 : fa ≠ 0
        · rw [if_pos h32]
          exact hw
        · rw [if_neg h32]
          have hw33 : z_wf (z_up ρ 5 t 4) := z_wf_up hw (show (0 : Int) ≤ 4 by omega) (show 4 ≤ (9 : Int) by omega)
          exact hw33
    · rw [if_neg h6]
      exact hw
