/-- what a waiting message must be, so that it can be delivered -/
def zDel (P : List Int) (ρ : z_Sg) (m : Int) : Prop := (0 ≤ (zand (zshr m 9) 31) ∧ (zand (zshr m 9) 31) ≤ 19) ∧ (0 ≤ (zshr m 14) ∧ (zshr m 14) ≤ 4) ∧
  ((zand m 7) = 0 → (0 ≤ (zand (zshr m 6) 7) ∧ (zand (zshr m 6) 7) ≤ 3) ∧ (ρ 19 ((20 * (zand (zshr m 6) 7)) + (zand (zshr m 9) 31)) = 1 → zcode 1 (zand (zshr m 6) 7) (ρ 1 (zand (zshr m 9) 31)) (zand (zshr m 9) 31) 1 ∈ P) ∧ (ρ 19 ((20 * (zand (zshr m 6) 7)) + (zand (zshr m 9) 31)) = 2 → zcode 1 (zand (zshr m 6) 7) (ρ 1 (zand (zshr m 9) 31)) (zand (zshr m 9) 31) 0 ∈ P) ∧ (ρ 19 ((20 * (zand (zshr m 6) 7)) + (zand (zshr m 9) 31)) = 0 → ρ 21 ((4 * (zand (zshr m 6) 7)) + (ρ 1 (zand (zshr m 9) 31))) = 0 → zcode 1 (zand (zshr m 6) 7) (ρ 1 (zand (zshr m 9) 31)) (zand (zshr m 9) 31) 1 ∈ P) ∧ (ρ 19 ((20 * (zand (zshr m 6) 7)) + (zand (zshr m 9) 31)) = 0 → ρ 21 ((4 * (zand (zshr m 6) 7)) + (ρ 1 (zand (zshr m 9) 31))) ≠ 0 → zcode 1 (zand (zshr m 6) 7) (ρ 1 (zand (zshr m 9) 31)) (zand (zshr m 9) 31) 0 ∈ P)) ∧
  ((zand m 7) = 1 → (0 ≤ (zand (zshr m 3) 7) ∧ (zand (zshr m 3) 7) ≤ 3) ∧ zcode 2 (ρ 1 (zand (zshr m 9) 31)) (ρ 2 (zand (zshr m 9) 31)) (zand (zshr m 9) 31) 0 ∈ P) ∧
  ((zand m 7) = 2 → (ρ 8 (zand (zshr m 9) 31) ≠ 0 → zcode 3 (ρ 2 (zand (zshr m 9) 31)) (ρ 1 (zand (zshr m 9) 31)) (zand (zshr m 9) 31) (ρ 8 (zand (zshr m 9) 31)) ∈ P) ∧ (ρ 8 (zand (zshr m 9) 31) = 0 → zcode 3 (ρ 2 (zand (zshr m 9) 31)) (ρ 1 (zand (zshr m 9) 31)) (zand (zshr m 9) 31) (rR_judge ρ (zand (zshr m 9) 31)) ∈ P)) ∧
  ((zand m 7) = 3 → ∀ n : Int, 0 ≤ n → n ≤ 3 → n ≠ ρ 1 (zand (zshr m 9) 31) → zcode 4 (ρ 1 (zand (zshr m 9) 31)) n (zand (zshr m 9) 31) 0 ∈ P) ∧
  ((zand m 7) ≠ 0 → (zand m 7) ≠ 1 → (zand m 7) ≠ 2 → (zand m 7) ≠ 3 → 0 ≤ (zand (zshr m 6) 7) ∧ (zand (zshr m 6) 7) ≤ 3)
theorem gR_send (ρ : z_Sg) (kind se re t co : Int) : ρ 23 0 ≤ (rR_send ρ kind se re t co).2 23 0 := by
  have key : ∀ (j : Nat) (k : Int), ρ 23 0 ≤ (lR_send_30 ρ kind se re t co j k).2 23 0 := by
    intro j
    induction j with
    | zero =>
      intro k
      show ρ 23 0 ≤ ρ 23 0 + 1
      omega
    | succ j ih =>
      intro k
      rw [lR_send_30]
      split
      · exact ih _
      · exact Int.le_refl _
  exact key _ _
theorem gR_ask (ρ : z_Sg) (node t fa : Int) : ρ 23 0 ≤ (rR_ask ρ node t fa).2 23 0 := by
  unfold rR_ask
  repeat' split
  all_goals (refine Int.le_trans ?_ (gR_send _ _ _ _ _ _))
  all_goals first | exact Int.le_refl _ | (rw [kR_fetch _ _ (by decide) (by decide) (by decide)]; exact Int.le_refl _)
theorem gR_reply (ρ : z_Sg) (node t co fa : Int) : ρ 23 0 ≤ (rR_reply ρ node t co fa).2 23 0 := by
  unfold rR_reply
  repeat' split
  all_goals first | exact Int.le_refl _ | exact gR_send ρ _ _ _ _ _
theorem gR_notarise (ρ : z_Sg) (t : Int) : ρ 23 0 ≤ (rR_notarise ρ t).2 23 0 := by
  have key : ∀ (j : Nat) (ρ : z_Sg) (k : Int), lR_notarise_22 ρ t j k 23 = ρ 23 := by
    intro j
    induction j with
    | zero => intro ρ k; rfl
    | succ j ih =>
      intro ρ k
      rw [lR_notarise_22]
      split
      · rfl
      · rw [ih, z_up_n (by decide)]
  unfold rR_notarise
  repeat' split
  all_goals (refine Int.le_trans ?_ (gR_send _ _ _ _ _ _))
  all_goals first | exact Int.le_refl _ | (rw [key]; exact Int.le_refl _)
theorem gR_hear (ρ : z_Sg) (t co fa : Int) : ρ 23 0 ≤ (rR_hear ρ t co fa).2 23 0 := by
  have key : ∀ (j : Nat) (ρ : z_Sg) (k : Int), ρ 23 0 ≤ lR_hear_34 ρ t co fa j k 23 0 := by
    intro j
    induction j with
    | zero => intro ρ k; exact Int.le_refl _
    | succ j ih =>
      intro ρ k
      rw [lR_hear_34]
      repeat' split
      all_goals first | exact Int.le_refl _ | exact ih ρ _ | exact Int.le_trans (gR_send ρ _ _ _ _ _) (ih _ _)
  unfold rR_hear
  repeat' split
  all_goals first | exact Int.le_refl _ | exact key _ ρ _
theorem gR_close (ρ : z_Sg) (node t fa : Int) : ρ 23 0 ≤ (rR_close ρ node t fa).2 23 0 := by
  unfold rR_close
  repeat' split
  all_goals first | exact Int.le_refl _ | (show ρ 23 0 ≤ (rR_fetch ρ node t).2 23 0; rw [kR_fetch _ _ (by decide) (by decide) (by decide)]; exact Int.le_refl _)
theorem bR_reply' (ρ : z_Sg) (node t co fa : Int) : 0 ≤ (rR_reply ρ node t co fa).1 ∧ (rR_reply ρ node t co fa).1 ≤ 3 := by
  unfold rR_reply
  repeat' split
  all_goals (constructor <;> (dsimp only; omega))
theorem bR_hear' (ρ : z_Sg) (t co fa : Int) : 0 ≤ (rR_hear ρ t co fa).1 ∧ (rR_hear ρ t co fa).1 ≤ 3 := by
  unfold rR_hear
  repeat' split
  all_goals (constructor <;> (dsimp only; omega))
theorem bR_close' (ρ : z_Sg) (node t fa : Int) : 0 ≤ (rR_close ρ node t fa).1 ∧ (rR_close ρ node t fa).1 ≤ 3 := by
  unfold rR_close
  repeat' split
  all_goals (constructor <;> (dsimp only; omega))

def lR_deliver_159 (ρ : z_Sg) (k fa : Int) (j : Nat) (q : Int) : z_Sg := match j with
  | 0 => ρ
  | j + 1 => lR_deliver_159 (z_up ρ 22 q (ρ 22 (q + 1))) k fa j (q + 1)
set_option maxRecDepth 100000 in
set_option maxHeartbeats 4000000 in
theorem eR_deliver_159 {κ ρ : z_Sg} {a : Int → Nat} {B : List va_E} {Q : Option Value → List va_E → Prop} (hw : z_wf ρ) (k fa : Int)  (hp0 : z_rg k) (hp1 : 0 ≤ fa ∧ fa ≤ 1) : ∀ (j : Nat) (q : Int) (x3 : Value) (x4 : Value) (x5 : Value) (x6 : Value) (x7 : Value) (x8 : Value) (x9 : Value), 0 ≤ q → q + 1 + j = ρ 23 0 → (∀ (y10 : Value), z_Ev mR_deliver (8, 188) 0 0 192 [.ref 12, zi k, zi fa, x3, x4, x5, x6, x7, x8, x9, y10] [] (zM κ a (lR_deliver_159 ρ k fa j q) B) Q) → z_Ev mR_deliver (8, 188) 0 0 159 [.ref 12, zi k, zi fa, x3, x4, x5, x6, x7, x8, x9, zi q] [] (zM κ a ρ B) Q := by
  intro j
  induction j generalizing ρ with
  | zero =>
    intro q  x3 x4 x5 x6 x7 x8 x9 c0 c1 hk
    refine ev_iload (q := 161) dR_deliver_159 (by rfl) rfl ?_
    refine ev_iconst (v := iI 1) (q := 162) dR_deliver_161 rfl rfl ?_
    refine zr_iadd (q := 163) dR_deliver_162 rfl ?_
    refine ev_aload_n 0 (q := 164) dR_deliver_163 rfl (by rfl) rfl ?_
    refine ev_get (q := 167) (v := zi (ρ 23 0)) dR_deliver_164 fR_143 atR rfl rfl ?_
    have g1 : 0 ≤ ρ 23 0 ∧ ρ 23 0 ≤ 220 := hw 23 0 (by decide)
    refine zr_icmp_ge (t := 192) (q := 170) dR_deliver_167 rfl rfl ⟨by omega, by omega⟩ ⟨by omega, by omega⟩ (fun h2 => ?_) (fun h2 => ?_)
    · exact hk _
    · exfalso
      omega
  | succ j ih =>
    intro q  x3 x4 x5 x6 x7 x8 x9 c0 c1 hk
    refine ev_iload (q := 161) dR_deliver_159 (by rfl) rfl ?_
    refine ev_iconst (v := iI 1) (q := 162) dR_deliver_161 rfl rfl ?_
    refine zr_iadd (q := 163) dR_deliver_162 rfl ?_
    refine ev_aload_n 0 (q := 164) dR_deliver_163 rfl (by rfl) rfl ?_
    refine ev_get (q := 167) (v := zi (ρ 23 0)) dR_deliver_164 fR_143 atR rfl rfl ?_
    have g1 : 0 ≤ ρ 23 0 ∧ ρ 23 0 ≤ 220 := hw 23 0 (by decide)
    refine zr_icmp_ge (t := 192) (q := 170) dR_deliver_167 rfl rfl ⟨by omega, by omega⟩ ⟨by omega, by omega⟩ (fun h2 => ?_) (fun h2 => ?_)
    · exfalso
      omega
    · refine ev_aload_n 0 (q := 171) dR_deliver_170 rfl (by rfl) rfl ?_
      refine ev_get (q := 174) dR_deliver_171 fR_74 atR (by rfl) rfl ?_
      refine ev_iload (q := 176) dR_deliver_174 (by rfl) rfl ?_
      refine ev_aload_n 0 (q := 177) dR_deliver_176 rfl (by rfl) rfl ?_
      refine ev_get (q := 180) dR_deliver_177 fR_74 atR (by rfl) rfl ?_
      refine ev_iload (q := 182) dR_deliver_180 (by rfl) rfl ?_
      refine ev_iconst (v := iI 1) (q := 183) dR_deliver_182 rfl rfl ?_
      refine zr_iadd (q := 184) dR_deliver_183 rfl ?_
      refine zr_iald (q := 185) (g := ρ 22) dR_deliver_184 at_waiting (by decide) ⟨by omega, by omega⟩ rfl ?_
      have g3 : 0 ≤ ρ 22 (q + 1) ∧ ρ 22 (q + 1) ≤ 131071 := hw 22 (q + 1) (by decide)
      refine zr_iast (q := 186) dR_deliver_185 at_waiting (by decide) ⟨by omega, by omega⟩ st_waiting rfl ?_
      have hw4 : z_wf (z_up ρ 22 q (ρ 22 (q + 1))) := z_wf_up hw (show (0 : Int) ≤ (ρ 22 (q + 1)) by omega) (show (ρ 22 (q + 1)) ≤ (131071 : Int) by omega)
      refine zr_iinc (q := 189) dR_deliver_186 (by rfl) (by decide) rfl rfl ?_
      dsimp only [List.set]
      refine ev_goto (t := 159) (q := 159) dR_deliver_189 rfl rfl ?_
      rw [show lR_deliver_159 ρ k fa (j + 1) q = lR_deliver_159 (z_up ρ 22 q (ρ 22 (q + 1))) k fa j (q + 1) from by rw [lR_deliver_159]] at hk
      exact ih hw4  (q + 1)  x3 x4 x5 x6 x7 x8 x9 (by omega) (by have e9 : (z_up ρ 22 q (ρ 22 (q + 1))) 23 0 = ρ 23 0 := rfl; omega) hk
set_option maxRecDepth 100000 in
set_option maxHeartbeats 4000000 in
theorem wlR_deliver_159 {ρ : z_Sg} (hw : z_wf ρ) (k fa : Int)  (hp0 : z_rg k) (hp1 : 0 ≤ fa ∧ fa ≤ 1) : ∀ (j : Nat) (q : Int), 0 ≤ q → q + 1 + j = ρ 23 0 → z_wf (lR_deliver_159 ρ k fa j q) := by
  intro j
  induction j generalizing ρ with
  | zero =>
    intro q  c0 c1
    rw [lR_deliver_159]
    have g1 : 0 ≤ ρ 23 0 ∧ ρ 23 0 ≤ 220 := hw 23 0 (by decide)
    exact hw
  | succ j ihw =>
    intro q  c0 c1
    rw [lR_deliver_159]
    have g1 : 0 ≤ ρ 23 0 ∧ ρ 23 0 ≤ 220 := hw 23 0 (by decide)
    have g3 : 0 ≤ ρ 22 (q + 1) ∧ ρ 22 (q + 1) ≤ 131071 := hw 22 (q + 1) (by decide)
    have hw4 : z_wf (z_up ρ 22 q (ρ 22 (q + 1))) := z_wf_up hw (show (0 : Int) ≤ (ρ 22 (q + 1)) by omega) (show (ρ 22 (q + 1)) ≤ (131071 : Int) by omega)
    exact ihw hw4  (q + 1)  (by omega) (by have e9 : (z_up ρ 22 q (ρ 22 (q + 1))) 23 0 = ρ 23 0 := rfl; omega)
theorem kR_deliver_159 {ρ : z_Sg} (hw : z_wf ρ) (k fa : Int) (j : Nat) (q : Int) {c : Nat} (h : c ≠ 22) : lR_deliver_159 ρ k fa j q c = ρ c := by
  clear hw
  induction j generalizing ρ q with
  | zero => rfl
  | succ j ih => rw [lR_deliver_159, ih, z_up_n h]
def rR_deliver (ρ : z_Sg) (k fa : Int) : Int × z_Sg := if k < 0 then ((-1), ρ) else if k < (ρ 23 0) then if (zand (ρ 22 k) 7) ≠ 0 then if (zand (ρ 22 k) 7) ≠ 1 then if (zand (ρ 22 k) 7) ≠ 2 then if (zand (ρ 22 k) 7) ≠ 3 then if fa ≠ 0 then (((rR_close ρ (zand (zshr (ρ 22 k) 6) 7) (zand (zshr (ρ 22 k) 9) 31) fa)).1, ((rR_close ρ (zand (zshr (ρ 22 k) 6) 7) (zand (zshr (ρ 22 k) 9) 31) fa)).2) else if ((rR_close ρ (zand (zshr (ρ 22 k) 6) 7) (zand (zshr (ρ 22 k) 9) 31) fa)).1 = 0 then (((rR_close ρ (zand (zshr (ρ 22 k) 6) 7) (zand (zshr (ρ 22 k) 9) 31) fa)).1, ((rR_close ρ (zand (zshr (ρ 22 k) 6) 7) (zand (zshr (ρ 22 k) 9) 31) fa)).2) else (((rR_close ρ (zand (zshr (ρ 22 k) 6) 7) (zand (zshr (ρ 22 k) 9) 31) fa)).1, (z_up (lR_deliver_159 ((rR_close ρ (zand (zshr (ρ 22 k) 6) 7) (zand (zshr (ρ 22 k) 9) 31) fa)).2 k fa (((rR_close ρ (zand (zshr (ρ 22 k) 6) 7) (zand (zshr (ρ 22 k) 9) 31) fa)).2 23 0 - k - 1).toNat k) 23 0 ((((rR_close ρ (zand (zshr (ρ 22 k) 6) 7) (zand (zshr (ρ 22 k) 9) 31) fa)).2 23 0) - 1))) else if fa ≠ 0 then (((rR_hear ρ (zand (zshr (ρ 22 k) 9) 31) (zshr (ρ 22 k) 14) fa)).1, ((rR_hear ρ (zand (zshr (ρ 22 k) 9) 31) (zshr (ρ 22 k) 14) fa)).2) else if ((rR_hear ρ (zand (zshr (ρ 22 k) 9) 31) (zshr (ρ 22 k) 14) fa)).1 = 0 then (((rR_hear ρ (zand (zshr (ρ 22 k) 9) 31) (zshr (ρ 22 k) 14) fa)).1, ((rR_hear ρ (zand (zshr (ρ 22 k) 9) 31) (zshr (ρ 22 k) 14) fa)).2) else (((rR_hear ρ (zand (zshr (ρ 22 k) 9) 31) (zshr (ρ 22 k) 14) fa)).1, (z_up (lR_deliver_159 ((rR_hear ρ (zand (zshr (ρ 22 k) 9) 31) (zshr (ρ 22 k) 14) fa)).2 k fa (((rR_hear ρ (zand (zshr (ρ 22 k) 9) 31) (zshr (ρ 22 k) 14) fa)).2 23 0 - k - 1).toNat k) 23 0 ((((rR_hear ρ (zand (zshr (ρ 22 k) 9) 31) (zshr (ρ 22 k) 14) fa)).2 23 0) - 1))) else if fa ≠ 0 then (2, ((rR_notarise ρ (zand (zshr (ρ 22 k) 9) 31))).2) else (2, (z_up (lR_deliver_159 ((rR_notarise ρ (zand (zshr (ρ 22 k) 9) 31))).2 k fa (((rR_notarise ρ (zand (zshr (ρ 22 k) 9) 31))).2 23 0 - k - 1).toNat k) 23 0 ((((rR_notarise ρ (zand (zshr (ρ 22 k) 9) 31))).2 23 0) - 1))) else if fa ≠ 0 then (((rR_reply ρ (zand (zshr (ρ 22 k) 3) 7) (zand (zshr (ρ 22 k) 9) 31) (zshr (ρ 22 k) 14) fa)).1, ((rR_reply ρ (zand (zshr (ρ 22 k) 3) 7) (zand (zshr (ρ 22 k) 9) 31) (zshr (ρ 22 k) 14) fa)).2) else if ((rR_reply ρ (zand (zshr (ρ 22 k) 3) 7) (zand (zshr (ρ 22 k) 9) 31) (zshr (ρ 22 k) 14) fa)).1 = 0 then (((rR_reply ρ (zand (zshr (ρ 22 k) 3) 7) (zand (zshr (ρ 22 k) 9) 31) (zshr (ρ 22 k) 14) fa)).1, ((rR_reply ρ (zand (zshr (ρ 22 k) 3) 7) (zand (zshr (ρ 22 k) 9) 31) (zshr (ρ 22 k) 14) fa)).2) else (((rR_reply ρ (zand (zshr (ρ 22 k) 3) 7) (zand (zshr (ρ 22 k) 9) 31) (zshr (ρ 22 k) 14) fa)).1, (z_up (lR_deliver_159 ((rR_reply ρ (zand (zshr (ρ 22 k) 3) 7) (zand (zshr (ρ 22 k) 9) 31) (zshr (ρ 22 k) 14) fa)).2 k fa (((rR_reply ρ (zand (zshr (ρ 22 k) 3) 7) (zand (zshr (ρ 22 k) 9) 31) (zshr (ρ 22 k) 14) fa)).2 23 0 - k - 1).toNat k) 23 0 ((((rR_reply ρ (zand (zshr (ρ 22 k) 3) 7) (zand (zshr (ρ 22 k) 9) 31) (zshr (ρ 22 k) 14) fa)).2 23 0) - 1))) else if fa ≠ 0 then (2, ((rR_ask ρ (zand (zshr (ρ 22 k) 6) 7) (zand (zshr (ρ 22 k) 9) 31) fa)).2) else (2, (z_up (lR_deliver_159 ((rR_ask ρ (zand (zshr (ρ 22 k) 6) 7) (zand (zshr (ρ 22 k) 9) 31) fa)).2 k fa (((rR_ask ρ (zand (zshr (ρ 22 k) 6) 7) (zand (zshr (ρ 22 k) 9) 31) fa)).2 23 0 - k - 1).toNat k) 23 0 ((((rR_ask ρ (zand (zshr (ρ 22 k) 6) 7) (zand (zshr (ρ 22 k) 9) 31) fa)).2 23 0) - 1))) else ((-1), ρ)
set_option maxRecDepth 100000 in
set_option maxHeartbeats 4000000 in
theorem sR_deliver {κ ρ : z_Sg} {a : Int → Nat} {B : List va_E} (hw : z_wf ρ) (k fa : Int) {P : List Int} (hp0 : z_rg k) (hp1 : 0 ≤ fa ∧ fa ≤ 1) (he0 : zRm P ρ) (he1 : (0 ≤ k → k < ρ 23 0 → zDel P ρ (ρ 22 k))) : z_Sp mR_deliver (8, 188) 0 0 [.ref 12, zi k, zi fa] (zM κ a ρ B) (fun r M' => r = some (zi (rR_deliver ρ k fa).1) ∧ M' = zM κ a (rR_deliver ρ k fa).2 B) := by
  refine z_Sp_of (L := [.ref 12, zi k, zi fa, .float 0, .float 0, .float 0, .float 0, .float 0, .float 0, .float 0, .float 0]) (by decide) rfl rfl rfl (Nat.le_of_ble_eq_true rfl) ?_
  refine ev_iload_n 1 (q := 1) dR_deliver_0 rfl (by rfl) rfl ?_
  refine zr_if_lt (t := 12) (q := 4) dR_deliver_1 rfl rfl ⟨by omega, by omega⟩ (fun h1 => ?_) (fun h1 => ?_)
  · refine ev_iconst (v := iI (-1)) (q := 13) dR_deliver_12 rfl rfl ?_
    exact zr_iret dR_deliver_13 rfl ⟨by rw [rR_deliver, if_pos h1], by rw [rR_deliver, if_pos h1]⟩
  · refine ev_iload_n 1 (q := 5) dR_deliver_4 rfl (by rfl) rfl ?_
    refine ev_aload_n 0 (q := 6) dR_deliver_5 rfl (by rfl) rfl ?_
    refine ev_get (q := 9) (v := zi (ρ 23 0)) dR_deliver_6 fR_143 atR rfl rfl ?_
    have g2 : 0 ≤ ρ 23 0 ∧ ρ 23 0 ≤ 220 := hw 23 0 (by decide)
    refine zr_icmp_lt (t := 14) (q := 12) dR_deliver_9 rfl rfl ⟨by omega, by omega⟩ ⟨by omega, by omega⟩ (fun h3 => ?_) (fun h3 => ?_)
    · refine ev_aload_n 0 (q := 15) dR_deliver_14 rfl (by rfl) rfl ?_
      refine ev_get (q := 18) dR_deliver_15 fR_74 atR (by rfl) rfl ?_
      refine ev_iload_n 1 (q := 19) dR_deliver_18 rfl (by rfl) rfl ?_
      refine zr_iald (q := 20) (g := ρ 22) dR_deliver_19 at_waiting (by decide) ⟨by omega, by omega⟩ rfl ?_
      have g4 : 0 ≤ ρ 22 k ∧ ρ 22 k ≤ 131071 := hw 22 k (by decide)
      refine ev_istore_n 3 (q := 21) dR_deliver_20 rfl (by decide) rfl rfl ?_
      dsimp only [List.set]
      refine ev_iload_n 3 (q := 22) dR_deliver_21 rfl (by rfl) rfl ?_
      refine ev_bipush (v := iI 7) (q := 24) dR_deliver_22 (by decide) rfl ?_
      refine zr_iand (q := 25) dR_deliver_24 rfl ?_
      have g5 : z_rg (zand (ρ 22 k) 7) := iI_rg _
      refine ev_istore (q := 27) dR_deliver_25 (by decide) rfl rfl ?_
      dsimp only [List.set]
      refine ev_iload_n 3 (q := 28) dR_deliver_27 rfl (by rfl) rfl ?_
      refine ev_iconst (v := iI 3) (q := 29) dR_deliver_28 rfl rfl ?_
      refine zr_ishr (q := 30) dR_deliver_29 rfl ?_
      have g6 : z_rg (zshr (ρ 22 k) 3) := iI_rg _
      refine ev_bipush (v := iI 7) (q := 32) dR_deliver_30 (by decide) rfl ?_
      refine zr_iand (q := 33) dR_deliver_32 rfl ?_
      have g7 : z_rg (zand (zshr (ρ 22 k) 3) 7) := iI_rg _
      refine ev_istore (q := 35) dR_deliver_33 (by decide) rfl rfl ?_
      dsimp only [List.set]
      refine ev_iload_n 3 (q := 36) dR_deliver_35 rfl (by rfl) rfl ?_
      refine ev_bipush (v := iI 6) (q := 38) dR_deliver_36 (by decide) rfl ?_
      refine zr_ishr (q := 39) dR_deliver_38 rfl ?_
      have g8 : z_rg (zshr (ρ 22 k) 6) := iI_rg _
      refine ev_bipush (v := iI 7) (q := 41) dR_deliver_39 (by decide) rfl ?_
      refine zr_iand (q := 42) dR_deliver_41 rfl ?_
      have g9 : z_rg (zand (zshr (ρ 22 k) 6) 7) := iI_rg _
      refine ev_istore (q := 44) dR_deliver_42 (by decide) rfl rfl ?_
      dsimp only [List.set]
      refine ev_iload_n 3 (q := 45) dR_deliver_44 rfl (by rfl) rfl ?_
      refine ev_bipush (v := iI 9) (q := 47) dR_deliver_45 (by decide) rfl ?_
      refine zr_ishr (q := 48) dR_deliver_47 rfl ?_
      have g10 : z_rg (zshr (ρ 22 k) 9) := iI_rg _
      refine ev_bipush (v := iI 31) (q := 50) dR_deliver_48 (by decide) rfl ?_
      refine zr_iand (q := 51) dR_deliver_50 rfl ?_
      have g11 : z_rg (zand (zshr (ρ 22 k) 9) 31) := iI_rg _
      refine ev_istore (q := 53) dR_deliver_51 (by decide) rfl rfl ?_
      dsimp only [List.set]
      refine ev_iload_n 3 (q := 54) dR_deliver_53 rfl (by rfl) rfl ?_
      refine ev_bipush (v := iI 14) (q := 56) dR_deliver_54 (by decide) rfl ?_
      refine zr_ishr (q := 57) dR_deliver_56 rfl ?_
      have g12 : z_rg (zshr (ρ 22 k) 14) := iI_rg _
      refine ev_istore (q := 59) dR_deliver_57 (by decide) rfl rfl ?_
      dsimp only [List.set]
      obtain ⟨d1, d2, d3, d4, d5, d6, d7⟩ := he1 (by omega) (by omega)
      refine ev_iconst (v := iI 2) (q := 60) dR_deliver_59 rfl rfl ?_
      refine ev_istore (q := 62) dR_deliver_60 (by decide) rfl rfl ?_
      dsimp only [List.set]
      refine ev_iload (q := 64) dR_deliver_62 (by rfl) rfl ?_
      refine zr_if_ne (t := 79) (q := 67) dR_deliver_64 rfl rfl ⟨by omega, by omega⟩ (fun h13 => ?_) (fun h13 => ?_)
      · refine ev_iload (q := 81) dR_deliver_79 (by rfl) rfl ?_
        refine ev_iconst (v := iI 1) (q := 82) dR_deliver_81 rfl rfl ?_
        refine zr_icmp_ne (t := 101) (q := 85) dR_deliver_82 rfl rfl ⟨by omega, by omega⟩ ⟨by omega, by omega⟩ (fun h14 => ?_) (fun h14 => ?_)
        · refine ev_iload (q := 103) dR_deliver_101 (by rfl) rfl ?_
          refine ev_iconst (v := iI 2) (q := 104) dR_deliver_103 rfl rfl ?_
          refine zr_icmp_ne (t := 116) (q := 107) dR_deliver_104 rfl rfl ⟨by omega, by omega⟩ ⟨by omega, by omega⟩ (fun h15 => ?_) (fun h15 => ?_)
          · refine ev_iload (q := 118) dR_deliver_116 (by rfl) rfl ?_
            refine ev_iconst (v := iI 3) (q := 119) dR_deliver_118 rfl rfl ?_
            refine zr_icmp_ne (t := 136) (q := 122) dR_deliver_119 rfl rfl ⟨by omega, by omega⟩ ⟨by omega, by omega⟩ (fun h16 => ?_) (fun h16 => ?_)
            · have d8 := d7 (by omega) (by omega) (by omega) (by omega)
              refine ev_aload_n 0 (q := 137) dR_deliver_136 rfl (by rfl) rfl ?_
              refine ev_iload (q := 139) dR_deliver_137 (by rfl) rfl ?_
              refine ev_iload (q := 141) dR_deliver_139 (by rfl) rfl ?_
              refine ev_iload_n 2 (q := 142) dR_deliver_141 rfl (by rfl) rfl ?_
              refine cv_V (As := [_, _, _]) (q := 145) dR_deliver_142 kR_166 atR rfl rfl (Nat.le_of_ble_eq_true rfl) rfl rfl rfl (by decide) (sR_close hw (zand (zshr (ρ 22 k) 6) 7) (zand (zshr (ρ 22 k) 9) 31) fa ⟨by omega, by omega⟩ ⟨by omega, by omega⟩ ⟨by omega, by omega⟩ ) ?_
              have hw17 : z_wf ((rR_close ρ (zand (zshr (ρ 22 k) 6) 7) (zand (zshr (ρ 22 k) 9) 31) fa)).2 := wR_close hw (zand (zshr (ρ 22 k) 6) 7) (zand (zshr (ρ 22 k) 9) 31) fa ⟨by omega, by omega⟩ ⟨by omega, by omega⟩ ⟨by omega, by omega⟩ 
              have u18 := gR_close ρ (zand (zshr (ρ 22 k) 6) 7) (zand (zshr (ρ 22 k) 9) 31) fa
              have u19 := bR_close' ρ (zand (zshr (ρ 22 k) 6) 7) (zand (zshr (ρ 22 k) 9) 31) fa
              refine ev_istore (q := 147) dR_deliver_145 (by decide) rfl rfl ?_
              dsimp only [List.set]
              refine ev_iload_n 2 (q := 148) dR_deliver_147 rfl (by rfl) rfl ?_
              refine zr_if_ne (t := 202) (q := 151) dR_deliver_148 rfl rfl ⟨by omega, by omega⟩ (fun h21 => ?_) (fun h21 => ?_)
              · refine ev_iload (q := 204) dR_deliver_202 (by rfl) rfl ?_
                exact zr_iret dR_deliver_204 rfl ⟨by rw [rR_deliver, if_neg (Int.not_lt.mpr h1), if_pos h3, if_pos h13, if_pos h14, if_pos h15, if_pos h16, if_pos h21], by rw [rR_deliver, if_neg (Int.not_lt.mpr h1), if_pos h3, if_pos h13, if_pos h14, if_pos h15, if_pos h16, if_pos h21]⟩
              · refine ev_iload (q := 153) dR_deliver_151 (by rfl) rfl ?_
                refine zr_if_eq (t := 202) (q := 156) dR_deliver_153 rfl rfl ⟨by omega, by omega⟩ (fun h22 => ?_) (fun h22 => ?_)
                · refine ev_iload (q := 204) dR_deliver_202 (by rfl) rfl ?_
                  exact zr_iret dR_deliver_204 rfl ⟨by rw [rR_deliver, if_neg (Int.not_lt.mpr h1), if_pos h3, if_pos h13, if_pos h14, if_pos h15, if_pos h16, if_neg (fun z => z h21), if_pos h22], by rw [rR_deliver, if_neg (Int.not_lt.mpr h1), if_pos h3, if_pos h13, if_pos h14, if_pos h15, if_pos h16, if_neg (fun z => z h21), if_pos h22]⟩
                · refine ev_iload_n 1 (q := 157) dR_deliver_156 rfl (by rfl) rfl ?_
                  refine ev_istore (q := 159) dR_deliver_157 (by decide) rfl rfl ?_
                  dsimp only [List.set]
                  have g23 : 0 ≤ ((rR_close ρ (zand (zshr (ρ 22 k) 6) 7) (zand (zshr (ρ 22 k) 9) 31) fa)).2 23 0 ∧ ((rR_close ρ (zand (zshr (ρ 22 k) 6) 7) (zand (zshr (ρ 22 k) 9) 31) fa)).2 23 0 ≤ 220 := hw17 23 0 (by decide)
                  refine eR_deliver_159 hw17 k fa hp0 hp1 (((rR_close ρ (zand (zshr (ρ 22 k) 6) 7) (zand (zshr (ρ 22 k) 9) 31) fa)).2 23 0 - k - 1).toNat k  (zi (ρ 22 k)) (zi (zand (ρ 22 k) 7)) (zi (zand (zshr (ρ 22 k) 3) 7)) (zi (zand (zshr (ρ 22 k) 6) 7)) (zi (zand (zshr (ρ 22 k) 9) 31)) (zi (zshr (ρ 22 k) 14)) (zi (((rR_close ρ (zand (zshr (ρ 22 k) 6) 7) (zand (zshr (ρ 22 k) 9) 31) fa)).1)) (by omega) (by omega) (fun y24 => ?_)
                  have hw25 : z_wf (lR_deliver_159 ((rR_close ρ (zand (zshr (ρ 22 k) 6) 7) (zand (zshr (ρ 22 k) 9) 31) fa)).2 k fa (((rR_close ρ (zand (zshr (ρ 22 k) 6) 7) (zand (zshr (ρ 22 k) 9) 31) fa)).2 23 0 - k - 1).toNat k) := wlR_deliver_159 hw17 k fa hp0 hp1 (((rR_close ρ (zand (zshr (ρ 22 k) 6) 7) (zand (zshr (ρ 22 k) 9) 31) fa)).2 23 0 - k - 1).toNat k  (by omega) (by omega)
                  refine ev_aload_n 0 (q := 193) dR_deliver_192 rfl (by rfl) rfl ?_
                  refine ev_dup (q := 194) dR_deliver_193 rfl rfl ?_
                  refine ev_get (q := 197) (v := zi ((lR_deliver_159 ((rR_close ρ (zand (zshr (ρ 22 k) 6) 7) (zand (zshr (ρ 22 k) 9) 31) fa)).2 k fa (((rR_close ρ (zand (zshr (ρ 22 k) 6) 7) (zand (zshr (ρ 22 k) 9) 31) fa)).2 23 0 - k - 1).toNat k) 23 0)) dR_deliver_194 fR_143 atR rfl rfl ?_
                  rw [show (lR_deliver_159 ((rR_close ρ (zand (zshr (ρ 22 k) 6) 7) (zand (zshr (ρ 22 k) 9) 31) fa)).2 k fa (((rR_close ρ (zand (zshr (ρ 22 k) 6) 7) (zand (zshr (ρ 22 k) 9) 31) fa)).2 23 0 - k - 1).toNat k) 23 0 = (((rR_close ρ (zand (zshr (ρ 22 k) 6) 7) (zand (zshr (ρ 22 k) 9) 31) fa)).2 23 0) from (congrFun (kR_deliver_159 hw17 k fa (((rR_close ρ (zand (zshr (ρ 22 k) 6) 7) (zand (zshr (ρ 22 k) 9) 31) fa)).2 23 0 - k - 1).toNat k (c := 23) (by decide)) 0).trans rfl]
                  have g26 : 0 ≤ ((rR_close ρ (zand (zshr (ρ 22 k) 6) 7) (zand (zshr (ρ 22 k) 9) 31) fa)).2 23 0 ∧ ((rR_close ρ (zand (zshr (ρ 22 k) 6) 7) (zand (zshr (ρ 22 k) 9) 31) fa)).2 23 0 ≤ 220 := hw17 23 0 (by decide)
                  refine ev_iconst (v := iI 1) (q := 198) dR_deliver_197 rfl rfl ?_
                  refine zr_isub (q := 199) dR_deliver_198 rfl ?_
                  refine zr_puti (q := 202) dR_deliver_199 gR_143 atR (Nat.le_of_ble_eq_true rfl) rfl st_waits rfl ?_
                  have hw27 : z_wf (z_up (lR_deliver_159 ((rR_close ρ (zand (zshr (ρ 22 k) 6) 7) (zand (zshr (ρ 22 k) 9) 31) fa)).2 k fa (((rR_close ρ (zand (zshr (ρ 22 k) 6) 7) (zand (zshr (ρ 22 k) 9) 31) fa)).2 23 0 - k - 1).toNat k) 23 0 ((((rR_close ρ (zand (zshr (ρ 22 k) 6) 7) (zand (zshr (ρ 22 k) 9) 31) fa)).2 23 0) - 1)) := z_wf_up hw25 (show (0 : Int) ≤ ((((rR_close ρ (zand (zshr (ρ 22 k) 6) 7) (zand (zshr (ρ 22 k) 9) 31) fa)).2 23 0) - 1) by omega) (show ((((rR_close ρ (zand (zshr (ρ 22 k) 6) 7) (zand (zshr (ρ 22 k) 9) 31) fa)).2 23 0) - 1) ≤ (220 : Int) by omega)
                  refine ev_iload (q := 204) dR_deliver_202 (by rfl) rfl ?_
                  exact zr_iret dR_deliver_204 rfl ⟨by rw [rR_deliver, if_neg (Int.not_lt.mpr h1), if_pos h3, if_pos h13, if_pos h14, if_pos h15, if_pos h16, if_neg (fun z => z h21), if_neg h22], by rw [rR_deliver, if_neg (Int.not_lt.mpr h1), if_pos h3, if_pos h13, if_pos h14, if_pos h15, if_pos h16, if_neg (fun z => z h21), if_neg h22]⟩
            · have d8 := d6 (by omega)
              refine ev_aload_n 0 (q := 123) dR_deliver_122 rfl (by rfl) rfl ?_
              refine ev_iload (q := 125) dR_deliver_123 (by rfl) rfl ?_
              refine ev_iload (q := 127) dR_deliver_125 (by rfl) rfl ?_
              refine ev_iload_n 2 (q := 128) dR_deliver_127 rfl (by rfl) rfl ?_
              refine cv_V (As := [_, _, _]) (q := 131) dR_deliver_128 kR_162 atR rfl rfl (Nat.le_of_ble_eq_true rfl) rfl rfl rfl (by decide) (sR_hear hw (zand (zshr (ρ 22 k) 9) 31) (zshr (ρ 22 k) 14) fa ⟨by omega, by omega⟩ ⟨by omega, by omega⟩ ⟨by omega, by omega⟩ he0 d8) ?_
              have hw28 : z_wf ((rR_hear ρ (zand (zshr (ρ 22 k) 9) 31) (zshr (ρ 22 k) 14) fa)).2 := wR_hear hw (zand (zshr (ρ 22 k) 9) 31) (zshr (ρ 22 k) 14) fa ⟨by omega, by omega⟩ ⟨by omega, by omega⟩ ⟨by omega, by omega⟩ he0 d8
              have u29 := gR_hear ρ (zand (zshr (ρ 22 k) 9) 31) (zshr (ρ 22 k) 14) fa
              have u30 := bR_hear' ρ (zand (zshr (ρ 22 k) 9) 31) (zshr (ρ 22 k) 14) fa
              refine ev_istore (q := 133) dR_deliver_131 (by decide) rfl rfl ?_
              dsimp only [List.set]
              refine ev_goto (t := 147) (q := 147) dR_deliver_133 rfl rfl ?_
              refine ev_iload_n 2 (q := 148) dR_deliver_147 rfl (by rfl) rfl ?_
              refine zr_if_ne (t := 202) (q := 151) dR_deliver_148 rfl rfl ⟨by omega, by omega⟩ (fun h32 => ?_) (fun h32 => ?_)
              · refine ev_iload (q := 204) dR_deliver_202 (by rfl) rfl ?_
                exact zr_iret dR_deliver_204 rfl ⟨by rw [rR_deliver, if_neg (Int.not_lt.mpr h1), if_pos h3, if_pos h13, if_pos h14, if_pos h15, if_neg (fun z => z h16), if_pos h32], by rw [rR_deliver, if_neg (Int.not_lt.mpr h1), if_pos h3, if_pos h13, if_pos h14, if_pos h15, if_neg (fun z => z h16), if_pos h32]⟩
              · refine ev_iload (q := 153) dR_deliver_151 (by rfl) rfl ?_
                refine zr_if_eq (t := 202) (q := 156) dR_deliver_153 rfl rfl ⟨by omega, by omega⟩ (fun h33 => ?_) (fun h33 => ?_)
                · refine ev_iload (q := 204) dR_deliver_202 (by rfl) rfl ?_
                  exact zr_iret dR_deliver_204 rfl ⟨by rw [rR_deliver, if_neg (Int.not_lt.mpr h1), if_pos h3, if_pos h13, if_pos h14, if_pos h15, if_neg (fun z => z h16), if_neg (fun z => z h32), if_pos h33], by rw [rR_deliver, if_neg (Int.not_lt.mpr h1), if_pos h3, if_pos h13, if_pos h14, if_pos h15, if_neg (fun z => z h16), if_neg (fun z => z h32), if_pos h33]⟩
                · refine ev_iload_n 1 (q := 157) dR_deliver_156 rfl (by rfl) rfl ?_
                  refine ev_istore (q := 159) dR_deliver_157 (by decide) rfl rfl ?_
                  dsimp only [List.set]
                  have g34 : 0 ≤ ((rR_hear ρ (zand (zshr (ρ 22 k) 9) 31) (zshr (ρ 22 k) 14) fa)).2 23 0 ∧ ((rR_hear ρ (zand (zshr (ρ 22 k) 9) 31) (zshr (ρ 22 k) 14) fa)).2 23 0 ≤ 220 := hw28 23 0 (by decide)
                  refine eR_deliver_159 hw28 k fa hp0 hp1 (((rR_hear ρ (zand (zshr (ρ 22 k) 9) 31) (zshr (ρ 22 k) 14) fa)).2 23 0 - k - 1).toNat k  (zi (ρ 22 k)) (zi (zand (ρ 22 k) 7)) (zi (zand (zshr (ρ 22 k) 3) 7)) (zi (zand (zshr (ρ 22 k) 6) 7)) (zi (zand (zshr (ρ 22 k) 9) 31)) (zi (zshr (ρ 22 k) 14)) (zi (((rR_hear ρ (zand (zshr (ρ 22 k) 9) 31) (zshr (ρ 22 k) 14) fa)).1)) (by omega) (by omega) (fun y35 => ?_)
                  have hw36 : z_wf (lR_deliver_159 ((rR_hear ρ (zand (zshr (ρ 22 k) 9) 31) (zshr (ρ 22 k) 14) fa)).2 k fa (((rR_hear ρ (zand (zshr (ρ 22 k) 9) 31) (zshr (ρ 22 k) 14) fa)).2 23 0 - k - 1).toNat k) := wlR_deliver_159 hw28 k fa hp0 hp1 (((rR_hear ρ (zand (zshr (ρ 22 k) 9) 31) (zshr (ρ 22 k) 14) fa)).2 23 0 - k - 1).toNat k  (by omega) (by omega)
                  refine ev_aload_n 0 (q := 193) dR_deliver_192 rfl (by rfl) rfl ?_
                  refine ev_dup (q := 194) dR_deliver_193 rfl rfl ?_
                  refine ev_get (q := 197) (v := zi ((lR_deliver_159 ((rR_hear ρ (zand (zshr (ρ 22 k) 9) 31) (zshr (ρ 22 k) 14) fa)).2 k fa (((rR_hear ρ (zand (zshr (ρ 22 k) 9) 31) (zshr (ρ 22 k) 14) fa)).2 23 0 - k - 1).toNat k) 23 0)) dR_deliver_194 fR_143 atR rfl rfl ?_
                  rw [show (lR_deliver_159 ((rR_hear ρ (zand (zshr (ρ 22 k) 9) 31) (zshr (ρ 22 k) 14) fa)).2 k fa (((rR_hear ρ (zand (zshr (ρ 22 k) 9) 31) (zshr (ρ 22 k) 14) fa)).2 23 0 - k - 1).toNat k) 23 0 = (((rR_hear ρ (zand (zshr (ρ 22 k) 9) 31) (zshr (ρ 22 k) 14) fa)).2 23 0) from (congrFun (kR_deliver_159 hw28 k fa (((rR_hear ρ (zand (zshr (ρ 22 k) 9) 31) (zshr (ρ 22 k) 14) fa)).2 23 0 - k - 1).toNat k (c := 23) (by decide)) 0).trans rfl]
                  have g37 : 0 ≤ ((rR_hear ρ (zand (zshr (ρ 22 k) 9) 31) (zshr (ρ 22 k) 14) fa)).2 23 0 ∧ ((rR_hear ρ (zand (zshr (ρ 22 k) 9) 31) (zshr (ρ 22 k) 14) fa)).2 23 0 ≤ 220 := hw28 23 0 (by decide)
                  refine ev_iconst (v := iI 1) (q := 198) dR_deliver_197 rfl rfl ?_
                  refine zr_isub (q := 199) dR_deliver_198 rfl ?_
                  refine zr_puti (q := 202) dR_deliver_199 gR_143 atR (Nat.le_of_ble_eq_true rfl) rfl st_waits rfl ?_
                  have hw38 : z_wf (z_up (lR_deliver_159 ((rR_hear ρ (zand (zshr (ρ 22 k) 9) 31) (zshr (ρ 22 k) 14) fa)).2 k fa (((rR_hear ρ (zand (zshr (ρ 22 k) 9) 31) (zshr (ρ 22 k) 14) fa)).2 23 0 - k - 1).toNat k) 23 0 ((((rR_hear ρ (zand (zshr (ρ 22 k) 9) 31) (zshr (ρ 22 k) 14) fa)).2 23 0) - 1)) := z_wf_up hw36 (show (0 : Int) ≤ ((((rR_hear ρ (zand (zshr (ρ 22 k) 9) 31) (zshr (ρ 22 k) 14) fa)).2 23 0) - 1) by omega) (show ((((rR_hear ρ (zand (zshr (ρ 22 k) 9) 31) (zshr (ρ 22 k) 14) fa)).2 23 0) - 1) ≤ (220 : Int) by omega)
                  refine ev_iload (q := 204) dR_deliver_202 (by rfl) rfl ?_
                  exact zr_iret dR_deliver_204 rfl ⟨by rw [rR_deliver, if_neg (Int.not_lt.mpr h1), if_pos h3, if_pos h13, if_pos h14, if_pos h15, if_neg (fun z => z h16), if_neg (fun z => z h32), if_neg h33], by rw [rR_deliver, if_neg (Int.not_lt.mpr h1), if_pos h3, if_pos h13, if_pos h14, if_pos h15, if_neg (fun z => z h16), if_neg (fun z => z h32), if_neg h33]⟩
          · obtain ⟨d8, d9⟩ := d5 (by omega)
            refine ev_aload_n 0 (q := 108) dR_deliver_107 rfl (by rfl) rfl ?_
            refine ev_iload (q := 110) dR_deliver_108 (by rfl) rfl ?_
            refine cv_Vv (As := [_]) (q := 113) dR_deliver_110 kR_158 atR rfl rfl (Nat.le_of_ble_eq_true rfl) rfl rfl rfl (by decide) (sR_notarise hw (zand (zshr (ρ 22 k) 9) 31) ⟨by omega, by omega⟩ he0 d8 d9) ?_
            have hw39 : z_wf ((rR_notarise ρ (zand (zshr (ρ 22 k) 9) 31))).2 := wR_notarise hw (zand (zshr (ρ 22 k) 9) 31) ⟨by omega, by omega⟩ he0 d8 d9
            have u40 := gR_notarise ρ (zand (zshr (ρ 22 k) 9) 31)
            refine ev_goto (t := 147) (q := 147) dR_deliver_113 rfl rfl ?_
            refine ev_iload_n 2 (q := 148) dR_deliver_147 rfl (by rfl) rfl ?_
            refine zr_if_ne (t := 202) (q := 151) dR_deliver_148 rfl rfl ⟨by omega, by omega⟩ (fun h41 => ?_) (fun h41 => ?_)
            · refine ev_iload (q := 204) dR_deliver_202 (by rfl) rfl ?_
              exact zr_iret dR_deliver_204 rfl ⟨by rw [rR_deliver, if_neg (Int.not_lt.mpr h1), if_pos h3, if_pos h13, if_pos h14, if_neg (fun z => z h15), if_pos h41], by rw [rR_deliver, if_neg (Int.not_lt.mpr h1), if_pos h3, if_pos h13, if_pos h14, if_neg (fun z => z h15), if_pos h41]⟩
            · refine ev_iload (q := 153) dR_deliver_151 (by rfl) rfl ?_
              refine zr_if_eq (t := 202) (q := 156) dR_deliver_153 rfl rfl ⟨by omega, by omega⟩ (fun h42 => ?_) (fun h42 => ?_)
              · exfalso
                omega
              · refine ev_iload_n 1 (q := 157) dR_deliver_156 rfl (by rfl) rfl ?_
                refine ev_istore (q := 159) dR_deliver_157 (by decide) rfl rfl ?_
                dsimp only [List.set]
                have g43 : 0 ≤ ((rR_notarise ρ (zand (zshr (ρ 22 k) 9) 31))).2 23 0 ∧ ((rR_notarise ρ (zand (zshr (ρ 22 k) 9) 31))).2 23 0 ≤ 220 := hw39 23 0 (by decide)
                refine eR_deliver_159 hw39 k fa hp0 hp1 (((rR_notarise ρ (zand (zshr (ρ 22 k) 9) 31))).2 23 0 - k - 1).toNat k  (zi (ρ 22 k)) (zi (zand (ρ 22 k) 7)) (zi (zand (zshr (ρ 22 k) 3) 7)) (zi (zand (zshr (ρ 22 k) 6) 7)) (zi (zand (zshr (ρ 22 k) 9) 31)) (zi (zshr (ρ 22 k) 14)) (zi 2) (by omega) (by omega) (fun y44 => ?_)
                have hw45 : z_wf (lR_deliver_159 ((rR_notarise ρ (zand (zshr (ρ 22 k) 9) 31))).2 k fa (((rR_notarise ρ (zand (zshr (ρ 22 k) 9) 31))).2 23 0 - k - 1).toNat k) := wlR_deliver_159 hw39 k fa hp0 hp1 (((rR_notarise ρ (zand (zshr (ρ 22 k) 9) 31))).2 23 0 - k - 1).toNat k  (by omega) (by omega)
                refine ev_aload_n 0 (q := 193) dR_deliver_192 rfl (by rfl) rfl ?_
                refine ev_dup (q := 194) dR_deliver_193 rfl rfl ?_
                refine ev_get (q := 197) (v := zi ((lR_deliver_159 ((rR_notarise ρ (zand (zshr (ρ 22 k) 9) 31))).2 k fa (((rR_notarise ρ (zand (zshr (ρ 22 k) 9) 31))).2 23 0 - k - 1).toNat k) 23 0)) dR_deliver_194 fR_143 atR rfl rfl ?_
                rw [show (lR_deliver_159 ((rR_notarise ρ (zand (zshr (ρ 22 k) 9) 31))).2 k fa (((rR_notarise ρ (zand (zshr (ρ 22 k) 9) 31))).2 23 0 - k - 1).toNat k) 23 0 = (((rR_notarise ρ (zand (zshr (ρ 22 k) 9) 31))).2 23 0) from (congrFun (kR_deliver_159 hw39 k fa (((rR_notarise ρ (zand (zshr (ρ 22 k) 9) 31))).2 23 0 - k - 1).toNat k (c := 23) (by decide)) 0).trans rfl]
                have g46 : 0 ≤ ((rR_notarise ρ (zand (zshr (ρ 22 k) 9) 31))).2 23 0 ∧ ((rR_notarise ρ (zand (zshr (ρ 22 k) 9) 31))).2 23 0 ≤ 220 := hw39 23 0 (by decide)
                refine ev_iconst (v := iI 1) (q := 198) dR_deliver_197 rfl rfl ?_
                refine zr_isub (q := 199) dR_deliver_198 rfl ?_
                refine zr_puti (q := 202) dR_deliver_199 gR_143 atR (Nat.le_of_ble_eq_true rfl) rfl st_waits rfl ?_
                have hw47 : z_wf (z_up (lR_deliver_159 ((rR_notarise ρ (zand (zshr (ρ 22 k) 9) 31))).2 k fa (((rR_notarise ρ (zand (zshr (ρ 22 k) 9) 31))).2 23 0 - k - 1).toNat k) 23 0 ((((rR_notarise ρ (zand (zshr (ρ 22 k) 9) 31))).2 23 0) - 1)) := z_wf_up hw45 (show (0 : Int) ≤ ((((rR_notarise ρ (zand (zshr (ρ 22 k) 9) 31))).2 23 0) - 1) by omega) (show ((((rR_notarise ρ (zand (zshr (ρ 22 k) 9) 31))).2 23 0) - 1) ≤ (220 : Int) by omega)
                refine ev_iload (q := 204) dR_deliver_202 (by rfl) rfl ?_
                exact zr_iret dR_deliver_204 rfl ⟨by rw [rR_deliver, if_neg (Int.not_lt.mpr h1), if_pos h3, if_pos h13, if_pos h14, if_neg (fun z => z h15), if_neg (fun z => z h41)], by rw [rR_deliver, if_neg (Int.not_lt.mpr h1), if_pos h3, if_pos h13, if_pos h14, if_neg (fun z => z h15), if_neg (fun z => z h41)]⟩
        · obtain ⟨d8, d9⟩ := d4 (by omega)
          refine ev_aload_n 0 (q := 86) dR_deliver_85 rfl (by rfl) rfl ?_
          refine ev_iload (q := 88) dR_deliver_86 (by rfl) rfl ?_
          refine ev_iload (q := 90) dR_deliver_88 (by rfl) rfl ?_
          refine ev_iload (q := 92) dR_deliver_90 (by rfl) rfl ?_
          refine ev_iload_n 2 (q := 93) dR_deliver_92 rfl (by rfl) rfl ?_
          refine cv_V (As := [_, _, _, _]) (q := 96) dR_deliver_93 kR_154 atR rfl rfl (Nat.le_of_ble_eq_true rfl) rfl rfl rfl (by decide) (sR_reply hw (zand (zshr (ρ 22 k) 3) 7) (zand (zshr (ρ 22 k) 9) 31) (zshr (ρ 22 k) 14) fa ⟨by omega, by omega⟩ ⟨by omega, by omega⟩ ⟨by omega, by omega⟩ ⟨by omega, by omega⟩ he0 d9) ?_
          have hw48 : z_wf ((rR_reply ρ (zand (zshr (ρ 22 k) 3) 7) (zand (zshr (ρ 22 k) 9) 31) (zshr (ρ 22 k) 14) fa)).2 := wR_reply hw (zand (zshr (ρ 22 k) 3) 7) (zand (zshr (ρ 22 k) 9) 31) (zshr (ρ 22 k) 14) fa ⟨by omega, by omega⟩ ⟨by omega, by omega⟩ ⟨by omega, by omega⟩ ⟨by omega, by omega⟩ he0 d9
          have u49 := gR_reply ρ (zand (zshr (ρ 22 k) 3) 7) (zand (zshr (ρ 22 k) 9) 31) (zshr (ρ 22 k) 14) fa
          have u50 := bR_reply' ρ (zand (zshr (ρ 22 k) 3) 7) (zand (zshr (ρ 22 k) 9) 31) (zshr (ρ 22 k) 14) fa
          refine ev_istore (q := 98) dR_deliver_96 (by decide) rfl rfl ?_
          dsimp only [List.set]
          refine ev_goto (t := 147) (q := 147) dR_deliver_98 rfl rfl ?_
          refine ev_iload_n 2 (q := 148) dR_deliver_147 rfl (by rfl) rfl ?_
          refine zr_if_ne (t := 202) (q := 151) dR_deliver_148 rfl rfl ⟨by omega, by omega⟩ (fun h52 => ?_) (fun h52 => ?_)
          · refine ev_iload (q := 204) dR_deliver_202 (by rfl) rfl ?_
            exact zr_iret dR_deliver_204 rfl ⟨by rw [rR_deliver, if_neg (Int.not_lt.mpr h1), if_pos h3, if_pos h13, if_neg (fun z => z h14), if_pos h52], by rw [rR_deliver, if_neg (Int.not_lt.mpr h1), if_pos h3, if_pos h13, if_neg (fun z => z h14), if_pos h52]⟩
          · refine ev_iload (q := 153) dR_deliver_151 (by rfl) rfl ?_
            refine zr_if_eq (t := 202) (q := 156) dR_deliver_153 rfl rfl ⟨by omega, by omega⟩ (fun h53 => ?_) (fun h53 => ?_)
            · refine ev_iload (q := 204) dR_deliver_202 (by rfl) rfl ?_
              exact zr_iret dR_deliver_204 rfl ⟨by rw [rR_deliver, if_neg (Int.not_lt.mpr h1), if_pos h3, if_pos h13, if_neg (fun z => z h14), if_neg (fun z => z h52), if_pos h53], by rw [rR_deliver, if_neg (Int.not_lt.mpr h1), if_pos h3, if_pos h13, if_neg (fun z => z h14), if_neg (fun z => z h52), if_pos h53]⟩
            · refine ev_iload_n 1 (q := 157) dR_deliver_156 rfl (by rfl) rfl ?_
              refine ev_istore (q := 159) dR_deliver_157 (by decide) rfl rfl ?_
              dsimp only [List.set]
              have g54 : 0 ≤ ((rR_reply ρ (zand (zshr (ρ 22 k) 3) 7) (zand (zshr (ρ 22 k) 9) 31) (zshr (ρ 22 k) 14) fa)).2 23 0 ∧ ((rR_reply ρ (zand (zshr (ρ 22 k) 3) 7) (zand (zshr (ρ 22 k) 9) 31) (zshr (ρ 22 k) 14) fa)).2 23 0 ≤ 220 := hw48 23 0 (by decide)
              refine eR_deliver_159 hw48 k fa hp0 hp1 (((rR_reply ρ (zand (zshr (ρ 22 k) 3) 7) (zand (zshr (ρ 22 k) 9) 31) (zshr (ρ 22 k) 14) fa)).2 23 0 - k - 1).toNat k  (zi (ρ 22 k)) (zi (zand (ρ 22 k) 7)) (zi (zand (zshr (ρ 22 k) 3) 7)) (zi (zand (zshr (ρ 22 k) 6) 7)) (zi (zand (zshr (ρ 22 k) 9) 31)) (zi (zshr (ρ 22 k) 14)) (zi (((rR_reply ρ (zand (zshr (ρ 22 k) 3) 7) (zand (zshr (ρ 22 k) 9) 31) (zshr (ρ 22 k) 14) fa)).1)) (by omega) (by omega) (fun y55 => ?_)
              have hw56 : z_wf (lR_deliver_159 ((rR_reply ρ (zand (zshr (ρ 22 k) 3) 7) (zand (zshr (ρ 22 k) 9) 31) (zshr (ρ 22 k) 14) fa)).2 k fa (((rR_reply ρ (zand (zshr (ρ 22 k) 3) 7) (zand (zshr (ρ 22 k) 9) 31) (zshr (ρ 22 k) 14) fa)).2 23 0 - k - 1).toNat k) := wlR_deliver_159 hw48 k fa hp0 hp1 (((rR_reply ρ (zand (zshr (ρ 22 k) 3) 7) (zand (zshr (ρ 22 k) 9) 31) (zshr (ρ 22 k) 14) fa)).2 23 0 - k - 1).toNat k  (by omega) (by omega)
              refine ev_aload_n 0 (q := 193) dR_deliver_192 rfl (by rfl) rfl ?_
              refine ev_dup (q := 194) dR_deliver_193 rfl rfl ?_
              refine ev_get (q := 197) (v := zi ((lR_deliver_159 ((rR_reply ρ (zand (zshr (ρ 22 k) 3) 7) (zand (zshr (ρ 22 k) 9) 31) (zshr (ρ 22 k) 14) fa)).2 k fa (((rR_reply ρ (zand (zshr (ρ 22 k) 3) 7) (zand (zshr (ρ 22 k) 9) 31) (zshr (ρ 22 k) 14) fa)).2 23 0 - k - 1).toNat k) 23 0)) dR_deliver_194 fR_143 atR rfl rfl ?_
              rw [show (lR_deliver_159 ((rR_reply ρ (zand (zshr (ρ 22 k) 3) 7) (zand (zshr (ρ 22 k) 9) 31) (zshr (ρ 22 k) 14) fa)).2 k fa (((rR_reply ρ (zand (zshr (ρ 22 k) 3) 7) (zand (zshr (ρ 22 k) 9) 31) (zshr (ρ 22 k) 14) fa)).2 23 0 - k - 1).toNat k) 23 0 = (((rR_reply ρ (zand (zshr (ρ 22 k) 3) 7) (zand (zshr (ρ 22 k) 9) 31) (zshr (ρ 22 k) 14) fa)).2 23 0) from (congrFun (kR_deliver_159 hw48 k fa (((rR_reply ρ (zand (zshr (ρ 22 k) 3) 7) (zand (zshr (ρ 22 k) 9) 31) (zshr (ρ 22 k) 14) fa)).2 23 0 - k - 1).toNat k (c := 23) (by decide)) 0).trans rfl]
              have g57 : 0 ≤ ((rR_reply ρ (zand (zshr (ρ 22 k) 3) 7) (zand (zshr (ρ 22 k) 9) 31) (zshr (ρ 22 k) 14) fa)).2 23 0 ∧ ((rR_reply ρ (zand (zshr (ρ 22 k) 3) 7) (zand (zshr (ρ 22 k) 9) 31) (zshr (ρ 22 k) 14) fa)).2 23 0 ≤ 220 := hw48 23 0 (by decide)
              refine ev_iconst (v := iI 1) (q := 198) dR_deliver_197 rfl rfl ?_
              refine zr_isub (q := 199) dR_deliver_198 rfl ?_
              refine zr_puti (q := 202) dR_deliver_199 gR_143 atR (Nat.le_of_ble_eq_true rfl) rfl st_waits rfl ?_
              have hw58 : z_wf (z_up (lR_deliver_159 ((rR_reply ρ (zand (zshr (ρ 22 k) 3) 7) (zand (zshr (ρ 22 k) 9) 31) (zshr (ρ 22 k) 14) fa)).2 k fa (((rR_reply ρ (zand (zshr (ρ 22 k) 3) 7) (zand (zshr (ρ 22 k) 9) 31) (zshr (ρ 22 k) 14) fa)).2 23 0 - k - 1).toNat k) 23 0 ((((rR_reply ρ (zand (zshr (ρ 22 k) 3) 7) (zand (zshr (ρ 22 k) 9) 31) (zshr (ρ 22 k) 14) fa)).2 23 0) - 1)) := z_wf_up hw56 (show (0 : Int) ≤ ((((rR_reply ρ (zand (zshr (ρ 22 k) 3) 7) (zand (zshr (ρ 22 k) 9) 31) (zshr (ρ 22 k) 14) fa)).2 23 0) - 1) by omega) (show ((((rR_reply ρ (zand (zshr (ρ 22 k) 3) 7) (zand (zshr (ρ 22 k) 9) 31) (zshr (ρ 22 k) 14) fa)).2 23 0) - 1) ≤ (220 : Int) by omega)
              refine ev_iload (q := 204) dR_deliver_202 (by rfl) rfl ?_
              exact zr_iret dR_deliver_204 rfl ⟨by rw [rR_deliver, if_neg (Int.not_lt.mpr h1), if_pos h3, if_pos h13, if_neg (fun z => z h14), if_neg (fun z => z h52), if_neg h53], by rw [rR_deliver, if_neg (Int.not_lt.mpr h1), if_pos h3, if_pos h13, if_neg (fun z => z h14), if_neg (fun z => z h52), if_neg h53]⟩
      · obtain ⟨d8, d9, d10, d11, d12⟩ := d3 (by omega)
        refine ev_aload_n 0 (q := 68) dR_deliver_67 rfl (by rfl) rfl ?_
        refine ev_iload (q := 70) dR_deliver_68 (by rfl) rfl ?_
        refine ev_iload (q := 72) dR_deliver_70 (by rfl) rfl ?_
        refine ev_iload_n 2 (q := 73) dR_deliver_72 rfl (by rfl) rfl ?_
        refine cv_Vv (As := [_, _, _]) (q := 76) dR_deliver_73 kR_150 atR rfl rfl (Nat.le_of_ble_eq_true rfl) rfl rfl rfl (by decide) (sR_ask hw (zand (zshr (ρ 22 k) 6) 7) (zand (zshr (ρ 22 k) 9) 31) fa ⟨by omega, by omega⟩ ⟨by omega, by omega⟩ ⟨by omega, by omega⟩ he0 d9 d10 d11 d12) ?_
        have hw59 : z_wf ((rR_ask ρ (zand (zshr (ρ 22 k) 6) 7) (zand (zshr (ρ 22 k) 9) 31) fa)).2 := wR_ask hw (zand (zshr (ρ 22 k) 6) 7) (zand (zshr (ρ 22 k) 9) 31) fa ⟨by omega, by omega⟩ ⟨by omega, by omega⟩ ⟨by omega, by omega⟩ he0 d9 d10 d11 d12
        have u60 := gR_ask ρ (zand (zshr (ρ 22 k) 6) 7) (zand (zshr (ρ 22 k) 9) 31) fa
        refine ev_goto (t := 147) (q := 147) dR_deliver_76 rfl rfl ?_
        refine ev_iload_n 2 (q := 148) dR_deliver_147 rfl (by rfl) rfl ?_
        refine zr_if_ne (t := 202) (q := 151) dR_deliver_148 rfl rfl ⟨by omega, by omega⟩ (fun h61 => ?_) (fun h61 => ?_)
        · refine ev_iload (q := 204) dR_deliver_202 (by rfl) rfl ?_
          exact zr_iret dR_deliver_204 rfl ⟨by rw [rR_deliver, if_neg (Int.not_lt.mpr h1), if_pos h3, if_neg (fun z => z h13), if_pos h61], by rw [rR_deliver, if_neg (Int.not_lt.mpr h1), if_pos h3, if_neg (fun z => z h13), if_pos h61]⟩
        · refine ev_iload (q := 153) dR_deliver_151 (by rfl) rfl ?_
          refine zr_if_eq (t := 202) (q := 156) dR_deliver_153 rfl rfl ⟨by omega, by omega⟩ (fun h62 => ?_) (fun h62 => ?_)
          · exfalso
            omega
          · refine ev_iload_n 1 (q := 157) dR_deliver_156 rfl (by rfl) rfl ?_
            refine ev_istore (q := 159) dR_deliver_157 (by decide) rfl rfl ?_
            dsimp only [List.set]
            have g63 : 0 ≤ ((rR_ask ρ (zand (zshr (ρ 22 k) 6) 7) (zand (zshr (ρ 22 k) 9) 31) fa)).2 23 0 ∧ ((rR_ask ρ (zand (zshr (ρ 22 k) 6) 7) (zand (zshr (ρ 22 k) 9) 31) fa)).2 23 0 ≤ 220 := hw59 23 0 (by decide)
            refine eR_deliver_159 hw59 k fa hp0 hp1 (((rR_ask ρ (zand (zshr (ρ 22 k) 6) 7) (zand (zshr (ρ 22 k) 9) 31) fa)).2 23 0 - k - 1).toNat k  (zi (ρ 22 k)) (zi (zand (ρ 22 k) 7)) (zi (zand (zshr (ρ 22 k) 3) 7)) (zi (zand (zshr (ρ 22 k) 6) 7)) (zi (zand (zshr (ρ 22 k) 9) 31)) (zi (zshr (ρ 22 k) 14)) (zi 2) (by omega) (by omega) (fun y64 => ?_)
            have hw65 : z_wf (lR_deliver_159 ((rR_ask ρ (zand (zshr (ρ 22 k) 6) 7) (zand (zshr (ρ 22 k) 9) 31) fa)).2 k fa (((rR_ask ρ (zand (zshr (ρ 22 k) 6) 7) (zand (zshr (ρ 22 k) 9) 31) fa)).2 23 0 - k - 1).toNat k) := wlR_deliver_159 hw59 k fa hp0 hp1 (((rR_ask ρ (zand (zshr (ρ 22 k) 6) 7) (zand (zshr (ρ 22 k) 9) 31) fa)).2 23 0 - k - 1).toNat k  (by omega) (by omega)
            refine ev_aload_n 0 (q := 193) dR_deliver_192 rfl (by rfl) rfl ?_
            refine ev_dup (q := 194) dR_deliver_193 rfl rfl ?_
            refine ev_get (q := 197) (v := zi ((lR_deliver_159 ((rR_ask ρ (zand (zshr (ρ 22 k) 6) 7) (zand (zshr (ρ 22 k) 9) 31) fa)).2 k fa (((rR_ask ρ (zand (zshr (ρ 22 k) 6) 7) (zand (zshr (ρ 22 k) 9) 31) fa)).2 23 0 - k - 1).toNat k) 23 0)) dR_deliver_194 fR_143 atR rfl rfl ?_
            rw [show (lR_deliver_159 ((rR_ask ρ (zand (zshr (ρ 22 k) 6) 7) (zand (zshr (ρ 22 k) 9) 31) fa)).2 k fa (((rR_ask ρ (zand (zshr (ρ 22 k) 6) 7) (zand (zshr (ρ 22 k) 9) 31) fa)).2 23 0 - k - 1).toNat k) 23 0 = (((rR_ask ρ (zand (zshr (ρ 22 k) 6) 7) (zand (zshr (ρ 22 k) 9) 31) fa)).2 23 0) from (congrFun (kR_deliver_159 hw59 k fa (((rR_ask ρ (zand (zshr (ρ 22 k) 6) 7) (zand (zshr (ρ 22 k) 9) 31) fa)).2 23 0 - k - 1).toNat k (c := 23) (by decide)) 0).trans rfl]
            have g66 : 0 ≤ ((rR_ask ρ (zand (zshr (ρ 22 k) 6) 7) (zand (zshr (ρ 22 k) 9) 31) fa)).2 23 0 ∧ ((rR_ask ρ (zand (zshr (ρ 22 k) 6) 7) (zand (zshr (ρ 22 k) 9) 31) fa)).2 23 0 ≤ 220 := hw59 23 0 (by decide)
            refine ev_iconst (v := iI 1) (q := 198) dR_deliver_197 rfl rfl ?_
            refine zr_isub (q := 199) dR_deliver_198 rfl ?_
            refine zr_puti (q := 202) dR_deliver_199 gR_143 atR (Nat.le_of_ble_eq_true rfl) rfl st_waits rfl ?_
            have hw67 : z_wf (z_up (lR_deliver_159 ((rR_ask ρ (zand (zshr (ρ 22 k) 6) 7) (zand (zshr (ρ 22 k) 9) 31) fa)).2 k fa (((rR_ask ρ (zand (zshr (ρ 22 k) 6) 7) (zand (zshr (ρ 22 k) 9) 31) fa)).2 23 0 - k - 1).toNat k) 23 0 ((((rR_ask ρ (zand (zshr (ρ 22 k) 6) 7) (zand (zshr (ρ 22 k) 9) 31) fa)).2 23 0) - 1)) := z_wf_up hw65 (show (0 : Int) ≤ ((((rR_ask ρ (zand (zshr (ρ 22 k) 6) 7) (zand (zshr (ρ 22 k) 9) 31) fa)).2 23 0) - 1) by omega) (show ((((rR_ask ρ (zand (zshr (ρ 22 k) 6) 7) (zand (zshr (ρ 22 k) 9) 31) fa)).2 23 0) - 1) ≤ (220 : Int) by omega)
            refine ev_iload (q := 204) dR_deliver_202 (by rfl) rfl ?_
            exact zr_iret dR_deliver_204 rfl ⟨by rw [rR_deliver, if_neg (Int.not_lt.mpr h1), if_pos h3, if_neg (fun z => z h13), if_neg (fun z => z h61)], by rw [rR_deliver, if_neg (Int.not_lt.mpr h1), if_pos h3, if_neg (fun z => z h13), if_neg (fun z => z h61)]⟩
    · refine ev_iconst (v := iI (-1)) (q := 13) dR_deliver_12 rfl rfl ?_
      exact zr_iret dR_deliver_13 rfl ⟨by rw [rR_deliver, if_neg (Int.not_lt.mpr h1), if_neg (Int.not_lt.mpr h3)], by rw [rR_deliver, if_neg (Int.not_lt.mpr h1), if_neg (Int.not_lt.mpr h3)]⟩
set_option maxRecDepth 100000 in
set_option maxHeartbeats 4000000 in
theorem wR_deliver {ρ : z_Sg} (hw : z_wf ρ) (k fa : Int) {P : List Int} (hp0 : z_rg k) (hp1 : 0 ≤ fa ∧ fa ≤ 1) (he0 : zRm P ρ) (he1 : (0 ≤ k → k < ρ 23 0 → zDel P ρ (ρ 22 k))) : z_wf (rR_deliver ρ k fa).2 := by
  rw [rR_deliver]
  by_cases h1 : k < 0
  · rw [if_pos h1]
    exact hw
  · rw [if_neg h1]
    have g2 : 0 ≤ ρ 23 0 ∧ ρ 23 0 ≤ 220 := hw 23 0 (by decide)
    by_cases h3 : k < (ρ 23 0)
    · rw [if_pos h3]
      have g4 : 0 ≤ ρ 22 k ∧ ρ 22 k ≤ 131071 := hw 22 k (by decide)
      have g5 : z_rg (zand (ρ 22 k) 7) := iI_rg _
      have g6 : z_rg (zshr (ρ 22 k) 3) := iI_rg _
      have g7 : z_rg (zand (zshr (ρ 22 k) 3) 7) := iI_rg _
      have g8 : z_rg (zshr (ρ 22 k) 6) := iI_rg _
      have g9 : z_rg (zand (zshr (ρ 22 k) 6) 7) := iI_rg _
      have g10 : z_rg (zshr (ρ 22 k) 9) := iI_rg _
      have g11 : z_rg (zand (zshr (ρ 22 k) 9) 31) := iI_rg _
      have g12 : z_rg (zshr (ρ 22 k) 14) := iI_rg _
      obtain ⟨d1, d2, d3, d4, d5, d6, d7⟩ := he1 (by omega) (by omega)
      by_cases h13 : (zand (ρ 22 k) 7) ≠ 0
      · rw [if_pos h13]
        by_cases h14 : (zand (ρ 22 k) 7) ≠ 1
        · rw [if_pos h14]
          by_cases h15 : (zand (ρ 22 k) 7) ≠ 2
          · rw [if_pos h15]
            by_cases h16 : (zand (ρ 22 k) 7) ≠ 3
            · rw [if_pos h16]
              have d8 := d7 (by omega) (by omega) (by omega) (by omega)
              have hw17 : z_wf ((rR_close ρ (zand (zshr (ρ 22 k) 6) 7) (zand (zshr (ρ 22 k) 9) 31) fa)).2 := wR_close hw (zand (zshr (ρ 22 k) 6) 7) (zand (zshr (ρ 22 k) 9) 31) fa ⟨by omega, by omega⟩ ⟨by omega, by omega⟩ ⟨by omega, by omega⟩ 
              have u18 := gR_close ρ (zand (zshr (ρ 22 k) 6) 7) (zand (zshr (ρ 22 k) 9) 31) fa
              have u19 := bR_close' ρ (zand (zshr (ρ 22 k) 6) 7) (zand (zshr (ρ 22 k) 9) 31) fa
              by_cases h21 : fa ≠ 0
              · rw [if_pos h21]
                exact hw17
              · rw [if_neg h21]
                by_cases h22 : ((rR_close ρ (zand (zshr (ρ 22 k) 6) 7) (zand (zshr (ρ 22 k) 9) 31) fa)).1 = 0
                · rw [if_pos h22]
                  exact hw17
                · rw [if_neg h22]
                  have g23 : 0 ≤ ((rR_close ρ (zand (zshr (ρ 22 k) 6) 7) (zand (zshr (ρ 22 k) 9) 31) fa)).2 23 0 ∧ ((rR_close ρ (zand (zshr (ρ 22 k) 6) 7) (zand (zshr (ρ 22 k) 9) 31) fa)).2 23 0 ≤ 220 := hw17 23 0 (by decide)
                  have hw25 : z_wf (lR_deliver_159 ((rR_close ρ (zand (zshr (ρ 22 k) 6) 7) (zand (zshr (ρ 22 k) 9) 31) fa)).2 k fa (((rR_close ρ (zand (zshr (ρ 22 k) 6) 7) (zand (zshr (ρ 22 k) 9) 31) fa)).2 23 0 - k - 1).toNat k) := wlR_deliver_159 hw17 k fa hp0 hp1 (((rR_close ρ (zand (zshr (ρ 22 k) 6) 7) (zand (zshr (ρ 22 k) 9) 31) fa)).2 23 0 - k - 1).toNat k  (by omega) (by omega)
                  have g26 : 0 ≤ ((rR_close ρ (zand (zshr (ρ 22 k) 6) 7) (zand (zshr (ρ 22 k) 9) 31) fa)).2 23 0 ∧ ((rR_close ρ (zand (zshr (ρ 22 k) 6) 7) (zand (zshr (ρ 22 k) 9) 31) fa)).2 23 0 ≤ 220 := hw17 23 0 (by decide)
                  have hw27 : z_wf (z_up (lR_deliver_159 ((rR_close ρ (zand (zshr (ρ 22 k) 6) 7) (zand (zshr (ρ 22 k) 9) 31) fa)).2 k fa (((rR_close ρ (zand (zshr (ρ 22 k) 6) 7) (zand (zshr (ρ 22 k) 9) 31) fa)).2 23 0 - k - 1).toNat k) 23 0 ((((rR_close ρ (zand (zshr (ρ 22 k) 6) 7) (zand (zshr (ρ 22 k) 9) 31) fa)).2 23 0) - 1)) := z_wf_up hw25 (show (0 : Int) ≤ ((((rR_close ρ (zand (zshr (ρ 22 k) 6) 7) (zand (zshr (ρ 22 k) 9) 31) fa)).2 23 0) - 1) by omega) (show ((((rR_close ρ (zand (zshr (ρ 22 k) 6) 7) (zand (zshr (ρ 22 k) 9) 31) fa)).2 23 0) - 1) ≤ (220 : Int) by omega)
                  exact hw27
            · rw [if_neg h16]
              have d8 := d6 (by omega)
              have hw28 : z_wf ((rR_hear ρ (zand (zshr (ρ 22 k) 9) 31) (zshr (ρ 22 k) 14) fa)).2 := wR_hear hw (zand (zshr (ρ 22 k) 9) 31) (zshr (ρ 22 k) 14) fa ⟨by omega, by omega⟩ ⟨by omega, by omega⟩ ⟨by omega, by omega⟩ he0 d8
              have u29 := gR_hear ρ (zand (zshr (ρ 22 k) 9) 31) (zshr (ρ 22 k) 14) fa
              have u30 := bR_hear' ρ (zand (zshr (ρ 22 k) 9) 31) (zshr (ρ 22 k) 14) fa
              by_cases h32 : fa ≠ 0
              · rw [if_pos h32]
                exact hw28
              · rw [if_neg h32]
                by_cases h33 : ((rR_hear ρ (zand (zshr (ρ 22 k) 9) 31) (zshr (ρ 22 k) 14) fa)).1 = 0
                · rw [if_pos h33]
                  exact hw28
                · rw [if_neg h33]
                  have g34 : 0 ≤ ((rR_hear ρ (zand (zshr (ρ 22 k) 9) 31) (zshr (ρ 22 k) 14) fa)).2 23 0 ∧ ((rR_hear ρ (zand (zshr (ρ 22 k) 9) 31) (zshr (ρ 22 k) 14) fa)).2 23 0 ≤ 220 := hw28 23 0 (by decide)
                  have hw36 : z_wf (lR_deliver_159 ((rR_hear ρ (zand (zshr (ρ 22 k) 9) 31) (zshr (ρ 22 k) 14) fa)).2 k fa (((rR_hear ρ (zand (zshr (ρ 22 k) 9) 31) (zshr (ρ 22 k) 14) fa)).2 23 0 - k - 1).toNat k) := wlR_deliver_159 hw28 k fa hp0 hp1 (((rR_hear ρ (zand (zshr (ρ 22 k) 9) 31) (zshr (ρ 22 k) 14) fa)).2 23 0 - k - 1).toNat k  (by omega) (by omega)
                  have g37 : 0 ≤ ((rR_hear ρ (zand (zshr (ρ 22 k) 9) 31) (zshr (ρ 22 k) 14) fa)).2 23 0 ∧ ((rR_hear ρ (zand (zshr (ρ 22 k) 9) 31) (zshr (ρ 22 k) 14) fa)).2 23 0 ≤ 220 := hw28 23 0 (by decide)
                  have hw38 : z_wf (z_up (lR_deliver_159 ((rR_hear ρ (zand (zshr (ρ 22 k) 9) 31) (zshr (ρ 22 k) 14) fa)).2 k fa (((rR_hear ρ (zand (zshr (ρ 22 k) 9) 31) (zshr (ρ 22 k) 14) fa)).2 23 0 - k - 1).toNat k) 23 0 ((((rR_hear ρ (zand (zshr (ρ 22 k) 9) 31) (zshr (ρ 22 k) 14) fa)).2 23 0) - 1)) := z_wf_up hw36 (show (0 : Int) ≤ ((((rR_hear ρ (zand (zshr (ρ 22 k) 9) 31) (zshr (ρ 22 k) 14) fa)).2 23 0) - 1) by omega) (show ((((rR_hear ρ (zand (zshr (ρ 22 k) 9) 31) (zshr (ρ 22 k) 14) fa)).2 23 0) - 1) ≤ (220 : Int) by omega)
                  exact hw38
          · rw [if_neg h15]
            obtain ⟨d8, d9⟩ := d5 (by omega)
            have hw39 : z_wf ((rR_notarise ρ (zand (zshr (ρ 22 k) 9) 31))).2 := wR_notarise hw (zand (zshr (ρ 22 k) 9) 31) ⟨by omega, by omega⟩ he0 d8 d9
            have u40 := gR_notarise ρ (zand (zshr (ρ 22 k) 9) 31)
            by_cases h41 : fa ≠ 0
            · rw [if_pos h41]
              exact hw39
            · rw [if_neg h41]
              have g43 : 0 ≤ ((rR_notarise ρ (zand (zshr (ρ 22 k) 9) 31))).2 23 0 ∧ ((rR_notarise ρ (zand (zshr (ρ 22 k) 9) 31))).2 23 0 ≤ 220 := hw39 23 0 (by decide)
              have hw45 : z_wf (lR_deliver_159 ((rR_notarise ρ (zand (zshr (ρ 22 k) 9) 31))).2 k fa (((rR_notarise ρ (zand (zshr (ρ 22 k) 9) 31))).2 23 0 - k - 1).toNat k) := wlR_deliver_159 hw39 k fa hp0 hp1 (((rR_notarise ρ (zand (zshr (ρ 22 k) 9) 31))).2 23 0 - k - 1).toNat k  (by omega) (by omega)
              have g46 : 0 ≤ ((rR_notarise ρ (zand (zshr (ρ 22 k) 9) 31))).2 23 0 ∧ ((rR_notarise ρ (zand (zshr (ρ 22 k) 9) 31))).2 23 0 ≤ 220 := hw39 23 0 (by decide)
              have hw47 : z_wf (z_up (lR_deliver_159 ((rR_notarise ρ (zand (zshr (ρ 22 k) 9) 31))).2 k fa (((rR_notarise ρ (zand (zshr (ρ 22 k) 9) 31))).2 23 0 - k - 1).toNat k) 23 0 ((((rR_notarise ρ (zand (zshr (ρ 22 k) 9) 31))).2 23 0) - 1)) := z_wf_up hw45 (show (0 : Int) ≤ ((((rR_notarise ρ (zand (zshr (ρ 22 k) 9) 31))).2 23 0) - 1) by omega) (show ((((rR_notarise ρ (zand (zshr (ρ 22 k) 9) 31))).2 23 0) - 1) ≤ (220 : Int) by omega)
              exact hw47
        · rw [if_neg h14]
          obtain ⟨d8, d9⟩ := d4 (by omega)
          have hw48 : z_wf ((rR_reply ρ (zand (zshr (ρ 22 k) 3) 7) (zand (zshr (ρ 22 k) 9) 31) (zshr (ρ 22 k) 14) fa)).2 := wR_reply hw (zand (zshr (ρ 22 k) 3) 7) (zand (zshr (ρ 22 k) 9) 31) (zshr (ρ 22 k) 14) fa ⟨by omega, by omega⟩ ⟨by omega, by omega⟩ ⟨by omega, by omega⟩ ⟨by omega, by omega⟩ he0 d9
          have u49 := gR_reply ρ (zand (zshr (ρ 22 k) 3) 7) (zand (zshr (ρ 22 k) 9) 31) (zshr (ρ 22 k) 14) fa
          have u50 := bR_reply' ρ (zand (zshr (ρ 22 k) 3) 7) (zand (zshr (ρ 22 k) 9) 31) (zshr (ρ 22 k) 14) fa
          by_cases h52 : fa ≠ 0
          · rw [if_pos h52]
            exact hw48
          · rw [if_neg h52]
            by_cases h53 : ((rR_reply ρ (zand (zshr (ρ 22 k) 3) 7) (zand (zshr (ρ 22 k) 9) 31) (zshr (ρ 22 k) 14) fa)).1 = 0
            · rw [if_pos h53]
              exact hw48
            · rw [if_neg h53]
              have g54 : 0 ≤ ((rR_reply ρ (zand (zshr (ρ 22 k) 3) 7) (zand (zshr (ρ 22 k) 9) 31) (zshr (ρ 22 k) 14) fa)).2 23 0 ∧ ((rR_reply ρ (zand (zshr (ρ 22 k) 3) 7) (zand (zshr (ρ 22 k) 9) 31) (zshr (ρ 22 k) 14) fa)).2 23 0 ≤ 220 := hw48 23 0 (by decide)
              have hw56 : z_wf (lR_deliver_159 ((rR_reply ρ (zand (zshr (ρ 22 k) 3) 7) (zand (zshr (ρ 22 k) 9) 31) (zshr (ρ 22 k) 14) fa)).2 k fa (((rR_reply ρ (zand (zshr (ρ 22 k) 3) 7) (zand (zshr (ρ 22 k) 9) 31) (zshr (ρ 22 k) 14) fa)).2 23 0 - k - 1).toNat k) := wlR_deliver_159 hw48 k fa hp0 hp1 (((rR_reply ρ (zand (zshr (ρ 22 k) 3) 7) (zand (zshr (ρ 22 k) 9) 31) (zshr (ρ 22 k) 14) fa)).2 23 0 - k - 1).toNat k  (by omega) (by omega)
              have g57 : 0 ≤ ((rR_reply ρ (zand (zshr (ρ 22 k) 3) 7) (zand (zshr (ρ 22 k) 9) 31) (zshr (ρ 22 k) 14) fa)).2 23 0 ∧ ((rR_reply ρ (zand (zshr (ρ 22 k) 3) 7) (zand (zshr (ρ 22 k) 9) 31) (zshr (ρ 22 k) 14) fa)).2 23 0 ≤ 220 := hw48 23 0 (by decide)
              have hw58 : z_wf (z_up (lR_deliver_159 ((rR_reply ρ (zand (zshr (ρ 22 k) 3) 7) (zand (zshr (ρ 22 k) 9) 31) (zshr (ρ 22 k) 14) fa)).2 k fa (((rR_reply ρ (zand (zshr (ρ 22 k) 3) 7) (zand (zshr (ρ 22 k) 9) 31) (zshr (ρ 22 k) 14) fa)).2 23 0 - k - 1).toNat k) 23 0 ((((rR_reply ρ (zand (zshr (ρ 22 k) 3) 7) (zand (zshr (ρ 22 k) 9) 31) (zshr (ρ 22 k) 14) fa)).2 23 0) - 1)) := z_wf_up hw56 (show (0 : Int) ≤ ((((rR_reply ρ (zand (zshr (ρ 22 k) 3) 7) (zand (zshr (ρ 22 k) 9) 31) (zshr (ρ 22 k) 14) fa)).2 23 0) - 1) by omega) (show ((((rR_reply ρ (zand (zshr (ρ 22 k) 3) 7) (zand (zshr (ρ 22 k) 9) 31) (zshr (ρ 22 k) 14) fa)).2 23 0) - 1) ≤ (220 : Int) by omega)
              exact hw58
      · rw [if_neg h13]
        obtain ⟨d8, d9, d10, d11, d12⟩ := d3 (by omega)
        have hw59 : z_wf ((rR_ask ρ (zand (zshr (ρ 22 k) 6) 7) (zand (zshr (ρ 22 k) 9) 31) fa)).2 := wR_ask hw (zand (zshr (ρ 22 k) 6) 7) (zand (zshr (ρ 22 k) 9) 31) fa ⟨by omega, by omega⟩ ⟨by omega, by omega⟩ ⟨by omega, by omega⟩ he0 d9 d10 d11 d12
        have u60 := gR_ask ρ (zand (zshr (ρ 22 k) 6) 7) (zand (zshr (ρ 22 k) 9) 31) fa
        by_cases h61 : fa ≠ 0
        · rw [if_pos h61]
          exact hw59
        · rw [if_neg h61]
          have g63 : 0 ≤ ((rR_ask ρ (zand (zshr (ρ 22 k) 6) 7) (zand (zshr (ρ 22 k) 9) 31) fa)).2 23 0 ∧ ((rR_ask ρ (zand (zshr (ρ 22 k) 6) 7) (zand (zshr (ρ 22 k) 9) 31) fa)).2 23 0 ≤ 220 := hw59 23 0 (by decide)
          have hw65 : z_wf (lR_deliver_159 ((rR_ask ρ (zand (zshr (ρ 22 k) 6) 7) (zand (zshr (ρ 22 k) 9) 31) fa)).2 k fa (((rR_ask ρ (zand (zshr (ρ 22 k) 6) 7) (zand (zshr (ρ 22 k) 9) 31) fa)).2 23 0 - k - 1).toNat k) := wlR_deliver_159 hw59 k fa hp0 hp1 (((rR_ask ρ (zand (zshr (ρ 22 k) 6) 7) (zand (zshr (ρ 22 k) 9) 31) fa)).2 23 0 - k - 1).toNat k  (by omega) (by omega)
          have g66 : 0 ≤ ((rR_ask ρ (zand (zshr (ρ 22 k) 6) 7) (zand (zshr (ρ 22 k) 9) 31) fa)).2 23 0 ∧ ((rR_ask ρ (zand (zshr (ρ 22 k) 6) 7) (zand (zshr (ρ 22 k) 9) 31) fa)).2 23 0 ≤ 220 := hw59 23 0 (by decide)
          have hw67 : z_wf (z_up (lR_deliver_159 ((rR_ask ρ (zand (zshr (ρ 22 k) 6) 7) (zand (zshr (ρ 22 k) 9) 31) fa)).2 k fa (((rR_ask ρ (zand (zshr (ρ 22 k) 6) 7) (zand (zshr (ρ 22 k) 9) 31) fa)).2 23 0 - k - 1).toNat k) 23 0 ((((rR_ask ρ (zand (zshr (ρ 22 k) 6) 7) (zand (zshr (ρ 22 k) 9) 31) fa)).2 23 0) - 1)) := z_wf_up hw65 (show (0 : Int) ≤ ((((rR_ask ρ (zand (zshr (ρ 22 k) 6) 7) (zand (zshr (ρ 22 k) 9) 31) fa)).2 23 0) - 1) by omega) (show ((((rR_ask ρ (zand (zshr (ρ 22 k) 6) 7) (zand (zshr (ρ 22 k) 9) 31) fa)).2 23 0) - 1) ≤ (220 : Int) by omega)
          exact hw67
    · rw [if_neg h3]
      exact hw
