-- a state at the end of a list
def aL (γ : z_Sg) (l s : Int) : z_Sg := z_up (z_up γ 33 (4 * l + γ 32 l) s) 32 l (γ 32 l + 1)
def zHD (g : z_Gl) (γ ρ : z_Sg) (d : Nat × Int → va_E) : List va_E := zM γ g.1 ρ (g.2.2.2.map d)
theorem zHD_set {g : z_Gl} {γ ρ : z_Sg} {d : Nat × Int → va_E} {n : Nat} {x : Nat × Int} {c : va_E} (hn : g.2.2.2.Nodup) (h : 37 ≤ n) (hx : g.2.2.2[n - 37]? = some x) : (zHD g γ ρ d).set n c = zHD g γ ρ (fun y => if y = x then c else d y) := by
  have l1 : (fixC γ g.1).length = 12 := rfl
  have l2 : (fixR ρ).length = 25 := rfl
  apply List.ext_getElem?
  intro i
  by_cases hi : n = i
  · subst hi
    have hlt : n - 37 < g.2.2.2.length := (List.getElem?_eq_some_iff.mp hx).1
    have hl : n < (zHD g γ ρ d).length := by
      unfold zHD zM
      rw [List.length_append, List.length_append, List.length_map, l1, l2]
      omega
    rw [List.getElem?_set_self hl]
    unfold zHD zM
    rw [List.getElem?_append_right (by omega), List.getElem?_append_right (by omega), List.getElem?_map, l1, l2, show n - 12 - 25 = n - 37 by omega, hx]
    simp
  · rw [List.getElem?_set_ne hi]
    unfold zHD zM
    by_cases h37 : 37 ≤ i
    · rw [List.getElem?_append_right (by omega), List.getElem?_append_right (by omega), List.getElem?_append_right (by omega), List.getElem?_append_right (by omega), List.getElem?_map, List.getElem?_map, l1, l2]
      cases hy : g.2.2.2[i - 12 - 25]? with
      | none => rfl
      | some y =>
        have hne : y ≠ x := by
          rintro rfl
          have hlt : i - 12 - 25 < g.2.2.2.length := (List.getElem?_eq_some_iff.mp hy).1
          have := (List.getElem?_inj hlt hn).mp (hy.trans hx.symm)
          omega
        simp [hne]
    · have hl : i < (fixC γ g.1 ++ fixR ρ).length := by rw [List.length_append]; omega
      rw [← List.append_assoc, ← List.append_assoc, List.getElem?_append_left hl, List.getElem?_append_left hl]
theorem ct_add {g : z_Gl} {γ ρ : z_Sg} (hc : zC g γ) {l s : Int} (hl : 0 ≤ l ∧ l < 2 * γ 0 0) (hn : γ 32 l ≤ 3) : ((zH g γ ρ).set (g.2.1 l + 1) (zP 3 4 (zup (fun k => if 0 ≤ k ∧ k < γ 32 l then some (g.2.2.1 (γ 33 (4 * l + k))) else none) (γ 32 l) (some (g.2.2.1 s))))).set (g.2.1 l) (.inr (4, [.ref (g.2.1 l + 1), zi (γ 32 l + 1)])) = zH g (aL γ l s) ρ := by
  have gl : 0 ≤ γ 32 l ∧ γ 32 l ≤ 4 := hc.1 32 l (by decide)
  have hL := hc.2.1.2.2.1 l hl.1 hl.2
  show ((zHD g γ ρ (dyn g γ)).set (g.2.1 l + 1) _).set (g.2.1 l) _ = zHD g (aL γ l s) ρ (dyn g (aL γ l s))
  rw [zHD_set hc.2.1.1 (by omega) hL.2.2, zHD_set hc.2.1.1 hL.1 hL.2.1]
  have e : (fun y => if y = ((1 : Nat), l) then (.inr (4, [.ref (g.2.1 l + 1), zi (γ 32 l + 1)]) : va_E) else if y = ((2 : Nat), l) then zP 3 4 (zup (fun k => if 0 ≤ k ∧ k < γ 32 l then some (g.2.2.1 (γ 33 (4 * l + k))) else none) (γ 32 l) (some (g.2.2.1 s))) else dyn g γ y) = dyn g (aL γ l s) := by
    funext y
    obtain ⟨k, i⟩ := y
    match k with
    | 0 => rfl
    | 3 => rfl
    | _ + 4 => rfl
    | 1 =>
      by_cases hi : i = l
      · subst hi
        simp [dyn, aL, z_up, zup_s]
      · simp [dyn, aL, z_up, zup_n hi, hi]
    | 2 =>
      by_cases hi : i = l
      · subst hi
        rw [if_neg (by simp), if_pos rfl]
        show zP 3 4 _ = zP 3 4 (fun k => if 0 ≤ k ∧ k < zup (γ 32) i (γ 32 i + 1) i then some (g.2.2.1 (zup (γ 33) (4 * i + γ 32 i) s (4 * i + k))) else none)
        congr 1
        funext k
        rw [zup_s]
        by_cases hk : k = γ 32 i
        · rw [hk, zup_s, if_pos ⟨by omega, by omega⟩, zup_s]
        · rw [zup_n hk]
          by_cases h2 : 0 ≤ k ∧ k < γ 32 i
          · rw [if_pos h2, if_pos ⟨by omega, by omega⟩, zup_n (by omega)]
          · rw [if_neg h2, if_neg (by omega)]
      · rw [if_neg (by simp), if_neg (by simp [hi])]
        have gi : 0 ≤ γ 32 i ∧ γ 32 i ≤ 4 := hc.1 32 i (by decide)
        show zP 3 4 (fun k => if 0 ≤ k ∧ k < γ 32 i then some (g.2.2.1 (γ 33 (4 * i + k))) else none) = zP 3 4 (fun k => if 0 ≤ k ∧ k < zup (γ 32) l (γ 32 l + 1) i then some (g.2.2.1 (zup (γ 33) (4 * l + γ 32 l) s (4 * i + k))) else none)
        congr 1
        funext k
        rw [zup_n hi]
        by_cases h2 : 0 ≤ k ∧ k < γ 32 i
        · rw [if_pos h2, if_pos h2, zup_n (by omega)]
        · rw [if_neg h2, if_neg h2]
  rw [e]
  rfl

set_option maxRecDepth 100000 in
set_option maxHeartbeats 4000000 in
theorem sL_add0 {g : z_Gl} {γ ρ : z_Sg} (hc : zC g γ) (l s : Int) (hl : 0 ≤ l ∧ l < 2 * γ 0 0) {vs : List Value} (hv : (zH g γ ρ)[g.2.2.1 s]? = some (.inr (5, vs))) (hn : γ 32 l ≤ 3) : z_Sp mL_add (0, 0) 0 0 [.ref (g.2.1 l), .ref (g.2.2.1 s)] (zH g γ ρ) (fun r M' => r = some (zi (γ 32 l)) ∧ M' = zH g (aL γ l s) ρ) := by
  have gl : 0 ≤ γ 32 l ∧ γ 32 l ≤ 4 := hc.1 32 l (by decide)
  refine z_Sp_of (L := [.ref (g.2.1 l), .ref (g.2.2.1 s)]) (by decide) rfl rfl rfl (Nat.le_of_ble_eq_true rfl) ?_
  refine ev_aload_n 0 (q := 1) dL_add_0 rfl (by rfl) rfl ?_
  refine ev_get (q := 4) (v := zi (γ 32 l)) dL_add_1 fL_17 (at_L hc.2.1 hl) rfl rfl ?_
  refine ev_iconst (v := iI 4) (q := 5) dL_add_4 rfl rfl ?_
  refine zr_icmp_lt (t := 11) (q := 8) dL_add_5 rfl rfl ⟨by omega, by omega⟩ ⟨by omega, by omega⟩ (fun h => ?_) (fun h => ?_)
  · refine ev_aload_n 0 (q := 12) dL_add_11 rfl (by rfl) rfl ?_
    refine ev_get (q := 15) dL_add_12 fL_11 (at_L hc.2.1 hl) (by rfl) rfl ?_
    refine ev_aload_n 0 (q := 16) dL_add_15 rfl (by rfl) rfl ?_
    refine ev_get (q := 19) (v := zi (γ 32 l)) dL_add_16 fL_17 (at_L hc.2.1 hl) rfl rfl ?_
    refine ev_aload_n 1 (q := 20) dL_add_19 rfl (by rfl) rfl ?_
    refine zr_aast (q := 21) (f := (fun k => if 0 ≤ k ∧ k < γ 32 l then some (g.2.2.1 (γ 33 (4 * l + k))) else none)) dL_add_20 (fun _ => ⟨_, rfl, rfl⟩) (at_E hc.2.1 hl) hv (by decide) ⟨by omega, by omega⟩ rfl rfl ?_
    have hm : ((zH g γ ρ).set (g.2.1 l + 1) (zP 3 4 (zup (fun k => if 0 ≤ k ∧ k < γ 32 l then some (g.2.2.1 (γ 33 (4 * l + k))) else none) (γ 32 l) (some (g.2.2.1 s)))))[g.2.1 l]? = some (.inr (4, [.ref (g.2.1 l + 1), zi (γ 32 l)])) := by
      rw [List.getElem?_set_ne (by omega)]
      exact at_L hc.2.1 hl
    refine ev_aload_n 0 (q := 22) dL_add_21 rfl (by rfl) rfl ?_
    refine ev_dup (q := 23) dL_add_22 rfl rfl ?_
    refine ev_get (q := 26) (v := zi (γ 32 l)) dL_add_23 fL_17 hm rfl rfl ?_
    refine ev_iconst (v := iI 1) (q := 27) dL_add_26 rfl rfl ?_
    refine zr_iadd (q := 28) dL_add_27 rfl ?_
    refine zr_puti (q := 31) dL_add_28 gL_17 hm (Nat.le_of_ble_eq_true rfl) rfl (ct_add hc hl hn) rfl ?_
    refine ev_aload_n 0 (q := 32) dL_add_31 rfl (by rfl) rfl ?_
    have ha : (zH g (aL γ l s) ρ)[g.2.1 l]? = some (.inr (4, [.ref (g.2.1 l + 1), zi (γ 32 l + 1)])) := by
      rw [← ct_add hc hl hn]
      rw [List.getElem?_set_self]
      rw [List.length_set]
      exact (List.getElem?_eq_some_iff.mp (at_L (ρ := ρ) hc.2.1 hl)).1
    refine ev_get (q := 35) (v := zi (γ 32 l + 1)) dL_add_32 fL_17 ha rfl rfl ?_
    refine ev_iconst (v := iI 1) (q := 36) dL_add_35 rfl rfl ?_
    refine zr_isub (q := 37) dL_add_36 rfl ?_
    exact zr_iret dL_add_37 rfl ⟨by rw [show γ 32 l + 1 - 1 = γ 32 l by omega], rfl⟩
  · exfalso
    omega
