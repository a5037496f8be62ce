-- an output
def aO (γ : z_Sg) (t kd x y am : Int) : z_Sg := aL (oS γ (4 * t + γ 32 (2 * t + 1)) kd x y am) (2 * t + 1) (4 * t + γ 32 (2 * t + 1))
def gO (g : z_Gl) (γ : z_Sg) (t : Int) : z_Gl := gS g (4 * t + γ 32 (2 * t + 1))
theorem zEx_not {g : z_Gl} {γ : z_Sg} (hc : zC g γ) {t : Int} (h3 : γ 32 (2 * t + 1) ≤ 3) : ¬ zEx γ (4 * t + γ 32 (2 * t + 1)) := by
  have gl : 0 ≤ γ 32 (2 * t + 1) ∧ γ 32 (2 * t + 1) ≤ 4 := hc.1 32 _ (by decide)
  rintro ⟨_, _, h⟩
  rw [show (4 * t + γ 32 (2 * t + 1)) / 4 = t by omega, show (4 * t + γ 32 (2 * t + 1)) % 4 = γ 32 (2 * t + 1) by omega] at h
  omega
theorem aO_0 (γ : z_Sg) (t kd x y am : Int) : aO γ t kd x y am 0 = γ 0 := rfl
theorem aO_32 (γ : z_Sg) (t kd x y am : Int) : aO γ t kd x y am 32 = zup (γ 32) (2 * t + 1) (γ 32 (2 * t + 1) + 1) := rfl
theorem aO_33 (γ : z_Sg) (t kd x y am : Int) : aO γ t kd x y am 33 = zup (γ 33) (4 * (2 * t + 1) + γ 32 (2 * t + 1)) (4 * t + γ 32 (2 * t + 1)) := rfl
theorem aO_n {γ : z_Sg} {t kd x y am : Int} {c : Nat} (h0 : c ≠ 34) (h1 : c ≠ 35) (h2 : c ≠ 36) (h3 : c ≠ 37) (h4 : c ≠ 38) (h5 : c ≠ 32) (h6 : c ≠ 33) : aO γ t kd x y am c = γ c := by
  unfold aO
  rw [aL_n h5 h6, oS_n h0 h1 h2 h3 h4]
theorem zEx_aO {g : z_Gl} {γ : z_Sg} (hc : zC g γ) {t kd x y am z : Int} (ht : 0 ≤ t ∧ t < γ 0 0) (h3 : γ 32 (2 * t + 1) ≤ 3) : zEx (aO γ t kd x y am) z ↔ zEx γ z ∨ z = 4 * t + γ 32 (2 * t + 1) := by
  have gl : 0 ≤ γ 32 (2 * t + 1) ∧ γ 32 (2 * t + 1) ≤ 4 := hc.1 32 _ (by decide)
  unfold zEx
  rw [aO_0, aO_32]
  by_cases e : z / 4 = t
  · rw [e, zup_s]
    constructor
    · rintro ⟨h1, h2, h3⟩
      by_cases e2 : z % 4 = γ 32 (2 * t + 1)
      · exact Or.inr (by omega)
      · exact Or.inl ⟨h1, h2, by omega⟩
    · rintro (⟨h1, h2, h3⟩ | h)
      · exact ⟨h1, h2, by omega⟩
      · exact ⟨by omega, ht.2, by omega⟩
  · rw [zup_n (by omega)]
    constructor
    · exact Or.inl
    · rintro (h | h)
      · exact h
      · omega
theorem wT_addOutput {g : z_Gl} {γ : z_Sg} (hc : zC g γ) (hg : zLog g γ) (t kd x y am : Int) (ht : 0 ≤ t ∧ t < γ 0 0) (h1 : 0 ≤ kd ∧ kd ≤ 2) (h2 : 0 ≤ x ∧ x ≤ 3) (h3 : 0 ≤ y ∧ y ≤ 3) (h4 : 0 ≤ am ∧ am ≤ 1000) (hn : γ 32 (2 * t + 1) ≤ 3) : zC (gO g γ t) (aO γ t kd x y am) ∧ zLog (gO g γ t) (aO γ t kd x y am) := by
  have g0 : 0 ≤ γ 0 0 ∧ γ 0 0 ≤ 20 := hc.1 0 0 (by decide)
  have gl : 0 ≤ γ 32 (2 * t + 1) ∧ γ 32 (2 * t + 1) ≤ 4 := hc.1 32 _ (by decide)
  have hs := zEx_not hc hn
  have k := zC_gS hc hg hs h1 h2 h3 h4
  have hE : ∀ z, zEx (aO γ t kd x y am) z ↔ zEx γ z ∨ z = 4 * t + γ 32 (2 * t + 1) := fun z => zEx_aO hc ht hn
  refine ⟨⟨?_, ⟨k.2.1.1, k.2.1.2.1, k.2.1.2.2.1, ?_⟩, ?_, ?_⟩, ?_⟩
  · intro c i hne
    by_cases e2 : c = 32
    · subst e2
      rw [aO_32]
      unfold zup
      split
      · exact ⟨by show (0 : Int) ≤ _; omega, by show _ ≤ (4 : Int); omega⟩
      · exact hc.1 32 i hne
    · by_cases e3 : c = 33
      · subst e3
        rw [aO_33]
        unfold zup
        split
        · exact ⟨by show (0 : Int) ≤ _; omega, by show _ ≤ (79 : Int); omega⟩
        · exact hc.1 33 i hne
      · have := k.1 c i hne
        unfold aO
        rw [aL_n e2 e3]
        exact this
  · intro z hz
    rcases (hE z).mp hz with h | h
    · exact k.2.1.2.2.2 z (zEx_oS.mpr h)
    · subst h
      show 37 ≤ zup g.2.2.1 _ _ _ ∧ (g.2.2.2 ++ [_])[zup g.2.2.1 _ _ _ - 37]? = _
      rw [zup_s]
      refine ⟨by omega, ?_⟩
      rw [show 37 + g.2.2.2.length - 37 = g.2.2.2.length by omega, List.getElem?_append_right (Nat.le_refl _), Nat.sub_self]
      rfl
  · intro l' i a1 a2 a3 a4
    rw [hE, aO_33]
    rw [aO_32] at a4
    have gl' : 0 ≤ γ 32 l' ∧ γ 32 l' ≤ 4 := hc.1 32 l' (by decide)
    by_cases e : l' = 2 * t + 1
    · subst e
      rw [zup_s] at a4
      by_cases ek : i = γ 32 (2 * t + 1)
      · rw [ek, zup_s]
        exact Or.inr rfl
      · rw [zup_n (by omega)]
        exact Or.inl (hc.2.2.1 _ i a1 a2 a3 (by omega))
    · rw [zup_n e] at a4
      rw [zup_n (by omega)]
      exact Or.inl (hc.2.2.1 l' i a1 a2 a3 a4)
  · intro t' i a1 a2 a3 a4
    rw [aO_32] at a4
    rw [aO_33]
    have gl' : 0 ≤ γ 32 (2 * t' + 1) ∧ γ 32 (2 * t' + 1) ≤ 4 := hc.1 32 _ (by decide)
    by_cases e : t' = t
    · subst e
      rw [zup_s] at a4
      by_cases ek : i = γ 32 (2 * t' + 1)
      · rw [ek, zup_s]
      · rw [zup_n (by omega)]
        exact hc.2.2.2 t' i a1 a2 a3 (by omega)
    · rw [zup_n (by omega)] at a4
      rw [zup_n (by omega)]
      exact hc.2.2.2 t' i a1 a2 a3 a4
  · intro z hz
    have hz : z ∈ g.2.2.2 ++ [(3, 4 * t + γ 32 (2 * t + 1))] := hz
    rw [List.mem_append] at hz
    rw [hE, aO_0]
    rcases hz with hz | hz
    · rcases hg z hz with h | h | h
      · exact Or.inl h
      · exact Or.inr (Or.inl h)
      · exact Or.inr (Or.inr ⟨h.1, Or.inl h.2⟩)
    · rw [List.mem_singleton] at hz
      subst hz
      exact Or.inr (Or.inr ⟨rfl, Or.inr rfl⟩)

set_option maxRecDepth 100000 in
set_option maxHeartbeats 4000000 in
theorem sT_addOutput {g : z_Gl} {γ ρ : z_Sg} (hc : zC g γ) (hg : zLog g γ) (t kd x y am : Int) (ht : 0 ≤ t ∧ t < γ 0 0) (h1 : 0 ≤ kd ∧ kd ≤ 2) (h2 : 0 ≤ x ∧ x ≤ 3) (h3 : 0 ≤ y ∧ y ≤ 3) (h4 : 0 ≤ am ∧ am ≤ 1000) (hn : γ 32 (2 * t + 1) ≤ 3) : z_Sp mT_addOutput (2, 45) 1 6 [.ref (g.1 t), zi kd, zi x, zi y, zi am] (zH g γ ρ) (fun r M' => r = some (zi (γ 32 (2 * t + 1))) ∧ M' = zH (gO g γ t) (aO γ t kd x y am) ρ) := by
  have g0 : 0 ≤ γ 0 0 ∧ γ 0 0 ≤ 20 := hc.1 0 0 (by decide)
  have gl : 0 ≤ γ 32 (2 * t + 1) ∧ γ 32 (2 * t + 1) ≤ 4 := hc.1 32 _ (by decide)
  have hs := zEx_not hc hn
  have k := zC_gS hc hg hs h1 h2 h3 h4
  have hT := at_T (ρ := ρ) hc.2.1 ht
  have hL := at_L (ρ := ρ) hc.2.1 (zl1 ht)
  have ap : ∀ (c e : va_E) (i : Nat), (zH g γ ρ)[i]? = some e → (zH g γ ρ ++ [c])[i]? = some e := by
    intro c e i h
    rw [List.getElem?_append_left (List.getElem?_eq_some_iff.mp h).1]
    exact h
  refine z_Sp_of (L := [.ref (g.1 t), zi kd, zi x, zi y, zi am]) (by decide) rfl rfl rfl (Nat.le_of_ble_eq_true rfl) ?_
  refine ev_aload_n 0 (q := 1) dT_addOutput_0 rfl (by rfl) rfl ?_
  refine ev_get (q := 4) dT_addOutput_1 fT_34 hT (by rfl) rfl ?_
  refine ev_new (n := 6) (kc := 0) (ks := 0) (q := 7) dT_addOutput_4 nT_54 rfl ?_
  refine ev_dup (q := 8) dT_addOutput_7 rfl rfl ?_
  refine ev_aload_n 0 (q := 9) dT_addOutput_8 rfl (by rfl) rfl ?_
  refine ev_get (q := 12) (v := zi t) dT_addOutput_9 fT_9 (ap _ _ _ hT) rfl rfl ?_
  refine ev_iconst (v := iI 4) (q := 13) dT_addOutput_12 rfl rfl ?_
  refine zr_imul (q := 14) dT_addOutput_13 rfl ?_
  refine ev_aload_n 0 (q := 15) dT_addOutput_14 rfl (by rfl) rfl ?_
  refine ev_get (q := 18) dT_addOutput_15 fT_34 (ap _ _ _ hT) (by rfl) rfl ?_
  refine ev_get (q := 21) (v := zi (γ 32 (2 * t + 1))) dT_addOutput_18 fT_56 (ap _ _ _ hL) rfl rfl ?_
  refine zr_iadd (q := 22) dT_addOutput_21 rfl ?_
  rw [show t * 4 + γ 32 (2 * t + 1) = 4 * t + γ 32 (2 * t + 1) by omega]
  refine ev_iload_n 1 (q := 23) dT_addOutput_22 rfl (by rfl) rfl ?_
  refine ev_iload_n 2 (q := 24) dT_addOutput_23 rfl (by rfl) rfl ?_
  refine ev_iload_n 3 (q := 25) dT_addOutput_24 rfl (by rfl) rfl ?_
  refine ev_iload (q := 27) dT_addOutput_25 (by rfl) rfl ?_
  have hnew : (zH g γ ρ ++ [.inr (5, [zi 0, zi 0, zi 0, zi 0, zi 0, zi 0])])[(zH g γ ρ).length]? = some (.inr (5, [zi 0, zi 0, zi 0, zi 0, zi 0, zi 0])) := by
    rw [List.getElem?_append_right (Nat.le_refl _), Nat.sub_self]
    rfl
  refine cv_I (As := [_, _, _, _, _]) (kc := 0) (ks := 0) (q := 30) dT_addOutput_27 kT_59 rfl (Nat.le_of_ble_eq_true rfl) rfl rfl rfl rfl rfl (by decide) (sS_init (4 * t + γ 32 (2 * t + 1)) kd x y am hnew) ?_
  rw [List.set_append_right _ _ (Nat.le_refl _), Nat.sub_self]
  rw [show [(.inr (5, [zi 0, zi 0, zi 0, zi 0, zi 0, zi 0]) : va_E)].set 0 (.inr (5, [zi (4 * t + γ 32 (2 * t + 1)), zi kd, zi x, zi y, zi am, zi (-1)])) = [.inr (5, [zi (4 * t + γ 32 (2 * t + 1)), zi kd, zi x, zi y, zi am, zi (-1)])] from rfl]
  rw [zH_new hc hg hs]
  have e : (zH g γ ρ).length = (gS g (4 * t + γ 32 (2 * t + 1))).2.2.1 (4 * t + γ 32 (2 * t + 1)) := by
    rw [zH_len]
    show _ = zup g.2.2.1 _ _ _
    rw [zup_s]
  have hv : (zH (gS g (4 * t + γ 32 (2 * t + 1))) (oS γ (4 * t + γ 32 (2 * t + 1)) kd x y am) ρ)[(gS g (4 * t + γ 32 (2 * t + 1))).2.2.1 (4 * t + γ 32 (2 * t + 1))]? = some (.inr (5, [zi (4 * t + γ 32 (2 * t + 1)), zi kd, zi x, zi y, zi am, zi (-1)])) := by
    rw [← zH_new hc hg hs, ← e, List.getElem?_append_right (Nat.le_refl _), Nat.sub_self]
    rfl
  rw [e]
  refine cv_V (As := [_]) (q := 33) dT_addOutput_30 kT_50 (at_L k.2.1 (zl1 ht)) rfl rfl (Nat.le_of_ble_eq_true rfl) rfl rfl rfl (by decide) (sL_add0 k (2 * t + 1) (4 * t + γ 32 (2 * t + 1)) (zl1 ht) hv hn) ?_
  exact zr_iret dT_addOutput_33 rfl ⟨rfl, rfl⟩
