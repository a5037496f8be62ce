set_option maxRecDepth 100000 in
set_option maxHeartbeats 4000000 in
theorem sS_init {M : List va_E} {k : Nat} (n kd x y am : Int) (hM : M[k]? = some (.inr (5, [zi 0, zi 0, zi 0, zi 0, zi 0, zi 0]))) : z_Sp mS_init (1, 20) 0 0 [.ref k, zi n, zi kd, zi x, zi y, zi am] M (fun r M' => r = none ∧ M' = M.set k (.inr (5, [zi n, zi kd, zi x, zi y, zi am, zi (-1)]))) := by
  refine z_Sp_of (L := [.ref k, zi n, zi kd, zi x, zi y, zi am]) (by decide) rfl rfl rfl (Nat.le_of_ble_eq_true rfl) ?_
  refine ev_aload_n 0 (q := 1) dS_init_0 rfl (by rfl) rfl ?_
  refine ev_obj (q := 4) dS_init_1 wmS_3 wiJO_init woJO_init (Nat.le_of_ble_eq_true rfl) rfl (by decide) rfl ?_
  have hk : k < M.length := (List.getElem?_eq_some_iff.mp hM).1
  have hs : ∀ c : va_E, (M.set k c)[k]? = some c := fun c => List.getElem?_set_self hk
  have hss : ∀ c c' : va_E, (M.set k c).set k c' = M.set k c' := fun c c' => List.set_set c
  refine ev_aload_n 0 (q := 5) dS_init_4 rfl (by rfl) rfl ?_
  refine ev_iload_n 1 (q := 6) dS_init_5 rfl (by rfl) rfl ?_
  refine ev_putF (v := zi n) (M' := M.set k (.inr (5, [zi n, zi 0, zi 0, zi 0, zi 0, zi 0]))) (q := 9) dS_init_6 gS_9 rfl rfl hM (fun _ _ => ⟨rfl, rfl⟩) (Nat.le_of_ble_eq_true rfl) rfl rfl rfl ?_
  refine ev_aload_n 0 (q := 10) dS_init_9 rfl (by rfl) rfl ?_
  refine ev_iload_n 2 (q := 11) dS_init_10 rfl (by rfl) rfl ?_
  refine ev_putF (v := zi kd) (M' := M.set k (.inr (5, [zi n, zi kd, zi 0, zi 0, zi 0, zi 0]))) (q := 14) dS_init_11 gS_15 rfl rfl (hs _) (fun _ _ => ⟨rfl, rfl⟩) (Nat.le_of_ble_eq_true rfl) rfl (hss _ _) rfl ?_
  refine ev_aload_n 0 (q := 15) dS_init_14 rfl (by rfl) rfl ?_
  refine ev_iload_n 3 (q := 16) dS_init_15 rfl (by rfl) rfl ?_
  refine ev_putF (v := zi x) (M' := M.set k (.inr (5, [zi n, zi kd, zi x, zi 0, zi 0, zi 0]))) (q := 19) dS_init_16 gS_18 rfl rfl (hs _) (fun _ _ => ⟨rfl, rfl⟩) (Nat.le_of_ble_eq_true rfl) rfl (hss _ _) rfl ?_
  refine ev_aload_n 0 (q := 20) dS_init_19 rfl (by rfl) rfl ?_
  refine ev_iload (q := 22) dS_init_20 (by rfl) rfl ?_
  refine ev_putF (v := zi y) (M' := M.set k (.inr (5, [zi n, zi kd, zi x, zi y, zi 0, zi 0]))) (q := 25) dS_init_22 gS_21 rfl rfl (hs _) (fun _ _ => ⟨rfl, rfl⟩) (Nat.le_of_ble_eq_true rfl) rfl (hss _ _) rfl ?_
  refine ev_aload_n 0 (q := 26) dS_init_25 rfl (by rfl) rfl ?_
  refine ev_iload (q := 28) dS_init_26 (by rfl) rfl ?_
  refine ev_putF (v := zi am) (M' := M.set k (.inr (5, [zi n, zi kd, zi x, zi y, zi am, zi 0]))) (q := 31) dS_init_28 gS_24 rfl rfl (hs _) (fun _ _ => ⟨rfl, rfl⟩) (Nat.le_of_ble_eq_true rfl) rfl (hss _ _) rfl ?_
  refine ev_aload_n 0 (q := 32) dS_init_31 rfl (by rfl) rfl ?_
  refine ev_iconst (v := iI (-1)) (q := 33) dS_init_32 rfl rfl ?_
  refine zr_puti (M' := M.set k (.inr (5, [zi n, zi kd, zi x, zi y, zi am, zi (-1)]))) (q := 36) dS_init_33 gS_27 (hs _) (Nat.le_of_ble_eq_true rfl) rfl (hss _ _) rfl ?_
  exact ev_ret dS_init_36 rfl ⟨rfl, rfl⟩

-- a new state
/-- every name of the log is of something that is there -/
def zLog (g : z_Gl) (γ : z_Sg) : Prop := ∀ x ∈ g.2.2.2, (x.1 = 0 ∧ 0 ≤ x.2 ∧ x.2 < γ 0 0) ∨ ((x.1 = 1 ∨ x.1 = 2) ∧ 0 ≤ x.2 ∧ x.2 < 2 * γ 0 0) ∨ (x.1 = 3 ∧ zEx γ x.2)
def gS (g : z_Gl) (s : Int) : z_Gl := (g.1, g.2.1, zup g.2.2.1 s (37 + g.2.2.2.length), g.2.2.2 ++ [(3, s)])
def oS (γ : z_Sg) (s kd x y am : Int) : z_Sg := z_up (z_up (z_up (z_up (z_up γ 34 s kd) 35 s x) 36 s y) 37 s am) 38 s (-1)
theorem oS_n {γ : z_Sg} {s kd x y am : Int} {c : Nat} (h0 : c ≠ 34) (h1 : c ≠ 35) (h2 : c ≠ 36) (h3 : c ≠ 37) (h4 : c ≠ 38) : oS γ s kd x y am c = γ c := by
  unfold oS
  rw [z_up_n h4, z_up_n h3, z_up_n h2, z_up_n h1, z_up_n h0]
theorem oS_m {γ : z_Sg} {s kd x y am : Int} {c : Nat} {i : Int} (h : i ≠ s) : oS γ s kd x y am c i = γ c i := by
  unfold oS z_up
  split
  · rename_i e; subst e; rw [zup_n h]; rfl
  · split
    · rename_i e; subst e; rw [zup_n h]; rfl
    · split
      · rename_i e; subst e; rw [zup_n h]; rfl
      · split
        · rename_i e; subst e; rw [zup_n h]; rfl
        · split
          · rename_i e; subst e; rw [zup_n h]
          · rfl
theorem zEx_oS {γ : z_Sg} {s kd x y am z : Int} : zEx (oS γ s kd x y am) z ↔ zEx γ z := by
  unfold zEx
  rw [oS_n (c := 0) (by decide) (by decide) (by decide) (by decide) (by decide), oS_n (c := 32) (by decide) (by decide) (by decide) (by decide) (by decide)]
theorem zH_len (g : z_Gl) (γ ρ : z_Sg) : (zH g γ ρ).length = 37 + g.2.2.2.length := by
  have l1 : (fixC γ g.1).length = 12 := rfl
  have l2 : (fixR ρ).length = 25 := rfl
  unfold zH zM
  rw [List.length_append, List.length_append, List.length_map, l1, l2]
  omega
theorem zH_new {g : z_Gl} {γ ρ : z_Sg} (hc : zC g γ) (hg : zLog g γ) {s kd x y am : Int} (hs : ¬ zEx γ s) : zH g γ ρ ++ [.inr (5, [zi s, zi kd, zi x, zi y, zi am, zi (-1)])] = zH (gS g s) (oS γ s kd x y am) ρ := by
  unfold zH zM
  show fixC γ g.1 ++ (fixR ρ ++ g.2.2.2.map (dyn g γ)) ++ _ = fixC γ g.1 ++ (fixR ρ ++ (g.2.2.2 ++ [(3, s)]).map (dyn (gS g s) (oS γ s kd x y am)))
  rw [List.map_append, List.append_assoc, List.append_assoc]
  congr 3
  · apply List.map_congr_left
    rintro ⟨k, i⟩ hx
    rcases hg _ hx with ⟨h1, h2, h3⟩ | ⟨h1, h2, h3⟩ | ⟨h1, h2⟩
    · simp only at h1
      subst h1
      rfl
    · rcases h1 with h1 | h1
      · simp only at h1
        subst h1
        rfl
      · simp only at h1
        subst h1
        show zP 3 4 (fun k => if 0 ≤ k ∧ k < γ 32 i then some (g.2.2.1 (γ 33 (4 * i + k))) else none) = zP 3 4 (fun k => if 0 ≤ k ∧ k < γ 32 i then some (zup g.2.2.1 s (37 + g.2.2.2.length) (γ 33 (4 * i + k))) else none)
        congr 1
        funext k
        by_cases hk : 0 ≤ k ∧ k < γ 32 i
        · rw [if_pos hk, if_pos hk, zup_n]
          intro e
          exact hs (e ▸ hc.2.2.1 i k h2 h3 hk.1 hk.2)
        · rw [if_neg hk, if_neg hk]
    · simp only at h1 h2
      subst h1
      have hi : i ≠ s := fun e => hs (e ▸ h2)
      show (.inr (5, [zi i, zi (γ 34 i), zi (γ 35 i), zi (γ 36 i), zi (γ 37 i), zi (γ 38 i)]) : va_E) = .inr (5, [zi i, zi (oS γ s kd x y am 34 i), zi (oS γ s kd x y am 35 i), zi (oS γ s kd x y am 36 i), zi (oS γ s kd x y am 37 i), zi (oS γ s kd x y am 38 i)])
      rw [oS_m hi, oS_m hi, oS_m hi, oS_m hi, oS_m hi]
  · show _ = [(.inr (5, [zi s, zi (oS γ s kd x y am 34 s), zi (oS γ s kd x y am 35 s), zi (oS γ s kd x y am 36 s), zi (oS γ s kd x y am 37 s), zi (oS γ s kd x y am 38 s)]) : va_E)]
    simp [oS, z_up, zup_s]
theorem zC_gS {g : z_Gl} {γ : z_Sg} (hc : zC g γ) (hg : zLog g γ) {s kd x y am : Int} (hs : ¬ zEx γ s) (h1 : 0 ≤ kd ∧ kd ≤ 2) (h2 : 0 ≤ x ∧ x ≤ 3) (h3 : 0 ≤ y ∧ y ≤ 3) (h4 : 0 ≤ am ∧ am ≤ 1000) : zC (gS g s) (oS γ s kd x y am) := by
  have k1 := zC_up hc (c := 34) (i := s) (v := kd) (by decide) (by decide) (by decide) h1.1 h1.2
  have k2 := zC_up k1 (c := 35) (i := s) (v := x) (by decide) (by decide) (by decide) h2.1 h2.2
  have k3 := zC_up k2 (c := 36) (i := s) (v := y) (by decide) (by decide) (by decide) h3.1 h3.2
  have k4 := zC_up k3 (c := 37) (i := s) (v := am) (by decide) (by decide) (by decide) h4.1 h4.2
  have k5 := zC_up k4 (c := 38) (i := s) (v := -1) (by decide) (by decide) (by decide) (show (-1 : Int) ≤ -1 by decide) (show (-1 : Int) ≤ 3 by decide)
  obtain ⟨a1, ⟨b1, b2, b3, b4⟩, a3⟩ := k5
  refine ⟨a1, ⟨?_, ?_, ?_, ?_⟩, a3⟩
  · show (g.2.2.2 ++ [(3, s)]).Nodup
    rw [List.nodup_append]
    refine ⟨b1, by simp, ?_⟩
    intro z hz w hw e
    simp only [List.mem_singleton] at hw
    subst e
    subst hw
    rcases hg _ hz with ⟨h, _⟩ | ⟨h, _⟩ | ⟨_, h⟩
    · exact absurd h (by simp)
    · exact absurd h (by simp)
    · exact hs h
  · intro t h0 h1
    have := b2 t h0 h1
    refine ⟨this.1, ?_⟩
    show (g.2.2.2 ++ [(3, s)])[g.1 t - 37]? = _
    rw [List.getElem?_append_left (List.getElem?_eq_some_iff.mp this.2).1]
    exact this.2
  · intro l h0 h1
    have := b3 l h0 h1
    refine ⟨this.1, ?_, ?_⟩
    · show (g.2.2.2 ++ [(3, s)])[g.2.1 l - 37]? = _
      rw [List.getElem?_append_left (List.getElem?_eq_some_iff.mp this.2.1).1]
      exact this.2.1
    · show (g.2.2.2 ++ [(3, s)])[g.2.1 l + 1 - 37]? = _
      rw [List.getElem?_append_left (List.getElem?_eq_some_iff.mp this.2.2).1]
      exact this.2.2
  · intro z hz
    have hz' : zEx γ z := zEx_oS.mp hz
    have hne : z ≠ s := fun e => hs (e ▸ hz')
    have := b4 z hz
    show 37 ≤ zup g.2.2.1 s _ z ∧ (g.2.2.2 ++ [(3, s)])[zup g.2.2.1 s _ z - 37]? = _
    rw [zup_n hne]
    refine ⟨this.1, ?_⟩
    rw [List.getElem?_append_left (List.getElem?_eq_some_iff.mp this.2).1]
    exact this.2
