theorem tH_isNotary {g : z_Gl} {γ : z_Sg} (hc : zC g γ) {n : Int} (h : cH_isNotary γ n ≠ 0) : 4 ≤ n ∧ n ≤ 5 := by
  unfold cH_isNotary at h
  repeat' split at h
  all_goals first | exact absurd rfl h | omega
theorem zH_begin {g : z_Gl} {γ ρ : z_Sg} (hc : zC g γ) (hg : zLog g γ) {t nd no fr un : Int} (ht : γ 0 0 = t) : ((zH g γ ρ ++ [.inr (3, [zi t, zi nd, zi no, zi fr, zi un, .ref ((37 + g.2.2.2.length) + 1), .ref ((37 + g.2.2.2.length) + 3), zi 0, zi 0, zi 0, zi 0, zi 0, zi 0, zi 0, zi 0]), .inr (4, [.ref ((37 + g.2.2.2.length) + 1 + 1), zi 0]), zP 3 4 (fun _ => none), .inr (4, [.ref ((37 + g.2.2.2.length) + 3 + 1), zi 0]), zP 3 4 (fun _ => none)]).set 1 (zP 2 20 (zup (fun i => if 0 ≤ i ∧ i < γ 0 0 then some (g.1 i) else none) t (some (37 + g.2.2.2.length))))).set 0 (.inr (0, [.ref 1, zi (t + 1), .ref 2, .ref 7, .ref 9, .ref 10, .ref 11, zi (γ 1 0)])) = zH (gB g t) (bT γ t nd no fr un) ρ := by
  have g0 : 0 ≤ γ 0 0 ∧ γ 0 0 ≤ 20 := hc.1 0 0 (by decide)
  have hX : (fun i : Int => if 0 ≤ i ∧ i < t + 1 then some (zup g.1 t (37 + g.2.2.2.length) i) else none) = zup (fun i => if 0 ≤ i ∧ i < γ 0 0 then some (g.1 i) else none) t (some (37 + g.2.2.2.length)) := by
    funext i
    by_cases e : i = t
    · subst e
      rw [zup_s, zup_s, if_pos ⟨by omega, by omega⟩]
    · rw [zup_n e, zup_n e]
      by_cases h : 0 ≤ i ∧ i < γ 0 0
      · rw [if_pos h, if_pos ⟨by omega, by omega⟩]
      · rw [if_neg h, if_neg (by omega)]
  rw [← hX]
  have hR : g.2.2.2.map (dyn g γ) ++ [.inr (3, [zi t, zi nd, zi no, zi fr, zi un, .ref ((37 + g.2.2.2.length) + 1), .ref ((37 + g.2.2.2.length) + 3), zi 0, zi 0, zi 0, zi 0, zi 0, zi 0, zi 0, zi 0]), .inr (4, [.ref ((37 + g.2.2.2.length) + 1 + 1), zi 0]), zP 3 4 (fun _ => none), .inr (4, [.ref ((37 + g.2.2.2.length) + 3 + 1), zi 0]), zP 3 4 (fun _ => none)] = (g.2.2.2 ++ [((0 : Nat), t), (1, 2 * t), (2, 2 * t), (1, 2 * t + 1), (2, 2 * t + 1)]).map (dyn (gB g t) (bT γ t nd no fr un)) := by
    rw [List.map_append]
    congr 1
    · apply List.map_congr_left
      rintro ⟨k, i⟩ hx
      rcases hg _ hx with ⟨h1, h2, h3⟩ | ⟨h1, h2, h3⟩ | ⟨h1, h2⟩
      · simp only at h1 h2 h3
        subst h1
        have hi : i ≠ t := by omega
        simp [dyn, bT, gB, z_up, zup_n hi, zup_n (show 2 * i ≠ 2 * t + 1 by omega), zup_n (show 2 * i ≠ 2 * t by omega), zup_n (show 2 * i + 1 ≠ 2 * t + 1 by omega), zup_n (show 2 * i + 1 ≠ 2 * t by omega)]
      · simp only at h1 h2 h3
        rcases h1 with h1 | h1
        · subst h1
          simp [dyn, bT, gB, z_up, zup_n (show i ≠ 2 * t + 1 by omega), zup_n (show i ≠ 2 * t by omega)]
        · subst h1
          show zP 3 4 (fun k => if 0 ≤ k ∧ k < γ 32 i then some (g.2.2.1 (γ 33 (4 * i + k))) else none) = zP 3 4 (fun k => if 0 ≤ k ∧ k < zup (zup (γ 32) (2 * t) 0) (2 * t + 1) 0 i then some (g.2.2.1 (γ 33 (4 * i + k))) else none)
          rw [zup_n (show i ≠ 2 * t + 1 by omega), zup_n (show i ≠ 2 * t by omega)]
      · simp only at h1
        subst h1
        rfl
    · have e0 : dyn (gB g t) (bT γ t nd no fr un) (0, t) = .inr (3, [zi t, zi nd, zi no, zi fr, zi un, .ref ((37 + g.2.2.2.length) + 1), .ref ((37 + g.2.2.2.length) + 3), zi 0, zi 0, zi 0, zi 0, zi 0, zi 0, zi 0, zi 0]) := by
        simp [dyn, bT, gB, z_up, zup_s, zup_n (show 2 * t ≠ 2 * t + 1 by omega)]
      have e1 : dyn (gB g t) (bT γ t nd no fr un) (1, 2 * t) = .inr (4, [.ref ((37 + g.2.2.2.length) + 1 + 1), zi 0]) := by
        simp [dyn, bT, gB, z_up, zup_s, zup_n (show 2 * t ≠ 2 * t + 1 by omega)]
      have e3 : dyn (gB g t) (bT γ t nd no fr un) (1, 2 * t + 1) = .inr (4, [.ref ((37 + g.2.2.2.length) + 3 + 1), zi 0]) := by
        simp [dyn, bT, gB, z_up, zup_s]
      have e2 : ∀ i : Int, i = 2 * t ∨ i = 2 * t + 1 → dyn (gB g t) (bT γ t nd no fr un) (2, i) = zP 3 4 (fun _ => none) := by
        intro i hi
        show zP 3 4 (fun k => if 0 ≤ k ∧ k < zup (zup (γ 32) (2 * t) 0) (2 * t + 1) 0 i then some (g.2.2.1 (γ 33 (4 * i + k))) else none) = _
        congr 1
        funext k
        have : zup (zup (γ 32) (2 * t) 0) (2 * t + 1) 0 i = 0 := by
          rcases hi with rfl | rfl
          · rw [zup_n (by omega), zup_s]
          · rw [zup_s]
        rw [this, if_neg (by omega)]
      show _ = [_, _, _, _, _]
      rw [e0, e1, e2 _ (Or.inl rfl), e3, e2 _ (Or.inr rfl)]
  show _ = fixC (bT γ t nd no fr un) (zup g.1 t (37 + g.2.2.2.length)) ++ (fixR ρ ++ (g.2.2.2 ++ [((0 : Nat), t), (1, 2 * t), (2, 2 * t), (1, 2 * t + 1), (2, 2 * t + 1)]).map (dyn (gB g t) (bT γ t nd no fr un)))
  rw [← hR]
  unfold zH zM
  rw [List.append_assoc, List.append_assoc]
  rfl

set_option maxRecDepth 100000 in
set_option maxHeartbeats 4000000 in
theorem eH_begin_45 {g : z_Gl} {γ ρ : z_Sg} (hc : zC g γ) (hg : zLog g γ) (t nd no fr un : Int) (x5 : Value) (ht : γ 0 0 = t) (h19 : t ≤ 19) (h1 : 0 ≤ nd ∧ nd ≤ 3) (h2 : 0 ≤ no ∧ no ≤ 5) (h3 : 0 ≤ fr ∧ fr ≤ 1000000) (h4 : 0 ≤ un ∧ un ≤ 1000000) : z_Ev mH_begin (3, 65) 5 27 45 [.ref 0, zi nd, zi no, zi fr, zi un, x5] [] (zH g γ ρ) (fun r M' => r = some (zi t) ∧ zOk (bT γ t nd no fr un) ρ M') := by
  have g0 : 0 ≤ γ 0 0 ∧ γ 0 0 ≤ 20 := hc.1 0 0 (by decide)
  have w := wH_begin hc hg ht h19 h1 h2 h3 h4
  have hln := zH_len g γ ρ
  refine ev_aload_n 0 (q := 46) dH_begin_45 rfl (by rfl) rfl ?_
  refine ev_get (q := 49) (v := zi t) dH_begin_46 fH_53 at_H (congrArg (fun z => some (zi z)) ht) rfl ?_
  refine ev_istore (q := 51) dH_begin_49 (by decide) rfl rfl ?_
  dsimp only [List.set]
  refine ev_aload_n 0 (q := 52) dH_begin_51 rfl (by rfl) rfl ?_
  refine ev_get (q := 55) dH_begin_52 fH_11 at_H (by rfl) rfl ?_
  refine ev_iload (q := 57) dH_begin_55 (by rfl) rfl ?_
  refine ev_new (n := 15) (kc := 4) (ks := 12) (q := 60) dH_begin_57 nH_9 rfl ?_
  rw [hln]
  refine ev_dup (q := 61) dH_begin_60 rfl rfl ?_
  refine ev_iload (q := 63) dH_begin_61 (by rfl) rfl ?_
  refine ev_iload_n 1 (q := 64) dH_begin_63 rfl (by rfl) rfl ?_
  refine ev_iload_n 2 (q := 65) dH_begin_64 rfl (by rfl) rfl ?_
  refine ev_iload_n 3 (q := 66) dH_begin_65 rfl (by rfl) rfl ?_
  refine ev_iload (q := 68) dH_begin_66 (by rfl) rfl ?_
  refine cv_I (As := [_, _, _, _, _]) (kc := 0) (ks := 0) (q := 71) dH_begin_68 kH_57 rfl (Nat.le_of_ble_eq_true rfl) rfl rfl rfl rfl rfl (by decide) (sT_init hln t nd no fr un) ?_
  have hv : (zH g γ ρ ++ [.inr (3, [zi t, zi nd, zi no, zi fr, zi un, .ref ((37 + g.2.2.2.length) + 1), .ref ((37 + g.2.2.2.length) + 3), zi 0, zi 0, zi 0, zi 0, zi 0, zi 0, zi 0, zi 0]), .inr (4, [.ref ((37 + g.2.2.2.length) + 1 + 1), zi 0]), zP 3 4 (fun _ => none), .inr (4, [.ref ((37 + g.2.2.2.length) + 3 + 1), zi 0]), zP 3 4 (fun _ => none)])[(37 + g.2.2.2.length)]? = some (.inr (3, [zi t, zi nd, zi no, zi fr, zi un, .ref ((37 + g.2.2.2.length) + 1), .ref ((37 + g.2.2.2.length) + 3), zi 0, zi 0, zi 0, zi 0, zi 0, zi 0, zi 0, zi 0])) := by
    rw [← hln]
    exact at0 _ _ _
  refine zr_aast (q := 72) (f := (fun i => if 0 ≤ i ∧ i < γ 0 0 then some (g.1 i) else none)) dH_begin_71 (fun _ => ⟨_, rfl, rfl⟩) (k := 1) (by rfl) hv (by decide) ⟨by omega, by omega⟩ rfl rfl ?_
  refine ev_aload_n 0 (q := 73) dH_begin_72 rfl (by rfl) rfl ?_
  refine ev_dup (q := 74) dH_begin_73 rfl rfl ?_
  refine ev_get (k := 0) (q := 77) (v := zi t) dH_begin_74 fH_53 (fs := [.ref 1, zi (γ 0 0), .ref 2, .ref 7, .ref 9, .ref 10, .ref 11, zi (γ 1 0)]) (by rfl) (congrArg (fun z => some (zi z)) ht) rfl ?_
  refine ev_iconst (v := iI 1) (q := 78) dH_begin_77 rfl rfl ?_
  refine zr_iadd (q := 79) dH_begin_78 rfl ?_
  refine zr_puti (k := 0) (fs := [.ref 1, zi (γ 0 0), .ref 2, .ref 7, .ref 9, .ref 10, .ref 11, zi (γ 1 0)]) (q := 82) dH_begin_79 gH_53 (by rfl) (Nat.le_of_ble_eq_true rfl) rfl (zH_begin hc hg ht) rfl ?_
  refine ev_iload (q := 84) dH_begin_82 (by rfl) rfl ?_
  exact zr_iret dH_begin_84 rfl ⟨rfl, ⟨_, rfl, w⟩⟩

def cH_begin (γ : z_Sg) (nd no fr un : Int) : Int × z_Sg := if (cH_isNode γ nd) = 0 then ((-1), γ) else if (cH_isNotary γ no) = 0 then ((-1), γ) else if fr < 0 then ((-1), γ) else if un ≤ fr then ((-1), γ) else if un ≤ 1000000 then if (γ 0 0) < 20 then (γ 0 0, bT γ (γ 0 0) nd no fr un) else ((-6), γ) else ((-1), γ)
set_option maxRecDepth 100000 in
set_option maxHeartbeats 4000000 in
theorem sH_begin {g : z_Gl} {γ ρ : z_Sg} (hc : zC g γ) (hg : zLog g γ) (nd no fr un : Int) (hp0 : z_rg nd) (hp1 : z_rg no) (hp2 : z_rg fr) (hp3 : z_rg un) : z_Sp mH_begin (3, 65) 5 27 [.ref (0), zi nd, zi no, zi fr, zi un] (zH g γ ρ) (fun r M' => r = some (zi (cH_begin γ nd no fr un).1) ∧ zOk (cH_begin γ nd no fr un).2 ρ M') := by
  refine z_Sp_of (L := [.ref (0), zi nd, zi no, zi fr, zi un, .float 0]) (by decide) rfl rfl rfl (Nat.le_of_ble_eq_true rfl) ?_
  have g0 : 0 ≤ γ 0 0 ∧ γ 0 0 ≤ 20 := hc.1 0 0 (by decide)
  refine ev_iload_n 1 (q := 1) dH_begin_0 rfl (by rfl) rfl ?_
  refine cv_S (As := [_]) (q := 4) dH_begin_1 kH_45 rfl (Nat.le_of_ble_eq_true rfl) rfl rfl rfl (by decide) (sH_isNode hc nd ⟨by omega, by omega⟩ ) ?_
  have g1 : (cH_isNode γ nd) = 0 ∨ (cH_isNode γ nd) = 1 := bH_isNode _ _
  refine zr_if_eq (t := 31) (q := 7) dH_begin_4 rfl rfl ⟨by omega, by omega⟩ (fun h2 => ?_) (fun h2 => ?_)
  · refine ev_iconst (v := iI (-1)) (q := 32) dH_begin_31 rfl rfl ?_
    exact zr_iret dH_begin_32 rfl ⟨by rw [cH_begin, if_pos h2], by rw [cH_begin, if_pos h2]; exact ⟨g, rfl, hc, hg⟩⟩
  · have f11 := tH_isNode hc h2
    refine ev_iload_n 2 (q := 8) dH_begin_7 rfl (by rfl) rfl ?_
    refine cv_S (As := [_]) (q := 11) dH_begin_8 kH_49 rfl (Nat.le_of_ble_eq_true rfl) rfl rfl rfl (by decide) (sH_isNotary hc no ⟨by omega, by omega⟩ ) ?_
    have g3 : (cH_isNotary γ no) = 0 ∨ (cH_isNotary γ no) = 1 := bH_isNotary _ _
    refine zr_if_eq (t := 31) (q := 14) dH_begin_11 rfl rfl ⟨by omega, by omega⟩ (fun h4 => ?_) (fun h4 => ?_)
    · refine ev_iconst (v := iI (-1)) (q := 32) dH_begin_31 rfl rfl ?_
      exact zr_iret dH_begin_32 rfl ⟨by rw [cH_begin, if_neg h2, if_pos h4], by rw [cH_begin, if_neg h2, if_pos h4]; exact ⟨g, rfl, hc, hg⟩⟩
    · have f10 := tH_isNotary hc h4
      refine ev_iload_n 3 (q := 15) dH_begin_14 rfl (by rfl) rfl ?_
      refine zr_if_lt (t := 31) (q := 18) dH_begin_15 rfl rfl ⟨by omega, by omega⟩ (fun h5 => ?_) (fun h5 => ?_)
      · refine ev_iconst (v := iI (-1)) (q := 32) dH_begin_31 rfl rfl ?_
        exact zr_iret dH_begin_32 rfl ⟨by rw [cH_begin, if_neg h2, if_neg h4, if_pos h5], by rw [cH_begin, if_neg h2, if_neg h4, if_pos h5]; exact ⟨g, rfl, hc, hg⟩⟩
      · refine ev_iload_n 3 (q := 19) dH_begin_18 rfl (by rfl) rfl ?_
        refine ev_iload (q := 21) dH_begin_19 (by rfl) rfl ?_
        refine zr_icmp_ge (t := 31) (q := 24) dH_begin_21 rfl rfl ⟨by omega, by omega⟩ ⟨by omega, by omega⟩ (fun h6 => ?_) (fun h6 => ?_)
        · refine ev_iconst (v := iI (-1)) (q := 32) dH_begin_31 rfl rfl ?_
          exact zr_iret dH_begin_32 rfl ⟨by rw [cH_begin, if_neg h2, if_neg h4, if_neg (Int.not_lt.mpr h5), if_pos h6], by rw [cH_begin, if_neg h2, if_neg h4, if_neg (Int.not_lt.mpr h5), if_pos h6]; exact ⟨g, rfl, hc, hg⟩⟩
        · refine ev_iload (q := 26) dH_begin_24 (by rfl) rfl ?_
          refine ev_ldc (v := iI 1000000) (q := 28) dH_begin_26 wkH_52 rfl ?_
          refine zr_icmp_le (t := 33) (q := 31) dH_begin_28 rfl rfl ⟨by omega, by omega⟩ ⟨by omega, by omega⟩ (fun h7 => ?_) (fun h7 => ?_)
          · refine ev_aload_n 0 (q := 34) dH_begin_33 rfl (by rfl) rfl ?_
            refine ev_get (q := 37) (v := zi (γ 0 0)) dH_begin_34 fH_53 at_H rfl rfl ?_
            have g8 : 0 ≤ γ 0 0 ∧ γ 0 0 ≤ 20 := hc.1 0 0 (by decide)
            refine ev_bipush (v := iI 20) (q := 39) dH_begin_37 (by decide) rfl ?_
            refine zr_icmp_lt (t := 45) (q := 42) dH_begin_39 rfl rfl ⟨by omega, by omega⟩ ⟨by omega, by omega⟩ (fun h9 => ?_) (fun h9 => ?_)
            · rw [show cH_begin γ nd no fr un = (γ 0 0, bT γ (γ 0 0) nd no fr un) from by rw [cH_begin, if_neg h2, if_neg h4, if_neg (Int.not_lt.mpr h5), if_neg (Int.not_le.mpr h6), if_pos h7, if_pos h9]]
              exact eH_begin_45 hc hg (γ 0 0) nd no fr un _ rfl (by omega) ⟨by omega, by omega⟩ ⟨by omega, by omega⟩ ⟨by omega, by omega⟩ ⟨by omega, by omega⟩
            · refine ev_bipush (v := iI (-6)) (q := 44) dH_begin_42 (by decide) rfl ?_
              exact zr_iret dH_begin_44 rfl ⟨by rw [cH_begin, if_neg h2, if_neg h4, if_neg (Int.not_lt.mpr h5), if_neg (Int.not_le.mpr h6), if_pos h7, if_neg (Int.not_lt.mpr h9)], by rw [cH_begin, if_neg h2, if_neg h4, if_neg (Int.not_lt.mpr h5), if_neg (Int.not_le.mpr h6), if_pos h7, if_neg (Int.not_lt.mpr h9)]; exact ⟨g, rfl, hc, hg⟩⟩
          · refine ev_iconst (v := iI (-1)) (q := 32) dH_begin_31 rfl rfl ?_
            exact zr_iret dH_begin_32 rfl ⟨by rw [cH_begin, if_neg h2, if_neg h4, if_neg (Int.not_lt.mpr h5), if_neg (Int.not_le.mpr h6), if_neg (Int.not_le.mpr h7)], by rw [cH_begin, if_neg h2, if_neg h4, if_neg (Int.not_lt.mpr h5), if_neg (Int.not_le.mpr h6), if_neg (Int.not_le.mpr h7)]; exact ⟨g, rfl, hc, hg⟩⟩
