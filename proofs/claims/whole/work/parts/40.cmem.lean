-- the class's own cells (written by wip/whole/clsmem.py)
abbrev z_Gl : Type := (Int → Nat) × (Int → Nat) × (Int → Nat) × List (Nat × Int)
def dyn (g : z_Gl) (γ : z_Sg) (x : Nat × Int) : va_E := match x.1 with
  | 0 => .inr (3, [zi x.2, zi (γ 20 x.2), zi (γ 21 x.2), zi (γ 22 x.2), zi (γ 23 x.2), .ref (g.2.1 (2 * x.2)), .ref (g.2.1 (2 * x.2 + 1)), zi (γ 24 x.2), zi (γ 25 x.2), zi (γ 26 x.2), zi (γ 27 x.2), zi (γ 28 x.2), zi (γ 29 x.2), zi (γ 30 x.2), zi (γ 31 x.2)])
  | 1 => .inr (4, [.ref (g.2.1 x.2 + 1), zi (γ 32 x.2)])
  | 2 => zP 3 4 (fun k => if 0 ≤ k ∧ k < γ 32 x.2 then some (g.2.2.1 (γ 33 (4 * x.2 + k))) else none)
  | 3 => .inr (5, [zi x.2, zi (γ 34 x.2), zi (γ 35 x.2), zi (γ 36 x.2), zi (γ 37 x.2), zi (γ 38 x.2)])
  | _ => .inr (5, [])
def zH (g : z_Gl) (γ ρ : z_Sg) : List va_E := zM γ g.1 ρ (g.2.2.2.map (dyn g γ))
/-- the state s is there -/
def zEx (γ : z_Sg) (s : Int) : Prop := 0 ≤ s ∧ s / 4 < γ 0 0 ∧ s % 4 < γ 32 (2 * (s / 4) + 1)
/-- where the cells lie -/
def zLay (g : z_Gl) (γ : z_Sg) : Prop := g.2.2.2.Nodup ∧ (∀ t : Int, 0 ≤ t → t < γ 0 0 → 37 ≤ g.1 t ∧ g.2.2.2[g.1 t - 37]? = some (0, t)) ∧ (∀ l : Int, 0 ≤ l → l < 2 * γ 0 0 → 37 ≤ g.2.1 l ∧ g.2.2.2[g.2.1 l - 37]? = some (1, l) ∧ g.2.2.2[g.2.1 l + 1 - 37]? = some (2, l)) ∧ ∀ s : Int, zEx γ s → 37 ≤ g.2.2.1 s ∧ g.2.2.2[g.2.2.1 s - 37]? = some (3, s)
/-- what lies in a list is there; an output is the state of its own place -/
def zEl (γ : z_Sg) : Prop := (∀ l k : Int, 0 ≤ l → l < 2 * γ 0 0 → 0 ≤ k → k < γ 32 l → zEx γ (γ 33 (4 * l + k))) ∧ ∀ t k : Int, 0 ≤ t → t < γ 0 0 → 0 ≤ k → k < γ 32 (2 * t + 1) → γ 33 (4 * (2 * t + 1) + k) = 4 * t + k
def c_lo (c : Nat) : Int := match c with
  | 0 => 0
  | 1 => 0
  | 2 => 0
  | 3 => 0
  | 5 => 0
  | 6 => 0
  | 7 => 0
  | 8 => -1
  | 9 => 0
  | 10 => -2147483648
  | 20 => 0
  | 21 => 0
  | 22 => 0
  | 23 => 0
  | 24 => 0
  | 25 => 0
  | 26 => 0
  | 27 => 0
  | 28 => 0
  | 29 => 0
  | 30 => 0
  | 31 => 0
  | 32 => 0
  | 33 => 0
  | 34 => 0
  | 35 => 0
  | 36 => 0
  | 37 => 0
  | 38 => -1
  | _ => -2147483648
def c_hi (c : Nat) : Int := match c with
  | 0 => 20
  | 1 => 1000000
  | 2 => 1048575
  | 3 => 1048575
  | 5 => 15
  | 6 => 220
  | 7 => 131071
  | 8 => 19
  | 9 => 79
  | 10 => 2147483647
  | 20 => 3
  | 21 => 5
  | 22 => 1000000
  | 23 => 1000000
  | 24 => 1048575
  | 25 => 9
  | 26 => 15
  | 27 => 1
  | 28 => 15
  | 29 => 15
  | 30 => 15
  | 31 => 4
  | 32 => 4
  | 33 => 79
  | 34 => 2
  | 35 => 3
  | 36 => 3
  | 37 => 1000
  | 38 => 3
  | _ => 2147483647
def c_wf (γ : z_Sg) : Prop := ∀ (c : Nat) (i : Int), c ≠ 4 → c_lo c ≤ γ c i ∧ γ c i ≤ c_hi c
def zC (g : z_Gl) (γ : z_Sg) : Prop := c_wf γ ∧ zLay g γ ∧ zEl γ
theorem zH_at {g : z_Gl} {γ ρ : z_Sg} {n : Nat} {x : Nat × Int} (h : 37 ≤ n) (hx : g.2.2.2[n - 37]? = some x) : (zH g γ ρ)[n]? = some (dyn g γ x) := by
  unfold zH zM
  have h1 : (fixC γ g.1).length = 12 := rfl
  have h2 : (fixR ρ).length = 25 := rfl
  rw [List.getElem?_append_right (by omega), List.getElem?_append_right (by omega), List.getElem?_map, h1, h2]
  rw [show n - 12 - 25 = n - 37 by omega, hx]
  rfl
theorem zH_set {g : z_Gl} {γ γ' ρ : z_Sg} {n : Nat} {x : Nat × Int} {c : va_E} (hn : g.2.2.2.Nodup) (h : 37 ≤ n) (hx : g.2.2.2[n - 37]? = some x) (h1 : fixC γ' g.1 = fixC γ g.1) (h2 : dyn g γ' x = c) (h3 : ∀ y : Nat × Int, y ≠ x → dyn g γ' y = dyn g γ y) : (zH g γ ρ).set n c = zH g γ' ρ := by
  apply List.ext_getElem?
  intro i
  by_cases hi : n = i
  · subst hi
    have hl : n < (zH g γ ρ).length := (List.getElem?_eq_some_iff.mp (zH_at (γ := γ) (ρ := ρ) h hx)).1
    rw [List.getElem?_set_self hl, zH_at h hx, h2]
  · rw [List.getElem?_set_ne hi]
    by_cases h37 : 37 ≤ i
    · have l1 : (fixC γ g.1).length = 12 := rfl
      have l1' : (fixC γ' g.1).length = 12 := rfl
      have l2 : (fixR ρ).length = 25 := rfl
      unfold zH zM
      rw [List.getElem?_append_right (by omega), List.getElem?_append_right (by omega), List.getElem?_append_right (by omega), List.getElem?_append_right (by omega), List.getElem?_map, List.getElem?_map, l1, l1', l2]
      cases hy : g.2.2.2[i - 12 - 25]? with
      | none => rfl
      | some y =>
        rw [Option.map_some, Option.map_some, h3 y]
        rintro rfl
        have hlt : i - 12 - 25 < g.2.2.2.length := (List.getElem?_eq_some_iff.mp hy).1
        have := (List.getElem?_inj hlt hn).mp (hy.trans hx.symm)
        omega
    · have l1 : (fixC γ g.1).length = 12 := rfl
      have l2 : (fixR ρ).length = 25 := rfl
      unfold zH zM
      have hl : i < (fixC γ g.1 ++ fixR ρ).length := by rw [List.length_append]; omega
      rw [h1, ← List.append_assoc, ← List.append_assoc, List.getElem?_append_left hl, List.getElem?_append_left hl]
section
variable {g : z_Gl} {γ ρ : z_Sg}
theorem at_T (h : zLay g γ) {t : Int} (ht : 0 ≤ t ∧ t < γ 0 0) : (zH g γ ρ)[g.1 t]? = some (.inr (3, [zi t, zi (γ 20 t), zi (γ 21 t), zi (γ 22 t), zi (γ 23 t), .ref (g.2.1 (2 * t)), .ref (g.2.1 (2 * t + 1)), zi (γ 24 t), zi (γ 25 t), zi (γ 26 t), zi (γ 27 t), zi (γ 28 t), zi (γ 29 t), zi (γ 30 t), zi (γ 31 t)])) := zH_at (h.2.1 t ht.1 ht.2).1 (h.2.1 t ht.1 ht.2).2
theorem at_L (h : zLay g γ) {l : Int} (hl : 0 ≤ l ∧ l < 2 * γ 0 0) : (zH g γ ρ)[g.2.1 l]? = some (.inr (4, [.ref (g.2.1 l + 1), zi (γ 32 l)])) := zH_at (h.2.2.1 l hl.1 hl.2).1 (h.2.2.1 l hl.1 hl.2).2.1
theorem at_E (h : zLay g γ) {l : Int} (hl : 0 ≤ l ∧ l < 2 * γ 0 0) : (zH g γ ρ)[g.2.1 l + 1]? = some (zP 3 4 (fun k => if 0 ≤ k ∧ k < γ 32 l then some (g.2.2.1 (γ 33 (4 * l + k))) else none)) := zH_at (by have := (h.2.2.1 l hl.1 hl.2).1; omega) (h.2.2.1 l hl.1 hl.2).2.2
theorem at_S (h : zLay g γ) {s : Int} (hs : zEx γ s) : (zH g γ ρ)[g.2.2.1 s]? = some (.inr (5, [zi s, zi (γ 34 s), zi (γ 35 s), zi (γ 36 s), zi (γ 37 s), zi (γ 38 s)])) := zH_at (h.2.2.2 s hs).1 (h.2.2.2 s hs).2
theorem at_H : (zH g γ ρ)[0]? = some (.inr (0, [.ref 1, zi (γ 0 0), .ref 2, .ref 7, .ref 9, .ref 10, .ref 11, zi (γ 1 0)])) := rfl
theorem at_txs : (zH g γ ρ)[1]? = some (zP 2 20 (fun i => if 0 ≤ i ∧ i < γ 0 0 then some (g.1 i) else none)) := rfl
theorem at_nodes : (zH g γ ρ)[2]? = some (zP 4 4 (fun i => if 0 ≤ i ∧ i < 4 then some (3 + i.toNat) else none)) := rfl
theorem at_N {n : Int} (h : 0 ≤ n ∧ n ≤ 3) : (zH g γ ρ)[3 + n.toNat]? = some (.inr (1, [zi (γ 2 n), zi (γ 3 n), zi (γ 4 n), zi (γ 5 n)])) := by
  have hc : n = 0 ∨ n = 1 ∨ n = 2 ∨ n = 3 := by omega
  rcases hc with rfl | rfl | rfl | rfl <;> rfl
theorem at_B : (zH g γ ρ)[7]? = some (.inr (2, [.ref 8, zi (γ 6 0)])) := rfl
theorem at_codes : (zH g γ ρ)[8]? = some (zA 0 220 (γ 7)) := rfl
theorem at_spenders : (zH g γ ρ)[9]? = some (zA 0 80 (γ 8)) := rfl
theorem at_coins : (zH g γ ρ)[10]? = some (zA 0 80 (γ 9)) := rfl
theorem at_treeRow : (zH g γ ρ)[11]? = some (zA 0 16 (γ 10)) := rfl
theorem dyn_up {c : Nat} (h : c < 20) {i v : Int} : dyn g (z_up γ c i v) = dyn g γ := by
  funext x
  have e : ∀ k : Nat, z_up γ c i v (20 + k) = γ (20 + k) := fun k => z_up_n (by omega)
  have e0 := e 0; have e1 := e 1; have e2 := e 2; have e3 := e 3; have e4 := e 4; have e5 := e 5; have e6 := e 6; have e7 := e 7; have e8 := e 8; have e9 := e 9; have e10 := e 10; have e11 := e 11; have e12 := e 12; have e13 := e 13; have e14 := e 14; have e15 := e 15; have e16 := e 16; have e17 := e 17; have e18 := e 18
  simp only [Nat.reduceAdd] at e0 e1 e2 e3 e4 e5 e6 e7 e8 e9 e10 e11 e12 e13 e14 e15 e16 e17 e18
  unfold dyn
  rw [e0, e1, e2, e3, e4, e5, e6, e7, e8, e9, e10, e11, e12, e13, e14, e15, e16, e17, e18]
theorem ct_codes {i v : Int} : (zH g γ ρ).set 8 (zA 0 220 (zup (γ 7) i v)) = zH g (z_up γ 7 i v) ρ := by
  unfold zH
  rw [dyn_up (by decide)]
  rfl
theorem ct_spenders {i v : Int} : (zH g γ ρ).set 9 (zA 0 80 (zup (γ 8) i v)) = zH g (z_up γ 8 i v) ρ := by
  unfold zH
  rw [dyn_up (by decide)]
  rfl
theorem ct_coins {i v : Int} : (zH g γ ρ).set 10 (zA 0 80 (zup (γ 9) i v)) = zH g (z_up γ 9 i v) ρ := by
  unfold zH
  rw [dyn_up (by decide)]
  rfl
theorem ct_treeRow {i v : Int} : (zH g γ ρ).set 11 (zA 0 16 (zup (γ 10) i v)) = zH g (z_up γ 10 i v) ρ := by
  unfold zH
  rw [dyn_up (by decide)]
  rfl
theorem ct_clock {v : Int} : (zH g γ ρ).set 0 (.inr (0, [.ref 1, zi (γ 0 0), .ref 2, .ref 7, .ref 9, .ref 10, .ref 11, zi v])) = zH g (z_up γ 1 0 v) ρ := by
  unfold zH
  rw [dyn_up (by decide)]
  rfl
theorem ct_count {v : Int} : (zH g γ ρ).set 7 (.inr (2, [.ref 8, zi v])) = zH g (z_up γ 6 0 v) ρ := by
  unfold zH
  rw [dyn_up (by decide)]
  rfl
theorem ct_known {n v : Int} (h : 0 ≤ n ∧ n ≤ 3) : (zH g γ ρ).set (3 + n.toNat) (.inr (1, [zi v, zi (γ 3 n), zi (γ 4 n), zi (γ 5 n)])) = zH g (z_up γ 2 n v) ρ := by
  unfold zH
  rw [dyn_up (by decide)]
  have hc : n = 0 ∨ n = 1 ∨ n = 2 ∨ n = 3 := by omega
  rcases hc with rfl | rfl | rfl | rfl <;> rfl
theorem ct_recorded {n v : Int} (h : 0 ≤ n ∧ n ≤ 3) : (zH g γ ρ).set (3 + n.toNat) (.inr (1, [zi (γ 2 n), zi v, zi (γ 4 n), zi (γ 5 n)])) = zH g (z_up γ 3 n v) ρ := by
  unfold zH
  rw [dyn_up (by decide)]
  have hc : n = 0 ∨ n = 1 ∨ n = 2 ∨ n = 3 := by omega
  rcases hc with rfl | rfl | rfl | rfl <;> rfl
theorem ct_fetchedCount {n v : Int} (h : 0 ≤ n ∧ n ≤ 3) : (zH g γ ρ).set (3 + n.toNat) (.inr (1, [zi (γ 2 n), zi (γ 3 n), zi v, zi (γ 5 n)])) = zH g (z_up γ 4 n v) ρ := by
  unfold zH
  rw [dyn_up (by decide)]
  have hc : n = 0 ∨ n = 1 ∨ n = 2 ∨ n = 3 := by omega
  rcases hc with rfl | rfl | rfl | rfl <;> rfl
theorem ct_consents {n v : Int} (h : 0 ≤ n ∧ n ≤ 3) : (zH g γ ρ).set (3 + n.toNat) (.inr (1, [zi (γ 2 n), zi (γ 3 n), zi (γ 4 n), zi v])) = zH g (z_up γ 5 n v) ρ := by
  unfold zH
  rw [dyn_up (by decide)]
  have hc : n = 0 ∨ n = 1 ∨ n = 2 ∨ n = 3 := by omega
  rcases hc with rfl | rfl | rfl | rfl <;> rfl
theorem ct_initiator (h : zLay g γ) {t v : Int} (ht : 0 ≤ t ∧ t < γ 0 0) : (zH g γ ρ).set (g.1 t) (.inr (3, [zi t, zi v, zi (γ 21 t), zi (γ 22 t), zi (γ 23 t), .ref (g.2.1 (2 * t)), .ref (g.2.1 (2 * t + 1)), zi (γ 24 t), zi (γ 25 t), zi (γ 26 t), zi (γ 27 t), zi (γ 28 t), zi (γ 29 t), zi (γ 30 t), zi (γ 31 t)])) = zH g (z_up γ 20 t v) ρ := by
  refine zH_set h.1 (h.2.1 t ht.1 ht.2).1 (h.2.1 t ht.1 ht.2).2 rfl ?_ ?_
  · show _ = _
    simp [dyn, z_up, zup_s]
  · rintro ⟨k, i⟩ hy
    match k with
    | 0 =>
      have hi : i ≠ t := fun e => hy (by rw [e])
      simp [dyn, z_up, zup_n hi]
    | 1 => rfl
    | 2 => rfl
    | 3 => rfl
    | _ + 4 => rfl
theorem ct_notary (h : zLay g γ) {t v : Int} (ht : 0 ≤ t ∧ t < γ 0 0) : (zH g γ ρ).set (g.1 t) (.inr (3, [zi t, zi (γ 20 t), zi v, zi (γ 22 t), zi (γ 23 t), .ref (g.2.1 (2 * t)), .ref (g.2.1 (2 * t + 1)), zi (γ 24 t), zi (γ 25 t), zi (γ 26 t), zi (γ 27 t), zi (γ 28 t), zi (γ 29 t), zi (γ 30 t), zi (γ 31 t)])) = zH g (z_up γ 21 t v) ρ := by
  refine zH_set h.1 (h.2.1 t ht.1 ht.2).1 (h.2.1 t ht.1 ht.2).2 rfl ?_ ?_
  · show _ = _
    simp [dyn, z_up, zup_s]
  · rintro ⟨k, i⟩ hy
    match k with
    | 0 =>
      have hi : i ≠ t := fun e => hy (by rw [e])
      simp [dyn, z_up, zup_n hi]
    | 1 => rfl
    | 2 => rfl
    | 3 => rfl
    | _ + 4 => rfl
theorem ct_from (h : zLay g γ) {t v : Int} (ht : 0 ≤ t ∧ t < γ 0 0) : (zH g γ ρ).set (g.1 t) (.inr (3, [zi t, zi (γ 20 t), zi (γ 21 t), zi v, zi (γ 23 t), .ref (g.2.1 (2 * t)), .ref (g.2.1 (2 * t + 1)), zi (γ 24 t), zi (γ 25 t), zi (γ 26 t), zi (γ 27 t), zi (γ 28 t), zi (γ 29 t), zi (γ 30 t), zi (γ 31 t)])) = zH g (z_up γ 22 t v) ρ := by
  refine zH_set h.1 (h.2.1 t ht.1 ht.2).1 (h.2.1 t ht.1 ht.2).2 rfl ?_ ?_
  · show _ = _
    simp [dyn, z_up, zup_s]
  · rintro ⟨k, i⟩ hy
    match k with
    | 0 =>
      have hi : i ≠ t := fun e => hy (by rw [e])
      simp [dyn, z_up, zup_n hi]
    | 1 => rfl
    | 2 => rfl
    | 3 => rfl
    | _ + 4 => rfl
theorem ct_until (h : zLay g γ) {t v : Int} (ht : 0 ≤ t ∧ t < γ 0 0) : (zH g γ ρ).set (g.1 t) (.inr (3, [zi t, zi (γ 20 t), zi (γ 21 t), zi (γ 22 t), zi v, .ref (g.2.1 (2 * t)), .ref (g.2.1 (2 * t + 1)), zi (γ 24 t), zi (γ 25 t), zi (γ 26 t), zi (γ 27 t), zi (γ 28 t), zi (γ 29 t), zi (γ 30 t), zi (γ 31 t)])) = zH g (z_up γ 23 t v) ρ := by
  refine zH_set h.1 (h.2.1 t ht.1 ht.2).1 (h.2.1 t ht.1 ht.2).2 rfl ?_ ?_
  · show _ = _
    simp [dyn, z_up, zup_s]
  · rintro ⟨k, i⟩ hy
    match k with
    | 0 =>
      have hi : i ≠ t := fun e => hy (by rw [e])
      simp [dyn, z_up, zup_n hi]
    | 1 => rfl
    | 2 => rfl
    | 3 => rfl
    | _ + 4 => rfl
theorem ct_ancestors (h : zLay g γ) {t v : Int} (ht : 0 ≤ t ∧ t < γ 0 0) : (zH g γ ρ).set (g.1 t) (.inr (3, [zi t, zi (γ 20 t), zi (γ 21 t), zi (γ 22 t), zi (γ 23 t), .ref (g.2.1 (2 * t)), .ref (g.2.1 (2 * t + 1)), zi v, zi (γ 25 t), zi (γ 26 t), zi (γ 27 t), zi (γ 28 t), zi (γ 29 t), zi (γ 30 t), zi (γ 31 t)])) = zH g (z_up γ 24 t v) ρ := by
  refine zH_set h.1 (h.2.1 t ht.1 ht.2).1 (h.2.1 t ht.1 ht.2).2 rfl ?_ ?_
  · show _ = _
    simp [dyn, z_up, zup_s]
  · rintro ⟨k, i⟩ hy
    match k with
    | 0 =>
      have hi : i ≠ t := fun e => hy (by rw [e])
      simp [dyn, z_up, zup_n hi]
    | 1 => rfl
    | 2 => rfl
    | 3 => rfl
    | _ + 4 => rfl
theorem ct_stage (h : zLay g γ) {t v : Int} (ht : 0 ≤ t ∧ t < γ 0 0) : (zH g γ ρ).set (g.1 t) (.inr (3, [zi t, zi (γ 20 t), zi (γ 21 t), zi (γ 22 t), zi (γ 23 t), .ref (g.2.1 (2 * t)), .ref (g.2.1 (2 * t + 1)), zi (γ 24 t), zi v, zi (γ 26 t), zi (γ 27 t), zi (γ 28 t), zi (γ 29 t), zi (γ 30 t), zi (γ 31 t)])) = zH g (z_up γ 25 t v) ρ := by
  refine zH_set h.1 (h.2.1 t ht.1 ht.2).1 (h.2.1 t ht.1 ht.2).2 rfl ?_ ?_
  · show _ = _
    simp [dyn, z_up, zup_s]
  · rintro ⟨k, i⟩ hy
    match k with
    | 0 =>
      have hi : i ≠ t := fun e => hy (by rw [e])
      simp [dyn, z_up, zup_n hi]
    | 1 => rfl
    | 2 => rfl
    | 3 => rfl
    | _ + 4 => rfl
theorem ct_needed (h : zLay g γ) {t v : Int} (ht : 0 ≤ t ∧ t < γ 0 0) : (zH g γ ρ).set (g.1 t) (.inr (3, [zi t, zi (γ 20 t), zi (γ 21 t), zi (γ 22 t), zi (γ 23 t), .ref (g.2.1 (2 * t)), .ref (g.2.1 (2 * t + 1)), zi (γ 24 t), zi (γ 25 t), zi v, zi (γ 27 t), zi (γ 28 t), zi (γ 29 t), zi (γ 30 t), zi (γ 31 t)])) = zH g (z_up γ 26 t v) ρ := by
  refine zH_set h.1 (h.2.1 t ht.1 ht.2).1 (h.2.1 t ht.1 ht.2).2 rfl ?_ ?_
  · show _ = _
    simp [dyn, z_up, zup_s]
  · rintro ⟨k, i⟩ hy
    match k with
    | 0 =>
      have hi : i ≠ t := fun e => hy (by rw [e])
      simp [dyn, z_up, zup_n hi]
    | 1 => rfl
    | 2 => rfl
    | 3 => rfl
    | _ + 4 => rfl
theorem ct_sound (h : zLay g γ) {t v : Int} (ht : 0 ≤ t ∧ t < γ 0 0) : (zH g γ ρ).set (g.1 t) (.inr (3, [zi t, zi (γ 20 t), zi (γ 21 t), zi (γ 22 t), zi (γ 23 t), .ref (g.2.1 (2 * t)), .ref (g.2.1 (2 * t + 1)), zi (γ 24 t), zi (γ 25 t), zi (γ 26 t), zi v, zi (γ 28 t), zi (γ 29 t), zi (γ 30 t), zi (γ 31 t)])) = zH g (z_up γ 27 t v) ρ := by
  refine zH_set h.1 (h.2.1 t ht.1 ht.2).1 (h.2.1 t ht.1 ht.2).2 rfl ?_ ?_
  · show _ = _
    simp [dyn, z_up, zup_s]
  · rintro ⟨k, i⟩ hy
    match k with
    | 0 =>
      have hi : i ≠ t := fun e => hy (by rw [e])
      simp [dyn, z_up, zup_n hi]
    | 1 => rfl
    | 2 => rfl
    | 3 => rfl
    | _ + 4 => rfl
theorem ct_signed (h : zLay g γ) {t v : Int} (ht : 0 ≤ t ∧ t < γ 0 0) : (zH g γ ρ).set (g.1 t) (.inr (3, [zi t, zi (γ 20 t), zi (γ 21 t), zi (γ 22 t), zi (γ 23 t), .ref (g.2.1 (2 * t)), .ref (g.2.1 (2 * t + 1)), zi (γ 24 t), zi (γ 25 t), zi (γ 26 t), zi (γ 27 t), zi v, zi (γ 29 t), zi (γ 30 t), zi (γ 31 t)])) = zH g (z_up γ 28 t v) ρ := by
  refine zH_set h.1 (h.2.1 t ht.1 ht.2).1 (h.2.1 t ht.1 ht.2).2 rfl ?_ ?_
  · show _ = _
    simp [dyn, z_up, zup_s]
  · rintro ⟨k, i⟩ hy
    match k with
    | 0 =>
      have hi : i ≠ t := fun e => hy (by rw [e])
      simp [dyn, z_up, zup_n hi]
    | 1 => rfl
    | 2 => rfl
    | 3 => rfl
    | _ + 4 => rfl
theorem ct_decided (h : zLay g γ) {t v : Int} (ht : 0 ≤ t ∧ t < γ 0 0) : (zH g γ ρ).set (g.1 t) (.inr (3, [zi t, zi (γ 20 t), zi (γ 21 t), zi (γ 22 t), zi (γ 23 t), .ref (g.2.1 (2 * t)), .ref (g.2.1 (2 * t + 1)), zi (γ 24 t), zi (γ 25 t), zi (γ 26 t), zi (γ 27 t), zi (γ 28 t), zi v, zi (γ 30 t), zi (γ 31 t)])) = zH g (z_up γ 29 t v) ρ := by
  refine zH_set h.1 (h.2.1 t ht.1 ht.2).1 (h.2.1 t ht.1 ht.2).2 rfl ?_ ?_
  · show _ = _
    simp [dyn, z_up, zup_s]
  · rintro ⟨k, i⟩ hy
    match k with
    | 0 =>
      have hi : i ≠ t := fun e => hy (by rw [e])
      simp [dyn, z_up, zup_n hi]
    | 1 => rfl
    | 2 => rfl
    | 3 => rfl
    | _ + 4 => rfl
theorem ct_agreed (h : zLay g γ) {t v : Int} (ht : 0 ≤ t ∧ t < γ 0 0) : (zH g γ ρ).set (g.1 t) (.inr (3, [zi t, zi (γ 20 t), zi (γ 21 t), zi (γ 22 t), zi (γ 23 t), .ref (g.2.1 (2 * t)), .ref (g.2.1 (2 * t + 1)), zi (γ 24 t), zi (γ 25 t), zi (γ 26 t), zi (γ 27 t), zi (γ 28 t), zi (γ 29 t), zi v, zi (γ 31 t)])) = zH g (z_up γ 30 t v) ρ := by
  refine zH_set h.1 (h.2.1 t ht.1 ht.2).1 (h.2.1 t ht.1 ht.2).2 rfl ?_ ?_
  · show _ = _
    simp [dyn, z_up, zup_s]
  · rintro ⟨k, i⟩ hy
    match k with
    | 0 =>
      have hi : i ≠ t := fun e => hy (by rw [e])
      simp [dyn, z_up, zup_n hi]
    | 1 => rfl
    | 2 => rfl
    | 3 => rfl
    | _ + 4 => rfl
theorem ct_verdict (h : zLay g γ) {t v : Int} (ht : 0 ≤ t ∧ t < γ 0 0) : (zH g γ ρ).set (g.1 t) (.inr (3, [zi t, zi (γ 20 t), zi (γ 21 t), zi (γ 22 t), zi (γ 23 t), .ref (g.2.1 (2 * t)), .ref (g.2.1 (2 * t + 1)), zi (γ 24 t), zi (γ 25 t), zi (γ 26 t), zi (γ 27 t), zi (γ 28 t), zi (γ 29 t), zi (γ 30 t), zi v])) = zH g (z_up γ 31 t v) ρ := by
  refine zH_set h.1 (h.2.1 t ht.1 ht.2).1 (h.2.1 t ht.1 ht.2).2 rfl ?_ ?_
  · show _ = _
    simp [dyn, z_up, zup_s]
  · rintro ⟨k, i⟩ hy
    match k with
    | 0 =>
      have hi : i ≠ t := fun e => hy (by rw [e])
      simp [dyn, z_up, zup_n hi]
    | 1 => rfl
    | 2 => rfl
    | 3 => rfl
    | _ + 4 => rfl
theorem ct_boundTo (h : zLay g γ) {s v : Int} (hs : zEx γ s) : (zH g γ ρ).set (g.2.2.1 s) (.inr (5, [zi s, zi (γ 34 s), zi (γ 35 s), zi (γ 36 s), zi (γ 37 s), zi v])) = zH g (z_up γ 38 s v) ρ := by
  refine zH_set h.1 (h.2.2.2 s hs).1 (h.2.2.2 s hs).2 rfl ?_ ?_
  · show _ = _
    simp [dyn, z_up, zup_s]
  · rintro ⟨k, i⟩ hy
    match k with
    | 0 => rfl
    | 1 => rfl
    | 2 => rfl
    | 3 =>
      have hi : i ≠ s := fun e => hy (by rw [e])
      simp [dyn, z_up, zup_n hi]
    | _ + 4 => rfl
theorem zl0 {t m : Int} (h : 0 ≤ t ∧ t < m) : 0 ≤ 2 * t ∧ 2 * t < 2 * m := ⟨by omega, by omega⟩
theorem zl1 {t m : Int} (h : 0 ≤ t ∧ t < m) : 0 ≤ 2 * t + 1 ∧ 2 * t + 1 < 2 * m := ⟨by omega, by omega⟩
theorem zC_up (h : zC g γ) {c : Nat} {i v : Int} (h0 : c ≠ 0) (h2 : c ≠ 32) (h3 : c ≠ 33) (hl : c_lo c ≤ v) (hh : v ≤ c_hi c) : zC g (z_up γ c i v) := by
  refine ⟨?_, ?_, ?_⟩
  · intro c' j hc
    by_cases e : c' = c
    · subst e
      rw [z_up_s]
      unfold zup
      split
      · exact ⟨hl, hh⟩
      · exact h.1 c' j hc
    · rw [z_up_n e]
      exact h.1 c' j hc
  · have h1 := h.2.1
    unfold zLay zEx at h1 ⊢
    rw [z_up_n (Ne.symm h0), z_up_n (Ne.symm h2)]
    exact h1
  · have h1 := h.2.2
    unfold zEl zEx at h1 ⊢
    rw [z_up_n (Ne.symm h0), z_up_n (Ne.symm h2), z_up_n (Ne.symm h3)]
    exact h1
theorem zC_up4 (h : zC g γ) {i v : Int} : zC g (z_up γ 4 i v) := by
  refine ⟨?_, ?_, ?_⟩
  · intro c' j hc
    rw [z_up_n hc]
    exact h.1 c' j hc
  · exact h.2.1
  · exact h.2.2
end
theorem iI_bv {a : Int} (h : 0 ≤ a ∧ a < 2147483648) : (iI a).toBitVec.toNat = a.toNat := by
  obtain ⟨n, rfl⟩ : ∃ n : Nat, a = (n : Int) := ⟨a.toNat, by omega⟩
  rw [← iI_nI, pk_tn (by omega)]
  rfl
theorem zor_nat {a b : Int} (ha : 0 ≤ a ∧ a < 2147483648) (hb : 0 ≤ b ∧ b < 2147483648) : zor a b = ((a.toNat ||| b.toNat : Nat) : Int) := by
  have h : (iI a ||| iI b) = iI ((a.toNat ||| b.toNat : Nat) : Int) := by
    have hl : a.toNat ||| b.toNat < 2 ^ 31 := Nat.or_lt_two_pow (by omega) (by omega)
    apply Int32.toBitVec.inj
    apply BitVec.eq_of_toNat_eq
    rw [iI_bv ⟨by omega, by omega⟩, Int32.toBitVec_or, BitVec.toNat_or, iI_bv ha, iI_bv hb]
    omega
  have hl : a.toNat ||| b.toNat < 2 ^ 31 := Nat.or_lt_two_pow (by omega) (by omega)
  unfold zor
  rw [h, iI_toInt ⟨by omega, by omega⟩]
theorem zand_nat {a b : Int} (ha : 0 ≤ a ∧ a < 2147483648) (hb : 0 ≤ b ∧ b < 2147483648) : zand a b = ((a.toNat &&& b.toNat : Nat) : Int) := by
  have hl : a.toNat &&& b.toNat < 2 ^ 31 := Nat.and_lt_two_pow _ (by omega)
  have h : (iI a &&& iI b) = iI ((a.toNat &&& b.toNat : Nat) : Int) := by
    apply Int32.toBitVec.inj
    apply BitVec.eq_of_toNat_eq
    rw [iI_bv ⟨by omega, by omega⟩, Int32.toBitVec_and, BitVec.toNat_and, iI_bv ha, iI_bv hb]
    omega
  unfold zand
  rw [h, iI_toInt ⟨by omega, by omega⟩]
theorem zshl_nat {k : Int} (h : 0 ≤ k ∧ k < 31) : zshl 1 k = ((2 ^ k.toNat : Nat) : Int) := by
  have key : ∀ k : Fin 31, zshl 1 ((k : Nat) : Int) = ((2 ^ (k : Nat) : Nat) : Int) := by decide +kernel
  have := key ⟨k.toNat, by omega⟩
  have e : ((k.toNat : Nat) : Int) = k := by omega
  simp only [e] at this
  exact this
theorem zor_k {a b : Int} (k : Nat) (hk : k ≤ 31) (ha : 0 ≤ a ∧ a < ((2 ^ k : Nat) : Int)) (hb : 0 ≤ b ∧ b < ((2 ^ k : Nat) : Int)) : 0 ≤ zor a b ∧ zor a b < ((2 ^ k : Nat) : Int) := by
  have h31 : 2 ^ k ≤ 2 ^ 31 := Nat.pow_le_pow_right (by decide) hk
  rw [zor_nat ⟨ha.1, by omega⟩ ⟨hb.1, by omega⟩]
  have hl : a.toNat ||| b.toNat < 2 ^ k := Nat.or_lt_two_pow (by omega) (by omega)
  omega
theorem zor_20 {a b : Int} (ha : 0 ≤ a ∧ a ≤ 1048575) (hb : 0 ≤ b ∧ b ≤ 1048575) : 0 ≤ zor a b ∧ zor a b ≤ 1048575 := by
  have h := zor_k (a := a) (b := b) 20 (by decide) ⟨ha.1, by omega⟩ ⟨hb.1, by omega⟩
  omega
theorem zshl_20 {k : Int} (h : 0 ≤ k ∧ k ≤ 19) : 1 ≤ zshl 1 k ∧ zshl 1 k ≤ 524288 ∧ (k ≤ 3 → zshl 1 k ≤ 8) := by
  have key : ∀ k : Fin 20, 1 ≤ zshl 1 ((k : Nat) : Int) ∧ zshl 1 ((k : Nat) : Int) ≤ 524288 ∧ (((k : Nat) : Int) ≤ 3 → zshl 1 ((k : Nat) : Int) ≤ 8) := by decide +kernel
  have := key ⟨k.toNat, by omega⟩
  have e : ((k.toNat : Nat) : Int) = k := by omega
  simp only [e] at this
  exact this
