-- what a node fetches
def z_fc (σ : z_Sg) (c : Nat) (F : Int → Int) : z_Sg := fun c' => if c' = c then F else σ c'
theorem z_fc_s {σ : z_Sg} {c : Nat} {F : Int → Int} : z_fc σ c F c = F := by simp [z_fc]
theorem z_fc_n {σ : z_Sg} {c c' : Nat} {F : Int → Int} (h : c' ≠ c) : z_fc σ c F c' = σ c' := by simp [z_fc, h]
theorem z_wf_cl {ρ : z_Sg} (h : z_wf ρ) {c : Nat} {F : Int → Int} (hF : ∀ x : Int, z_lo c ≤ F x ∧ F x ≤ z_hi c) : z_wf (z_fc ρ c F) := by
  intro c' i hc
  by_cases e : c' = c
  · subst e
    rw [z_fc_s]
    exact hF i
  · rw [z_fc_n e]
    exact h c' i hc
theorem z_wf_cl20 {ρ : z_Sg} (h : z_wf ρ) {F : Int → Int} : z_wf (z_fc ρ 20 F) := by
  intro c' i hc
  rw [z_fc_n hc]
  exact h c' i hc
theorem c_wf_cl {γ : z_Sg} (h : c_wf γ) {c : Nat} {F : Int → Int} (hF : ∀ x : Int, c_lo c ≤ F x ∧ F x ≤ c_hi c) : c_wf (z_fc γ c F) := by
  intro c' i hc
  by_cases e : c' = c
  · subst e
    rw [z_fc_s]
    exact hF i
  · rw [z_fc_n e]
    exact h c' i hc
section
variable {γ ρ : z_Sg} {t node : Int}
theorem f_2 : ∀ (j : Nat) (k : Int) (σ : z_Sg), (∀ c : Nat, c ≠ 25 → lR_fetch_2 σ node t j k c = σ c) ∧ ∀ x : Int, lR_fetch_2 σ node t j k 25 x = if k ≤ x ∧ x < k + j then 0 else σ 25 x := by
  intro j
  induction j with
  | zero =>
    intro k σ
    refine ⟨fun c _ => rfl, fun x => ?_⟩
    rw [if_neg (by omega)]
    rfl
  | succ j ih =>
    intro k σ
    have i := ih (k + 1) (z_up σ 25 k 0)
    have e : lR_fetch_2 σ node t (j + 1) k = lR_fetch_2 (z_up σ 25 k 0) node t j (k + 1) := rfl
    rw [e]
    refine ⟨fun c hc => by rw [i.1 c hc, z_up_n hc], fun x => ?_⟩
    rw [i.2 x, z_up_s]
    unfold zup
    (repeat' split) <;> first | rfl | omega
theorem f_23 (h11 : ∀ i : Int, 0 ≤ ρ 11 i ∧ ρ 11 i ≤ 79) : ∀ (j : Nat) (k : Int) (σ : z_Sg), 0 ≤ k → k + j = ρ 9 t → (∀ c : Nat, c ≠ 25 → σ c = ρ c) → (∀ c : Nat, c ≠ 25 → lR_fetch_23 σ node t j k c = ρ c) ∧ (∀ v : Int, σ 25 v ≠ 0 → lR_fetch_23 σ node t j k 25 v ≠ 0) ∧ (∀ v : Int, lR_fetch_23 σ node t j k 25 v ≠ 0 → σ 25 v ≠ 0 ∨ zEd ρ t v) ∧ ∀ i : Int, k ≤ i → i < k + j → lR_fetch_23 σ node t j k 25 (ρ 11 (4 * t + i) / 4) ≠ 0 := by
  intro j
  induction j with
  | zero =>
    intro k σ _ _ hs
    exact ⟨fun c hc => hs c hc, fun v h => h, fun v h => Or.inl h, fun i a b => by omega⟩
  | succ j ih =>
    intro k σ hk hj hs
    have hs' : ∀ c : Nat, c ≠ 25 → z_up σ 25 ((σ 11 (4 * t + k)) / 4) 1 c = ρ c := fun c hc => by rw [z_up_n hc, hs c hc]
    have i := ih (k + 1) (z_up σ 25 ((σ 11 (4 * t + k)) / 4) 1) (by omega) (by omega) hs'
    have e : lR_fetch_23 σ node t (j + 1) k = lR_fetch_23 (z_up σ 25 ((σ 11 (4 * t + k)) / 4) 1) node t j (k + 1) := rfl
    have e11 : σ 11 (4 * t + k) = ρ 11 (4 * t + k) := by rw [hs 11 (by decide)]
    rw [e]
    have ev : ∀ v : Int, z_up σ 25 ((σ 11 (4 * t + k)) / 4) 1 25 v = if v = ρ 11 (4 * t + k) / 4 then 1 else σ 25 v := fun v => by rw [z_up_s, e11]; rfl
    refine ⟨i.1, ?_, ?_, ?_⟩
    · intro v hv
      apply i.2.1
      rw [ev]
      split
      · decide
      · exact hv
    · intro v hv
      rcases i.2.2.1 v hv with a | a
      · rw [ev] at a
        by_cases c : v = ρ 11 (4 * t + k) / 4
        · exact Or.inr ⟨k, hk, by omega, c.symm⟩
        · rw [if_neg c] at a
          exact Or.inl a
      · exact Or.inr a
    · intro x x0 x1
      by_cases c : x = k
      · subst c
        apply i.2.1
        rw [ev, if_pos rfl]
        decide
      · exact i.2.2.2 x (by omega) (by omega)
def zct (σ : z_Sg) : Int := zS (fun k => if σ 25 k = 0 then 0 else 1) 20 0
theorem zS_le {f g : Int → Int} : ∀ (j : Nat) (k : Int), (∀ i : Int, k ≤ i → i < k + j → f i ≤ g i) → zS f j k ≤ zS g j k := by
  intro j
  induction j with
  | zero => intro k _; exact Int.le_refl _
  | succ j ih =>
    intro k h
    have a := h k (by omega) (by omega)
    have b := ih (k + 1) (fun i h0 h1 => h i (by omega) (by omega))
    rw [zS_s, zS_s]
    omega
theorem zS_lt {f g : Int → Int} {x : Int} : ∀ (j : Nat) (k : Int), (∀ i : Int, k ≤ i → i < k + j → f i ≤ g i) → k ≤ x → x < k + j → f x + 1 ≤ g x → zS f j k + 1 ≤ zS g j k := by
  intro j
  induction j with
  | zero => intro k _ _ _ _; omega
  | succ j ih =>
    intro k h x0 x1 hx
    have a := h k (by omega) (by omega)
    rw [zS_s, zS_s]
    by_cases c : x = k
    · subst c
      have b := zS_le j (x + 1) (fun i h0 h1 => h i (by omega) (by omega))
      omega
    · have b := ih (k + 1) (fun i h0 h1 => h i (by omega) (by omega)) (by omega) (by omega) hx
      omega
theorem zct_20 (σ : z_Sg) : zct σ ≤ 20 := by
  have h : zct σ ≤ zS (fun _ => 1) 20 0 := by
    apply zS_le
    intro i _ _
    show (if σ 25 i = 0 then (0 : Int) else 1) ≤ 1
    split <;> omega
  have e : zS (fun _ => 1) 20 0 = 20 := rfl
  omega
/-- the marks are closed -/
def zcl (ρ σ : z_Sg) : Prop := ∀ v w : Int, 0 ≤ v → v ≤ 19 → σ 25 v ≠ 0 → zEd ρ v w → σ 25 w ≠ 0
theorem f_78 {S : Int → Prop} (h11 : ∀ i : Int, 0 ≤ ρ 11 i ∧ ρ 11 i ≤ 79) (hS : ∀ v w : Int, 0 ≤ v → v ≤ 19 → S v → zEd ρ v w → S w) : ∀ (j : Nat) (k mo : Int) (σ : z_Sg), 0 ≤ k → k + j = 80 → (∀ c : Nat, c ≠ 25 → σ c = ρ c) → (∀ v : Int, 0 ≤ v → v ≤ 19 → σ 25 v ≠ 0 → S v) → (∀ c : Nat, c ≠ 25 → (lR_fetch_78 σ node t j k mo).2 c = ρ c) ∧ (∀ v : Int, σ 25 v ≠ 0 → (lR_fetch_78 σ node t j k mo).2 25 v ≠ 0) ∧ (∀ v : Int, 0 ≤ v → v ≤ 19 → (lR_fetch_78 σ node t j k mo).2 25 v ≠ 0 → S v) ∧ (((lR_fetch_78 σ node t j k mo).1 = mo ∧ (lR_fetch_78 σ node t j k mo).2 = σ ∧ ∀ i : Int, k ≤ i → i < k + j → σ 25 (i / 4) ≠ 0 → i % 4 < ρ 9 (i / 4) → σ 25 (ρ 11 i / 4) ≠ 0) ∨ ((lR_fetch_78 σ node t j k mo).1 = 1 ∧ zct σ + 1 ≤ zct (lR_fetch_78 σ node t j k mo).2)) := by
  intro j
  induction j with
  | zero =>
    intro k mo σ _ _ hs hv
    exact ⟨hs, fun v h => h, hv, Or.inl ⟨rfl, rfl, fun i a b => by omega⟩⟩
  | succ j ih =>
    intro k mo σ hk hj hs hv
    have e9 : σ 9 (k / 4) = ρ 9 (k / 4) := by rw [hs 9 (by decide)]
    have e11 : σ 11 k = ρ 11 k := by rw [hs 11 (by decide)]
    have g := h11 k
    have st : lR_fetch_78 σ node t (j + 1) k mo = if σ 25 (k / 4) = 0 then lR_fetch_78 σ node t j (k + 1) mo else if ρ 9 (k / 4) ≤ k % 4 then lR_fetch_78 σ node t j (k + 1) mo else if σ 25 (ρ 11 k / 4) ≠ 0 then lR_fetch_78 σ node t j (k + 1) mo else lR_fetch_78 (z_up σ 25 (ρ 11 k / 4) 1) node t j (k + 1) 1 := by
      rw [← e9, ← e11]
      rfl
    have skip : (σ 25 (k / 4) ≠ 0 → k % 4 < ρ 9 (k / 4) → σ 25 (ρ 11 k / 4) ≠ 0) → lR_fetch_78 σ node t (j + 1) k mo = lR_fetch_78 σ node t j (k + 1) mo := by
      intro hq
      rw [st]
      by_cases c1 : σ 25 (k / 4) = 0
      · rw [if_pos c1]
      · rw [if_neg c1]
        by_cases c2 : ρ 9 (k / 4) ≤ k % 4
        · rw [if_pos c2]
        · rw [if_neg c2, if_pos (hq c1 (by omega))]
    by_cases cq : σ 25 (k / 4) ≠ 0 → k % 4 < ρ 9 (k / 4) → σ 25 (ρ 11 k / 4) ≠ 0
    · rw [skip cq]
      have i := ih (k + 1) mo σ (by omega) (by omega) hs hv
      refine ⟨i.1, i.2.1, i.2.2.1, ?_⟩
      rcases i.2.2.2 with a | a
      · refine Or.inl ⟨a.1, a.2.1, ?_⟩
        intro x x0 x1
        by_cases c : x = k
        · subst c
          exact cq
        · exact a.2.2 x (by omega) (by omega)
      · exact Or.inr a
    · have c1 : ¬ σ 25 (k / 4) = 0 := fun h => cq (fun a => absurd h a)
      have c2 : ¬ ρ 9 (k / 4) ≤ k % 4 := fun h => cq (fun _ a => by omega)
      have c3 : σ 25 (ρ 11 k / 4) = 0 := by
        by_cases h : σ 25 (ρ 11 k / 4) = 0
        · exact h
        · exact absurd (fun _ _ => h) cq
      rw [st, if_neg c1, if_neg c2, if_neg (fun h => h c3)]
      have hs' : ∀ c : Nat, c ≠ 25 → z_up σ 25 (ρ 11 k / 4) 1 c = ρ c := fun c hc => by rw [z_up_n hc, hs c hc]
      have ev : ∀ v : Int, z_up σ 25 (ρ 11 k / 4) 1 25 v = if v = ρ 11 k / 4 then 1 else σ 25 v := fun v => by rw [z_up_s]; rfl
      have sk : S (ρ 11 k / 4) := by
        apply hS (k / 4) _ (by omega) (by omega) (hv (k / 4) (by omega) (by omega) c1)
        refine ⟨k % 4, by omega, by omega, ?_⟩
        rw [show 4 * (k / 4) + k % 4 = k by omega]
      have i := ih (k + 1) 1 (z_up σ 25 (ρ 11 k / 4) 1) (by omega) (by omega) hs' (by
        intro v v0 v1 h
        rw [ev] at h
        by_cases c : v = ρ 11 k / 4
        · rw [c]; exact sk
        · rw [if_neg c] at h
          exact hv v v0 v1 h)
      have up : zct σ + 1 ≤ zct (z_up σ 25 (ρ 11 k / 4) 1) := by
        unfold zct
        apply zS_lt (x := ρ 11 k / 4)
        · intro v _ _
          show (if σ 25 v = 0 then (0 : Int) else 1) ≤ if z_up σ 25 (ρ 11 k / 4) 1 25 v = 0 then 0 else 1
          rw [ev]
          (repeat' split) <;> omega
        · omega
        · omega
        · show (if σ 25 (ρ 11 k / 4) = 0 then (0 : Int) else 1) + 1 ≤ if z_up σ 25 (ρ 11 k / 4) 1 25 (ρ 11 k / 4) = 0 then 0 else 1
          rw [ev, if_pos c3, if_pos rfl]
          decide
      refine ⟨i.1, ?_, i.2.2.1, Or.inr ?_⟩
      · intro v h
        apply i.2.1
        rw [ev]
        split
        · decide
        · exact h
      · rcases i.2.2.2 with a | a
        · refine ⟨a.1, ?_⟩
          rw [a.2.1]
          exact up
        · exact ⟨a.1, by omega⟩
theorem f_62 {S : Int → Prop} (h9 : ∀ i : Int, ρ 9 i ≤ 4) (h11 : ∀ i : Int, 0 ≤ ρ 11 i ∧ ρ 11 i ≤ 79) (hS : ∀ v w : Int, 0 ≤ v → v ≤ 19 → S v → zEd ρ v w → S w) : ∀ (j : Nat) (k mo : Int) (σ : z_Sg), mo ≠ 0 → (∀ c : Nat, c ≠ 25 → σ c = ρ c) → (∀ v : Int, 0 ≤ v → v ≤ 19 → σ 25 v ≠ 0 → S v) → (∀ c : Nat, c ≠ 25 → lR_fetch_62 σ node t j k mo c = ρ c) ∧ (∀ v : Int, σ 25 v ≠ 0 → lR_fetch_62 σ node t j k mo 25 v ≠ 0) ∧ (∀ v : Int, 0 ≤ v → v ≤ 19 → lR_fetch_62 σ node t j k mo 25 v ≠ 0 → S v) ∧ (zcl ρ (lR_fetch_62 σ node t j k mo) ∨ zct σ + j ≤ zct (lR_fetch_62 σ node t j k mo)) := by
  intro j
  induction j with
  | zero =>
    intro k mo σ _ hs hv
    refine ⟨hs, fun v h => h, hv, Or.inr ?_⟩
    show zct σ + ((0 : Nat) : Int) ≤ zct σ
    omega
  | succ j ih =>
    intro k mo σ hm hs hv
    have st : lR_fetch_62 σ node t (j + 1) k mo = lR_fetch_62 (lR_fetch_78 σ node t 80 0 0).2 node t j (k + 1) (lR_fetch_78 σ node t 80 0 0).1 := by
      show (if mo = 0 then σ else lR_fetch_62 (lR_fetch_78 σ node t 80 0 0).2 node t j (k + 1) (lR_fetch_78 σ node t 80 0 0).1) = _
      rw [if_neg hm]
    have i := f_78 (node := node) (t := t) h11 hS 80 0 0 σ (by omega) (by omega) hs hv
    rw [st]
    rcases i.2.2.2 with a | a
    · have e0 : lR_fetch_62 (lR_fetch_78 σ node t 80 0 0).2 node t j (k + 1) (lR_fetch_78 σ node t 80 0 0).1 = σ := by
        rw [a.1, a.2.1]
        cases j with
        | zero => rfl
        | succ j => rfl
      rw [e0]
      refine ⟨hs, fun v h => h, hv, Or.inl ?_⟩
      intro v w v0 v1 h hw
      obtain ⟨x, x0, x1, x2⟩ := hw
      have := h9 v
      have q := a.2.2 (4 * v + x) (by omega) (by omega)
      rw [show (4 * v + x) / 4 = v by omega, show (4 * v + x) % 4 = x by omega, x2] at q
      exact q h x1
    · have q := ih (k + 1) (lR_fetch_78 σ node t 80 0 0).1 (lR_fetch_78 σ node t 80 0 0).2 (by rw [a.1]; decide) i.1 i.2.2.1
      refine ⟨q.1, fun v h => q.2.1 v (i.2.1 v h), q.2.2.1, ?_⟩
      rcases q.2.2.2 with b | b
      · exact Or.inl b
      · exact Or.inr (by omega)
theorem f_183 : ∀ (j : Nat) (k : Int) (σ : z_Sg), (∀ c : Nat, c ≠ 18 → c ≠ 20 → lR_fetch_183 σ node t j k c = σ c) ∧ (∀ x : Int, lR_fetch_183 σ node t j k 18 x = if k ≤ x - 20 * node ∧ x - 20 * node < k + j ∧ σ 25 (x - 20 * node) ≠ 0 ∧ σ 18 x = 0 then 1 else σ 18 x) ∧ (∀ m : Int, m ≠ node → lR_fetch_183 σ node t j k 20 m = σ 20 m) ∧ lR_fetch_183 σ node t j k 20 node = σ 20 node + zS (fun i => if σ 25 i ≠ 0 ∧ σ 18 (20 * node + i) = 0 then 1 else 0) j k := by
  intro j
  induction j with
  | zero =>
    intro k σ
    refine ⟨fun c _ _ => rfl, fun x => ?_, fun m _ => rfl, ?_⟩
    · rw [if_neg (by omega)]
      rfl
    · rw [zS_0, Int.add_zero]
      rfl
  | succ j ih =>
    intro k σ
    have st : lR_fetch_183 σ node t (j + 1) k = if σ 25 k = 0 then lR_fetch_183 σ node t j (k + 1) else if σ 18 (20 * node + k) ≠ 0 then lR_fetch_183 σ node t j (k + 1) else lR_fetch_183 (z_up (z_up σ 18 (20 * node + k) 1) 20 node (σ 20 node + 1)) node t j (k + 1) := rfl
    by_cases c : σ 25 k ≠ 0 ∧ σ 18 (20 * node + k) = 0
    · have e : lR_fetch_183 σ node t (j + 1) k = lR_fetch_183 (z_up (z_up σ 18 (20 * node + k) 1) 20 node (σ 20 node + 1)) node t j (k + 1) := by
        rw [st, if_neg c.1, if_neg (fun h => h c.2)]
      have i := ih (k + 1) (z_up (z_up σ 18 (20 * node + k) 1) 20 node (σ 20 node + 1))
      have e18 : ∀ x : Int, z_up (z_up σ 18 (20 * node + k) 1) 20 node (σ 20 node + 1) 18 x = if x = 20 * node + k then 1 else σ 18 x := fun x => by rw [z_up_n (by decide), z_up_s]; rfl
      have e25 : z_up (z_up σ 18 (20 * node + k) 1) 20 node (σ 20 node + 1) 25 = σ 25 := by rw [z_up_n (by decide), z_up_n (by decide)]
      have e20 : ∀ x : Int, z_up (z_up σ 18 (20 * node + k) 1) 20 node (σ 20 node + 1) 20 x = if x = node then σ 20 node + 1 else σ 20 x := fun x => by rw [z_up_s]; rfl
      rw [e]
      refine ⟨fun c h1 h2 => by rw [i.1 c h1 h2, z_up_n h2, z_up_n h1], fun x => ?_, fun m hm => ?_, ?_⟩
      · rw [i.2.1 x, e18, e25]
        by_cases cx : x = 20 * node + k
        · subst cx
          rw [if_pos rfl, if_neg (by omega), if_pos ⟨by omega, by omega, by rw [show 20 * node + k - 20 * node = k by omega]; exact c.1, c.2⟩]
        · rw [if_neg cx]
          by_cases cc : k + 1 ≤ x - 20 * node ∧ x - 20 * node < k + 1 + j ∧ σ 25 (x - 20 * node) ≠ 0 ∧ σ 18 x = 0
          · rw [if_pos cc, if_pos ⟨by omega, by omega, cc.2.2⟩]
          · rw [if_neg cc, if_neg (fun h => cc ⟨by omega, by omega, h.2.2⟩)]
      · rw [i.2.2.1 m hm, e20, if_neg hm]
      · rw [i.2.2.2, e20, if_pos rfl, e25, zS_s, if_pos c]
        have : zS (fun i => if σ 25 i ≠ 0 ∧ z_up (z_up σ 18 (20 * node + k) 1) 20 node (σ 20 node + 1) 18 (20 * node + i) = 0 then (1 : Int) else 0) j (k + 1) = zS (fun i => if σ 25 i ≠ 0 ∧ σ 18 (20 * node + i) = 0 then 1 else 0) j (k + 1) := by
          apply zS_congr
          intro y y0 y1
          show (if σ 25 y ≠ 0 ∧ z_up (z_up σ 18 (20 * node + k) 1) 20 node (σ 20 node + 1) 18 (20 * node + y) = 0 then (1 : Int) else 0) = if σ 25 y ≠ 0 ∧ σ 18 (20 * node + y) = 0 then 1 else 0
          rw [e18, if_neg (show ¬ (20 * node + y = 20 * node + k) by omega)]
        rw [this]
        omega
    · have e : lR_fetch_183 σ node t (j + 1) k = lR_fetch_183 σ node t j (k + 1) := by
        rw [st]
        by_cases c1 : σ 25 k = 0
        · rw [if_pos c1]
        · rw [if_neg c1, if_pos (fun h => c ⟨c1, h⟩)]
      have i := ih (k + 1) σ
      rw [e]
      refine ⟨i.1, fun x => ?_, i.2.2.1, ?_⟩
      · rw [i.2.1 x]
        by_cases cc : k + 1 ≤ x - 20 * node ∧ x - 20 * node < k + 1 + j ∧ σ 25 (x - 20 * node) ≠ 0 ∧ σ 18 x = 0
        · rw [if_pos cc, if_pos ⟨by omega, by omega, cc.2.2⟩]
        · rw [if_neg cc]
          rw [if_neg]
          intro h
          by_cases cx : x = 20 * node + k
          · subst cx
            rw [show 20 * node + k - 20 * node = k by omega] at h
            exact c h.2.2
          · exact cc ⟨by omega, by omega, h.2.2⟩
      · rw [i.2.2.2, zS_s, if_neg c]
        omega
end
