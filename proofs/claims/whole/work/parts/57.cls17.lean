-- a new transaction
def bT (γ : z_Sg) (t nd no fr un : Int) : z_Sg := z_up (z_up (z_up (z_up (z_up (z_up (z_up (z_up (z_up (z_up (z_up (z_up (z_up (z_up (z_up γ 20 t nd) 21 t no) 22 t fr) 23 t un) 24 t 0) 25 t 0) 26 t 0) 27 t 0) 28 t 0) 29 t 0) 30 t 0) 31 t 0) 32 (2 * t) 0) 32 (2 * t + 1) 0) 0 0 (t + 1)
def gB (g : z_Gl) (t : Int) : z_Gl := (zup g.1 t (37 + g.2.2.2.length), zup (zup g.2.1 (2 * t) (37 + g.2.2.2.length + 1)) (2 * t + 1) (37 + g.2.2.2.length + 3), g.2.2.1, g.2.2.2 ++ [(0, t), (1, 2 * t), (2, 2 * t), (1, 2 * t + 1), (2, 2 * t + 1)])
theorem bT_32 (γ : z_Sg) (t nd no fr un : Int) : bT γ t nd no fr un 32 = zup (zup (γ 32) (2 * t) 0) (2 * t + 1) 0 := rfl
theorem bT_0 (γ : z_Sg) (t nd no fr un : Int) : bT γ t nd no fr un 0 0 = t + 1 := rfl
theorem bT_n {γ : z_Sg} {t nd no fr un : Int} {c : Nat} (h0 : c ≠ 0) (h : c < 20 ∨ 32 < c) : bT γ t nd no fr un c = γ c := by
  unfold bT
  rw [z_up_n h0, z_up_n (by omega), z_up_n (by omega), z_up_n (by omega), z_up_n (by omega), z_up_n (by omega), z_up_n (by omega), z_up_n (by omega), z_up_n (by omega), z_up_n (by omega), z_up_n (by omega), z_up_n (by omega), z_up_n (by omega), z_up_n (by omega), z_up_n (by omega)]
theorem zup_m {f : Int → Int} {i j v : Int} (h : i ≠ j) : zup f j v i = f i := zup_n h
theorem c_wf_up {γ : z_Sg} (h : c_wf γ) {c : Nat} {i v : Int} (hl : c_lo c ≤ v) (hh : v ≤ c_hi c) : c_wf (z_up γ c i v) := by
  intro c' j hc
  by_cases e : c' = c
  · subst e
    rw [z_up_s]
    unfold zup
    split
    · exact ⟨hl, hh⟩
    · exact h c' j hc
  · rw [z_up_n e]
    exact h c' j hc
theorem zEx_bT {g : z_Gl} {γ : z_Sg} (hc : zC g γ) {t nd no fr un z : Int} (ht : γ 0 0 = t) : zEx (bT γ t nd no fr un) z ↔ zEx γ z := by
  unfold zEx
  rw [bT_0, bT_32]
  by_cases e : z / 4 = t
  · rw [e, zup_s]
    constructor
    · rintro ⟨h1, h2, h3⟩; omega
    · rintro ⟨h1, h2, h3⟩; omega
  · rw [zup_n (by omega), zup_n (by omega)]
    constructor
    · rintro ⟨h1, h2, h3⟩; exact ⟨h1, by omega, h3⟩
    · rintro ⟨h1, h2, h3⟩; exact ⟨h1, by omega, h3⟩
theorem wH_begin {g : z_Gl} {γ : z_Sg} (hc : zC g γ) (hg : zLog g γ) {t nd no fr un : Int} (ht : γ 0 0 = t) (h19 : t ≤ 19) (h1 : 0 ≤ nd ∧ nd ≤ 3) (h2 : 0 ≤ no ∧ no ≤ 5) (h3 : 0 ≤ fr ∧ fr ≤ 1000000) (h4 : 0 ≤ un ∧ un ≤ 1000000) : zC (gB g t) (bT γ t nd no fr un) ∧ zLog (gB g t) (bT γ t nd no fr un) := by
  have g0 : 0 ≤ γ 0 0 ∧ γ 0 0 ≤ 20 := hc.1 0 0 (by decide)
  have hE : ∀ z, zEx (bT γ t nd no fr un) z ↔ zEx γ z := fun z => zEx_bT hc ht
  have hlog : ∀ x ∈ g.2.2.2, x ∉ [((0 : Nat), t), (1, 2 * t), (2, 2 * t), (1, 2 * t + 1), (2, 2 * t + 1)] := by
    rintro ⟨k, i⟩ hx hm
    simp only [List.mem_cons, List.mem_nil_iff, Prod.mk.injEq, or_false] at hm
    rcases hg _ hx with ⟨a, b, c⟩ | ⟨a, b, c⟩ | ⟨a, b⟩ <;> simp only at a b <;> try simp only at c
    · omega
    · omega
    · omega
  have ap : ∀ (i : Nat) (x : Nat × Int), g.2.2.2[i]? = some x → (gB g t).2.2.2[i]? = some x := by
    intro i x h
    show (g.2.2.2 ++ _)[i]? = _
    rw [List.getElem?_append_left (List.getElem?_eq_some_iff.mp h).1]
    exact h
  have an : ∀ (i : Nat) (x : Nat × Int), [((0 : Nat), t), (1, 2 * t), (2, 2 * t), (1, 2 * t + 1), (2, 2 * t + 1)][i]? = some x → (gB g t).2.2.2[37 + g.2.2.2.length + i - 37]? = some x := by
    intro i x h
    show (g.2.2.2 ++ _)[_]? = _
    rw [List.getElem?_append_right (by omega), show 37 + g.2.2.2.length + i - 37 - g.2.2.2.length = i by omega]
    exact h
  refine ⟨⟨?_, ⟨?_, ?_, ?_, ?_⟩, ?_, ?_⟩, ?_⟩
  · have w0 := hc.1
    have z0 : ∀ c : Fin 9, c_lo (c.val + 24) ≤ 0 ∧ 0 ≤ c_hi (c.val + 24) := by decide
    unfold bT
    refine c_wf_up (c_wf_up (c_wf_up ?_ (z0 8).1 (z0 8).2) (z0 8).1 (z0 8).2) (show (0 : Int) ≤ t + 1 by omega) (show t + 1 ≤ (20 : Int) by omega)
    refine c_wf_up (c_wf_up (c_wf_up (c_wf_up (c_wf_up (c_wf_up (c_wf_up (c_wf_up ?_ (z0 0).1 (z0 0).2) (z0 1).1 (z0 1).2) (z0 2).1 (z0 2).2) (z0 3).1 (z0 3).2) (z0 4).1 (z0 4).2) (z0 5).1 (z0 5).2) (z0 6).1 (z0 6).2) (z0 7).1 (z0 7).2
    exact c_wf_up (c_wf_up (c_wf_up (c_wf_up w0 h1.1 h1.2) h2.1 h2.2) h3.1 h3.2) h4.1 h4.2
  · show (g.2.2.2 ++ _).Nodup
    rw [List.nodup_append]
    refine ⟨hc.2.1.1, ?_, ?_⟩
    · simp
      omega
    · intro x hx y hy e
      subst e
      exact hlog x hx hy
  · intro u h0 h1
    rw [bT_0] at h1
    show 37 ≤ zup g.1 t _ u ∧ (gB g t).2.2.2[zup g.1 t _ u - 37]? = _
    by_cases e : u = t
    · subst e
      rw [zup_s]
      exact ⟨by omega, an 0 _ rfl⟩
    · rw [zup_n e]
      have := hc.2.1.2.1 u h0 (by omega)
      exact ⟨this.1, ap _ _ this.2⟩
  · intro l h0 h1
    rw [bT_0] at h1
    show 37 ≤ zup (zup g.2.1 _ _) _ _ l ∧ (gB g t).2.2.2[zup (zup g.2.1 _ _) _ _ l - 37]? = _ ∧ (gB g t).2.2.2[zup (zup g.2.1 _ _) _ _ l + 1 - 37]? = _
    by_cases e1 : l = 2 * t + 1
    · subst e1
      rw [zup_s]
      exact ⟨by omega, an 3 _ rfl, an 4 _ rfl⟩
    · rw [zup_n e1]
      by_cases e2 : l = 2 * t
      · subst e2
        rw [zup_s]
        exact ⟨by omega, an 1 _ rfl, an 2 _ rfl⟩
      · rw [zup_n e2]
        have := hc.2.1.2.2.1 l h0 (by omega)
        exact ⟨this.1, ap _ _ this.2.1, ap _ _ this.2.2⟩
  · intro s hs
    have := hc.2.1.2.2.2 s ((hE s).mp hs)
    exact ⟨this.1, ap _ _ this.2⟩
  · intro l i a1 a2 a3 a4
    rw [bT_0] at a2
    rw [bT_32] at a4
    rw [hE, bT_n (c := 33) (by decide) (by decide)]
    by_cases e1 : l = 2 * t + 1
    · subst e1
      rw [zup_s] at a4
      omega
    · rw [zup_n e1] at a4
      by_cases e2 : l = 2 * t
      · subst e2
        rw [zup_s] at a4
        omega
      · rw [zup_n e2] at a4
        exact hc.2.2.1 l i a1 (by omega) a3 a4
  · intro u i a1 a2 a3 a4
    rw [bT_0] at a2
    rw [bT_32] at a4
    rw [bT_n (c := 33) (by decide) (by decide)]
    by_cases e1 : u = t
    · subst e1
      rw [zup_s] at a4
      omega
    · rw [zup_n (by omega), zup_n (by omega)] at a4
      exact hc.2.2.2 u i a1 (by omega) a3 a4
  · intro x hx
    have hx : x ∈ g.2.2.2 ++ [((0 : Nat), t), (1, 2 * t), (2, 2 * t), (1, 2 * t + 1), (2, 2 * t + 1)] := hx
    rw [List.mem_append] at hx
    rw [hE, bT_0]
    rcases hx with hx | hx
    · rcases hg x hx with h | h | h
      · exact Or.inl ⟨h.1, h.2.1, by omega⟩
      · exact Or.inr (Or.inl ⟨h.1, h.2.1, by omega⟩)
      · exact Or.inr (Or.inr h)
    · simp only [List.mem_cons, List.mem_nil_iff, or_false] at hx
      rcases hx with rfl | rfl | rfl | rfl | rfl
      · exact Or.inl ⟨rfl, by show 0 ≤ t; omega, by show t < t + 1; omega⟩
      · exact Or.inr (Or.inl ⟨Or.inl rfl, by show 0 ≤ 2 * t; omega, by show 2 * t < 2 * (t + 1); omega⟩)
      · exact Or.inr (Or.inl ⟨Or.inr rfl, by show 0 ≤ 2 * t; omega, by show 2 * t < 2 * (t + 1); omega⟩)
      · exact Or.inr (Or.inl ⟨Or.inl rfl, by show 0 ≤ 2 * t + 1; omega, by show 2 * t + 1 < 2 * (t + 1); omega⟩)
      · exact Or.inr (Or.inl ⟨Or.inr rfl, by show 0 ≤ 2 * t + 1; omega, by show 2 * t + 1 < 2 * (t + 1); omega⟩)
