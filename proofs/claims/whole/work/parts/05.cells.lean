-- cells
def z_F (own : String) (idx ci j : Nat) : Prop := ∃ (C : String) (T : u_T) (N : Nat), z_cl[ci]? = some (C, T, N) ∧ j < N ∧ (∀ w ∈ u_ws C T N, w ∈ z_ws) ∧ Cond.fieldLink own idx (T j).1 (T j).2.1 (T j).2.2.1 ∈ z_ws
def z_G (own : String) (idx ci j : Nat) (fin : Bool) (ty : FieldType) : Prop := ∃ (C : String) (T : u_T) (N : Nat) (ty0 : Nat → FieldType), z_cl[ci]? = some (C, T, N) ∧ j < N ∧ (∀ w ∈ u_ws C T N, w ∈ z_ws) ∧ Cond.fieldLink own idx (T j).1 (T j).2.1 (T j).2.2.1 ∈ z_ws ∧ (∀ k, k < N → parseFieldDescriptor (T k).2.2.1 = some (ty0 k)) ∧ (∀ a, a < N → ∀ b, b < N → a ≠ b → (T a).2.1 ≠ (T b).2.1) ∧ (T j).2.2.2 = fin ∧ parseFieldDescriptor (T j).2.2.1 = some ty ∧ (T j).1 = C
def z_N (own : String) (idx ci n : Nat) (fs : List Value) : Prop := ∃ (C : String) (T : u_T) (ty0 : Nat → FieldType), z_cl[ci]? = some (C, T, n) ∧ (∀ w ∈ u_ws C T n, w ∈ z_ws) ∧ (∀ k, k < n → parseFieldDescriptor (T k).2.2.1 = some (ty0 k)) ∧ Cond.classLink own idx C ∈ z_ws ∧ Cond.instantiable C n ∈ z_ws ∧ Cond.initialized C ∈ z_ws ∧ (∀ j, j < n → defaultValue (ty0 j) = vp_V fs j) ∧ ∀ b sc : Nat, fs.map (z_tv b sc) = fs
def z_Cl (Y' : z_MD) (n : Nat) : Prop := Cond.code Y'.1 Y'.2.1 Y'.2.2.1 Y'.2.2.2.1 ∈ z_ws ∧ Cond.initialized Y'.1.cls ∈ z_ws ∧ (Y'.1.cls ≠ "java/lang/invoke/MethodHandle" ∧ Y'.1.cls ≠ "java/lang/invoke/VarHandle") ∧ (parseMethodDescriptor Y'.1.desc).map (fun d => d.parameters.length) = some n
theorem z_sum {b sc : Nat} {S : List Value} (h : S.all z_real = true) : ((S.map (z_tv b sc)).map fun v => v.category).sum = S.length := by
  induction S with
  | nil => rfl
  | cons a t ih =>
    simp only [List.all_cons, Bool.and_eq_true] at h
    have hc : (z_tv b sc a).category = 1 := z_real_cat h.1
    simp only [List.map_cons, List.sum_cons, hc, ih h.2, List.length_cons]
    omega
theorem z_ret_map {b sc : Nat} (r : Option Value) (S : List Value) : (r.map (z_tv b sc)).toList ++ S.map (z_tv b sc) = (r.toList ++ S).map (z_tv b sc) := by
  cases r <;> simp
section
variable {p : Program} {l : Launch} {e : Env} {R : Room} {s : State} {m : MethodId} {args : Array Value} {below : List Frame} {meth : Method} {c : Code} {H H0 : Heap} {locs : List Loc} {cells slots : Nat} {Qm : State → Prop}
variable {pc : Nat} {ls : Array Slot} {rest : List Value} {D : va_G} {b sc mc ms : Nat} {cA : Nat → ClassId}
theorem z_cont {Q' : Option Value → List va_E → Prop} {st0 : List Value} {a : Array Value} (hr : va_Run p l e R s m args below meth c H locs cells slots mc ms (F0 m pc ls st0) rest (z_Qc b sc D cA Q' a) (fun q => b ≤ q)) (hS : va_S (fun q => b ≤ q) H0 H locs)
    (kk : ∀ (r : Option Value) (M : List va_E) (H1 : Heap) (locs1 : List Loc), Q' r M → va_P D z_cl (z_tw b sc cA M) H1 → H1.size = b + M.length → va_S (fun q => b ≤ q) H0 H1 locs1 → W p l e R s m args below meth c H1 locs1 (cells + mc) (slots + ms) Qm (F0 m (pc + 3) ls ((r.map (z_tv b sc)).toList ++ rest))) : W p l e R s m args below meth c H locs cells slots Qm (F0 m pc ls st0) := by
  intro T hT X
  obtain ⟨v, st₀, t, T', L, h0, X', hL, e1, e2, ⟨r, M, hv, hq, hP, hz, hz1, hk⟩, st⟩ := hr T hT X
  cases hv
  rw [h0] at hz1 hk
  obtain ⟨t2, a1, b1⟩ := kk r M T'.heap (locs ++ L) hq (by rw [e1]; exact hP) (by rw [e1]; exact hz)
    ⟨Nat.le_trans hS.1 (by rw [e1]; exact hz1), fun q h1 h2 => by rw [e1, hk q (Nat.lt_of_lt_of_le h1 hS.1) h2]; exact hS.2.1 q h1 h2, fun q hq => by
      rcases List.mem_append.mp hq with h | h
      · exact hS.2.2 q h
      · exact hL q h⟩ T' rfl X'
  exact ⟨t2, st t2 a1, b1⟩
theorem z_words {w : List Cond} (hts : ∀ w ∈ z_ws, w.before args s = true) (hw : ∀ x ∈ w, x ∈ z_ws) : ∀ x ∈ w, ∀ (a' : Array Value) (U : State), s.WarmedH U.vm → x.before a' U = true :=
  fun x hx a' U hW => word_at hW (z_good x (hw x hx)) (hts x (hw x hx))
theorem z_callB {Y' : z_MD} {n idx : Nat} {d : Nat × Nat} {own : String} (hY : z_Cl Y' n) (hts : ∀ w ∈ z_ws, w.before args s = true) (hR : d.1 + 1 ≤ R.frames ∧ 8 + (Y'.2.2.1 + 11) + d.2 ≤ R.locals) (hl : Cond.methodLink own idx Y'.1 ∈ z_ws) :
    CallB R s args own idx Y'.1 Y'.2.1 Y'.2.2.1 Y'.2.2.2.1 (Cond.code Y'.1 Y'.2.1 Y'.2.2.1 Y'.2.2.2.1 :: z_ws) { frames := d.1, cells := mc, slots := ms, locals := d.2 } mc ms n := by
  obtain ⟨h1, h2, h3, h4⟩ := hY
  refine ⟨rfl, rfl, hR.1, hR.2, z_words hts ?_, List.mem_cons_self, hts _ h1, hts _ h2, h3, fun sig hs => ?_, hts _ hl⟩
  · intro x hx
    rcases List.mem_cons.mp hx with rfl | hx
    · exact h1
    · exact hx
  · rw [hs] at h4
    exact (Option.some.inj h4).symm
theorem z_callN {Y' : z_MD} {n idx : Nat} {d : Nat × Nat} {own host : String} (hY : z_Cl Y' n) (hts : ∀ w ∈ z_ws, w.before args s = true) (hWd : z_Wd s) (hR : d.1 + 1 ≤ R.frames ∧ 8 + (Y'.2.2.1 + 11) + d.2 ≤ R.locals) (hl : (own, idx, Y'.1, host) ∈ z_nw) :
    va_CN R s args own idx Y'.1 host Y'.2.1 Y'.2.2.1 Y'.2.2.2.1 (Cond.code Y'.1 Y'.2.1 Y'.2.2.1 Y'.2.2.2.1 :: z_ws) { frames := d.1, cells := mc, slots := ms, locals := d.2 } mc ms n := by
  obtain ⟨h1, h2, h3, h4⟩ := hY
  refine ⟨⟨rfl, rfl, hR.1, hR.2, z_words hts ?_, List.mem_cons_self⟩, hts _ h1, hts _ h2, h3, fun sig hs => ?_, va_Nw.use rfl (hWd.1 _ hl)⟩
  · intro x hx
    rcases List.mem_cons.mp hx with rfl | hx
    · exact h1
    · exact hx
  · rw [hs] at h4
    exact (Option.some.inj h4).symm
end
section
variable {Y : z_MD} {d d' : Nat × Nat} {kc ks pc : Nat} {L S : List Value} {M : List va_E} {Q : Option Value → List va_E → Prop}
theorem ev_get {q k ci j idx : Nat} {fs : List Value} {v : Value} (hd : decode Y.2.1 pc = .ok (.getfield idx, 3)) (hF : z_F Y.1.cls idx ci j) (hM : M[k]? = some (.inr (ci, fs))) (hv : fs[j]? = some v) (hq : pc + 3 = q) (kk : z_Ev Y d kc ks q L (v :: S) M Q) : z_Ev Y d kc ks pc L (.ref k :: S) M Q := by
  subst hq
  intro p l e R s m args below meth c b sc D cA H locs cells slots ls Qm h hr
  obtain ⟨C, T, N, hc, hj, hin, hl⟩ := hF
  obtain ⟨⟨hx, hb, hml, hown, hts, hK, -⟩, -, hP, -⟩ := id h
  exact va_get hx hb hts hin hown hK hP k (z_tw_at hM) hc j hj (hts _ hl) (fun x hx => hx) (v := z_tv b sc v) (by rw [List.getElem?_map, hv]; rfl) hd (kk p l e R s m args below meth c b sc D cA H locs cells slots ls Qm h hr)
theorem ev_put {q k ci j idx : Nat} {fs fs' : List Value} {v : Value} {ty : FieldType} {M' : List va_E} (hd : decode Y.2.1 pc = .ok (.putfield idx, 3)) (hF : z_G Y.1.cls idx ci j false ty) (hM : M[k]? = some (.inr (ci, fs))) (hv : ∀ b sc : Nat, narrow ty (z_tv b sc v) = z_tv b sc v ∧ fits ty (z_tv b sc v) = true) (hj : j < fs.length) (hfs : fs.set j v = fs') (hM' : M.set k (.inr (ci, fs')) = M') (hq : pc + 3 = q) (kk : z_Ev Y d kc ks q L S M' Q) : z_Ev Y d kc ks pc L (v :: .ref k :: S) M Q := by
  subst hq
  subst hfs
  subst hM'
  intro p l e R s m args below meth c b sc D cA H locs cells slots ls Qm h hr
  obtain ⟨C, T, N, ty0, hc, hjN, hin, hl, hty, hnm, hfin, hdesc, -⟩ := hF
  obtain ⟨⟨hx, hb, hml, hown, hts, hK, -⟩, -, hP, hz, hS, -⟩ := id h
  refine z_put hx hb hts hin ty0 hty hnm hown hK hP (z_tw_D b sc cA M) hS k (z_tw_at hM) hc j hjN (hts _ hl) (fun x hx => hx) hfin hdesc (hv b sc).1 (hv b sc).2 (by simpa using hj) hd fun H1 locs1 z1 hP1 hS1 => ?_
  have hP2 : va_P D z_cl (z_tw b sc cA (M.set k (.inr (ci, fs.set j v)))) H1 := by
    rw [← z_tw_set]
    show va_P D z_cl ((z_tw b sc cA M).set k (b + k, .inr (ci, (fs.set j v).map (z_tv b sc)))) H1
    rw [List.map_set]
    exact hP1
  exact kk p l e R s m args below meth c b sc D cA H1 locs1 cells slots ls Qm ⟨h.1, h.2.1, hP2, by rw [z1, hz, List.length_set], hS1, h.2.2.2.2.2⟩ hr
theorem ev_putF {q k ci j idx : Nat} {fs fs' : List Value} {v : Value} {ty : FieldType} {M' : List va_E} (hd : decode Y.2.1 pc = .ok (.putfield idx, 3)) (hF : z_G Y.1.cls idx ci j true ty) (hi : Y.1.name = "<init>") (hcl : (z_cl[ci]?).map (fun r => r.1) = some Y.1.cls) (hM : M[k]? = some (.inr (ci, fs))) (hv : ∀ b sc : Nat, narrow ty (z_tv b sc v) = z_tv b sc v ∧ fits ty (z_tv b sc v) = true) (hj : j < fs.length) (hfs : fs.set j v = fs') (hM' : M.set k (.inr (ci, fs')) = M') (hq : pc + 3 = q) (kk : z_Ev Y d kc ks q L S M' Q) : z_Ev Y d kc ks pc L (v :: .ref k :: S) M Q := by
  subst hq
  subst hfs
  subst hM'
  intro p l e R s m args below meth c b sc D cA H locs cells slots ls Qm h hr
  obtain ⟨C, T, N, ty0, hc, hjN, hin, hl, hty, hnm, hfin, hdesc, hC⟩ := hF
  obtain ⟨⟨hx, hb, hml, hown, hts, hK, -, hname, -⟩, -, hP, hz, hS, -⟩ := id h
  have hCY : C = Y.1.cls := by rw [hc] at hcl; exact Option.some.inj hcl
  refine z_putF hx hb hts hin ty0 hty hnm hown hK hP (z_tw_D b sc cA M) hS k (z_tw_at hM) hc j hjN (hts _ hl) (fun x hx => hx) hfin (hname.trans hi) (hC.trans hCY) hdesc (hv b sc).1 (hv b sc).2 (by simpa using hj) hd fun H1 locs1 z1 hP1 hS1 => ?_
  have hP2 : va_P D z_cl (z_tw b sc cA (M.set k (.inr (ci, fs.set j v)))) H1 := by
    rw [← z_tw_set]
    show va_P D z_cl ((z_tw b sc cA M).set k (b + k, .inr (ci, (fs.set j v).map (z_tv b sc)))) H1
    rw [List.map_set]
    exact hP1
  exact kk p l e R s m args below meth c b sc D cA H1 locs1 cells slots ls Qm ⟨h.1, h.2.1, hP2, by rw [z1, hz, List.length_set], hS1, h.2.2.2.2.2⟩ hr
theorem ev_iald {q k n j : Nat} {f : Nat → Int32} {i : Int32} (hd : decode Y.2.1 pc = .ok (.iaload, 1)) (hM : M[k]? = some (.inl (0, n, .inl f))) (hi : vp_in i n) (hj : i.toNatClampNeg = j) (hq : pc + 1 = q) (kk : z_Ev Y d kc ks q L (.int (f j) :: S) M Q) : z_Ev Y d kc ks pc L (.int i :: .ref k :: S) M Q := by
  subst hq
  subst hj
  intro p l e R s m args below meth c b sc D cA H locs cells slots ls Qm h hr
  obtain ⟨⟨hx, hb, hml, hown, hts, hK, -⟩, -, hP, -⟩ := id h
  exact va_iald hx hb hK hP k 0 (z_tw_at hM) rfl hi hd (kk p l e R s m args below meth c b sc D cA H locs cells slots ls Qm h hr)
theorem ev_zald {q k n j : Nat} {f : Nat → Int32} {i : Int32} (hd : decode Y.2.1 pc = .ok (.baload, 1)) (hM : M[k]? = some (.inl (1, n, .inl f))) (hi : vp_in i n) (hj : i.toNatClampNeg = j) (hq : pc + 1 = q) (kk : z_Ev Y d kc ks q L (.int (f j) :: S) M Q) : z_Ev Y d kc ks pc L (.int i :: .ref k :: S) M Q := by
  subst hq
  subst hj
  intro p l e R s m args below meth c b sc D cA H locs cells slots ls Qm h hr
  obtain ⟨⟨hx, hb, hml, hown, hts, hK, -⟩, -, hP, -⟩ := id h
  exact va_zald hx hb hK hP k 1 (z_tw_at hM) rfl hi hd (kk p l e R s m args below meth c b sc D cA H locs cells slots ls Qm h hr)
theorem ev_aald {q k n j t x : Nat} {f : Nat → Option Nat} {i : Int32} (hd : decode Y.2.1 pc = .ok (.aaload, 1)) (hT : ∀ cA, ∃ C, (z_tys cA)[t]? = some (cA t, .object C)) (hM : M[k]? = some (.inl (t, n, .inr (.inr (.inr (.inr f)))))) (hi : vp_in i n) (hj : i.toNatClampNeg = j) (hf : f j = some x) (hq : pc + 1 = q) (kk : z_Ev Y d kc ks q L (.ref x :: S) M Q) : z_Ev Y d kc ks pc L (.int i :: .ref k :: S) M Q := by
  subst hq
  subst hj
  intro p l e R s m args below meth c b sc D cA H locs cells slots ls Qm h hr
  obtain ⟨⟨hx, hb, hml, hown, hts, hK, -⟩, -, hP, -⟩ := id h
  obtain ⟨C, hC⟩ := hT cA
  refine va_aldq hx hb hK hP k t (z_tw_at hM) hC hi hd ?_
  show W p l e R s m args below meth c H locs cells slots Qm (F0 m (pc + 1) ls (va_rf ((f i.toNatClampNeg).map (fun k => b + k)) :: S.map (z_tv b sc)))
  rw [hf]
  exact kk p l e R s m args below meth c b sc D cA H locs cells slots ls Qm h hr
theorem ev_iast {q k n j : Nat} {f : Nat → Int32} {i x : Int32} {M' : List va_E} (hd : decode Y.2.1 pc = .ok (.iastore, 1)) (hM : M[k]? = some (.inl (0, n, .inl f))) (hi : vp_in i n) (hj : i.toNatClampNeg = j) (hM' : M.set k (.inl (0, n, .inl (upd f j x))) = M') (hq : pc + 1 = q) (kk : z_Ev Y d kc ks q L S M' Q) : z_Ev Y d kc ks pc L (.int x :: .int i :: .ref k :: S) M Q := by
  subst hq
  subst hj
  subst hM'
  intro p l e R s m args below meth c b sc D cA H locs cells slots ls Qm h hr
  obtain ⟨⟨hx, hb, hml, hown, hts, hK, -⟩, -, hP, hz, hS, -⟩ := id h
  refine z_iast hx hb hK hP (z_tw_D b sc cA M) hS k 0 (z_tw_at hM) rfl hi hd fun H1 locs1 z1 hP1 hS1 => ?_
  have hP2 : va_P D z_cl (z_tw b sc cA (M.set k (.inl (0, n, .inl (upd f i.toNatClampNeg x))))) H1 := by
    rw [← z_tw_set]
    exact hP1
  exact kk p l e R s m args below meth c b sc D cA H1 locs1 cells slots ls Qm ⟨h.1, h.2.1, hP2, by rw [z1, hz, List.length_set], hS1, h.2.2.2.2.2⟩ hr
theorem ev_zast {q k n j : Nat} {f : Nat → Int32} {i x : Int32} {M' : List va_E} (hd : decode Y.2.1 pc = .ok (.bastore, 1)) (hM : M[k]? = some (.inl (1, n, .inl f))) (hx : narrow .boolean (.int x) = .int x) (hi : vp_in i n) (hj : i.toNatClampNeg = j) (hM' : M.set k (.inl (1, n, .inl (upd f j x))) = M') (hq : pc + 1 = q) (kk : z_Ev Y d kc ks q L S M' Q) : z_Ev Y d kc ks pc L (.int x :: .int i :: .ref k :: S) M Q := by
  subst hq
  subst hj
  subst hM'
  intro p l e R s m args below meth c b sc D cA H locs cells slots ls Qm h hr
  obtain ⟨⟨hx', hb, hml, hown, hts, hK, -⟩, -, hP, hz, hS, -⟩ := id h
  refine z_zast hx' hb hK hP (z_tw_D b sc cA M) hS k 1 (z_tw_at hM) rfl hx hi hd fun H1 locs1 z1 hP1 hS1 => ?_
  have hP2 : va_P D z_cl (z_tw b sc cA (M.set k (.inl (1, n, .inl (upd f i.toNatClampNeg x))))) H1 := by
    rw [← z_tw_set]
    exact hP1
  exact kk p l e R s m args below meth c b sc D cA H1 locs1 cells slots ls Qm ⟨h.1, h.2.1, hP2, by rw [z1, hz, List.length_set], hS1, h.2.2.2.2.2⟩ hr
theorem ev_aast {q k n j t v ci : Nat} {f : Nat → Option Nat} {i : Int32} {vs : List Value} {M' : List va_E} (hd : decode Y.2.1 pc = .ok (.aastore, 1)) (hT : ∀ cA, ∃ r, z_cl[ci]? = some r ∧ (z_tys cA)[t]? = some (cA t, .object r.1)) (hM : M[k]? = some (.inl (t, n, .inr (.inr (.inr (.inr f)))))) (hv : M[v]? = some (.inr (ci, vs))) (hi : vp_in i n) (hj : i.toNatClampNeg = j) (hM' : M.set k (.inl (t, n, .inr (.inr (.inr (.inr (va_up f j (some v))))))) = M') (hq : pc + 1 = q) (kk : z_Ev Y d kc ks q L S M' Q) : z_Ev Y d kc ks pc L (.ref v :: .int i :: .ref k :: S) M Q := by
  subst hq
  subst hj
  subst hM'
  intro p l e R s m args below meth c b sc D cA H locs cells slots ls Qm h hr
  obtain ⟨⟨hx, hb, hml, hown, hts, hK, -⟩, -, hP, hz, hS, -⟩ := id h
  obtain ⟨r, hr1, hr2⟩ := hT cA
  refine z_astq hx hb hK hP (z_tw_D b sc cA M) hS k t v ci (z_tw_at hM) hr2 (z_tw_at hv) hr1 hi hd fun H1 locs1 z1 hP1 hS1 => ?_
  have hfn : va_up (fun j => (f j).map (fun k => b + k)) i.toNatClampNeg (some (b + v)) = fun j => (va_up f i.toNatClampNeg (some v) j).map (fun k => b + k) := by
    funext j
    unfold va_up
    split <;> rfl
  have hP2 : va_P D z_cl (z_tw b sc cA (M.set k (.inl (t, n, .inr (.inr (.inr (.inr (va_up f i.toNatClampNeg (some v))))))))) H1 := by
    rw [← z_tw_set]
    show va_P D z_cl ((z_tw b sc cA M).set k (b + k, .inl (cA t, n, .inr (.inr (.inr (.inr (fun j => (va_up f i.toNatClampNeg (some v) j).map (fun k => b + k)))))))) H1
    rw [← hfn]
    exact hP1
  exact kk p l e R s m args below meth c b sc D cA H1 locs1 cells slots ls Qm ⟨h.1, h.2.1, hP2, by rw [z1, hz, List.length_set], hS1, h.2.2.2.2.2⟩ hr
theorem ev_new {q ci n idx : Nat} {fs : List Value} (hd : decode Y.2.1 pc = .ok (.new idx, 3)) (hN : z_N Y.1.cls idx ci n fs) (hq : pc + 3 = q) (kk : z_Ev Y d kc ks q L (.ref M.length :: S) (M ++ [.inr (ci, fs)]) Q) : z_Ev Y d (kc + 1) (ks + n) pc L S M Q := by
  subst hq
  intro p l e R s m args below meth c b sc D cA H locs cells slots ls Qm h hr
  obtain ⟨C, T, ty0, hc, hin, hty, hcl, hinst, hini, hfs, hst⟩ := hN
  obtain ⟨⟨hx, hb, hml, hown, hts, hK, -⟩, hR, hP, hz, hS, -⟩ := id h
  refine z_new hx hb hts hin ty0 hty hown (hts _ hcl) (hts _ hinst) (hts _ hini) hK hP hS hc hfs (by omega) (by omega) hd fun H1 z1 hP1 hS1 => ?_
  rw [hz] at z1 hP1 ⊢
  have hP2 : va_P D z_cl (z_tw b sc cA (M ++ [.inr (ci, fs)])) H1 := by
    rw [← z_tw_app]
    show va_P D z_cl (z_tw b sc cA M ++ [(b + M.length, .inr (ci, fs.map (z_tv b sc)))]) H1
    rw [hst]
    exact hP1
  exact kk p l e R s m args below meth c b sc D cA H1 locs (cells + 1) (slots + n) ls Qm ⟨h.1, ⟨hR.1, hR.2.1, by omega, by omega⟩, hP2, by rw [z1, List.length_append]; simp; omega, hS1, h.2.2.2.2.2⟩ hr
theorem ev_newi {q n : Nat} {i : Int32} (hd : decode Y.2.1 pc = .ok (.newarray .int, 2)) (hw : Cond.arrayClass .int ∈ z_ws) (hi : i = nI n) (hn : n ≤ 1000) (hq : pc + 2 = q) (kk : z_Ev Y d kc ks q L (.ref M.length :: S) (M ++ [.inl (0, n, .inl (fun _ => 0))]) Q) : z_Ev Y d (kc + 1) (ks + n) pc L (.int i :: S) M Q := by
  subst hq
  subst hi
  intro p l e R s m args below meth c b sc D cA H locs cells slots ls Qm h hr
  obtain ⟨⟨hx, hb, hml, hown, hts, hK, -⟩, hR, hP, hz, hS, -⟩ := id h
  have hcA : s.vm.findClass ("[" ++ FieldType.int.toString) = some (cA 0) := (hK.2 0 (cA 0, .int) rfl).2
  refine z_newa (atype := .int) (ty := .int) (a0 := (n, .inl (fun _ => 0))) hx hb (hts _ hw) rfl hP hS (fun _ => rfl) hcA (nI_pos (by omega)) (nI_clamp (by omega)) (by show n * 4 ≤ _; omega) (by omega) (by omega) hd fun H1 z1 hP1 hS1 => ?_
  rw [hz] at z1 hP1 ⊢
  have hP2 : va_P D z_cl (z_tw b sc cA (M ++ [.inl (0, n, .inl (fun _ => 0))])) H1 := by
    rw [← z_tw_app]
    exact hP1
  exact kk p l e R s m args below meth c b sc D cA H1 locs (cells + 1) (slots + n) ls Qm ⟨h.1, ⟨hR.1, hR.2.1, by omega, by omega⟩, hP2, by rw [z1, List.length_append]; simp; omega, hS1, h.2.2.2.2.2⟩ hr
theorem ev_newz {q n : Nat} {i : Int32} (hd : decode Y.2.1 pc = .ok (.newarray .boolean, 2)) (hw : Cond.arrayClass .boolean ∈ z_ws) (hi : i = nI n) (hn : n ≤ 1000) (hq : pc + 2 = q) (kk : z_Ev Y d kc ks q L (.ref M.length :: S) (M ++ [.inl (1, n, .inl (fun _ => 0))]) Q) : z_Ev Y d (kc + 1) (ks + n) pc L (.int i :: S) M Q := by
  subst hq
  subst hi
  intro p l e R s m args below meth c b sc D cA H locs cells slots ls Qm h hr
  obtain ⟨⟨hx, hb, hml, hown, hts, hK, -⟩, hR, hP, hz, hS, -⟩ := id h
  have hcA : s.vm.findClass ("[" ++ FieldType.boolean.toString) = some (cA 1) := (hK.2 1 (cA 1, .boolean) rfl).2
  refine z_newa (atype := .boolean) (ty := .boolean) (a0 := (n, .inl (fun _ => 0))) hx hb (hts _ hw) rfl hP hS (fun _ => rfl) hcA (nI_pos (by omega)) (nI_clamp (by omega)) (by show n * 1 ≤ _; omega) (by omega) (by omega) hd fun H1 z1 hP1 hS1 => ?_
  rw [hz] at z1 hP1 ⊢
  have hP2 : va_P D z_cl (z_tw b sc cA (M ++ [.inl (1, n, .inl (fun _ => 0))])) H1 := by
    rw [← z_tw_app]
    exact hP1
  exact kk p l e R s m args below meth c b sc D cA H1 locs (cells + 1) (slots + n) ls Qm ⟨h.1, ⟨hR.1, hR.2.1, by omega, by omega⟩, hP2, by rw [z1, List.length_append]; simp; omega, hS1, h.2.2.2.2.2⟩ hr
theorem ev_newq {q n t idx : Nat} {i : Int32} {C : String} (hd : decode Y.2.1 pc = .ok (.anewarray idx, 3)) (hw : Cond.classLink Y.1.cls idx C ∈ z_ws) (hC : C ∈ z_ao) (hT : ∀ cA, (z_tys cA)[t]? = some (cA t, .object C)) (hi : i = nI n) (hn : n ≤ 1000) (hq : pc + 3 = q) (kk : z_Ev Y d kc ks q L (.ref M.length :: S) (M ++ [.inl (t, n, .inr (.inr (.inr (.inr (fun _ => none)))))]) Q) : z_Ev Y d (kc + 1) (ks + n) pc L (.int i :: S) M Q := by
  subst hq
  subst hi
  intro p l e R s m args below meth c b sc D cA H locs cells slots ls Qm h hr
  obtain ⟨⟨hx, hb, hml, hown, hts, hK, hWd, -⟩, hR, hP, hz, hS, -⟩ := id h
  obtain ⟨kA, comp, -, -, -, hcA⟩ := (hK.2 t _ (hT cA)).2
  refine z_newq hx hb hown (hts _ hw) (hWd.2 C hC) hP hS hcA (nI_pos (by omega)) (nI_clamp (by omega)) (by omega) (by omega) (by omega) hd fun H1 z1 hP1 hS1 => ?_
  rw [hz] at z1 hP1 ⊢
  have hP2 : va_P D z_cl (z_tw b sc cA (M ++ [.inl (t, n, .inr (.inr (.inr (.inr (fun _ => none)))))])) H1 := by
    rw [← z_tw_app]
    exact hP1
  exact kk p l e R s m args below meth c b sc D cA H1 locs (cells + 1) (slots + n) ls Qm ⟨h.1, ⟨hR.1, hR.2.1, by omega, by omega⟩, hP2, by rw [z1, List.length_append]; simp; omega, hS1, h.2.2.2.2.2⟩ hr
theorem ev_obj {q k idx : Nat} (hd : decode Y.2.1 pc = .ok (.invokespecial idx, 3)) (hl : Cond.methodLink Y.1.cls idx Lib.objectInit ∈ z_ws) (h1 : Cond.instanceMethod Lib.objectInit ∈ z_ws) (h2 : Cond.code Lib.objectInit ⟨#[0xb1]⟩ 1 none ∈ z_ws) (hS8 : S.length ≤ 8) (hSr : S.all z_real = true) (hdd : 1 ≤ d.1 ∧ 20 ≤ d.2) (hq : pc + 3 = q) (kk : z_Ev Y d kc ks q L S M Q) : z_Ev Y d kc ks pc L (.ref k :: S) M Q := by
  subst hq
  intro p l e R s m args below meth c b sc D cA H locs cells slots ls Qm h hr
  obtain ⟨⟨hx, hb, hml, hown, hts, hK, -⟩, hR, hP, hz, hS, hL⟩ := id h
  refine W.objInit hx hb hown (hts _ hl) (hts _ h1) (hts _ h2) rfl (by rw [hml]; exact hL.1) rfl hd (by omega) ?_ (kk p l e R s m args below meth c b sc D cA H locs cells slots ls Qm h hr)
  rw [z_sum hSr]
  show 2 * 0 + _ + 12 ≤ _
  omega
theorem ev_sld {q k j : Nat} {i : Int32} (hd : decode Y.2.1 pc = .ok (.iaload, 1)) (h0 : Y.2.2.2.2.1 ≠ 0) (hi : vp_in i (Y.2.2.2.2.1 - 1)) (hj : i.toNatClampNeg = j) (hq : pc + 1 = q) (kk : z_Ev Y d kc ks q L (.int (Y.2.2.2.2.2 j) :: S) M Q) : z_Ev Y d kc ks pc L (.int i :: .retAddr k :: S) M Q := by
  subst hq
  subst hj
  intro p l e R s m args below meth c b sc D cA H locs cells slots ls Qm h hr
  obtain ⟨⟨hx, hb, hml, hown, hts, hK, -, -, hX, -⟩, hR, hP, hz, hS, hL⟩ := id h
  obtain ⟨x1, x2, x3⟩ := hX h0
  exact va_sld hx hb x1 x2 x3 hS hi hd (kk p l e R s m args below meth c b sc D cA H locs cells slots ls Qm h hr)
theorem ev_slen {q k : Nat} (hd : decode Y.2.1 pc = .ok (.arraylength, 1)) (h0 : Y.2.2.2.2.1 ≠ 0) (hq : pc + 1 = q) (kk : z_Ev Y d kc ks q L (.int (nI (Y.2.2.2.2.1 - 1)) :: S) M Q) : z_Ev Y d kc ks pc L (.retAddr k :: S) M Q := by
  subst hq
  intro p l e R s m args below meth c b sc D cA H locs cells slots ls Qm h hr
  obtain ⟨⟨hx, hb, hml, hown, hts, hK, -, -, hX, -⟩, hR, hP, hz, hS, hL⟩ := id h
  obtain ⟨x1, x2, x3⟩ := hX h0
  exact va_slen hx hb x1 x2 x3 hS hd (kk p l e R s m args below meth c b sc D cA H locs cells slots ls Qm h hr)
theorem ev_callS {q idx n mc ms : Nat} {Y' : z_MD} {As S0 : List Value} {Q' : Option Value → List va_E → Prop} (hd : decode Y.2.1 pc = .ok (.invokestatic idx, 3)) (hl : Cond.methodLink Y.1.cls idx Y'.1 ∈ z_ws) (hs : Cond.static Y'.1 ∈ z_ws) (hY : z_Cl Y' n) (hn : As.length = n) (hS8 : S.length ≤ 8) (hSr : S.all z_real = true) (hst : As.reverse ++ S = S0) (hq : pc + 3 = q) (hdd : d'.1 + 1 ≤ d.1 ∧ 8 + (Y'.2.2.1 + 11) + d'.2 ≤ d.2) (hM : z_Sp Y' d' mc ms As M Q') (kk : ∀ r M', Q' r M' → z_Ev Y d kc ks q L (r.toList ++ S) M' Q) : z_Ev Y d (mc + kc) (ms + ks) pc L S0 M Q := by
  subst hq
  subst hst
  intro p l e R s m args below meth c b sc D cA H locs cells slots ls Qm h hr
  obtain ⟨⟨hx, hb, hml, hown, hts, hK, hWd, -, hX, -⟩, hR, hP, hz, hS, hL⟩ := id h
  refine z_cont (va_runS (As := As.map (z_tv b sc)) (rest := S.map (z_tv b sc)) ⟨hx, hb, hml, hown, hts⟩ (hM l b sc D cA) ⟨z_callB hY hts ⟨Nat.le_trans hdd.1 hR.1, Nat.le_trans hdd.2 hR.2.1⟩ hl, hts _ hs⟩ ⟨z_blind b sc D cA As M, fun U hU hW => ⟨rfl, by rw [hU]; exact hP, by rw [hU]; exact hz, va_K.moved hW.alike hK, hWd.moved hW⟩⟩ rfl (by simpa using hn) hL.1 (by simp) (lv_room (by rw [z_sum hSr]; exact hS8)) hd ⟨by omega, by omega⟩) hS fun r M' H1 locs1 hQ hP1 hz1 hS1 => ?_
  rw [z_ret_map]
  exact kk r M' hQ p l e R s m args below meth c b sc D cA H1 locs1 (cells + mc) (slots + ms) ls Qm ⟨h.1, ⟨hR.1, hR.2.1, by omega, by omega⟩, hP1, hz1, hS1, hL⟩ hr
theorem ev_callSN {q idx n mc ms : Nat} {host : String} {Y' : z_MD} {As S0 : List Value} {Q' : Option Value → List va_E → Prop} (hd : decode Y.2.1 pc = .ok (.invokestatic idx, 3)) (hl : (Y.1.cls, idx, Y'.1, host) ∈ z_nw) (hs : Cond.static Y'.1 ∈ z_ws) (hY : z_Cl Y' n) (hn : As.length = n) (hS8 : S.length ≤ 8) (hSr : S.all z_real = true) (hst : As.reverse ++ S = S0) (hq : pc + 3 = q) (hdd : d'.1 + 1 ≤ d.1 ∧ 8 + (Y'.2.2.1 + 11) + d'.2 ≤ d.2) (hM : z_Sp Y' d' mc ms As M Q') (kk : ∀ r M', Q' r M' → z_Ev Y d kc ks q L (r.toList ++ S) M' Q) : z_Ev Y d (mc + kc) (ms + ks) pc L S0 M Q := by
  subst hq
  subst hst
  intro p l e R s m args below meth c b sc D cA H locs cells slots ls Qm h hr
  obtain ⟨⟨hx, hb, hml, hown, hts, hK, hWd, -, hX, -⟩, hR, hP, hz, hS, hL⟩ := id h
  refine z_cont (va_runSN (As := As.map (z_tv b sc)) (rest := S.map (z_tv b sc)) ⟨hx, hb, hml, hown, hts⟩ (hM l b sc D cA) ⟨z_callN hY hts hWd ⟨Nat.le_trans hdd.1 hR.1, Nat.le_trans hdd.2 hR.2.1⟩ hl, hts _ hs, trivial⟩ ⟨z_blind b sc D cA As M, fun U hU hW => ⟨rfl, by rw [hU]; exact hP, by rw [hU]; exact hz, va_K.moved hW.alike hK, hWd.moved hW⟩⟩ rfl (by simpa using hn) hL.1 (by simp) (lv_room (by rw [z_sum hSr]; exact hS8)) hd ⟨by omega, by omega⟩) hS fun r M' H1 locs1 hQ hP1 hz1 hS1 => ?_
  rw [z_ret_map]
  exact kk r M' hQ p l e R s m args below meth c b sc D cA H1 locs1 (cells + mc) (slots + ms) ls Qm ⟨h.1, ⟨hR.1, hR.2.1, by omega, by omega⟩, hP1, hz1, hS1, hL⟩ hr
theorem ev_callV {q idx n mc ms k ci : Nat} {fs : List Value} {Y' : z_MD} {As S0 : List Value} {Q' : Option Value → List va_E → Prop} (hd : decode Y.2.1 pc = .ok (.invokevirtual idx, 3)) (hl : Cond.methodLink Y.1.cls idx Y'.1 ∈ z_ws) (hs : Cond.instanceMethod Y'.1 ∈ z_ws) (hs2 : Cond.selects Y'.1.cls Y'.1 Y'.1 ∈ z_ws) (hY : z_Cl Y' n) (hO : M[k]? = some (.inr (ci, fs))) (hcl : (z_cl[ci]?).map (fun r => r.1) = some Y'.1.cls) (hn : As.length = n) (hS8 : S.length ≤ 8) (hSr : S.all z_real = true) (hst : As.reverse ++ .ref k :: S = S0) (hq : pc + 3 = q) (hdd : d'.1 + 1 ≤ d.1 ∧ 8 + (Y'.2.2.1 + 11) + d'.2 ≤ d.2) (hM : z_Sp Y' d' mc ms (.ref k :: As) M Q') (kk : ∀ r M', Q' r M' → z_Ev Y d kc ks q L (r.toList ++ S) M' Q) : z_Ev Y d (mc + kc) (ms + ks) pc L S0 M Q := by
  subst hq
  subst hst
  intro p l e R s m args below meth c b sc D cA H locs cells slots ls Qm h hr
  obtain ⟨⟨hx, hb, hml, hown, hts, hK, hWd, -, hX, -⟩, hR, hP, hz, hS, hL⟩ := id h
  obtain ⟨rc, hrc, hrn⟩ := Option.map_eq_some_iff.mp hcl
  obtain ⟨cellB, g1, g2, g3⟩ := va_recv hK hP hrc (z_tw_at hO)
  rw [hrn] at g3
  refine z_cont (va_runV (As := As.map (z_tv b sc)) (rest := S.map (z_tv b sc)) (b := b + k) ⟨hx, hb, hml, hown, hts⟩ (hM l b sc D cA) ⟨z_callB hY hts ⟨Nat.le_trans hdd.1 hR.1, Nat.le_trans hdd.2 hR.2.1⟩ hl, hts _ hs, hts _ hs2⟩ ⟨z_blind b sc D cA (.ref k :: As) M, ⟨cellB, g1, g2, g3⟩, fun U hU hW => ⟨rfl, by rw [hU]; exact hP, by rw [hU]; exact hz, va_K.moved hW.alike hK, hWd.moved hW⟩⟩ rfl (by simpa using hn) hL.1 (by simp [z_tv]) (lv_room (by rw [z_sum hSr]; exact hS8)) hd ⟨by omega, by omega⟩) hS fun r M' H1 locs1 hQ hP1 hz1 hS1 => ?_
  rw [z_ret_map]
  exact kk r M' hQ p l e R s m args below meth c b sc D cA H1 locs1 (cells + mc) (slots + ms) ls Qm ⟨h.1, ⟨hR.1, hR.2.1, by omega, by omega⟩, hP1, hz1, hS1, hL⟩ hr
theorem ev_callI {q idx n mc ms k : Nat} {Y' : z_MD} {As S0 : List Value} {Q' : Option Value → List va_E → Prop} (hd : decode Y.2.1 pc = .ok (.invokespecial idx, 3)) (hl : Cond.methodLink Y.1.cls idx Y'.1 ∈ z_ws) (hs : Cond.instanceMethod Y'.1 ∈ z_ws) (hs2 : Y'.1.name = "<init>") (hs3 : Y'.2.2.2.1 = none) (hY : z_Cl Y' n) (hn : As.length = n) (hS8 : S.length ≤ 8) (hSr : S.all z_real = true) (hst : As.reverse ++ .ref k :: S = S0) (hq : pc + 3 = q) (hdd : d'.1 + 1 ≤ d.1 ∧ 8 + (Y'.2.2.1 + 11) + d'.2 ≤ d.2) (hM : z_Sp Y' d' mc ms (.ref k :: As) M Q') (kk : ∀ r M', Q' r M' → z_Ev Y d kc ks q L (r.toList ++ S) M' Q) : z_Ev Y d (mc + kc) (ms + ks) pc L S0 M Q := by
  subst hq
  subst hst
  intro p l e R s m args below meth c b sc D cA H locs cells slots ls Qm h hr
  obtain ⟨⟨hx, hb, hml, hown, hts, hK, hWd, -, hX, -⟩, hR, hP, hz, hS, hL⟩ := id h
  have hcb := z_callB (R := R) (s := s) (args := args) (mc := mc) (ms := ms) hY hts ⟨Nat.le_trans hdd.1 hR.1, Nat.le_trans hdd.2 hR.2.1⟩ hl
  have hM1 := hM l b sc D cA
  rw [hs3] at hcb hM1
  refine z_cont (va_runI (As := As.map (z_tv b sc)) (rest := S.map (z_tv b sc)) (b := b + k) ⟨hx, hb, hml, hown, hts⟩ hM1 ⟨hcb, hs2, hts _ hs⟩ ⟨z_blind b sc D cA (.ref k :: As) M, fun U hU hW => ⟨rfl, by rw [hU]; exact hP, by rw [hU]; exact hz, va_K.moved hW.alike hK, hWd.moved hW⟩⟩ rfl (by simpa using hn) hL.1 (by simp [z_tv]) (lv_room (by rw [z_sum hSr]; exact hS8)) hd ⟨by omega, by omega⟩) hS fun r M' H1 locs1 hQ hP1 hz1 hS1 => ?_
  rw [z_ret_map]
  exact kk r M' hQ p l e R s m args below meth c b sc D cA H1 locs1 (cells + mc) (slots + ms) ls Qm ⟨h.1, ⟨hR.1, hR.2.1, by omega, by omega⟩, hP1, hz1, hS1, hL⟩ hr
theorem ev_ret (hd : decode Y.2.1 pc = .ok (.return_, 1)) (hret : Y.2.2.2.1 = none) (hQ : Q none M) : z_Ev Y d kc ks pc L [] M Q := by
  intro p l e R s m args below meth c b sc D cA H locs cells slots ls Qm h hr
  exact hr none M H locs cells slots pc ls hQ h.2.2.1 h.2.2.2.1 h.2.2.2.2.1 (by have := h.2.1; omega) (by have := h.2.1; omega) ⟨hd, hret⟩
theorem ev_iret {x : Int32} {ty : FieldType} (hd : decode Y.2.1 pc = .ok (.ireturn, 1)) (hret : Y.2.2.2.1 = some ty) (hn : narrow ty (.int x) = .int x) (hQ : Q (some (.int x)) M) : z_Ev Y d kc ks pc L [.int x] M Q := by
  intro p l e R s m args below meth c b sc D cA H locs cells slots ls Qm h hr
  exact hr (some (.int x)) M H locs cells slots pc ls hQ h.2.2.1 h.2.2.2.1 h.2.2.2.2.1 (by have := h.2.1; omega) (by have := h.2.1; omega) (Or.inl ⟨x, ty, rfl, hd, hret, hn⟩)
theorem ev_aret {x : Nat} {C : String} (hd : decode Y.2.1 pc = .ok (.areturn, 1)) (hret : Y.2.2.2.1 = some (.object C)) (hQ : Q (some (.ref x)) M) : z_Ev Y d kc ks pc L [.ref x] M Q := by
  intro p l e R s m args below meth c b sc D cA H locs cells slots ls Qm h hr
  exact hr (some (.ref x)) M H locs cells slots pc ls hQ h.2.2.1 h.2.2.2.1 h.2.2.2.2.1 (by have := h.2.1; omega) (by have := h.2.1; omega) (Or.inr ⟨C, Or.inr ⟨x, rfl⟩, hd, hret⟩)
theorem ev_aretN {C : String} (hd : decode Y.2.1 pc = .ok (.areturn, 1)) (hret : Y.2.2.2.1 = some (.object C)) (hQ : Q (some .null) M) : z_Ev Y d kc ks pc L [.null] M Q := by
  intro p l e R s m args below meth c b sc D cA H locs cells slots ls Qm h hr
  exact hr (some .null) M H locs cells slots pc ls hQ h.2.2.1 h.2.2.2.1 h.2.2.2.2.1 (by have := h.2.1; omega) (by have := h.2.1; omega) (Or.inr ⟨C, Or.inl rfl, hd, hret⟩)
theorem ev_mono {Q2 : Option Value → List va_E → Prop} (hk : ∀ r M', Q r M' → Q2 r M') (h : z_Ev Y d kc ks pc L S M Q) : z_Ev Y d kc ks pc L S M Q2 := by
  intro p l e R s m args below meth c b sc D cA H locs cells slots ls Qm hh hr
  exact h p l e R s m args below meth c b sc D cA H locs cells slots ls Qm hh (fun r M' H' locs' cells' slots' pc' ls' hQ => hr r M' H' locs' cells' slots' pc' ls' (hk r M' hQ))
end
