-- own rows: stores that keep the size of the heap, new cells at the heap's end
section
variable {p : Program} {l : Launch} {e : Env} {R : Room} {s : State} {m : MethodId} {args : Array Value} {below : List Frame} {meth : Method} {c : Code} {H H0 : Heap} {locs : List Loc} {cells slots : Nat} {Q : State → Prop}
variable {cc : ByteArray} {pc : Nat} {ls : Array Slot} {rest : List Value} {D : va_G} {cl : List vw_C} {tys : List (ClassId × FieldType)} {ws : va_W} {A : Nat → Prop} {a : Nat}
theorem z_put (hexec : p.tables.exec = Jvm.exec) (hb : c.code = cc) {own ref C : String} {T : u_T} {N ci index : Nat} {Ts : List Cond} (hts : ∀ w ∈ Ts, w.before args s = true) (hin : ∀ w ∈ u_ws C T N, w ∈ Ts) (ty0 : Nat → FieldType) (hty : ∀ k, k < N → parseFieldDescriptor (T k).2.2.1 = some (ty0 k)) (hnm : ∀ a, a < N → ∀ b, b < N → a ≠ b → (T a).2.1 ≠ (T b).2.1) (hown : s.vm.findClass own = some m.cls) (hK : va_K D cl tys s) (hP : va_P D cl ws H) (hD : va_D A ws) (hS0 : va_S A H0 H locs) (q0 : Nat) {fs : List Value} (he : ws[q0]? = some (a, .inr (ci, fs))) (hc : cl[ci]? = some (C, T, N)) (k : Nat) (hk : k < N) (hlink : (Cond.fieldLink own index ref (T k).2.1 (T k).2.2.1).before args s = true) (hsame : ∀ x, s.fieldFound? (T k).1 (T k).2.1 (T k).2.2.1 = some x → s.fieldFound? ref (T k).2.1 (T k).2.2.1 = some x) (hfin : (T k).2.2.2 = false) {ty : FieldType} {v : Value} (hd : parseFieldDescriptor (T k).2.2.1 = some ty) (hn : narrow ty v = v) (hfit : fits ty v = true) (hl : k < fs.length)
    (hdg : decode cc pc = .ok (.putfield index, 3)) (kk : ∀ (H1 : Heap) (locs1 : List Loc), H1.size = H.size → va_P D cl (ws.set q0 (a, .inr (ci, fs.set k v))) H1 → va_S A H0 H1 locs1 → W p l e R s m args below meth c H1 locs1 cells slots Q (F0 m (pc + 3) ls rest)) : W p l e R s m args below meth c H locs cells slots Q (F0 m pc ls (v :: .ref a :: rest)) := by
  have hap := va_apart (own := own) hts hin ty0 hty hnm hK hc
  obtain ⟨r, h1, cell, q1, q2, q3, q4⟩ := hP q0 _ he
  have hr : r = (C, T, N) := Option.some.inj (h1.symm.trans hc)
  subst hr
  obtain ⟨hS, hfc, kC, hkC, hkind⟩ := hK.1 ci _ hc
  obtain ⟨cf, kf, fi, f, hi, hsl⟩ := hS k hk
  have hlay := hts _ (hin _ (u_in_lay hk))
  unfold u_lay at hlay
  rw [if_neg (by rw [hfin]; decide)] at hlay
  have hst := (u_facts hfc hkC (u_lays hts hin hk) hi).1
  have h6 := u_store hfc hkC hkind hlay hi hd hn hfit
  refine W.putK hexec hb (f := f) ⟨hown, hlink, ⟨_, _, _, hsame _ hi⟩, hst⟩ (by rw [q2]; exact h6) q1 q3 (by rw [hsl]; exact k2_hasslot (q4 k hk)) rfl rfl hdg fun H' e1 e2 e3 => ?_
  rw [hsl] at e1 ⊢
  exact kk H' _ e2 (hP.set hD he ⟨_, hc, t_OB.to (V := updV (vp_V fs) k v) ⟨_, e1, q2, q3, t_set q4 hap hk v⟩ (fun j _ => vp_updV_set hl v j)⟩ e3) (hS0.put e2 e3 (hD.2 q0 _ he))
theorem z_putF (hexec : p.tables.exec = Jvm.exec) (hb : c.code = cc) {own ref C : String} {T : u_T} {N ci index : Nat} {Ts : List Cond} (hts : ∀ w ∈ Ts, w.before args s = true) (hin : ∀ w ∈ u_ws C T N, w ∈ Ts) (ty0 : Nat → FieldType) (hty : ∀ k, k < N → parseFieldDescriptor (T k).2.2.1 = some (ty0 k)) (hnm : ∀ a, a < N → ∀ b, b < N → a ≠ b → (T a).2.1 ≠ (T b).2.1) (hown : s.vm.findClass own = some m.cls) (hK : va_K D cl tys s) (hP : va_P D cl ws H) (hD : va_D A ws) (hS0 : va_S A H0 H locs) (q0 : Nat) {fs : List Value} (he : ws[q0]? = some (a, .inr (ci, fs))) (hc : cl[ci]? = some (C, T, N)) (k : Nat) (hk : k < N) (hlink : (Cond.fieldLink own index ref (T k).2.1 (T k).2.2.1).before args s = true) (hsame : ∀ x, s.fieldFound? (T k).1 (T k).2.1 (T k).2.2.1 = some x → s.fieldFound? ref (T k).2.1 (T k).2.2.1 = some x) (hfin : (T k).2.2.2 = true) (hin2 : meth.name = "<init>") (hdecl : (T k).1 = own) {ty : FieldType} {v : Value} (hd : parseFieldDescriptor (T k).2.2.1 = some ty) (hn : narrow ty v = v) (hfit : fits ty v = true) (hl : k < fs.length)
    (hdg : decode cc pc = .ok (.putfield index, 3)) (kk : ∀ (H1 : Heap) (locs1 : List Loc), H1.size = H.size → va_P D cl (ws.set q0 (a, .inr (ci, fs.set k v))) H1 → va_S A H0 H1 locs1 → W p l e R s m args below meth c H1 locs1 cells slots Q (F0 m (pc + 3) ls rest)) : W p l e R s m args below meth c H locs cells slots Q (F0 m pc ls (v :: .ref a :: rest)) := by
  have hap := va_apart (own := own) hts hin ty0 hty hnm hK hc
  obtain ⟨r, h1, cell, q1, q2, q3, q4⟩ := hP q0 _ he
  have hr : r = (C, T, N) := Option.some.inj (h1.symm.trans hc)
  subst hr
  obtain ⟨hS, hfc, kC, hkC, hkind⟩ := hK.1 ci _ hc
  obtain ⟨cf, kf, fi, f, hi, hsl⟩ := hS k hk
  have hlay := hts _ (hin _ (u_in_lay hk))
  unfold u_lay at hlay
  rw [if_pos hfin] at hlay
  have hst := (u_facts hfc hkC (u_lays hts hin hk) hi).1
  have hcf : m.cls = cf := by
    obtain ⟨_, _, c', _, _, _, -, -, hf', -, -, -, hown2, -⟩ := Cond.laysFinal_spec hlay
    have e1 : c' = cf := by have := hi.symm.trans hf'; simp at this; exact this.1.symm
    rw [hdecl] at hown2
    rw [← e1]; exact Option.some.inj (hown.symm.trans hown2)
  have h6 := u_fits hfc hkC hkind (Or.inr hlay) hi hd hn hfit
  refine W.putFinK hexec hb hown hlink (hsame _ hi) hst hcf hin2 (by rw [q2]; exact h6) q1 q3 (by rw [hsl]; exact k2_hasslot (q4 k hk)) rfl rfl hdg fun H' e1 e2 e3 => ?_
  rw [hsl] at e1 ⊢
  exact kk H' _ e2 (hP.set hD he ⟨_, hc, t_OB.to (V := updV (vp_V fs) k v) ⟨_, e1, q2, q3, t_set q4 hap hk v⟩ (fun j _ => vp_updV_set hl v j)⟩ e3) (hS0.put e2 e3 (hD.2 q0 _ he))
theorem z_iast (hexec : p.tables.exec = Jvm.exec) (hb : c.code = cc) (hK : va_K D cl tys s) (hP : va_P D cl ws H) (hD : va_D A ws) (hS : va_S A H0 H locs) (q0 t0 : Nat) {cA : ClassId} {n : Nat} {f : Nat → Int32} (ha : ws[q0]? = some (a, .inl (cA, n, .inl f))) (ht : tys[t0]? = some (cA, .int)) {i : Int32} {x : Int32} (hin : vp_in i n) (hdg : decode cc pc = .ok (.iastore, 1))
    (kk : ∀ (H1 : Heap) (locs1 : List Loc), H1.size = H.size → va_P D cl (ws.set q0 (a, .inl (cA, n, .inl (upd f i.toNatClampNeg x)))) H1 → va_S A H0 H1 locs1 → W p l e R s m args below meth c H1 locs1 cells slots Q (F0 m (pc + 1) ls rest)) : W p l e R s m args below meth c H locs cells slots Q (F0 m pc ls (.int x :: .int i :: .ref a :: rest)) := by
  refine W.iast hexec hb (hP q0 _ ha) ((hK.2 t0 _ ht).1 n (fun j => .int (f j))) (fun q => by cases q) (by show ¬ (i < 0 ∨ (arrV _ _ _).slots.size ≤ _); rw [arrV_size]; exact hin) rfl rfl hdg fun H1 e z oq => ?_
  refine kk H1 _ z (hP.set hD ha ?_ oq) (hS.put z oq (hD.2 q0 _ ha))
  show H1[a]? = some (vp_cell _ _)
  rw [e]
  rw [vp_cell_i, vp_cell_i, arrV_store]
  congr 2
  funext q
  by_cases hq : q = i.toNatClampNeg
  · subst hq
    simp [updV, upd]
  · simp [updV, upd, hq]
theorem z_zast (hexec : p.tables.exec = Jvm.exec) (hb : c.code = cc) (hK : va_K D cl tys s) (hP : va_P D cl ws H) (hD : va_D A ws) (hS : va_S A H0 H locs) (q0 t0 : Nat) {cA : ClassId} {n : Nat} {f : Nat → Int32} (ha : ws[q0]? = some (a, .inl (cA, n, .inl f))) (ht : tys[t0]? = some (cA, .boolean)) {i : Int32} {x : Int32} (hx : narrow .boolean (.int x) = .int x) (hin : vp_in i n) (hdg : decode cc pc = .ok (.bastore, 1))
    (kk : ∀ (H1 : Heap) (locs1 : List Loc), H1.size = H.size → va_P D cl (ws.set q0 (a, .inl (cA, n, .inl (upd f i.toNatClampNeg x)))) H1 → va_S A H0 H1 locs1 → W p l e R s m args below meth c H1 locs1 cells slots Q (F0 m (pc + 1) ls rest)) : W p l e R s m args below meth c H locs cells slots Q (F0 m pc ls (.int x :: .int i :: .ref a :: rest)) := by
  refine W.zast hexec hb (hP q0 _ ha) ((hK.2 t0 _ ht).1 n (fun j => .int (f j))) (fun q => by cases q) (by show ¬ (i < 0 ∨ (arrV _ _ _).slots.size ≤ _); rw [arrV_size]; exact hin) rfl rfl hdg fun H1 e z oq => ?_
  refine kk H1 _ z (hP.set hD ha ?_ oq) (hS.put z oq (hD.2 q0 _ ha))
  show H1[a]? = some (vp_cell _ _)
  rw [e, hx]
  rw [vp_cell_i, vp_cell_i, arrV_store]
  congr 2
  funext q
  by_cases hq : q = i.toNatClampNeg
  · subst hq
    simp [updV, upd]
  · simp [updV, upd, hq]
theorem z_astq (hexec : p.tables.exec = Jvm.exec) (hb : c.code = cc) (hK : va_K D cl tys s) (hP : va_P D cl ws H) (hD : va_D A ws) (hS : va_S A H0 H locs) (q0 t0 qk ci : Nat) {cA : ClassId} {r : vw_C} {n v : Nat} {vs : List Value} {f : Nat → Option Nat} (ha : ws[q0]? = some (a, .inl (cA, n, .inr (.inr (.inr (.inr f)))))) (ht : tys[t0]? = some (cA, .object r.1)) (hv : ws[qk]? = some (v, .inr (ci, vs))) (hc : cl[ci]? = some r) {i : Int32} (hin : vp_in i n) (hdg : decode cc pc = .ok (.aastore, 1))
    (kk : ∀ (H1 : Heap) (locs1 : List Loc), H1.size = H.size → va_P D cl (ws.set q0 (a, .inl (cA, n, .inr (.inr (.inr (.inr (va_up f i.toNatClampNeg (some v)))))))) H1 → va_S A H0 H1 locs1 → W p l e R s m args below meth c H1 locs1 cells slots Q (F0 m (pc + 1) ls rest)) : W p l e R s m args below meth c H locs cells slots Q (F0 m pc ls (.ref v :: .int i :: .ref a :: rest)) := by
  have hlt : i.toNatClampNeg < n := Nat.not_le.mp fun q => hin (Or.inr q)
  have h0 : ¬ i < 0 := fun q => hin (Or.inl q)
  obtain ⟨r', hr', cellV, g1, g2, g3, -⟩ := hP qk _ hv
  have hcls := (hK.1 ci r hc).2
  obtain ⟨kA, comp, k1, k2, k3, -⟩ := (hK.2 t0 _ ht).2
  have hcomp : comp = D.1 ci := Option.some.inj (k3.symm.trans hcls.1)
  subst hcomp
  obtain ⟨kC, hkC, -⟩ := hcls.2
  refine W.aast hexec hb (hP q0 _ ha) (fun q h => by cases h) (fun h => by cases h) k1 k2 rfl hkC ⟨h0, by show _ < (arrV _ _ _).slots.size; rw [arrV_size]; exact hlt⟩ g1 (fun q h => by rw [g3] at h; cases h) (by rw [g2]; exact hkC) (by rw [g2]; exact va_assign hcls) rfl rfl hdg fun H1 e z oq => ?_
  refine kk H1 _ z (hP.set hD ha ?_ oq) (hS.put z oq (hD.2 q0 _ ha))
  show H1[a]? = some (vp_cell _ _)
  rw [e]
  rw [vp_cell_q, vp_cell_q, arrV_store]
  congr 2
  funext q
  by_cases hq : q = i.toNatClampNeg
  · subst hq
    simp [updV, va_up, va_rf]
  · simp [updV, va_up, hq]
theorem z_new (hexec : p.tables.exec = Jvm.exec) (hb : c.code = cc) {own C : String} {T : u_T} {N ci index : Nat} {Ts : List Cond} (hts : ∀ w ∈ Ts, w.before args s = true) (hin : ∀ w ∈ u_ws C T N, w ∈ Ts) (ty : Nat → FieldType) (hty : ∀ k, k < N → parseFieldDescriptor (T k).2.2.1 = some (ty k)) (hown : s.vm.findClass own = some m.cls) (hcl : (Cond.classLink own index C).before args s = true) (hinst : (Cond.instantiable C N).before args s = true) (hini : (Cond.initialized C).before args s = true)
    (hK : va_K D cl tys s) (hP : va_P D cl ws H) (hS : va_S A H0 H locs) (hc : cl[ci]? = some (C, T, N)) {fs : List Value} (hfs : ∀ j, j < N → defaultValue (ty j) = vp_V fs j) (hcells : cells + 1 ≤ R.cells) (hslots : slots + N ≤ R.slots) (hdg : decode cc pc = .ok (.new index, 3))
    (kk : ∀ (H1 : Heap), H1.size = H.size + 1 → va_P D cl (ws ++ [(H.size, .inr (ci, fs))]) H1 → va_S A H0 H1 locs →
      W p l e R s m args below meth c H1 locs (cells + 1) (slots + N) Q (F0 m (pc + 3) ls (.ref H.size :: rest))) : W p l e R s m args below meth c H locs cells slots Q (F0 m pc ls rest) := by
  have hKn := hK.1 ci _ hc
  refine W.newcK hexec hb hown hcl hinst hini rfl hdg hcells hslots hKn.2.1 rfl fun H1 kC hkC e1 z1 o1 => ?_
  have hk : ∀ (k : Nat) (x : Nat × va_E), ws[k]? = some x → H1[x.1]? = H[x.1]? := fun k x hx => o1 x.1 ((hP k x hx).lt)
  refine kk H1 z1 ((hP.kept hk).app (fun k x hx => ?_)) ⟨Nat.le_trans hS.1 (by omega), fun x h1 h2 => (o1 x (Nat.lt_of_lt_of_le h1 hS.1)).trans (hS.2.1 x h1 h2), hS.2.2⟩
  have hz : k < 1 := (List.getElem?_eq_some_iff.mp hx).1
  rw [show k = 0 by omega] at hx
  cases hx
  exact ⟨_, hc, (u_born ty hts hin hKn hkC e1 hty).to hfs⟩
theorem z_newa (hexec : p.tables.exec = Jvm.exec) (hb : c.code = cc) {atype : ArrayType} (harr : (Cond.arrayClass (newarray.typeOf atype)).before args s = true) {ty : FieldType} (hty : newarray.typeOf atype = ty) (hP : va_P D cl ws H) (hS : va_S A H0 H locs)
    {n : Int32} {N' : Nat} {a0 : vp_A} (ha : ∀ cA : ClassId, vp_cell cA a0 = arrV cA N' (fun _ => defaultValue ty)) {cA : ClassId} (hcA : s.vm.findClass ("[" ++ ty.toString) = some cA) (hn : ¬ n < 0) (hN : n.toNatClampNeg = N') (hbytes : N' * componentBytes ty ≤ 536870912) (hcells : cells + 1 ≤ R.cells) (hslots : slots + N' ≤ R.slots) (hdg : decode cc pc = .ok (.newarray atype, 2))
    (kk : ∀ (H1 : Heap), H1.size = H.size + 1 → va_P D cl (ws ++ [(H.size, .inl (cA, a0))]) H1 → va_S A H0 H1 locs →
      W p l e R s m args below meth c H1 locs (cells + 1) (slots + N') Q (F0 m (pc + 2) ls (.ref H.size :: rest))) : W p l e R s m args below meth c H locs cells slots Q (F0 m pc ls (.int n :: rest)) := by
  subst hty
  refine va_newaK hexec hb harr rfl hdg rfl hn hN hbytes hcells hslots rfl fun H1 cA' e1 z1 o1 hAr hNm => ?_
  have hcc : cA' = cA := Option.some.inj (hNm.symm.trans hcA)
  subst hcc
  have hk : ∀ (k : Nat) (x : Nat × va_E), ws[k]? = some x → H1[x.1]? = H[x.1]? := fun k x hx => o1 x.1 ((hP k x hx).lt)
  refine kk H1 z1 ((hP.kept hk).app (fun k x hx => ?_)) ⟨Nat.le_trans hS.1 (by omega), fun x h1 h2 => (o1 x (Nat.lt_of_lt_of_le h1 hS.1)).trans (hS.2.1 x h1 h2), hS.2.2⟩
  have hz : k < 1 := (List.getElem?_eq_some_iff.mp hx).1
  rw [show k = 0 by omega] at hx
  cases hx
  show H1[H.size]? = some (vp_cell _ _)
  rw [ha]
  exact e1
theorem z_newq (hexec : p.tables.exec = Jvm.exec) (hb : c.code = cc) {own C : String} {index : Nat} (hown : s.vm.findClass own = some m.cls) (hclink : (Cond.classLink own index C).before args s = true) (hover : va_AO C s) (hP : va_P D cl ws H) (hS : va_S A H0 H locs)
    {n : Int32} {N' : Nat} {cA : ClassId} (hcA : s.vm.findClass ("[" ++ (FieldType.object C).toString) = some cA) (hn : ¬ n < 0) (hN : n.toNatClampNeg = N') (hbytes : N' * 4 ≤ 536870912) (hcells : cells + 1 ≤ R.cells) (hslots : slots + N' ≤ R.slots) (hdg : decode cc pc = .ok (.anewarray index, 3))
    (kk : ∀ (H1 : Heap), H1.size = H.size + 1 → va_P D cl (ws ++ [(H.size, .inl (cA, N', .inr (.inr (.inr (.inr (fun _ => none))))))]) H1 → va_S A H0 H1 locs →
      W p l e R s m args below meth c H1 locs (cells + 1) (slots + N') Q (F0 m (pc + 3) ls (.ref H.size :: rest))) : W p l e R s m args below meth c H locs cells slots Q (F0 m pc ls (.int n :: rest)) := by
  subst hN
  refine W.anew hexec hb hown hclink (va_AO.use hover) rfl hdg rfl hn hbytes hcells hslots fun cA' kA comp f1 f2 f3 f4 => ?_
  have hcc : cA' = cA := Option.some.inj (f1.symm.trans hcA)
  subst hcc
  generalize hH1 : H.push ({ cls := cA', slots := Array.replicate n.toNatClampNeg .null, vm := .none } : Cell) = H1
  have z1 : H1.size = H.size + 1 := by rw [← hH1, Array.size_push]
  have e1 : H1[H.size]? = some (arrV cA' n.toNatClampNeg (fun _ => .null)) := by rw [← hH1, Array.getElem?_push_size, ← arrV_new]
  have o1 : ∀ q : Nat, q < H.size → H1[q]? = H[q]? := fun q hq => by rw [← hH1, Array.getElem?_push, if_neg (Nat.ne_of_lt hq)]
  have hk : ∀ (k : Nat) (x : Nat × va_E), ws[k]? = some x → H1[x.1]? = H[x.1]? := fun k x hx => o1 x.1 ((hP k x hx).lt)
  refine kk H1 z1 ((hP.kept hk).app (fun k x hx => ?_)) ⟨Nat.le_trans hS.1 (by omega), fun x h1 h2 => (o1 x (Nat.lt_of_lt_of_le h1 hS.1)).trans (hS.2.1 x h1 h2), hS.2.2⟩
  have hz : k < 1 := (List.getElem?_eq_some_iff.mp hx).1
  rw [show k = 0 by omega] at hx
  cases hx
  show H1[H.size]? = some (vp_cell _ _)
  rw [vp_cell_q]
  exact e1
end
-- a machine in between: references count from the base b, the script is .retAddr, an unset local is a float
def z_tv (b sc : Nat) (v : Value) : Value := match v with
  | .int x => .int x
  | .ref k => .ref (b + k)
  | .null => .null
  | .retAddr _ => .ref sc
  | v => v
def z_ta (b : Nat) (x : vp_A) : vp_A := (x.1, match x.2 with
  | .inr (.inr (.inr (.inr f))) => .inr (.inr (.inr (.inr (fun j => (f j).map (fun k => b + k)))))
  | y => y)
def z_te (b sc : Nat) (cA : Nat → ClassId) (e : va_E) : va_E := match e with
  | .inl o => .inl (cA o.1, z_ta b o.2)
  | .inr o => .inr (o.1, o.2.map (z_tv b sc))
def z_tw (b sc : Nat) (cA : Nat → ClassId) (M : List va_E) : va_W := M.mapIdx (fun k e => (b + k, z_te b sc cA e))
theorem z_tw_at {b sc : Nat} {cA : Nat → ClassId} {M : List va_E} {k : Nat} {e : va_E} (h : M[k]? = some e) : (z_tw b sc cA M)[k]? = some (b + k, z_te b sc cA e) := by
  simp [z_tw, h]
theorem z_tw_set {b sc : Nat} {cA : Nat → ClassId} {M : List va_E} {k : Nat} {e : va_E} : (z_tw b sc cA M).set k (b + k, z_te b sc cA e) = z_tw b sc cA (M.set k e) := by
  apply List.ext_getElem?
  intro j
  by_cases hj : k = j
  · subst hj
    by_cases hk : k < M.length
    · simp [z_tw, List.getElem?_set, hk]
    · simp [z_tw, List.getElem?_set, hk]
  · simp [z_tw, List.getElem?_set, hj]
theorem z_tw_app {b sc : Nat} {cA : Nat → ClassId} {M : List va_E} {e : va_E} : z_tw b sc cA M ++ [(b + M.length, z_te b sc cA e)] = z_tw b sc cA (M ++ [e]) := by
  simp [z_tw, List.mapIdx_append]
theorem z_tw_D (b sc : Nat) (cA : Nat → ClassId) (M : List va_E) : va_D (fun q => b ≤ q) (z_tw b sc cA M) := by
  have key : ∀ (k : Nat) (q : Nat × va_E), (z_tw b sc cA M)[k]? = some q → q.1 = b + k := by
    intro k q h
    simp only [z_tw, List.getElem?_mapIdx] at h
    obtain ⟨e, -, rfl⟩ := Option.map_eq_some_iff.mp h
    rfl
  refine ⟨fun i j p q hi hj h => ?_, fun k q h => ?_⟩
  · have h1 := key i p hi
    have h2 := key j q hj
    omega
  · have h1 := key k q h
    show b ≤ q.1
    omega
def z_real (v : Value) : Bool := match v with
  | .int _ => true
  | .ref _ => true
  | .null => true
  | .retAddr _ => true
  | _ => false
theorem z_real_cat {b sc : Nat} {v : Value} (h : z_real v = true) : (z_tv b sc v).category = 1 := by
  cases v <;> first | rfl | (simp [z_real] at h)
def z_L (b sc : Nat) (ls : Array Slot) (n : Nat) (L : List Value) : Prop := ls.size = n ∧ L.length = n ∧ lv_wf ls ∧ ∀ (i : Nat) (v : Value), L[i]? = some v → z_real v = true → ls[i]? = some (.val (z_tv b sc v))
def z_lv (b sc n : Nat) (L : List Value) : List (Nat × Value) := (List.range n).filterMap fun j => match L[j]? with
  | some v => if z_real v = true then some (j, z_tv b sc v) else none
  | none => none
theorem z_lv_mem {b sc n : Nat} {L : List Value} {q : Nat × Value} : q ∈ z_lv b sc n L ↔ ∃ (j : Nat) (v : Value), j < n ∧ L[j]? = some v ∧ z_real v = true ∧ q = (j, z_tv b sc v) := by
  unfold z_lv
  rw [List.mem_filterMap]
  constructor
  · rintro ⟨j, hj, h⟩
    rw [List.mem_range] at hj
    cases hL : L[j]? with
    | none => simp [hL] at h
    | some v =>
      simp only [hL] at h
      by_cases hr : z_real v = true
      · simp only [hr, if_true] at h
        exact ⟨j, v, hj, hL, hr, (Option.some.inj h).symm⟩
      · simp [hr] at h
  · rintro ⟨j, v, hj, hL, hr, rfl⟩
    exact ⟨j, List.mem_range.mpr hj, by simp [hL, hr]⟩
theorem z_L.has {b sc n : Nat} {ls : Array Slot} {L : List Value} (h : z_L b sc ls n L) : lv_has ls n (z_lv b sc n L) := by
  refine ⟨h.1, h.2.2.1, fun q hq => ?_⟩
  obtain ⟨j, v, -, hL, hr, rfl⟩ := z_lv_mem.mp hq
  exact h.2.2.2 j v hL hr
theorem z_L.set {b sc n i : Nat} {ls ls' : Array Slot} {L : List Value} {w v : Value} (h : z_L b sc ls n L) (hw : z_tv b sc v = w) (h' : lv_has ls' n ((i, w) :: (z_lv b sc n L).filter (fun q => !(q.1 == i) && !(q.1 + 1 == i && q.2.category == 2)))) : z_L b sc ls' n (L.set i v) := by
  refine ⟨h'.1, by rw [List.length_set]; exact h.2.1, h'.2.1, fun j x hj hr => ?_⟩
  by_cases hi : i = j
  · subst hi
    by_cases hl : i < L.length
    · rw [List.getElem?_set_self hl] at hj
      cases hj
      rw [hw]
      exact h'.2.2 (i, w) List.mem_cons_self
    · rw [List.getElem?_eq_none (by rw [List.length_set]; omega)] at hj
      cases hj
  · rw [List.getElem?_set_ne hi] at hj
    have hjn : j < n := by rw [← h.2.1]; exact (List.getElem?_eq_some_iff.mp hj).1
    refine h'.2.2 (j, z_tv b sc x) (List.mem_cons_of_mem _ (List.mem_filter.mpr ⟨z_lv_mem.mpr ⟨j, x, hjn, hj, hr, rfl⟩, ?_⟩))
    have h1 : ¬ j = i := fun e => hi e.symm
    simp [h1, z_real_cat hr]
/-- the words that are not kept by themselves: links to a nest mate's methods, arrays over a class -/
def z_Wd (U : State) : Prop := (∀ q ∈ z_nw, va_Nw (.methodLinkNest q.1 q.2.1 q.2.2.1 q.2.2.2) U) ∧ ∀ C ∈ z_ao, va_AO C U
theorem z_Wd.moved {s U : State} (hW : s.WarmedH U.vm) (h : z_Wd s) : z_Wd U := ⟨fun q hq => va_Nw.warmM hW (h.1 q hq), fun C hC => va_AO.moved hW.alike (h.2 C hC)⟩
theorem z_Wd.same {s U : State} (hW : s.vm = U.vm) (h : z_Wd s) : z_Wd U := ⟨fun q hq => va_Nw.same rfl hW (h.1 q hq), fun C hC => va_AO.moved (by rw [hW]; exact Vm.Alike.refl _) (h.2 C hC)⟩
def z_Cx (Y : z_MD) (p : Program) (s : State) (m : MethodId) (args : Array Value) (meth : Method) (c : Code) (b sc : Nat) (D : va_G) (cA : Nat → ClassId) : Prop :=
  p.tables.exec = Jvm.exec ∧ c.code = Y.2.1 ∧ c.maxLocals = Y.2.2.1 ∧ s.vm.findClass Y.1.cls = some m.cls ∧ (∀ w ∈ z_ws, w.before args s = true) ∧ va_K D z_cl (z_tys cA) s ∧ z_Wd s ∧ meth.name = Y.1.name ∧ (Y.2.2.2.2.1 ≠ 0 → va_X sc (Y.2.2.2.2.1 - 1) Y.2.2.2.2.2 s s.heap ∧ sc < s.heap.size ∧ ¬ b ≤ sc) ∧ b ≤ s.heap.size
def z_Hy (Y : z_MD) (d : Nat × Nat) (kc ks : Nat) (L : List Value) (M : List va_E) (p : Program) (R : Room) (s : State) (m : MethodId) (args : Array Value) (meth : Method) (c : Code) (b sc : Nat) (D : va_G) (cA : Nat → ClassId) (H : Heap) (locs : List Loc) (cells slots : Nat) (ls : Array Slot) : Prop :=
  z_Cx Y p s m args meth c b sc D cA ∧ (d.1 ≤ R.frames ∧ d.2 ≤ R.locals ∧ cells + kc ≤ R.cells ∧ slots + ks ≤ R.slots) ∧ va_P D z_cl (z_tw b sc cA M) H ∧ H.size = b + M.length ∧ va_S (fun q => b ≤ q) s.heap H locs ∧ z_L b sc ls Y.2.2.1 L
/-- a method's end at pc, with the answer r -/
def z_re (Y : z_MD) (pc : Nat) (r : Option Value) : Prop := match r with
  | none => decode Y.2.1 pc = .ok (.return_, 1) ∧ Y.2.2.2.1 = none
  | some v => (∃ (x : Int32) (ty : FieldType), v = .int x ∧ decode Y.2.1 pc = .ok (.ireturn, 1) ∧ Y.2.2.2.1 = some ty ∧ narrow ty (.int x) = .int x) ∨ (∃ C : String, (v = .null ∨ ∃ k, v = .ref k) ∧ decode Y.2.1 pc = .ok (.areturn, 1) ∧ Y.2.2.2.1 = some (.object C))
def z_Rt (Y : z_MD) (Q : Option Value → List va_E → Prop) (p : Program) (l : Launch) (e : Env) (R : Room) (s : State) (m : MethodId) (args : Array Value) (below : List Frame) (meth : Method) (c : Code) (b sc : Nat) (D : va_G) (cA : Nat → ClassId) (Qm : State → Prop) : Prop :=
  ∀ (r : Option Value) (M : List va_E) (H : Heap) (locs : List Loc) (cells slots pc : Nat) (ls : Array Slot), Q r M → va_P D z_cl (z_tw b sc cA M) H → H.size = b + M.length → va_S (fun q => b ≤ q) s.heap H locs → cells ≤ R.cells → slots ≤ R.slots → z_re Y pc r → W p l e R s m args below meth c H locs cells slots Qm (F0 m pc ls (r.toList.map (z_tv b sc)))
/-- from pc, with the locals L, the stack S and the cells M, the method Y comes to its end with Q; d calls deep at most, kc cells of ks slots at most are new -/
def z_Ev (Y : z_MD) (d : Nat × Nat) (kc ks pc : Nat) (L S : List Value) (M : List va_E) (Q : Option Value → List va_E → Prop) : Prop :=
  ∀ (p : Program) (l : Launch) (e : Env) (R : Room) (s : State) (m : MethodId) (args : Array Value) (below : List Frame) (meth : Method) (c : Code) (b sc : Nat) (D : va_G) (cA : Nat → ClassId) (H : Heap) (locs : List Loc) (cells slots : Nat) (ls : Array Slot) (Qm : State → Prop),
    z_Hy Y d kc ks L M p R s m args meth c b sc D cA H locs cells slots ls → z_Rt Y Q p l e R s m args below meth c b sc D cA Qm → W p l e R s m args below meth c H locs cells slots Qm (F0 m pc ls (S.map (z_tv b sc)))
def z_Pc (b sc : Nat) (D : va_G) (cA : Nat → ClassId) (As : List Value) (M : List va_E) : Array Value → State → Prop := fun a U => a = (As.map (z_tv b sc)).toArray ∧ va_P D z_cl (z_tw b sc cA M) U.heap ∧ U.heap.size = b + M.length ∧ va_K D z_cl (z_tys cA) U ∧ z_Wd U
def z_Qc (b sc : Nat) (D : va_G) (cA : Nat → ClassId) (Q : Option Value → List va_E → Prop) : Array Value → State → Outcome → State → Prop := fun _ st o t => ∃ (r : Option Value) (M : List va_E), o = .returned (r.map (z_tv b sc)) ∧ Q r M ∧ va_P D z_cl (z_tw b sc cA M) t.heap ∧ t.heap.size = b + M.length ∧ va_F (fun q => b ≤ q) st t
/-- a contract: the method Y at the arguments As and the cells M returns, and Q -/
def z_Sp (Y : z_MD) (d : Nat × Nat) (mc ms : Nat) (As : List Value) (M : List va_E) (Q : Option Value → List va_E → Prop) : Prop :=
  ∀ (l : Launch) (b sc : Nat) (D : va_G) (cA : Nat → ClassId), Met l Y.1 (Cond.code Y.1 Y.2.1 Y.2.2.1 Y.2.2.2.1 :: z_ws) { frames := d.1, cells := mc, slots := ms, locals := d.2 } (z_Pc b sc D cA As M) (z_Qc b sc D cA Q) mc ms (fun q => b ≤ q)
theorem z_blind (b sc : Nat) (D : va_G) (cA : Nat → ClassId) (As : List Value) (M : List va_E) : FrameBlind (z_Pc b sc D cA As M) := by
  intro a U g mk h
  obtain ⟨h1, h2, h3, h4, h5⟩ := h
  exact ⟨h1, h2, h3, va_K.moved (u := U) (U := U.calling g mk a) (Vm.Alike.refl U.vm) h4, z_Wd.same (U := U.calling g mk a) rfl h5⟩
theorem z_entry_args (b sc : Nat) : ∀ (As : List Value) (k : Nat), As.all z_real = true → ∀ (i : Nat) (v : Value), As[i]? = some v → (k + i, z_tv b sc v) ∈ lv_args k (As.map (z_tv b sc)) := by
  intro As
  induction As with
  | nil => intro k _ i v h; simp at h
  | cons a t ih =>
    intro k hr i v h
    simp only [List.all_cons, Bool.and_eq_true] at hr
    have hc : (z_tv b sc a).category = 1 := z_real_cat hr.1
    simp only [List.map_cons, lv_args, hc]
    cases i with
    | zero =>
      simp at h
      subst h
      exact List.mem_cons_self
    | succ i =>
      have := ih (k + 1) hr.2 i v (by simpa using h)
      rw [show k + (i + 1) = k + 1 + i by omega]
      exact List.mem_cons_of_mem _ (by simpa using this)
theorem z_entry_len (b sc : Nat) : ∀ (As : List Value), As.all z_real = true → (lg_sl (As.map (z_tv b sc))).length = As.length := by
  intro As
  induction As with
  | nil => intro _; rfl
  | cons a t ih =>
    intro hr
    simp only [List.all_cons, Bool.and_eq_true] at hr
    have hc : (z_tv b sc a).category = 1 := z_real_cat hr.1
    have := ih hr.2
    unfold lg_sl at this ⊢
    simp only [List.map_cons, List.flatMap_cons, hc, List.length_append, this]
    simp
    omega
theorem z_Sp_of {Y : z_MD} {d : Nat × Nat} {mc ms : Nat} {As L : List Value} {M : List va_E} {Q : Option Value → List va_E → Prop} (hn : plainName Y.1.cls = true) (hX : Y.2.2.2.2.1 = 0) (hr : As.all z_real = true) (hL : As ++ List.replicate (Y.2.2.1 - As.length) (.float 0) = L) (hlen : As.length ≤ Y.2.2.1)
    (h : z_Ev Y d mc ms 0 L [] M Q) : z_Sp Y d mc ms As M Q := by
  intro l b sc D cA
  refine Met.ofW (cc := Y.2.1) (maxL := Y.2.2.1) (ret := Y.2.2.2.1) hn rfl ?_
  intro p e s m args below meth c s₁ B hml hv
  obtain ⟨rfl, hP, hz, hK, hW⟩ := hv
  have hts := atoms_spec (ws := Cond.code Y.1 Y.2.1 Y.2.2.1 Y.2.2.2.1 :: z_ws) B.pre
  have hown : s.vm.findClass Y.1.cls = some m.cls := findClass_of_methodNamed B.named
  have hin : meth.name = Y.1.name := (name_of_methodNamed B.named B.method).1
  have hlocks := B.notSynchronized
  have hret := B.returns
  have hS : va_S (fun q => b ≤ q) s.heap s.heap [] := va_S.rf
  have hl := lv_entry (As.map (z_tv b sc)) (n := Y.2.2.1) (by rw [z_entry_len b sc As hr]; exact hlen)
  rw [lg_entry_eq]
  generalize (lg_sl (As.map (z_tv b sc)) ++ List.replicate (Y.2.2.1 - (lg_sl (As.map (z_tv b sc))).length) Slot.unset).toArray = ls at hl ⊢
  have hLL : z_L b sc ls Y.2.2.1 L := by
    refine ⟨hl.1, by rw [← hL]; simp; omega, hl.2.1, fun i v hi hv => ?_⟩
    rw [← hL] at hi
    by_cases hlt : i < As.length
    · rw [List.getElem?_append_left hlt] at hi
      have := hl.2.2 _ (z_entry_args b sc As 0 hr i v hi)
      simpa using this
    · rw [List.getElem?_append_right (by omega)] at hi
      have h2 := List.mem_of_getElem? hi
      rw [List.mem_replicate] at h2
      rw [h2.2] at hv
      cases hv
  refine h p l e _ s m _ below meth c b sc D cA s.heap [] 0 0 ls _ ⟨⟨B.exec, B.bytes, hml, hown, fun w hw => hts w (List.mem_cons_of_mem _ hw), hK, hW, hin, fun h => absurd hX h, by omega⟩, ⟨Nat.le_refl _, Nat.le_refl _, Nat.le_of_eq (Nat.zero_add _), Nat.le_of_eq (Nat.zero_add _)⟩, hP, hz, hS, hLL⟩ ?_
  intro r M' H locs cells slots pc ls' hQ hP' hz' hS' hc hs hre
  refine W.widen (k := mc) (n := ms) hc hs ?_
  have hq : ∀ (o : Option Value), o = r.map (z_tv b sc) → ∀ t : State, t.heap = H → s.WarmedH t.vm → z_Qc b sc D cA Q ((As.map (z_tv b sc)).toArray) s (.returned o) t := by
    intro o ho t ht _
    exact ⟨r, M', by rw [ho], hQ, by rw [ht]; exact hP', by rw [ht]; exact hz', hS'.F ht⟩
  cases r with
  | none =>
    obtain ⟨h1, h2⟩ := hre
    exact W.vret B.exec B.bytes (hret.trans h2) (hq none rfl) hS'.2.2 h1
  | some v =>
    rcases hre with ⟨x, ty, rfl, h1, h2, h3⟩ | ⟨C, hv, h1, h2⟩
    · exact W.zret B.exec B.bytes (hret.trans h2) h3 (hq _ rfl) hS'.2.2 h1
    · refine W.aret B.exec B.bytes (hret.trans h2) (Or.inl ⟨C, rfl⟩) ?_ (hq _ rfl) hS'.2.2 h1
      rcases hv with rfl | ⟨k, rfl⟩
      · exact Or.inl rfl
      · exact Or.inr ⟨_, rfl⟩
