-- the law's entry
theorem kn_int {args : Array Value} {s : State} (h : (Cond.arrayClass .int).before args s = true) : ∃ cA : ClassId, ArrOfT s cA .int ∧ va_RA s cA .int := by
  obtain ⟨cA, kA, comp, h1, h2, h3⟩ := Cond.arrayClass_spec h
  exact ⟨cA, fun n z => ⟨fun k h => (by cases h), kA, h2, comp, h3⟩, h1⟩
theorem kn_bool {args : Array Value} {s : State} (h : (Cond.arrayClass .boolean).before args s = true) : ∃ cA : ClassId, ArrOfT s cA .boolean ∧ va_RA s cA .boolean := by
  obtain ⟨cA, kA, comp, h1, h2, h3⟩ := Cond.arrayClass_spec h
  exact ⟨cA, fun n z => ⟨fun k h => (by cases h), kA, h2, comp, h3⟩, h1⟩
theorem kn_obj {args : Array Value} {s : State} {C : String} (h : (Cond.arrayOver (.object C)).before args s = true) : ∃ cA : ClassId, ArrOfT s cA (.object C) ∧ va_RA s cA (.object C) := by
  obtain ⟨comp, c, k, h1, h2, h3, h4, h5⟩ := Cond.arrayOver_spec h
  exact ⟨c, fun n z => ⟨fun k h => (by cases h), k, h3, comp, h4⟩, k, comp, h3, h4, h1, h5⟩
theorem whole_start {p : Program} {e : Env} {s : State} {m : MethodId} {below : List Frame} {meth : Method} {c : Code} (l : Launch) {b L : Nat} {xs : Nat → Int32} (hL : L ≤ 3072) (C0 : lw_At p s m meth c b L xs) : W p l e room_1 s m #[Value.ref b] below meth c s.heap [] 0 0 (lw_Z below #[Value.ref b] s) (entryFrame m ([Value.ref b] : List Value).toArray 4) := by
  obtain ⟨hx, hb, hr, hml, hown, hts, hX, hbl, hlk, hgv⟩ := C0
  have hws : ∀ w ∈ z_ws, w.before #[Value.ref b] s = true := fun w hw => hts w (List.mem_filter.mp hw).1
  obtain ⟨c0, i0, k0⟩ := u_known hws zLH (hws _ wqH)
  obtain ⟨c1, i1, k1⟩ := u_known hws zLN (hws _ wqN)
  obtain ⟨c2, i2, k2⟩ := u_known hws zLB (hws _ wqB)
  obtain ⟨c3, i3, k3⟩ := u_known hws zLT (hws _ wqT)
  obtain ⟨c4, i4, k4⟩ := u_known hws zLL (hws _ wqL)
  obtain ⟨c5, i5, k5⟩ := u_known hws zLS (hws _ wqS)
  obtain ⟨c6, i6, k6⟩ := u_known hws zLR (hws _ wqR)
  obtain ⟨a0, p0, q0⟩ := kn_int (hts (.arrayClass .int) (by decide +kernel))
  obtain ⟨a1, p1, q1⟩ := kn_bool (hts (.arrayClass .boolean) (by decide +kernel))
  obtain ⟨a2, p2, q2⟩ := kn_obj (hts (.arrayOver (.object "NotaryHall$Transaction")) (by decide +kernel))
  obtain ⟨a3, p3, q3⟩ := kn_obj (hts (.arrayOver (.object "NotaryHall$State")) (by decide +kernel))
  obtain ⟨a4, p4, q4⟩ := kn_obj (hts (.arrayOver (.object "NotaryHall$Node")) (by decide +kernel))
  have hK : va_K (fun k => match k with | 0 => c0 | 1 => c1 | 2 => c2 | 3 => c3 | 4 => c4 | 5 => c5 | _ => c6, fun k => match k with | 0 => i0 | 1 => i1 | 2 => i2 | 3 => i3 | 4 => i4 | 5 => i5 | _ => i6) z_cl (z_tys (fun k => match k with | 0 => a0 | 1 => a1 | 2 => a2 | 3 => a3 | _ => a4)) s := by
    constructor
    · intro c q h
      rcases c with _ | _ | _ | _ | _ | _ | _ | c
      · cases h; exact k0
      · cases h; exact k1
      · cases h; exact k2
      · cases h; exact k3
      · cases h; exact k4
      · cases h; exact k5
      · cases h; exact k6
      · simp [z_cl] at h
    · intro k q h
      rcases k with _ | _ | _ | _ | _ | k
      · cases h; exact ⟨p0, q0⟩
      · cases h; exact ⟨p1, q1⟩
      · cases h; exact ⟨p2, q2⟩
      · cases h; exact ⟨p3, q3⟩
      · cases h; exact ⟨p4, q4⟩
      · simp [z_tys] at h
  have hW : z_Wd s := by
    constructor
    · refine List.forall_mem_cons.mpr ⟨?_, List.forall_mem_cons.mpr ⟨?_, List.forall_mem_cons.mpr ⟨?_, fun _ h => absurd h List.not_mem_nil⟩⟩⟩
      · exact va_Nw.of rfl (hts _ (by decide +kernel))
      · exact va_Nw.of rfl (hts _ (by decide +kernel))
      · exact va_Nw.of rfl (hts _ (by decide +kernel))
    · refine List.forall_mem_cons.mpr ⟨?_, List.forall_mem_cons.mpr ⟨?_, List.forall_mem_cons.mpr ⟨?_, fun _ h => absurd h List.not_mem_nil⟩⟩⟩
      · exact va_AO.of (hts (.arrayOver (.object "NotaryHall$Transaction")) (by decide +kernel))
      · exact va_AO.of (hts (.arrayOver (.object "NotaryHall$State")) (by decide +kernel))
      · exact va_AO.of (hts (.arrayOver (.object "NotaryHall$Node")) (by decide +kernel))
  revert hK
  generalize (fun k => match k with | 0 => c0 | 1 => c1 | 2 => c2 | 3 => c3 | 4 => c4 | 5 => c5 | _ => c6 : Nat → ClassId) = D1
  generalize (fun k => match k with | 0 => i0 | 1 => i1 | 2 => i2 | 3 => i3 | 4 => i4 | 5 => i5 | _ => i6 : Nat → Nat → Nat) = D2
  generalize (fun k => match k with | 0 => a0 | 1 => a1 | 2 => a2 | 3 => a3 | _ => a4 : Nat → ClassId) = cA
  intro hK
  have hl := lv_entry (([Value.retAddr 0] : List Value).map (z_tv s.heap.size b)) (n := 4) (by rw [z_entry_len s.heap.size b [Value.retAddr 0] rfl]; decide)
  show W p l e room_1 s m #[Value.ref b] below meth c s.heap [] 0 0 (lw_Z below #[Value.ref b] s) (entryFrame m (([Value.retAddr 0] : List Value).map (z_tv s.heap.size b)).toArray 4)
  rw [lg_entry_eq]
  generalize (lg_sl (([Value.retAddr 0] : List Value).map (z_tv s.heap.size b)) ++ List.replicate (4 - (lg_sl (([Value.retAddr 0] : List Value).map (z_tv s.heap.size b))).length) Slot.unset).toArray = ls at hl ⊢
  have hLL : z_L s.heap.size b ls 4 [.retAddr 0, .float 0, .float 0, .float 0] := by
    refine ⟨hl.1, rfl, hl.2.1, fun i v hi hv => ?_⟩
    rcases i with _ | _ | _ | _ | i
    · have := hl.2.2 _ (z_entry_args s.heap.size b [Value.retAddr 0] 0 rfl 0 (.retAddr 0) rfl)
      cases hi
      simpa using this
    · cases hi; cases hv
    · cases hi; cases hv
    · cases hi; cases hv
    · simp at hi
  refine (eW_start (nm := meth.name) (n := L) (xs := xs) hL) p l e room_1 s m #[Value.ref b] below meth c s.heap.size b (D1, D2) cA s.heap [] 0 0 ls _ ⟨⟨hx, hb, hml, hown, hws, hK, hW, rfl, fun _ => ⟨?_, hbl, by omega⟩, Nat.le_refl _⟩, ⟨by decide, by decide, by decide, by decide⟩, ?_, rfl, va_S.rf, hLL⟩ ?_
  · show va_X b (L + 1 - 1) xs s s.heap
    rw [Nat.add_sub_cancel]
    exact hX
  · intro k q h
    simp [z_tw] at h
  · intro r M' H locs cells slots pc ls' hQ hP' hz' hS' hc hs hre
    have hQ' : r = some (zi 1) := hQ
    subst hQ'
    have e1 : iI 1 = 1 := by decide
    rcases hre with ⟨x1, ty, hx1, h1, h2, h3⟩ | ⟨C, hv, h1, h2⟩
    · refine W.widen (k := 600000) (n := 7302250) hc hs ?_
      refine va_forget hS'.2.2 ?_
      show W p l e room_1 s m #[Value.ref b] below meth c H [] 600000 7302250 (lw_Z below #[Value.ref b] s) (F0 m pc ls' [.int (iI 1)])
      rw [e1]
      exact lw_ret hx hb hr hlk h1
    · rcases hv with hv | ⟨k, hv⟩
      · cases hv
      · cases hv
