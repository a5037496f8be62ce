section
variable {Y : z_MD} {d : Nat × Nat} {kc ks pc : Nat} {L S : List Value} {M : List va_E} {Q : Option Value → List va_E → Prop}
theorem ev_iadd {q : Nat} {x y : Int32} (hd : decode Y.2.1 pc = .ok (.iadd, 1)) (hq : pc + 1 = q) (k : z_Ev Y d kc ks q L (.int (x + y) :: S) M Q) : z_Ev Y d kc ks pc L (.int y :: .int x :: S) M Q := by
  subst hq
  intro p l e R s m args below meth c b sc D cA H locs cells slots ls Qm h hr
  exact lv_iadd h.1.1 h.1.2.1 hd (k p l e R s m args below meth c b sc D cA H locs cells slots ls Qm h hr)
theorem ev_isub {q : Nat} {x y : Int32} (hd : decode Y.2.1 pc = .ok (.isub, 1)) (hq : pc + 1 = q) (k : z_Ev Y d kc ks q L (.int (x - y) :: S) M Q) : z_Ev Y d kc ks pc L (.int y :: .int x :: S) M Q := by
  subst hq
  intro p l e R s m args below meth c b sc D cA H locs cells slots ls Qm h hr
  exact lv_isub h.1.1 h.1.2.1 hd (k p l e R s m args below meth c b sc D cA H locs cells slots ls Qm h hr)
theorem ev_imul {q : Nat} {x y : Int32} (hd : decode Y.2.1 pc = .ok (.imul, 1)) (hq : pc + 1 = q) (k : z_Ev Y d kc ks q L (.int (x * y) :: S) M Q) : z_Ev Y d kc ks pc L (.int y :: .int x :: S) M Q := by
  subst hq
  intro p l e R s m args below meth c b sc D cA H locs cells slots ls Qm h hr
  exact lv_imul h.1.1 h.1.2.1 hd (k p l e R s m args below meth c b sc D cA H locs cells slots ls Qm h hr)
theorem ev_iand {q : Nat} {x y : Int32} (hd : decode Y.2.1 pc = .ok (.iand, 1)) (hq : pc + 1 = q) (k : z_Ev Y d kc ks q L (.int (x &&& y) :: S) M Q) : z_Ev Y d kc ks pc L (.int y :: .int x :: S) M Q := by
  subst hq
  intro p l e R s m args below meth c b sc D cA H locs cells slots ls Qm h hr
  exact lv_iand h.1.1 h.1.2.1 hd (k p l e R s m args below meth c b sc D cA H locs cells slots ls Qm h hr)
theorem ev_ior {q : Nat} {x y : Int32} (hd : decode Y.2.1 pc = .ok (.ior, 1)) (hq : pc + 1 = q) (k : z_Ev Y d kc ks q L (.int (x ||| y) :: S) M Q) : z_Ev Y d kc ks pc L (.int y :: .int x :: S) M Q := by
  subst hq
  intro p l e R s m args below meth c b sc D cA H locs cells slots ls Qm h hr
  exact lv_ior h.1.1 h.1.2.1 hd (k p l e R s m args below meth c b sc D cA H locs cells slots ls Qm h hr)
theorem ev_ixor {q : Nat} {x y : Int32} (hd : decode Y.2.1 pc = .ok (.ixor, 1)) (hq : pc + 1 = q) (k : z_Ev Y d kc ks q L (.int (x ^^^ y) :: S) M Q) : z_Ev Y d kc ks pc L (.int y :: .int x :: S) M Q := by
  subst hq
  intro p l e R s m args below meth c b sc D cA H locs cells slots ls Qm h hr
  exact lv_ixor h.1.1 h.1.2.1 hd (k p l e R s m args below meth c b sc D cA H locs cells slots ls Qm h hr)
theorem ev_ishl {q : Nat} {x y : Int32} (hd : decode Y.2.1 pc = .ok (.ishl, 1)) (hq : pc + 1 = q) (k : z_Ev Y d kc ks q L (.int (x <<< (y &&& 31)) :: S) M Q) : z_Ev Y d kc ks pc L (.int y :: .int x :: S) M Q := by
  subst hq
  intro p l e R s m args below meth c b sc D cA H locs cells slots ls Qm h hr
  exact lv_ishl h.1.1 h.1.2.1 hd (k p l e R s m args below meth c b sc D cA H locs cells slots ls Qm h hr)
theorem ev_ishr {q : Nat} {x y : Int32} (hd : decode Y.2.1 pc = .ok (.ishr, 1)) (hq : pc + 1 = q) (k : z_Ev Y d kc ks q L (.int (x >>> (y &&& 31)) :: S) M Q) : z_Ev Y d kc ks pc L (.int y :: .int x :: S) M Q := by
  subst hq
  intro p l e R s m args below meth c b sc D cA H locs cells slots ls Qm h hr
  exact lv_ishr h.1.1 h.1.2.1 hd (k p l e R s m args below meth c b sc D cA H locs cells slots ls Qm h hr)
theorem ev_idiv {q : Nat} {x y : Int32} (hd : decode Y.2.1 pc = .ok (.idiv, 1)) (hne : ¬ y = 0) (hq : pc + 1 = q) (k : z_Ev Y d kc ks q L (.int (x / y) :: S) M Q) : z_Ev Y d kc ks pc L (.int y :: .int x :: S) M Q := by
  subst hq
  intro p l e R s m args below meth c b sc D cA H locs cells slots ls Qm h hr
  exact lv_idiv h.1.1 h.1.2.1 hd hne (k p l e R s m args below meth c b sc D cA H locs cells slots ls Qm h hr)
theorem ev_irem {q : Nat} {x y : Int32} (hd : decode Y.2.1 pc = .ok (.irem, 1)) (hne : ¬ y = 0) (hq : pc + 1 = q) (k : z_Ev Y d kc ks q L (.int (x - x / y * y) :: S) M Q) : z_Ev Y d kc ks pc L (.int y :: .int x :: S) M Q := by
  subst hq
  intro p l e R s m args below meth c b sc D cA H locs cells slots ls Qm h hr
  exact lv_irem h.1.1 h.1.2.1 hd hne (k p l e R s m args below meth c b sc D cA H locs cells slots ls Qm h hr)
theorem ev_iushr {q : Nat} {x y v : Int32} (hd : decode Y.2.1 pc = .ok (.iushr, 1)) (hv : (x.toUInt32 >>> (y.toUInt32 &&& Int32.toUInt32 31)).toInt32 = v) (hq : pc + 1 = q) (k : z_Ev Y d kc ks q L (.int v :: S) M Q) : z_Ev Y d kc ks pc L (.int y :: .int x :: S) M Q := by
  subst hq
  intro p l e R s m args below meth c b sc D cA H locs cells slots ls Qm h hr
  exact lv_iushr h.1.1 h.1.2.1 hd hv (k p l e R s m args below meth c b sc D cA H locs cells slots ls Qm h hr)
theorem ev_ineg {q : Nat} {x : Int32} (hd : decode Y.2.1 pc = .ok (.ineg, 1)) (hq : pc + 1 = q) (k : z_Ev Y d kc ks q L (.int (-x) :: S) M Q) : z_Ev Y d kc ks pc L (.int x :: S) M Q := by
  subst hq
  intro p l e R s m args below meth c b sc D cA H locs cells slots ls Qm h hr
  exact lv_ineg h.1.1 h.1.2.1 hd (k p l e R s m args below meth c b sc D cA H locs cells slots ls Qm h hr)
theorem ev_iconst {q : Nat} {n : Int} {v : Int32} (hd : decode Y.2.1 pc = .ok (.iconst n, 1)) (hv : Int32.ofInt n = v) (hq : pc + 1 = q) (k : z_Ev Y d kc ks q L (.int v :: S) M Q) : z_Ev Y d kc ks pc L S M Q := by
  subst hq
  intro p l e R s m args below meth c b sc D cA H locs cells slots ls Qm h hr
  exact lv_iconst h.1.1 h.1.2.1 hd hv (k p l e R s m args below meth c b sc D cA H locs cells slots ls Qm h hr)
theorem ev_bipush {q : Nat} {n : Int} {v : Int32} (hd : decode Y.2.1 pc = .ok (.bipush n, 2)) (hv : (Int8.ofInt n).toInt32 = v) (hq : pc + 2 = q) (k : z_Ev Y d kc ks q L (.int v :: S) M Q) : z_Ev Y d kc ks pc L S M Q := by
  subst hq
  intro p l e R s m args below meth c b sc D cA H locs cells slots ls Qm h hr
  exact lv_bipush h.1.1 h.1.2.1 hd hv (k p l e R s m args below meth c b sc D cA H locs cells slots ls Qm h hr)
theorem ev_sipush {q : Nat} {n : Int} {v : Int32} (hd : decode Y.2.1 pc = .ok (.sipush n, 3)) (hv : (Int16.ofInt n).toInt32 = v) (hq : pc + 3 = q) (k : z_Ev Y d kc ks q L (.int v :: S) M Q) : z_Ev Y d kc ks pc L S M Q := by
  subst hq
  intro p l e R s m args below meth c b sc D cA H locs cells slots ls Qm h hr
  exact lv_sipush h.1.1 h.1.2.1 hd hv (k p l e R s m args below meth c b sc D cA H locs cells slots ls Qm h hr)
theorem ev_ldc {q : Nat} {idx : Nat} {v : Int32} (hd : decode Y.2.1 pc = .ok (.ldc idx, 2)) (hw : Cond.constant Y.1.cls idx v ∈ z_ws) (hq : pc + 2 = q) (k : z_Ev Y d kc ks q L (.int v :: S) M Q) : z_Ev Y d kc ks pc L S M Q := by
  subst hq
  intro p l e R s m args below meth c b sc D cA H locs cells slots ls Qm h hr
  exact lv_ldc h.1.1 h.1.2.1 h.1.2.2.2.1 (h.1.2.2.2.2.1 _ hw) hd (k p l e R s m args below meth c b sc D cA H locs cells slots ls Qm h hr)
theorem ev_dup {q : Nat} {v : Value} (hd : decode Y.2.1 pc = .ok (.dup, 1)) (hv : z_real v = true) (hq : pc + 1 = q) (k : z_Ev Y d kc ks q L (v :: v :: S) M Q) : z_Ev Y d kc ks pc L (v :: S) M Q := by
  subst hq
  intro p l e R s m args below meth c b sc D cA H locs cells slots ls Qm h hr
  exact lv_dup h.1.1 h.1.2.1 hd (z_real_cat hv) (k p l e R s m args below meth c b sc D cA H locs cells slots ls Qm h hr)
theorem ev_pop {q : Nat} {v : Value} (hd : decode Y.2.1 pc = .ok (.pop, 1)) (hv : z_real v = true) (hq : pc + 1 = q) (k : z_Ev Y d kc ks q L S M Q) : z_Ev Y d kc ks pc L (v :: S) M Q := by
  subst hq
  intro p l e R s m args below meth c b sc D cA H locs cells slots ls Qm h hr
  exact lv_pop h.1.1 h.1.2.1 hd (z_real_cat hv) (k p l e R s m args below meth c b sc D cA H locs cells slots ls Qm h hr)
theorem ev_dup_x1 {q : Nat} {v w : Value} (hd : decode Y.2.1 pc = .ok (.dup_x1, 1)) (hv : z_real v = true) (hw : z_real w = true) (hq : pc + 1 = q) (k : z_Ev Y d kc ks q L (v :: w :: v :: S) M Q) : z_Ev Y d kc ks pc L (v :: w :: S) M Q := by
  subst hq
  intro p l e R s m args below meth c b sc D cA H locs cells slots ls Qm h hr
  exact lv_dup_x1 h.1.1 h.1.2.1 hd (z_real_cat hv) (z_real_cat hw) (k p l e R s m args below meth c b sc D cA H locs cells slots ls Qm h hr)
theorem ev_dup_x2 {q : Nat} {v w u : Value} (hd : decode Y.2.1 pc = .ok (.dup_x2, 1)) (hv : z_real v = true) (hw : z_real w = true) (hu : z_real u = true) (hq : pc + 1 = q) (k : z_Ev Y d kc ks q L (v :: w :: u :: v :: S) M Q) : z_Ev Y d kc ks pc L (v :: w :: u :: S) M Q := by
  subst hq
  intro p l e R s m args below meth c b sc D cA H locs cells slots ls Qm h hr
  exact lv_dup_x2 h.1.1 h.1.2.1 hd (z_real_cat hv) (z_real_cat hw) (z_real_cat hu) (k p l e R s m args below meth c b sc D cA H locs cells slots ls Qm h hr)
theorem ev_goto {q t : Nat} {off : Int} (hd : decode Y.2.1 pc = .ok (.goto off, 3)) (ht : (pc : Int) + off = (t : Int)) (hq : t = q) (k : z_Ev Y d kc ks q L S M Q) : z_Ev Y d kc ks pc L S M Q := by
  subst hq
  intro p l e R s m args below meth c b sc D cA H locs cells slots ls Qm h hr
  exact lv_goto h.1.1 h.1.2.1 hd ht (k p l e R s m args below meth c b sc D cA H locs cells slots ls Qm h hr)
theorem ev_iload {q : Nat} {i : Nat} {x : Int32} (hd : decode Y.2.1 pc = .ok (.iload i, 2)) (hl : L[i]? = some (.int x)) (hq : pc + 2 = q) (k : z_Ev Y d kc ks q L (.int x :: S) M Q) : z_Ev Y d kc ks pc L S M Q := by
  subst hq
  intro p l e R s m args below meth c b sc D cA H locs cells slots ls Qm h hr
  exact lv_iload h.1.1 h.1.2.1 hd (h.2.2.2.2.2.2.2.2 _ _ hl rfl) (k p l e R s m args below meth c b sc D cA H locs cells slots ls Qm h hr)
theorem ev_iload_n {q : Nat} {i : Fin 4} (j : Nat) {x : Int32} (hd : decode Y.2.1 pc = .ok (.iload_n i, 1)) (hj : (i : Nat) = j) (hl : L[j]? = some (.int x)) (hq : pc + 1 = q) (k : z_Ev Y d kc ks q L (.int x :: S) M Q) : z_Ev Y d kc ks pc L S M Q := by
  subst hq
  intro p l e R s m args below meth c b sc D cA H locs cells slots ls Qm h hr
  exact lv_iload_n h.1.1 h.1.2.1 hd hj (h.2.2.2.2.2.2.2.2 _ _ hl rfl) (k p l e R s m args below meth c b sc D cA H locs cells slots ls Qm h hr)
theorem ev_aload {q : Nat} {i : Nat} {x : Nat} (hd : decode Y.2.1 pc = .ok (.aload i, 2)) (hl : L[i]? = some (.ref x)) (hq : pc + 2 = q) (k : z_Ev Y d kc ks q L (.ref x :: S) M Q) : z_Ev Y d kc ks pc L S M Q := by
  subst hq
  intro p l e R s m args below meth c b sc D cA H locs cells slots ls Qm h hr
  exact lv_aload h.1.1 h.1.2.1 hd (h.2.2.2.2.2.2.2.2 _ _ hl rfl) (k p l e R s m args below meth c b sc D cA H locs cells slots ls Qm h hr)
theorem ev_aload_n {q : Nat} {i : Fin 4} (j : Nat) {x : Nat} (hd : decode Y.2.1 pc = .ok (.aload_n i, 1)) (hj : (i : Nat) = j) (hl : L[j]? = some (.ref x)) (hq : pc + 1 = q) (k : z_Ev Y d kc ks q L (.ref x :: S) M Q) : z_Ev Y d kc ks pc L S M Q := by
  subst hq
  intro p l e R s m args below meth c b sc D cA H locs cells slots ls Qm h hr
  exact lv_aload_n h.1.1 h.1.2.1 hd hj (h.2.2.2.2.2.2.2.2 _ _ hl rfl) (k p l e R s m args below meth c b sc D cA H locs cells slots ls Qm h hr)
theorem ev_aloadN {q : Nat} {i : Nat} (hd : decode Y.2.1 pc = .ok (.aload i, 2)) (hl : L[i]? = some .null) (hq : pc + 2 = q) (k : z_Ev Y d kc ks q L (.null :: S) M Q) : z_Ev Y d kc ks pc L S M Q := by
  subst hq
  intro p l e R s m args below meth c b sc D cA H locs cells slots ls Qm h hr
  exact lv_aloadN h.1.1 h.1.2.1 hd (h.2.2.2.2.2.2.2.2 _ _ hl rfl) (k p l e R s m args below meth c b sc D cA H locs cells slots ls Qm h hr)
theorem ev_aload_nN {q : Nat} {i : Fin 4} (j : Nat) (hd : decode Y.2.1 pc = .ok (.aload_n i, 1)) (hj : (i : Nat) = j) (hl : L[j]? = some .null) (hq : pc + 1 = q) (k : z_Ev Y d kc ks q L (.null :: S) M Q) : z_Ev Y d kc ks pc L S M Q := by
  subst hq
  intro p l e R s m args below meth c b sc D cA H locs cells slots ls Qm h hr
  exact lv_aload_nN h.1.1 h.1.2.1 hd hj (h.2.2.2.2.2.2.2.2 _ _ hl rfl) (k p l e R s m args below meth c b sc D cA H locs cells slots ls Qm h hr)
theorem ev_aload_nS {q : Nat} {i : Fin 4} (j : Nat) {x : Nat} (hd : decode Y.2.1 pc = .ok (.aload_n i, 1)) (hj : (i : Nat) = j) (hl : L[j]? = some (.retAddr x)) (hq : pc + 1 = q) (k : z_Ev Y d kc ks q L (.retAddr x :: S) M Q) : z_Ev Y d kc ks pc L S M Q := by
  subst hq
  intro p l e R s m args below meth c b sc D cA H locs cells slots ls Qm h hr
  exact lv_aload_n h.1.1 h.1.2.1 hd hj (h.2.2.2.2.2.2.2.2 _ _ hl rfl) (k p l e R s m args below meth c b sc D cA H locs cells slots ls Qm h hr)
theorem ev_istore {q : Nat} {i : Nat} {x : Int32} {L' : List Value} (hd : decode Y.2.1 pc = .ok (.istore i, 2)) (hi : i < Y.2.2.1) (hL : L.set i (.int x) = L') (hq : pc + 2 = q) (k : z_Ev Y d kc ks q L' S M Q) : z_Ev Y d kc ks pc L (.int x :: S) M Q := by
  subst hq
  subst hL
  intro p l e R s m args below meth c b sc D cA H locs cells slots ls Qm h hr
  refine lv_istore h.1.1 h.1.2.1 hd h.2.2.2.2.2.has hi rfl fun ls' hl' => ?_
  exact k p l e R s m args below meth c b sc D cA H locs cells slots ls' Qm ⟨h.1, h.2.1, h.2.2.1, h.2.2.2.1, h.2.2.2.2.1, h.2.2.2.2.2.set rfl hl'⟩ hr
theorem ev_istore_n {q : Nat} {i : Fin 4} (j : Nat) {x : Int32} {L' : List Value} (hd : decode Y.2.1 pc = .ok (.istore_n i, 1)) (hj : (i : Nat) = j) (hi : j < Y.2.2.1) (hL : L.set j (.int x) = L') (hq : pc + 1 = q) (k : z_Ev Y d kc ks q L' S M Q) : z_Ev Y d kc ks pc L (.int x :: S) M Q := by
  subst hq
  subst hL
  intro p l e R s m args below meth c b sc D cA H locs cells slots ls Qm h hr
  refine lv_istore_n h.1.1 h.1.2.1 hd hj h.2.2.2.2.2.has hi rfl fun ls' hl' => ?_
  exact k p l e R s m args below meth c b sc D cA H locs cells slots ls' Qm ⟨h.1, h.2.1, h.2.2.1, h.2.2.2.1, h.2.2.2.2.1, h.2.2.2.2.2.set rfl hl'⟩ hr
theorem ev_astore {q : Nat} {i : Nat} {x : Nat} {L' : List Value} (hd : decode Y.2.1 pc = .ok (.astore i, 2)) (hi : i < Y.2.2.1) (hL : L.set i (.ref x) = L') (hq : pc + 2 = q) (k : z_Ev Y d kc ks q L' S M Q) : z_Ev Y d kc ks pc L (.ref x :: S) M Q := by
  subst hq
  subst hL
  intro p l e R s m args below meth c b sc D cA H locs cells slots ls Qm h hr
  refine lv_astore h.1.1 h.1.2.1 hd h.2.2.2.2.2.has hi rfl fun ls' hl' => ?_
  exact k p l e R s m args below meth c b sc D cA H locs cells slots ls' Qm ⟨h.1, h.2.1, h.2.2.1, h.2.2.2.1, h.2.2.2.2.1, h.2.2.2.2.2.set rfl hl'⟩ hr
theorem ev_astore_n {q : Nat} {i : Fin 4} (j : Nat) {x : Nat} {L' : List Value} (hd : decode Y.2.1 pc = .ok (.astore_n i, 1)) (hj : (i : Nat) = j) (hi : j < Y.2.2.1) (hL : L.set j (.ref x) = L') (hq : pc + 1 = q) (k : z_Ev Y d kc ks q L' S M Q) : z_Ev Y d kc ks pc L (.ref x :: S) M Q := by
  subst hq
  subst hL
  intro p l e R s m args below meth c b sc D cA H locs cells slots ls Qm h hr
  refine lv_astore_n h.1.1 h.1.2.1 hd hj h.2.2.2.2.2.has hi rfl fun ls' hl' => ?_
  exact k p l e R s m args below meth c b sc D cA H locs cells slots ls' Qm ⟨h.1, h.2.1, h.2.2.1, h.2.2.2.1, h.2.2.2.2.1, h.2.2.2.2.2.set rfl hl'⟩ hr
theorem ev_astoreN {q : Nat} {i : Nat}  {L' : List Value} (hd : decode Y.2.1 pc = .ok (.astore i, 2)) (hi : i < Y.2.2.1) (hL : L.set i (.null) = L') (hq : pc + 2 = q) (k : z_Ev Y d kc ks q L' S M Q) : z_Ev Y d kc ks pc L (.null :: S) M Q := by
  subst hq
  subst hL
  intro p l e R s m args below meth c b sc D cA H locs cells slots ls Qm h hr
  refine lv_astoreN h.1.1 h.1.2.1 hd h.2.2.2.2.2.has hi rfl fun ls' hl' => ?_
  exact k p l e R s m args below meth c b sc D cA H locs cells slots ls' Qm ⟨h.1, h.2.1, h.2.2.1, h.2.2.2.1, h.2.2.2.2.1, h.2.2.2.2.2.set rfl hl'⟩ hr
theorem ev_astore_nN {q : Nat} {i : Fin 4} (j : Nat)  {L' : List Value} (hd : decode Y.2.1 pc = .ok (.astore_n i, 1)) (hj : (i : Nat) = j) (hi : j < Y.2.2.1) (hL : L.set j (.null) = L') (hq : pc + 1 = q) (k : z_Ev Y d kc ks q L' S M Q) : z_Ev Y d kc ks pc L (.null :: S) M Q := by
  subst hq
  subst hL
  intro p l e R s m args below meth c b sc D cA H locs cells slots ls Qm h hr
  refine lv_astore_nN h.1.1 h.1.2.1 hd hj h.2.2.2.2.2.has hi rfl fun ls' hl' => ?_
  exact k p l e R s m args below meth c b sc D cA H locs cells slots ls' Qm ⟨h.1, h.2.1, h.2.2.1, h.2.2.2.1, h.2.2.2.2.1, h.2.2.2.2.2.set rfl hl'⟩ hr
theorem ev_iinc {q i : Nat} {n : Int} {x v : Int32} {L' : List Value} (hd : decode Y.2.1 pc = .ok (.iinc i n, 3)) (hl : L[i]? = some (.int x)) (hi : i < Y.2.2.1) (hv : x + Int32.ofInt n = v) (hL : L.set i (.int v) = L') (hq : pc + 3 = q) (k : z_Ev Y d kc ks q L' S M Q) : z_Ev Y d kc ks pc L S M Q := by
  subst hq
  subst hL
  intro p l e R s m args below meth c b sc D cA H locs cells slots ls Qm h hr
  have hm : (i, Value.int x) ∈ z_lv b sc Y.2.2.1 L := z_lv_mem.mpr ⟨i, .int x, hi, hl, rfl, rfl⟩
  obtain ⟨k0, hk0⟩ := List.getElem?_of_mem hm
  refine lv_iinc h.1.1 h.1.2.1 hd h.2.2.2.2.2.has hk0 hv hi rfl fun ls' hl' => ?_
  exact k p l e R s m args below meth c b sc D cA H locs cells slots ls' Qm ⟨h.1, h.2.1, h.2.2.1, h.2.2.2.1, h.2.2.2.2.1, h.2.2.2.2.2.set rfl hl'⟩ hr
theorem ev_if_eq {q t : Nat} {x : Int32} {off : Int} (hd : decode Y.2.1 pc = .ok (.ifCond .eq off, 3)) (ht : (pc : Int) + off = (t : Int)) (hq : pc + 3 = q) (kt : x = 0 → z_Ev Y d kc ks t L S M Q) (kf : ¬ x = 0 → z_Ev Y d kc ks q L S M Q) : z_Ev Y d kc ks pc L (.int x :: S) M Q := by
  subst hq
  intro p l e R s m args below meth c b sc D cA H locs cells slots ls Qm h hr
  exact lv_if_eq h.1.1 h.1.2.1 hd ht (fun z => kt z p l e R s m args below meth c b sc D cA H locs cells slots ls Qm h hr) (fun z => kf z p l e R s m args below meth c b sc D cA H locs cells slots ls Qm h hr)
theorem ev_icmp_eq {q t : Nat} {x y : Int32} {off : Int} (hd : decode Y.2.1 pc = .ok (.if_icmp .eq off, 3)) (ht : (pc : Int) + off = (t : Int)) (hq : pc + 3 = q) (kt : x = y → z_Ev Y d kc ks t L S M Q) (kf : ¬ x = y → z_Ev Y d kc ks q L S M Q) : z_Ev Y d kc ks pc L (.int y :: .int x :: S) M Q := by
  subst hq
  intro p l e R s m args below meth c b sc D cA H locs cells slots ls Qm h hr
  exact lv_icmp_eq h.1.1 h.1.2.1 hd ht (fun z => kt z p l e R s m args below meth c b sc D cA H locs cells slots ls Qm h hr) (fun z => kf z p l e R s m args below meth c b sc D cA H locs cells slots ls Qm h hr)
theorem ev_if_ne {q t : Nat} {x : Int32} {off : Int} (hd : decode Y.2.1 pc = .ok (.ifCond .ne off, 3)) (ht : (pc : Int) + off = (t : Int)) (hq : pc + 3 = q) (kt : ¬ x = 0 → z_Ev Y d kc ks t L S M Q) (kf : x = 0 → z_Ev Y d kc ks q L S M Q) : z_Ev Y d kc ks pc L (.int x :: S) M Q := by
  subst hq
  intro p l e R s m args below meth c b sc D cA H locs cells slots ls Qm h hr
  exact lv_if_ne h.1.1 h.1.2.1 hd ht (fun z => kt z p l e R s m args below meth c b sc D cA H locs cells slots ls Qm h hr) (fun z => kf z p l e R s m args below meth c b sc D cA H locs cells slots ls Qm h hr)
theorem ev_icmp_ne {q t : Nat} {x y : Int32} {off : Int} (hd : decode Y.2.1 pc = .ok (.if_icmp .ne off, 3)) (ht : (pc : Int) + off = (t : Int)) (hq : pc + 3 = q) (kt : ¬ x = y → z_Ev Y d kc ks t L S M Q) (kf : x = y → z_Ev Y d kc ks q L S M Q) : z_Ev Y d kc ks pc L (.int y :: .int x :: S) M Q := by
  subst hq
  intro p l e R s m args below meth c b sc D cA H locs cells slots ls Qm h hr
  exact lv_icmp_ne h.1.1 h.1.2.1 hd ht (fun z => kt z p l e R s m args below meth c b sc D cA H locs cells slots ls Qm h hr) (fun z => kf z p l e R s m args below meth c b sc D cA H locs cells slots ls Qm h hr)
theorem ev_if_lt {q t : Nat} {x : Int32} {off : Int} (hd : decode Y.2.1 pc = .ok (.ifCond .lt off, 3)) (ht : (pc : Int) + off = (t : Int)) (hq : pc + 3 = q) (kt : x < 0 → z_Ev Y d kc ks t L S M Q) (kf : ¬ x < 0 → z_Ev Y d kc ks q L S M Q) : z_Ev Y d kc ks pc L (.int x :: S) M Q := by
  subst hq
  intro p l e R s m args below meth c b sc D cA H locs cells slots ls Qm h hr
  exact lv_if_lt h.1.1 h.1.2.1 hd ht (fun z => kt z p l e R s m args below meth c b sc D cA H locs cells slots ls Qm h hr) (fun z => kf z p l e R s m args below meth c b sc D cA H locs cells slots ls Qm h hr)
theorem ev_icmp_lt {q t : Nat} {x y : Int32} {off : Int} (hd : decode Y.2.1 pc = .ok (.if_icmp .lt off, 3)) (ht : (pc : Int) + off = (t : Int)) (hq : pc + 3 = q) (kt : x < y → z_Ev Y d kc ks t L S M Q) (kf : ¬ x < y → z_Ev Y d kc ks q L S M Q) : z_Ev Y d kc ks pc L (.int y :: .int x :: S) M Q := by
  subst hq
  intro p l e R s m args below meth c b sc D cA H locs cells slots ls Qm h hr
  exact lv_icmp_lt h.1.1 h.1.2.1 hd ht (fun z => kt z p l e R s m args below meth c b sc D cA H locs cells slots ls Qm h hr) (fun z => kf z p l e R s m args below meth c b sc D cA H locs cells slots ls Qm h hr)
theorem ev_if_ge {q t : Nat} {x : Int32} {off : Int} (hd : decode Y.2.1 pc = .ok (.ifCond .ge off, 3)) (ht : (pc : Int) + off = (t : Int)) (hq : pc + 3 = q) (kt : 0 ≤ x → z_Ev Y d kc ks t L S M Q) (kf : ¬ 0 ≤ x → z_Ev Y d kc ks q L S M Q) : z_Ev Y d kc ks pc L (.int x :: S) M Q := by
  subst hq
  intro p l e R s m args below meth c b sc D cA H locs cells slots ls Qm h hr
  exact lv_if_ge h.1.1 h.1.2.1 hd ht (fun z => kt z p l e R s m args below meth c b sc D cA H locs cells slots ls Qm h hr) (fun z => kf z p l e R s m args below meth c b sc D cA H locs cells slots ls Qm h hr)
theorem ev_icmp_ge {q t : Nat} {x y : Int32} {off : Int} (hd : decode Y.2.1 pc = .ok (.if_icmp .ge off, 3)) (ht : (pc : Int) + off = (t : Int)) (hq : pc + 3 = q) (kt : y ≤ x → z_Ev Y d kc ks t L S M Q) (kf : ¬ y ≤ x → z_Ev Y d kc ks q L S M Q) : z_Ev Y d kc ks pc L (.int y :: .int x :: S) M Q := by
  subst hq
  intro p l e R s m args below meth c b sc D cA H locs cells slots ls Qm h hr
  exact lv_icmp_ge h.1.1 h.1.2.1 hd ht (fun z => kt z p l e R s m args below meth c b sc D cA H locs cells slots ls Qm h hr) (fun z => kf z p l e R s m args below meth c b sc D cA H locs cells slots ls Qm h hr)
theorem ev_if_gt {q t : Nat} {x : Int32} {off : Int} (hd : decode Y.2.1 pc = .ok (.ifCond .gt off, 3)) (ht : (pc : Int) + off = (t : Int)) (hq : pc + 3 = q) (kt : 0 < x → z_Ev Y d kc ks t L S M Q) (kf : ¬ 0 < x → z_Ev Y d kc ks q L S M Q) : z_Ev Y d kc ks pc L (.int x :: S) M Q := by
  subst hq
  intro p l e R s m args below meth c b sc D cA H locs cells slots ls Qm h hr
  exact lv_if_gt h.1.1 h.1.2.1 hd ht (fun z => kt z p l e R s m args below meth c b sc D cA H locs cells slots ls Qm h hr) (fun z => kf z p l e R s m args below meth c b sc D cA H locs cells slots ls Qm h hr)
theorem ev_icmp_gt {q t : Nat} {x y : Int32} {off : Int} (hd : decode Y.2.1 pc = .ok (.if_icmp .gt off, 3)) (ht : (pc : Int) + off = (t : Int)) (hq : pc + 3 = q) (kt : y < x → z_Ev Y d kc ks t L S M Q) (kf : ¬ y < x → z_Ev Y d kc ks q L S M Q) : z_Ev Y d kc ks pc L (.int y :: .int x :: S) M Q := by
  subst hq
  intro p l e R s m args below meth c b sc D cA H locs cells slots ls Qm h hr
  exact lv_icmp_gt h.1.1 h.1.2.1 hd ht (fun z => kt z p l e R s m args below meth c b sc D cA H locs cells slots ls Qm h hr) (fun z => kf z p l e R s m args below meth c b sc D cA H locs cells slots ls Qm h hr)
theorem ev_if_le {q t : Nat} {x : Int32} {off : Int} (hd : decode Y.2.1 pc = .ok (.ifCond .le off, 3)) (ht : (pc : Int) + off = (t : Int)) (hq : pc + 3 = q) (kt : x ≤ 0 → z_Ev Y d kc ks t L S M Q) (kf : ¬ x ≤ 0 → z_Ev Y d kc ks q L S M Q) : z_Ev Y d kc ks pc L (.int x :: S) M Q := by
  subst hq
  intro p l e R s m args below meth c b sc D cA H locs cells slots ls Qm h hr
  exact lv_if_le h.1.1 h.1.2.1 hd ht (fun z => kt z p l e R s m args below meth c b sc D cA H locs cells slots ls Qm h hr) (fun z => kf z p l e R s m args below meth c b sc D cA H locs cells slots ls Qm h hr)
theorem ev_icmp_le {q t : Nat} {x y : Int32} {off : Int} (hd : decode Y.2.1 pc = .ok (.if_icmp .le off, 3)) (ht : (pc : Int) + off = (t : Int)) (hq : pc + 3 = q) (kt : x ≤ y → z_Ev Y d kc ks t L S M Q) (kf : ¬ x ≤ y → z_Ev Y d kc ks q L S M Q) : z_Ev Y d kc ks pc L (.int y :: .int x :: S) M Q := by
  subst hq
  intro p l e R s m args below meth c b sc D cA H locs cells slots ls Qm h hr
  exact lv_icmp_le h.1.1 h.1.2.1 hd ht (fun z => kt z p l e R s m args below meth c b sc D cA H locs cells slots ls Qm h hr) (fun z => kf z p l e R s m args below meth c b sc D cA H locs cells slots ls Qm h hr)
theorem ev_ifnonnull {q t : Nat} {x : Nat} {off : Int} (hd : decode Y.2.1 pc = .ok (.ifnonnull off, 3)) (ht : (pc : Int) + off = (t : Int)) (hq : t = q) (k : z_Ev Y d kc ks q L S M Q) : z_Ev Y d kc ks pc L (.ref x :: S) M Q := by
  subst hq
  intro p l e R s m args below meth c b sc D cA H locs cells slots ls Qm h hr
  exact lv_ifnonnull h.1.1 h.1.2.1 hd ht (k p l e R s m args below meth c b sc D cA H locs cells slots ls Qm h hr)
theorem ev_ifnull {q : Nat} {x : Nat} {off : Int} (hd : decode Y.2.1 pc = .ok (.ifnull off, 3)) (hq : pc + 3 = q) (k : z_Ev Y d kc ks q L S M Q) : z_Ev Y d kc ks pc L (.ref x :: S) M Q := by
  subst hq
  intro p l e R s m args below meth c b sc D cA H locs cells slots ls Qm h hr
  exact lv_ifnull h.1.1 h.1.2.1 hd (k p l e R s m args below meth c b sc D cA H locs cells slots ls Qm h hr)
theorem ev_ifnullN {q t : Nat} {off : Int} (hd : decode Y.2.1 pc = .ok (.ifnull off, 3)) (ht : (pc : Int) + off = (t : Int)) (hq : t = q) (k : z_Ev Y d kc ks q L S M Q) : z_Ev Y d kc ks pc L (.null :: S) M Q := by
  subst hq
  intro p l e R s m args below meth c b sc D cA H locs cells slots ls Qm h hr
  exact lv_ifnullN h.1.1 h.1.2.1 hd ht (k p l e R s m args below meth c b sc D cA H locs cells slots ls Qm h hr)
theorem ev_ifnonnullN {q : Nat} {off : Int} (hd : decode Y.2.1 pc = .ok (.ifnonnull off, 3)) (hq : pc + 3 = q) (k : z_Ev Y d kc ks q L S M Q) : z_Ev Y d kc ks pc L (.null :: S) M Q := by
  subst hq
  intro p l e R s m args below meth c b sc D cA H locs cells slots ls Qm h hr
  exact lv_ifnonnullN h.1.1 h.1.2.1 hd (k p l e R s m args below meth c b sc D cA H locs cells slots ls Qm h hr)
theorem ev_tableOut {q t : Nat} {dflt lo hi : Int} {offs : Array Int} {len : Nat} {x : Int32} (hd : decode Y.2.1 pc = .ok (.tableswitch dflt lo hi offs, len)) (hx : x.toInt < lo ∨ hi < x.toInt) (ht : (pc : Int) + dflt = (t : Int)) (hq : t = q) (k : z_Ev Y d kc ks q L S M Q) : z_Ev Y d kc ks pc L (.int x :: S) M Q := by
  subst hq
  intro p l e R s m args below meth c b sc D cA H locs cells slots ls Qm h hr
  exact lv_tableOut h.1.1 h.1.2.1 hd hx ht (k p l e R s m args below meth c b sc D cA H locs cells slots ls Qm h hr)
theorem ev_tableIn {q t : Nat} {dflt lo hi : Int} {offs : Array Int} {len : Nat} {x : Int32} {off : Int} (hd : decode Y.2.1 pc = .ok (.tableswitch dflt lo hi offs, len)) (h1 : ¬ x.toInt < lo) (h2 : ¬ hi < x.toInt) (ho : offs[(x.toInt - lo).toNat]? = some off) (ht : (pc : Int) + off = (t : Int)) (hq : t = q) (k : z_Ev Y d kc ks q L S M Q) : z_Ev Y d kc ks pc L (.int x :: S) M Q := by
  subst hq
  intro p l e R s m args below meth c b sc D cA H locs cells slots ls Qm h hr
  exact lv_tableIn h.1.1 h.1.2.1 hd h1 h2 ho ht (k p l e R s m args below meth c b sc D cA H locs cells slots ls Qm h hr)
theorem ev_lookup {q t : Nat} {dflt : Int} {ps : Array (Int × Int)} {len : Nat} {x : Int32} {off : Int} (hd : decode Y.2.1 pc = .ok (.lookupswitch dflt ps, len)) (hp : (ps.toList.zip (ps.toList.drop 1)).all (fun (a, next) => a.1 < next.1) = true) (ho : Op.lookupswitch.offset ps.toList dflt x.toInt = off) (ht : (pc : Int) + off = (t : Int)) (hq : t = q) (k : z_Ev Y d kc ks q L S M Q) : z_Ev Y d kc ks pc L (.int x :: S) M Q := by
  subst hq
  intro p l e R s m args below meth c b sc D cA H locs cells slots ls Qm h hr
  exact lv_lookup h.1.1 h.1.2.1 hd hp ho ht (k p l e R s m args below meth c b sc D cA H locs cells slots ls Qm h hr)
end
