-- the cells: the class's twelve fixed ones, the reference's twenty-five, then what the class makes later (written by wip/whole/refenv.py)
def fixC (κ : z_Sg) (a : Int → Nat) : List va_E := [
  .inr (0, [.ref 1, zi (κ 0 0), .ref 2, .ref 7, .ref 9, .ref 10, .ref 11, zi (κ 1 0)]),
  zP 2 20 (fun i => if 0 ≤ i ∧ i < κ 0 0 then some (a i) else none),
  zP 4 4 (fun i => if 0 ≤ i ∧ i < 4 then some (3 + i.toNat) else none),
  .inr (1, [zi (κ 2 0), zi (κ 3 0), zi (κ 4 0), zi (κ 5 0)]),
  .inr (1, [zi (κ 2 1), zi (κ 3 1), zi (κ 4 1), zi (κ 5 1)]),
  .inr (1, [zi (κ 2 2), zi (κ 3 2), zi (κ 4 2), zi (κ 5 2)]),
  .inr (1, [zi (κ 2 3), zi (κ 3 3), zi (κ 4 3), zi (κ 5 3)]),
  .inr (2, [.ref 8, zi (κ 6 0)]),
  zA 0 220 (κ 7), zA 0 80 (κ 8), zA 0 80 (κ 9), zA 0 16 (κ 10)]
def fixR (ρ : z_Sg) : List va_E := [
  .inr (6, [zi (ρ 0 0), .ref 13, .ref 14, .ref 15, .ref 16, .ref 17, .ref 18, .ref 19, .ref 20, .ref 21, .ref 22, .ref 23, .ref 24, .ref 25, .ref 26, .ref 27, .ref 28, .ref 29, .ref 30, .ref 31, .ref 32, .ref 33, .ref 34, zi (ρ 23 0), zi (ρ 24 0), .ref 35, .ref 36]),
  zA 0 20 (ρ 1), zA 0 20 (ρ 2), zA 0 20 (ρ 3), zA 0 20 (ρ 4), zA 0 20 (ρ 5), zA 1 20 (ρ 6), zA 0 20 (ρ 7), zA 0 20 (ρ 8), zA 0 20 (ρ 9), zA 0 20 (ρ 10), zA 0 80 (ρ 11), zA 0 80 (ρ 12), zA 0 80 (ρ 13), zA 0 80 (ρ 14), zA 0 80 (ρ 15), zA 0 80 (ρ 16), zA 0 80 (ρ 17), zA 0 80 (ρ 18), zA 0 80 (ρ 19), zA 0 4 (ρ 20), zA 1 16 (ρ 21), zA 0 220 (ρ 22), zA 1 20 (ρ 25), zA 0 16 (ρ 26)]
def zM (κ : z_Sg) (a : Int → Nat) (ρ : z_Sg) (B : List va_E) : List va_E := fixC κ a ++ (fixR ρ ++ B)
section
variable {κ ρ : z_Sg} {a : Int → Nat} {B : List va_E}
theorem atR : (zM κ a ρ B)[12]? = some (.inr (6, [zi (ρ 0 0), .ref 13, .ref 14, .ref 15, .ref 16, .ref 17, .ref 18, .ref 19, .ref 20, .ref 21, .ref 22, .ref 23, .ref 24, .ref 25, .ref 26, .ref 27, .ref 28, .ref 29, .ref 30, .ref 31, .ref 32, .ref 33, .ref 34, zi (ρ 23 0), zi (ρ 24 0), .ref 35, .ref 36])) := rfl
theorem at_begunBy : (zM κ a ρ B)[13]? = some (zA 0 20 (ρ 1)) := rfl
theorem at_notaryOf : (zM κ a ρ B)[14]? = some (zA 0 20 (ρ 2)) := rfl
theorem at_fromTime : (zM κ a ρ B)[15]? = some (zA 0 20 (ρ 3)) := rfl
theorem at_untilTime : (zM κ a ρ B)[16]? = some (zA 0 20 (ρ 4)) := rfl
theorem at_stageOf : (zM κ a ρ B)[17]? = some (zA 0 20 (ρ 5)) := rfl
theorem at_hasty : (zM κ a ρ B)[18]? = some (zA 1 20 (ρ 6)) := rfl
theorem at_signed : (zM κ a ρ B)[19]? = some (zA 0 20 (ρ 7)) := rfl
theorem at_verdictOf : (zM κ a ρ B)[20]? = some (zA 0 20 (ρ 8)) := rfl
theorem at_inputs : (zM κ a ρ B)[21]? = some (zA 0 20 (ρ 9)) := rfl
theorem at_outputs : (zM κ a ρ B)[22]? = some (zA 0 20 (ρ 10)) := rfl
theorem at_input : (zM κ a ρ B)[23]? = some (zA 0 80 (ρ 11)) := rfl
theorem at_kindOf : (zM κ a ρ B)[24]? = some (zA 0 80 (ρ 12)) := rfl
theorem at_first : (zM κ a ρ B)[25]? = some (zA 0 80 (ρ 13)) := rfl
theorem at_second : (zM κ a ρ B)[26]? = some (zA 0 80 (ρ 14)) := rfl
theorem at_amountOf : (zM κ a ρ B)[27]? = some (zA 0 80 (ρ 15)) := rfl
theorem at_boundTo : (zM κ a ρ B)[28]? = some (zA 0 80 (ρ 16)) := rfl
theorem at_usedBy : (zM κ a ρ B)[29]? = some (zA 0 80 (ρ 17)) := rfl
theorem at_knows : (zM κ a ρ B)[30]? = some (zA 0 80 (ρ 18)) := rfl
theorem at_decided : (zM κ a ρ B)[31]? = some (zA 0 80 (ρ 19)) := rfl
theorem at_fetches : (zM κ a ρ B)[32]? = some (zA 0 4 (ρ 20)) := rfl
theorem at_declines : (zM κ a ρ B)[33]? = some (zA 1 16 (ρ 21)) := rfl
theorem at_waiting : (zM κ a ρ B)[34]? = some (zA 0 220 (ρ 22)) := rfl
theorem at_before : (zM κ a ρ B)[35]? = some (zA 1 20 (ρ 25)) := rfl
theorem at_mix : (zM κ a ρ B)[36]? = some (zA 0 16 (ρ 26)) := rfl
theorem st_begunBy {i v : Int} : (zM κ a ρ B).set 13 (zA 0 20 (zup (ρ 1) i v)) = zM κ a (z_up ρ 1 i v) B := rfl
theorem st_notaryOf {i v : Int} : (zM κ a ρ B).set 14 (zA 0 20 (zup (ρ 2) i v)) = zM κ a (z_up ρ 2 i v) B := rfl
theorem st_fromTime {i v : Int} : (zM κ a ρ B).set 15 (zA 0 20 (zup (ρ 3) i v)) = zM κ a (z_up ρ 3 i v) B := rfl
theorem st_untilTime {i v : Int} : (zM κ a ρ B).set 16 (zA 0 20 (zup (ρ 4) i v)) = zM κ a (z_up ρ 4 i v) B := rfl
theorem st_stageOf {i v : Int} : (zM κ a ρ B).set 17 (zA 0 20 (zup (ρ 5) i v)) = zM κ a (z_up ρ 5 i v) B := rfl
theorem st_hasty {i v : Int} : (zM κ a ρ B).set 18 (zA 1 20 (zup (ρ 6) i v)) = zM κ a (z_up ρ 6 i v) B := rfl
theorem st_signed {i v : Int} : (zM κ a ρ B).set 19 (zA 0 20 (zup (ρ 7) i v)) = zM κ a (z_up ρ 7 i v) B := rfl
theorem st_verdictOf {i v : Int} : (zM κ a ρ B).set 20 (zA 0 20 (zup (ρ 8) i v)) = zM κ a (z_up ρ 8 i v) B := rfl
theorem st_inputs {i v : Int} : (zM κ a ρ B).set 21 (zA 0 20 (zup (ρ 9) i v)) = zM κ a (z_up ρ 9 i v) B := rfl
theorem st_outputs {i v : Int} : (zM κ a ρ B).set 22 (zA 0 20 (zup (ρ 10) i v)) = zM κ a (z_up ρ 10 i v) B := rfl
theorem st_input {i v : Int} : (zM κ a ρ B).set 23 (zA 0 80 (zup (ρ 11) i v)) = zM κ a (z_up ρ 11 i v) B := rfl
theorem st_kindOf {i v : Int} : (zM κ a ρ B).set 24 (zA 0 80 (zup (ρ 12) i v)) = zM κ a (z_up ρ 12 i v) B := rfl
theorem st_first {i v : Int} : (zM κ a ρ B).set 25 (zA 0 80 (zup (ρ 13) i v)) = zM κ a (z_up ρ 13 i v) B := rfl
theorem st_second {i v : Int} : (zM κ a ρ B).set 26 (zA 0 80 (zup (ρ 14) i v)) = zM κ a (z_up ρ 14 i v) B := rfl
theorem st_amountOf {i v : Int} : (zM κ a ρ B).set 27 (zA 0 80 (zup (ρ 15) i v)) = zM κ a (z_up ρ 15 i v) B := rfl
theorem st_boundTo {i v : Int} : (zM κ a ρ B).set 28 (zA 0 80 (zup (ρ 16) i v)) = zM κ a (z_up ρ 16 i v) B := rfl
theorem st_usedBy {i v : Int} : (zM κ a ρ B).set 29 (zA 0 80 (zup (ρ 17) i v)) = zM κ a (z_up ρ 17 i v) B := rfl
theorem st_knows {i v : Int} : (zM κ a ρ B).set 30 (zA 0 80 (zup (ρ 18) i v)) = zM κ a (z_up ρ 18 i v) B := rfl
theorem st_decided {i v : Int} : (zM κ a ρ B).set 31 (zA 0 80 (zup (ρ 19) i v)) = zM κ a (z_up ρ 19 i v) B := rfl
theorem st_fetches {i v : Int} : (zM κ a ρ B).set 32 (zA 0 4 (zup (ρ 20) i v)) = zM κ a (z_up ρ 20 i v) B := rfl
theorem st_declines {i v : Int} : (zM κ a ρ B).set 33 (zA 1 16 (zup (ρ 21) i v)) = zM κ a (z_up ρ 21 i v) B := rfl
theorem st_waiting {i v : Int} : (zM κ a ρ B).set 34 (zA 0 220 (zup (ρ 22) i v)) = zM κ a (z_up ρ 22 i v) B := rfl
theorem st_before {i v : Int} : (zM κ a ρ B).set 35 (zA 1 20 (zup (ρ 25) i v)) = zM κ a (z_up ρ 25 i v) B := rfl
theorem st_mix {i v : Int} : (zM κ a ρ B).set 36 (zA 0 16 (zup (ρ 26) i v)) = zM κ a (z_up ρ 26 i v) B := rfl
theorem st_many {v : Int} : (zM κ a ρ B).set 12 (.inr (6, [zi v, .ref 13, .ref 14, .ref 15, .ref 16, .ref 17, .ref 18, .ref 19, .ref 20, .ref 21, .ref 22, .ref 23, .ref 24, .ref 25, .ref 26, .ref 27, .ref 28, .ref 29, .ref 30, .ref 31, .ref 32, .ref 33, .ref 34, zi (ρ 23 0), zi (ρ 24 0), .ref 35, .ref 36])) = zM κ a (z_up ρ 0 0 v) B := rfl
theorem st_waits {v : Int} : (zM κ a ρ B).set 12 (.inr (6, [zi (ρ 0 0), .ref 13, .ref 14, .ref 15, .ref 16, .ref 17, .ref 18, .ref 19, .ref 20, .ref 21, .ref 22, .ref 23, .ref 24, .ref 25, .ref 26, .ref 27, .ref 28, .ref 29, .ref 30, .ref 31, .ref 32, .ref 33, .ref 34, zi v, zi (ρ 24 0), .ref 35, .ref 36])) = zM κ a (z_up ρ 23 0 v) B := rfl
theorem st_clock {v : Int} : (zM κ a ρ B).set 12 (.inr (6, [zi (ρ 0 0), .ref 13, .ref 14, .ref 15, .ref 16, .ref 17, .ref 18, .ref 19, .ref 20, .ref 21, .ref 22, .ref 23, .ref 24, .ref 25, .ref 26, .ref 27, .ref 28, .ref 29, .ref 30, .ref 31, .ref 32, .ref 33, .ref 34, zi (ρ 23 0), zi v, .ref 35, .ref 36])) = zM κ a (z_up ρ 24 0 v) B := rfl
end
def z_lo (c : Nat) : Int := match c with
  | 0 => 0
  | 1 => 0
  | 2 => 0
  | 3 => 0
  | 4 => 0
  | 5 => 0
  | 6 => 0
  | 7 => 0
  | 8 => 0
  | 9 => 0
  | 10 => 0
  | 11 => 0
  | 12 => 0
  | 13 => 0
  | 14 => 0
  | 15 => 0
  | 16 => -1
  | 17 => -1
  | 18 => 0
  | 19 => 0
  | 20 => -2147483648
  | 21 => 0
  | 22 => 0
  | 23 => 0
  | 24 => 0
  | 25 => 0
  | 26 => -2147483648
  | _ => -2147483648
def z_hi (c : Nat) : Int := match c with
  | 0 => 20
  | 1 => 3
  | 2 => 5
  | 3 => 1000000
  | 4 => 1000000
  | 5 => 9
  | 6 => 1
  | 7 => 15
  | 8 => 4
  | 9 => 4
  | 10 => 4
  | 11 => 79
  | 12 => 2
  | 13 => 3
  | 14 => 3
  | 15 => 1000
  | 16 => 3
  | 17 => 19
  | 18 => 2
  | 19 => 2
  | 20 => 2147483647
  | 21 => 1
  | 22 => 131071
  | 23 => 220
  | 24 => 1000000
  | 25 => 1
  | 26 => 2147483647
  | _ => 2147483647
/-- every number of the reference lies where it must; the counts of fetches apart -/
def z_wf (ρ : z_Sg) : Prop := ∀ (c : Nat) (i : Int), c ≠ 20 → z_lo c ≤ ρ c i ∧ ρ c i ≤ z_hi c
theorem z_wf_up {ρ : z_Sg} (h : z_wf ρ) {c : Nat} {i v : Int} (h1 : z_lo c ≤ v) (h2 : v ≤ z_hi c) : z_wf (z_up ρ c i v) := by
  intro c' j hc
  by_cases e : c' = c
  · subst e
    rw [z_up_s]
    unfold zup
    split
    · exact ⟨h1, h2⟩
    · exact h c' j hc
  · rw [z_up_n e]
    exact h c' j hc
theorem z_wf_up20 {ρ : z_Sg} (h : z_wf ρ) {i v : Int} : z_wf (z_up ρ 20 i v) := by
  intro c' j hc
  rw [z_up_n hc]
  exact h c' j hc
