-- names: classes, fields, words of the tables (written by wip/whole/mknames.py out of the Statement)
abbrev z_MD : Type := MethodName × ByteArray × Nat × Option FieldType × Nat × (Nat → Int32)
def zTH : u_T := fun k => match k with
  | 0 => ("NotaryHall", "transactions", "[LNotaryHall$Transaction;", true)
  | 1 => ("NotaryHall", "transactionCount", "I", false)
  | 2 => ("NotaryHall", "nodes", "[LNotaryHall$Node;", true)
  | 3 => ("NotaryHall", "mailbox", "LNotaryHall$Mailbox;", true)
  | 4 => ("NotaryHall", "spenders", "[I", true)
  | 5 => ("NotaryHall", "coins", "[I", true)
  | 6 => ("NotaryHall", "treeRow", "[I", true)
  | _ => ("NotaryHall", "clock", "I", false)
def zYH : Nat → FieldType := fun k => match k with
  | 0 => .array (.object "NotaryHall$Transaction")
  | 1 => .int
  | 2 => .array (.object "NotaryHall$Node")
  | 3 => .object "NotaryHall$Mailbox"
  | 4 => .array .int
  | 5 => .array .int
  | 6 => .array .int
  | _ => .int
theorem zMH : ∀ a, a < 8 → ∀ b, b < 8 → a ≠ b → (zTH a).2.1 ≠ (zTH b).2.1 := by decide +kernel
theorem zKH : ∀ k, k < 8 → parseFieldDescriptor (zTH k).2.2.1 = some (zYH k) := by decide +kernel
def zTN : u_T := fun k => match k with
  | 0 => ("NotaryHall$Node", "known", "I", false)
  | 1 => ("NotaryHall$Node", "recorded", "I", false)
  | 2 => ("NotaryHall$Node", "fetchedCount", "I", false)
  | _ => ("NotaryHall$Node", "consents", "I", false)
def zYN : Nat → FieldType := fun k => match k with
  | 0 => .int
  | 1 => .int
  | 2 => .int
  | _ => .int
theorem zMN : ∀ a, a < 4 → ∀ b, b < 4 → a ≠ b → (zTN a).2.1 ≠ (zTN b).2.1 := by decide +kernel
theorem zKN : ∀ k, k < 4 → parseFieldDescriptor (zTN k).2.2.1 = some (zYN k) := by decide +kernel
def zTB : u_T := fun k => match k with
  | 0 => ("NotaryHall$Mailbox", "codes", "[I", true)
  | _ => ("NotaryHall$Mailbox", "count", "I", false)
def zYB : Nat → FieldType := fun k => match k with
  | 0 => .array .int
  | _ => .int
theorem zMB : ∀ a, a < 2 → ∀ b, b < 2 → a ≠ b → (zTB a).2.1 ≠ (zTB b).2.1 := by decide +kernel
theorem zKB : ∀ k, k < 2 → parseFieldDescriptor (zTB k).2.2.1 = some (zYB k) := by decide +kernel
def zTT : u_T := fun k => match k with
  | 0 => ("NotaryHall$Transaction", "number", "I", true)
  | 1 => ("NotaryHall$Transaction", "initiator", "I", true)
  | 2 => ("NotaryHall$Transaction", "notary", "I", true)
  | 3 => ("NotaryHall$Transaction", "from", "I", true)
  | 4 => ("NotaryHall$Transaction", "until", "I", true)
  | 5 => ("NotaryHall$Transaction", "inputs", "LNotaryHall$StateList;", true)
  | 6 => ("NotaryHall$Transaction", "outputs", "LNotaryHall$StateList;", true)
  | 7 => ("NotaryHall$Transaction", "ancestors", "I", false)
  | 8 => ("NotaryHall$Transaction", "stage", "I", false)
  | 9 => ("NotaryHall$Transaction", "needed", "I", false)
  | 10 => ("NotaryHall$Transaction", "sound", "Z", false)
  | 11 => ("NotaryHall$Transaction", "signed", "I", false)
  | 12 => ("NotaryHall$Transaction", "decided", "I", false)
  | 13 => ("NotaryHall$Transaction", "agreed", "I", false)
  | _ => ("NotaryHall$Transaction", "verdict", "I", false)
def zYT : Nat → FieldType := fun k => match k with
  | 0 => .int
  | 1 => .int
  | 2 => .int
  | 3 => .int
  | 4 => .int
  | 5 => .object "NotaryHall$StateList"
  | 6 => .object "NotaryHall$StateList"
  | 7 => .int
  | 8 => .int
  | 9 => .int
  | 10 => .boolean
  | 11 => .int
  | 12 => .int
  | 13 => .int
  | _ => .int
theorem zMT : ∀ a, a < 15 → ∀ b, b < 15 → a ≠ b → (zTT a).2.1 ≠ (zTT b).2.1 := by decide +kernel
theorem zKT : ∀ k, k < 15 → parseFieldDescriptor (zTT k).2.2.1 = some (zYT k) := by decide +kernel
def zTL : u_T := fun k => match k with
  | 0 => ("NotaryHall$StateList", "states", "[LNotaryHall$State;", true)
  | _ => ("NotaryHall$StateList", "count", "I", false)
def zYL : Nat → FieldType := fun k => match k with
  | 0 => .array (.object "NotaryHall$State")
  | _ => .int
theorem zML : ∀ a, a < 2 → ∀ b, b < 2 → a ≠ b → (zTL a).2.1 ≠ (zTL b).2.1 := by decide +kernel
theorem zKL : ∀ k, k < 2 → parseFieldDescriptor (zTL k).2.2.1 = some (zYL k) := by decide +kernel
def zTS : u_T := fun k => match k with
  | 0 => ("NotaryHall$State", "number", "I", true)
  | 1 => ("NotaryHall$State", "kind", "I", true)
  | 2 => ("NotaryHall$State", "a", "I", true)
  | 3 => ("NotaryHall$State", "b", "I", true)
  | 4 => ("NotaryHall$State", "amount", "I", true)
  | _ => ("NotaryHall$State", "boundTo", "I", false)
def zYS : Nat → FieldType := fun k => match k with
  | 0 => .int
  | 1 => .int
  | 2 => .int
  | 3 => .int
  | 4 => .int
  | _ => .int
theorem zMS : ∀ a, a < 6 → ∀ b, b < 6 → a ≠ b → (zTS a).2.1 ≠ (zTS b).2.1 := by decide +kernel
theorem zKS : ∀ k, k < 6 → parseFieldDescriptor (zTS k).2.2.1 = some (zYS k) := by decide +kernel
def zTR : u_T := fun k => match k with
  | 0 => ("NotaryHallModel", "many", "I", false)
  | 1 => ("NotaryHallModel", "begunBy", "[I", false)
  | 2 => ("NotaryHallModel", "notaryOf", "[I", false)
  | 3 => ("NotaryHallModel", "fromTime", "[I", false)
  | 4 => ("NotaryHallModel", "untilTime", "[I", false)
  | 5 => ("NotaryHallModel", "stageOf", "[I", false)
  | 6 => ("NotaryHallModel", "hasty", "[Z", false)
  | 7 => ("NotaryHallModel", "signed", "[I", false)
  | 8 => ("NotaryHallModel", "verdictOf", "[I", false)
  | 9 => ("NotaryHallModel", "inputs", "[I", false)
  | 10 => ("NotaryHallModel", "outputs", "[I", false)
  | 11 => ("NotaryHallModel", "input", "[I", false)
  | 12 => ("NotaryHallModel", "kindOf", "[I", false)
  | 13 => ("NotaryHallModel", "first", "[I", false)
  | 14 => ("NotaryHallModel", "second", "[I", false)
  | 15 => ("NotaryHallModel", "amountOf", "[I", false)
  | 16 => ("NotaryHallModel", "boundTo", "[I", false)
  | 17 => ("NotaryHallModel", "usedBy", "[I", false)
  | 18 => ("NotaryHallModel", "knows", "[I", false)
  | 19 => ("NotaryHallModel", "decided", "[I", false)
  | 20 => ("NotaryHallModel", "fetches", "[I", false)
  | 21 => ("NotaryHallModel", "declines", "[Z", false)
  | 22 => ("NotaryHallModel", "waiting", "[I", false)
  | 23 => ("NotaryHallModel", "waits", "I", false)
  | 24 => ("NotaryHallModel", "clock", "I", false)
  | 25 => ("NotaryHallModel", "before", "[Z", false)
  | _ => ("NotaryHallModel", "mix", "[I", false)
def zYR : Nat → FieldType := fun k => match k with
  | 0 => .int
  | 1 => .array .int
  | 2 => .array .int
  | 3 => .array .int
  | 4 => .array .int
  | 5 => .array .int
  | 6 => .array .boolean
  | 7 => .array .int
  | 8 => .array .int
  | 9 => .array .int
  | 10 => .array .int
  | 11 => .array .int
  | 12 => .array .int
  | 13 => .array .int
  | 14 => .array .int
  | 15 => .array .int
  | 16 => .array .int
  | 17 => .array .int
  | 18 => .array .int
  | 19 => .array .int
  | 20 => .array .int
  | 21 => .array .boolean
  | 22 => .array .int
  | 23 => .int
  | 24 => .int
  | 25 => .array .boolean
  | _ => .array .int
theorem zMR : ∀ a, a < 27 → ∀ b, b < 27 → a ≠ b → (zTR a).2.1 ≠ (zTR b).2.1 := by decide +kernel
theorem zKR : ∀ k, k < 27 → parseFieldDescriptor (zTR k).2.2.1 = some (zYR k) := by decide +kernel
abbrev z_cl : List vw_C := [("NotaryHall", zTH, 8), ("NotaryHall$Node", zTN, 4), ("NotaryHall$Mailbox", zTB, 2), ("NotaryHall$Transaction", zTT, 15), ("NotaryHall$StateList", zTL, 2), ("NotaryHall$State", zTS, 6), ("NotaryHallModel", zTR, 27)]
def z_ws : List Cond := lw_tbl.filter goodWord
theorem z_in {i : Nat} {w : Cond} (h : lw_tbl[i]? = some w) (hg : goodWord w = true) : w ∈ z_ws := List.mem_filter.mpr ⟨List.mem_of_getElem? h, hg⟩
theorem z_good (w : Cond) (h : w ∈ z_ws) : (w.onTables && w.keeps) = true ∨ ∃ ty, w = .arrayClass ty := good_of_word (List.mem_filter.mp h).2
def z_tys (cA : Nat → ClassId) : List (ClassId × FieldType) := [(cA 0, .int), (cA 1, .boolean), (cA 2, .object "NotaryHall$Transaction"), (cA 3, .object "NotaryHall$State"), (cA 4, .object "NotaryHall$Node")]
def z_ao : List String := ["NotaryHall$Transaction", "NotaryHall$State", "NotaryHall$Node"]
def z_nw : List (String × Nat × MethodName × String) := [("NotaryHall$Node", 9, ⟨"NotaryHall", "bit", "(I)I"⟩, "NotaryHall"), ("NotaryHall$Transaction", 46, ⟨"NotaryHall", "bit", "(I)I"⟩, "NotaryHall"), ("NotaryHall$Transaction", 65, ⟨"NotaryHall", "has", "(II)Z"⟩, "NotaryHall")]
theorem zLH : ∀ w ∈ u_ws "NotaryHall" zTH 8, w ∈ z_ws := by decide +kernel
theorem zLN : ∀ w ∈ u_ws "NotaryHall$Node" zTN 4, w ∈ z_ws := by decide +kernel
theorem zLB : ∀ w ∈ u_ws "NotaryHall$Mailbox" zTB 2, w ∈ z_ws := by decide +kernel
theorem zLT : ∀ w ∈ u_ws "NotaryHall$Transaction" zTT 15, w ∈ z_ws := by decide +kernel
theorem zLL : ∀ w ∈ u_ws "NotaryHall$StateList" zTL 2, w ∈ z_ws := by decide +kernel
theorem zLS : ∀ w ∈ u_ws "NotaryHall$State" zTS 6, w ∈ z_ws := by decide +kernel
theorem zLR : ∀ w ∈ u_ws "NotaryHallModel" zTR 27, w ∈ z_ws := by decide +kernel
