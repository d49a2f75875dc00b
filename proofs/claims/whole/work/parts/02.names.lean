/-! names, fields, types: by my program out of the printed names -/
def RX0 : String := "RecordClaims$Book"
def TX0 : u_T := fun k => match k with
  | 0 => ("RecordClaims$Book", "holderNames", "[I", true)
  | 1 => ("RecordClaims$Book", "paperNames", "[I", true)
  | 2 => ("RecordClaims$Book", "shares", "[J", true)
  | 3 => ("RecordClaims$Book", "holders", "I", false)
  | _ => ("RecordClaims$Book", "papers", "I", false)
def tyX0 : Nat → FieldType := fun k => match k with
  | 0 => .array (.int)
  | 1 => .array (.int)
  | 2 => .array (.long)
  | 3 => .int
  | _ => .int
theorem nmX0 : ∀ a, a < 5 → ∀ b, b < 5 → a ≠ b → (TX0 a).2.1 ≠ (TX0 b).2.1 := by decide +kernel
theorem tyX0_ok : ∀ k, k < 5 → parseFieldDescriptor (TX0 k).2.2.1 = some (tyX0 k) := by decide +kernel
def RX1 : String := "RecordClaims$Claims"
def TX1 : u_T := fun k => match k with
  | 0 => ("RecordClaims$Claims", "from", "[I", true)
  | 1 => ("RecordClaims$Claims", "to", "[I", true)
  | 2 => ("RecordClaims$Claims", "shares", "[J", true)
  | 3 => ("RecordClaims$Claims", "source", "[I", true)
  | _ => ("RecordClaims$Claims", "state", "[I", true)
def tyX1 : Nat → FieldType := fun k => match k with
  | 0 => .array (.int)
  | 1 => .array (.int)
  | 2 => .array (.long)
  | 3 => .array (.int)
  | _ => .array (.int)
theorem nmX1 : ∀ a, a < 5 → ∀ b, b < 5 → a ≠ b → (TX1 a).2.1 ≠ (TX1 b).2.1 := by decide +kernel
theorem tyX1_ok : ∀ k, k < 5 → parseFieldDescriptor (TX1 k).2.2.1 = some (tyX1 k) := by decide +kernel
def RX2 : String := "RecordClaims$Deed"
def TX2 : u_T := fun k => match k with
  | 0 => ("RecordClaims$Deed", "kind", "I", false)
  | 1 => ("RecordClaims$Deed", "paper", "I", false)
  | 2 => ("RecordClaims$Deed", "holder", "I", false)
  | 3 => ("RecordClaims$Deed", "seller", "I", false)
  | 4 => ("RecordClaims$Deed", "shares", "I", false)
  | 5 => ("RecordClaims$Deed", "amount", "I", false)
  | 6 => ("RecordClaims$Deed", "within", "I", false)
  | 7 => ("RecordClaims$Deed", "into", "I", false)
  | 8 => ("RecordClaims$Deed", "a", "I", false)
  | 9 => ("RecordClaims$Deed", "b", "I", false)
  | 10 => ("RecordClaims$Deed", "c", "I", false)
  | 11 => ("RecordClaims$Deed", "cash", "I", false)
  | 12 => ("RecordClaims$Deed", "until", "I", false)
  | 13 => ("RecordClaims$Deed", "ex", "I", false)
  | 14 => ("RecordClaims$Deed", "record", "I", false)
  | 15 => ("RecordClaims$Deed", "pay", "I", false)
  | 16 => ("RecordClaims$Deed", "event", "I", false)
  | 17 => ("RecordClaims$Deed", "take", "I", false)
  | 18 => ("RecordClaims$Deed", "sell", "I", false)
  | _ => ("RecordClaims$Deed", "days", "I", false)
def tyX2 : Nat → FieldType := fun k => match k with
  | 0 => .int
  | 1 => .int
  | 2 => .int
  | 3 => .int
  | 4 => .int
  | 5 => .int
  | 6 => .int
  | 7 => .int
  | 8 => .int
  | 9 => .int
  | 10 => .int
  | 11 => .int
  | 12 => .int
  | 13 => .int
  | 14 => .int
  | 15 => .int
  | 16 => .int
  | 17 => .int
  | 18 => .int
  | _ => .int
theorem nmX2 : ∀ a, a < 20 → ∀ b, b < 20 → a ≠ b → (TX2 a).2.1 ≠ (TX2 b).2.1 := by decide +kernel
theorem tyX2_ok : ∀ k, k < 20 → parseFieldDescriptor (TX2 k).2.2.1 = some (tyX2 k) := by decide +kernel
def RX3 : String := "RecordClaims$Events"
def TX3 : u_T := fun k => match k with
  | 0 => ("RecordClaims$Events", "kind", "[I", true)
  | 1 => ("RecordClaims$Events", "paper", "[I", true)
  | 2 => ("RecordClaims$Events", "into", "[I", true)
  | 3 => ("RecordClaims$Events", "a", "[I", true)
  | 4 => ("RecordClaims$Events", "b", "[I", true)
  | 5 => ("RecordClaims$Events", "c", "[I", true)
  | 6 => ("RecordClaims$Events", "cash", "[I", true)
  | 7 => ("RecordClaims$Events", "until", "[I", true)
  | 8 => ("RecordClaims$Events", "ex", "[I", true)
  | 9 => ("RecordClaims$Events", "record", "[I", true)
  | 10 => ("RecordClaims$Events", "pay", "[I", true)
  | 11 => ("RecordClaims$Events", "state", "[I", true)
  | 12 => ("RecordClaims$Events", "claims", "[I", true)
  | 13 => ("RecordClaims$Events", "waiting", "[I", true)
  | 14 => ("RecordClaims$Events", "issuedShares", "[J", true)
  | 15 => ("RecordClaims$Events", "issuedMoney", "[J", true)
  | _ => ("RecordClaims$Events", "count", "I", false)
def tyX3 : Nat → FieldType := fun k => match k with
  | 0 => .array (.int)
  | 1 => .array (.int)
  | 2 => .array (.int)
  | 3 => .array (.int)
  | 4 => .array (.int)
  | 5 => .array (.int)
  | 6 => .array (.int)
  | 7 => .array (.int)
  | 8 => .array (.int)
  | 9 => .array (.int)
  | 10 => .array (.int)
  | 11 => .array (.int)
  | 12 => .array (.int)
  | 13 => .array (.int)
  | 14 => .array (.long)
  | 15 => .array (.long)
  | _ => .int
theorem nmX3 : ∀ a, a < 17 → ∀ b, b < 17 → a ≠ b → (TX3 a).2.1 ≠ (TX3 b).2.1 := by decide +kernel
theorem tyX3_ok : ∀ k, k < 17 → parseFieldDescriptor (TX3 k).2.2.1 = some (tyX3 k) := by decide +kernel
def RX4 : String := "RecordClaims$History"
def TX4 : u_T := fun k => match k with
  | 0 => ("RecordClaims$History", "states", "[LRecordClaims$State;", true)
  | 1 => ("RecordClaims$History", "next", "I", false)
  | _ => ("RecordClaims$History", "count", "I", false)
def tyX4 : Nat → FieldType := fun k => match k with
  | 0 => .array (.object "RecordClaims$State")
  | 1 => .int
  | _ => .int
theorem nmX4 : ∀ a, a < 3 → ∀ b, b < 3 → a ≠ b → (TX4 a).2.1 ≠ (TX4 b).2.1 := by decide +kernel
theorem tyX4_ok : ∀ k, k < 3 → parseFieldDescriptor (TX4 k).2.2.1 = some (tyX4 k) := by decide +kernel
def RX5 : String := "RecordClaims$Netting"
def TX5 : u_T := fun k => match k with
  | _ => ("RecordClaims$Netting", "owed", "[J", true)
def tyX5 : Nat → FieldType := fun k => match k with
  | _ => .array (.long)
theorem nmX5 : ∀ a, a < 1 → ∀ b, b < 1 → a ≠ b → (TX5 a).2.1 ≠ (TX5 b).2.1 := by decide +kernel
theorem tyX5_ok : ∀ k, k < 1 → parseFieldDescriptor (TX5 k).2.2.1 = some (tyX5 k) := by decide +kernel
def RX6 : String := "RecordClaims$Notes"
def TX6 : u_T := fun k => match k with
  | 0 => ("RecordClaims$Notes", "written", "[J", true)
  | 1 => ("RecordClaims$Notes", "take", "[J", true)
  | 2 => ("RecordClaims$Notes", "sell", "[J", true)
  | 3 => ("RecordClaims$Notes", "taken", "[J", true)
  | 4 => ("RecordClaims$Notes", "sold", "[J", true)
  | _ => ("RecordClaims$Notes", "lapsed", "[J", true)
def tyX6 : Nat → FieldType := fun k => match k with
  | 0 => .array (.long)
  | 1 => .array (.long)
  | 2 => .array (.long)
  | 3 => .array (.long)
  | 4 => .array (.long)
  | _ => .array (.long)
theorem nmX6 : ∀ a, a < 6 → ∀ b, b < 6 → a ≠ b → (TX6 a).2.1 ≠ (TX6 b).2.1 := by decide +kernel
theorem tyX6_ok : ∀ k, k < 6 → parseFieldDescriptor (TX6 k).2.2.1 = some (tyX6 k) := by decide +kernel
def RX7 : String := "RecordClaims$Shown"
def TX7 : u_T := fun k => match k with
  | 0 => ("RecordClaims$Shown", "bytes", "[B", true)
  | _ => ("RecordClaims$Shown", "length", "I", false)
def tyX7 : Nat → FieldType := fun k => match k with
  | 0 => .array (.byte)
  | _ => .int
theorem nmX7 : ∀ a, a < 2 → ∀ b, b < 2 → a ≠ b → (TX7 a).2.1 ≠ (TX7 b).2.1 := by decide +kernel
theorem tyX7_ok : ∀ k, k < 2 → parseFieldDescriptor (TX7 k).2.2.1 = some (tyX7 k) := by decide +kernel
def RX8 : String := "RecordClaims$State"
def TX8 : u_T := fun k => match k with
  | 0 => ("RecordClaims$State", "shares", "[J", true)
  | 1 => ("RecordClaims$State", "purses", "[J", true)
  | 2 => ("RecordClaims$State", "trades", "LRecordClaims$Trades;", true)
  | 3 => ("RecordClaims$State", "events", "LRecordClaims$Events;", true)
  | 4 => ("RecordClaims$State", "notes", "LRecordClaims$Notes;", true)
  | 5 => ("RecordClaims$State", "claims", "LRecordClaims$Claims;", true)
  | 6 => ("RecordClaims$State", "holders", "I", false)
  | 7 => ("RecordClaims$State", "papers", "I", false)
  | _ => ("RecordClaims$State", "day", "I", false)
def tyX8 : Nat → FieldType := fun k => match k with
  | 0 => .array (.long)
  | 1 => .array (.long)
  | 2 => .object "RecordClaims$Trades"
  | 3 => .object "RecordClaims$Events"
  | 4 => .object "RecordClaims$Notes"
  | 5 => .object "RecordClaims$Claims"
  | 6 => .int
  | 7 => .int
  | _ => .int
theorem nmX8 : ∀ a, a < 9 → ∀ b, b < 9 → a ≠ b → (TX8 a).2.1 ≠ (TX8 b).2.1 := by decide +kernel
theorem tyX8_ok : ∀ k, k < 9 → parseFieldDescriptor (TX8 k).2.2.1 = some (tyX8 k) := by decide +kernel
def RX9 : String := "RecordClaims$Tape"
def TX9 : u_T := fun k => match k with
  | 0 => ("RecordClaims$Tape", "bytes", "[B", true)
  | 1 => ("RecordClaims$Tape", "length", "I", false)
  | 2 => ("RecordClaims$Tape", "kinds", "[I", true)
  | 3 => ("RecordClaims$Tape", "places", "[I", true)
  | 4 => ("RecordClaims$Tape", "values", "[I", true)
  | 5 => ("RecordClaims$Tape", "at", "I", false)
  | 6 => ("RecordClaims$Tape", "fault", "I", false)
  | _ => ("RecordClaims$Tape", "faultPlace", "I", false)
def tyX9 : Nat → FieldType := fun k => match k with
  | 0 => .array (.byte)
  | 1 => .int
  | 2 => .array (.int)
  | 3 => .array (.int)
  | 4 => .array (.int)
  | 5 => .int
  | 6 => .int
  | _ => .int
theorem nmX9 : ∀ a, a < 8 → ∀ b, b < 8 → a ≠ b → (TX9 a).2.1 ≠ (TX9 b).2.1 := by decide +kernel
theorem tyX9_ok : ∀ k, k < 8 → parseFieldDescriptor (TX9 k).2.2.1 = some (tyX9 k) := by decide +kernel
def RX10 : String := "RecordClaims$Trades"
def TX10 : u_T := fun k => match k with
  | 0 => ("RecordClaims$Trades", "buyer", "[I", true)
  | 1 => ("RecordClaims$Trades", "seller", "[I", true)
  | 2 => ("RecordClaims$Trades", "paper", "[I", true)
  | 3 => ("RecordClaims$Trades", "shares", "[J", true)
  | 4 => ("RecordClaims$Trades", "amount", "[J", true)
  | 5 => ("RecordClaims$Trades", "told", "[I", true)
  | 6 => ("RecordClaims$Trades", "due", "[I", true)
  | 7 => ("RecordClaims$Trades", "state", "[I", true)
  | 8 => ("RecordClaims$Trades", "ended", "[I", true)
  | _ => ("RecordClaims$Trades", "count", "I", false)
def tyX10 : Nat → FieldType := fun k => match k with
  | 0 => .array (.int)
  | 1 => .array (.int)
  | 2 => .array (.int)
  | 3 => .array (.long)
  | 4 => .array (.long)
  | 5 => .array (.int)
  | 6 => .array (.int)
  | 7 => .array (.int)
  | 8 => .array (.int)
  | _ => .int
theorem nmX10 : ∀ a, a < 10 → ∀ b, b < 10 → a ≠ b → (TX10 a).2.1 ≠ (TX10 b).2.1 := by decide +kernel
theorem tyX10_ok : ∀ k, k < 10 → parseFieldDescriptor (TX10 k).2.2.1 = some (tyX10 k) := by decide +kernel
def RX11 : String := "RecordClaims"
def TX11 : u_T := fun k => match k with
  | 0 => ("RecordClaims", "tape", "LRecordClaims$Tape;", true)
  | 1 => ("RecordClaims", "book", "LRecordClaims$Book;", false)
  | 2 => ("RecordClaims", "draft", "LRecordClaims$Book;", false)
  | 3 => ("RecordClaims", "deed", "LRecordClaims$Deed;", true)
  | 4 => ("RecordClaims", "now", "LRecordClaims$State;", true)
  | 5 => ("RecordClaims", "history", "LRecordClaims$History;", true)
  | 6 => ("RecordClaims", "shown", "LRecordClaims$Shown;", true)
  | _ => ("RecordClaims", "netting", "LRecordClaims$Netting;", true)
def tyX11 : Nat → FieldType := fun k => match k with
  | 0 => .object "RecordClaims$Tape"
  | 1 => .object "RecordClaims$Book"
  | 2 => .object "RecordClaims$Book"
  | 3 => .object "RecordClaims$Deed"
  | 4 => .object "RecordClaims$State"
  | 5 => .object "RecordClaims$History"
  | 6 => .object "RecordClaims$Shown"
  | _ => .object "RecordClaims$Netting"
theorem nmX11 : ∀ a, a < 8 → ∀ b, b < 8 → a ≠ b → (TX11 a).2.1 ≠ (TX11 b).2.1 := by decide +kernel
theorem tyX11_ok : ∀ k, k < 8 → parseFieldDescriptor (TX11 k).2.2.1 = some (tyX11 k) := by decide +kernel
def RX12 : String := "RecordClaimsModel"
def TX12 : u_T := fun k => match k with
  | 0 => ("RecordClaimsModel", "told", "I", false)
  | 1 => ("RecordClaimsModel", "now", "[J", true)
  | 2 => ("RecordClaimsModel", "before", "[J", true)
  | 3 => ("RecordClaimsModel", "aside", "[J", true)
  | 4 => ("RecordClaimsModel", "kept", "[J", true)
  | 5 => ("RecordClaimsModel", "undos", "I", false)
  | 6 => ("RecordClaimsModel", "holders", "I", false)
  | 7 => ("RecordClaimsModel", "papers", "I", false)
  | 8 => ("RecordClaimsModel", "holderName", "[J", true)
  | 9 => ("RecordClaimsModel", "paperName", "[J", true)
  | 10 => ("RecordClaimsModel", "letters", "[B", true)
  | 11 => ("RecordClaimsModel", "tape", "[B", true)
  | 12 => ("RecordClaimsModel", "taped", "I", false)
  | 13 => ("RecordClaimsModel", "length", "I", false)
  | 14 => ("RecordClaimsModel", "spot", "I", false)
  | 15 => ("RecordClaimsModel", "from", "I", false)
  | 16 => ("RecordClaimsModel", "token", "I", false)
  | 17 => ("RecordClaimsModel", "sign", "I", false)
  | 18 => ("RecordClaimsModel", "wide", "I", false)
  | 19 => ("RecordClaimsModel", "number", "I", false)
  | 20 => ("RecordClaimsModel", "word", "I", false)
  | 21 => ("RecordClaimsModel", "code", "J", false)
  | 22 => ("RecordClaimsModel", "fault", "I", false)
  | 23 => ("RecordClaimsModel", "faultPlace", "I", false)
  | 24 => ("RecordClaimsModel", "newHolder", "[J", true)
  | 25 => ("RecordClaimsModel", "newPaper", "[J", true)
  | 26 => ("RecordClaimsModel", "newShares", "[I", true)
  | 27 => ("RecordClaimsModel", "newHolders", "I", false)
  | 28 => ("RecordClaimsModel", "newPapers", "I", false)
  | 29 => ("RecordClaimsModel", "deedWord", "[I", true)
  | 30 => ("RecordClaimsModel", "deedArg", "[I", true)
  | 31 => ("RecordClaimsModel", "deedMany", "I", false)
  | 32 => ("RecordClaimsModel", "owed", "[J", true)
  | 33 => ("RecordClaimsModel", "shown", "[B", true)
  | _ => ("RecordClaimsModel", "shownMany", "I", false)
def tyX12 : Nat → FieldType := fun k => match k with
  | 0 => .int
  | 1 => .array (.long)
  | 2 => .array (.long)
  | 3 => .array (.long)
  | 4 => .array (.long)
  | 5 => .int
  | 6 => .int
  | 7 => .int
  | 8 => .array (.long)
  | 9 => .array (.long)
  | 10 => .array (.byte)
  | 11 => .array (.byte)
  | 12 => .int
  | 13 => .int
  | 14 => .int
  | 15 => .int
  | 16 => .int
  | 17 => .int
  | 18 => .int
  | 19 => .int
  | 20 => .int
  | 21 => .long
  | 22 => .int
  | 23 => .int
  | 24 => .array (.long)
  | 25 => .array (.long)
  | 26 => .array (.int)
  | 27 => .int
  | 28 => .int
  | 29 => .array (.int)
  | 30 => .array (.int)
  | 31 => .int
  | 32 => .array (.long)
  | 33 => .array (.byte)
  | _ => .int
theorem nmX12 : ∀ a, a < 35 → ∀ b, b < 35 → a ≠ b → (TX12 a).2.1 ≠ (TX12 b).2.1 := by decide +kernel
theorem tyX12_ok : ∀ k, k < 35 → parseFieldDescriptor (TX12 k).2.2.1 = some (tyX12 k) := by decide +kernel
abbrev q_cl : List vw_C := [(RX0, TX0, 5), (RX1, TX1, 5), (RX2, TX2, 20), (RX3, TX3, 17), (RX4, TX4, 3), (RX5, TX5, 1), (RX6, TX6, 6), (RX7, TX7, 2), (RX8, TX8, 9), (RX9, TX9, 8), (RX10, TX10, 10), (RX11, TX11, 8), (RX12, TX12, 35)]
def q_ft : List (List Nat) := [[2, 2, 2, 0, 0], [2, 2, 2, 2, 2], [0, 0, 0, 0, 0, 0, 0, 0, 0, 0, 0, 0, 0, 0, 0, 0, 0, 0, 0, 0], [2, 2, 2, 2, 2, 2, 2, 2, 2, 2, 2, 2, 2, 2, 2, 2, 0], [2, 0, 0], [2], [2, 2, 2, 2, 2, 2], [2, 0], [2, 2, 2, 2, 2, 2, 0, 0, 0], [2, 0, 2, 2, 2, 0, 0, 0], [2, 2, 2, 2, 2, 2, 2, 2, 2, 0], [2, 2, 2, 2, 2, 2, 2, 2], [0, 2, 2, 2, 2, 0, 0, 0, 2, 2, 2, 2, 0, 0, 0, 0, 0, 0, 0, 0, 0, 1, 0, 0, 2, 2, 2, 0, 0, 2, 2, 0, 2, 2, 0]]
/-- the words that a call keeps -/
def q_tbl : List Cond := lw_tbl.filter goodWord
theorem q_good : ∀ w ∈ q_tbl, goodWord w = true := fun _ h => (List.mem_filter.mp h).2
theorem q_lw : ∀ w ∈ q_tbl, w ∈ lw_tbl := fun _ h => (List.mem_filter.mp h).1
theorem q_tb {w : Cond} (i : Nat) (h : tables_1[i]? = some w) (hg : goodWord w = true) : w ∈ q_tbl := List.mem_filter.mpr ⟨List.mem_append_right _ (List.mem_of_getElem? h), hg⟩
theorem q_tbs {q : MethodName × Nat} (i : Nat) (h : lw_privs[i]? = some q) (hg : goodWord (Cond.selects q.1.cls q.1 q.1) = true) : Cond.selects q.1.cls q.1 q.1 ∈ q_tbl := List.mem_filter.mpr ⟨List.mem_append_left _ (List.mem_map.mpr ⟨q, List.mem_of_getElem? h, rfl⟩), hg⟩
theorem q_tbl_in {ws : List Cond} (is : List Nat) (h : ws = is.filterMap (fun i => tables_1[i]?)) (hg : ws.all goodWord = true) : ∀ w ∈ ws, w ∈ q_tbl := by
  intro w hw
  have hg2 := List.all_eq_true.mp hg w hw
  rw [h] at hw
  obtain ⟨i, -, hi⟩ := List.mem_filterMap.mp hw
  exact q_tb i hi hg2
theorem inX0 : ∀ w ∈ u_ws RX0 TX0 5, w ∈ q_tbl := q_tbl_in [81, 83, 85, 87, 89] (by decide +kernel) (by decide +kernel)
theorem inX1 : ∀ w ∈ u_ws RX1 TX1 5, w ∈ q_tbl := q_tbl_in [385, 387, 389, 391, 393] (by decide +kernel) (by decide +kernel)
theorem inX2 : ∀ w ∈ u_ws RX2 TX2 20, w ∈ q_tbl := q_tbl_in [169, 171, 173, 175, 177, 179, 181, 183, 185, 187, 189, 191, 193, 195, 197, 199, 201, 203, 205, 207] (by decide +kernel) (by decide +kernel)
theorem inX3 : ∀ w ∈ u_ws RX3 TX3 17, w ∈ q_tbl := q_tbl_in [303, 305, 307, 309, 311, 313, 315, 317, 319, 321, 323, 325, 327, 329, 331, 333, 335] (by decide +kernel) (by decide +kernel)
theorem inX4 : ∀ w ∈ u_ws RX4 TX4 3, w ∈ q_tbl := q_tbl_in [445, 447, 449] (by decide +kernel) (by decide +kernel)
theorem inX5 : ∀ w ∈ u_ws RX5 TX5 1, w ∈ q_tbl := q_tbl_in [474] (by decide +kernel) (by decide +kernel)
theorem inX6 : ∀ w ∈ u_ws RX6 TX6 6, w ∈ q_tbl := q_tbl_in [356, 358, 360, 362, 364, 366] (by decide +kernel) (by decide +kernel)
theorem inX7 : ∀ w ∈ u_ws RX7 TX7 2, w ∈ q_tbl := q_tbl_in [462, 464] (by decide +kernel) (by decide +kernel)
theorem inX8 : ∀ w ∈ u_ws RX8 TX8 9, w ∈ q_tbl := q_tbl_in [413, 415, 417, 419, 421, 423, 425, 427, 429] (by decide +kernel) (by decide +kernel)
theorem inX9 : ∀ w ∈ u_ws RX9 TX9 8, w ∈ q_tbl := q_tbl_in [46, 48, 50, 52, 54, 56, 58, 60] (by decide +kernel) (by decide +kernel)
theorem inX10 : ∀ w ∈ u_ws RX10 TX10 10, w ∈ q_tbl := q_tbl_in [243, 245, 247, 249, 251, 253, 255, 257, 259, 261] (by decide +kernel) (by decide +kernel)
theorem inX11 : ∀ w ∈ u_ws RX11 TX11 8, w ∈ q_tbl := q_tbl_in [485, 487, 489, 491, 493, 495, 497, 499] (by decide +kernel) (by decide +kernel)
theorem inX12 : ∀ w ∈ u_ws RX12 TX12 35, w ∈ q_tbl := q_tbl_in [1286, 1288, 1290, 1292, 1294, 1296, 1298, 1300, 1302, 1304, 1306, 1308, 1310, 1312, 1314, 1316, 1318, 1320, 1322, 1324, 1326, 1328, 1330, 1332, 1334, 1336, 1338, 1340, 1342, 1344, 1346, 1348, 1350, 1352, 1354] (by decide +kernel) (by decide +kernel)
