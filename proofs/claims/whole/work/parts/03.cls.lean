def TX0 : u_T := fun k => match k with
  | 0 => ("PennyBank$Account", "number", "I", true)
  | 1 => ("PennyBank$Account", "kind", "I", true)
  | 2 => ("PennyBank$Account", "with", "I", true)
  | 3 => ("PennyBank$Account", "opened", "I", true)
  | 4 => ("PennyBank$Account", "lineDays", "[I", true)
  | 5 => ("PennyBank$Account", "lineSums", "[I", true)
  | 6 => ("PennyBank$Account", "lines", "I", false)
  | _ => ("PennyBank$Account", "settled", "I", false)
def TX1 : u_T := fun k => match k with
  | 0 => ("PennyBank$Coins", "at", "[I", true)
  | _ => ("PennyBank$Coins", "overInAll", "I", false)
def TX2 : u_T := fun k => match k with
  | 0 => ("PennyBank$Entries", "accounts", "[I", true)
  | 1 => ("PennyBank$Entries", "days", "[I", true)
  | 2 => ("PennyBank$Entries", "sums", "[I", true)
  | 3 => ("PennyBank$Entries", "knownFrom", "[I", true)
  | _ => ("PennyBank$Entries", "size", "I", false)
def TX3 : u_T := fun k => match k with
  | 0 => ("PennyBank$Grammar", "tokens", "[I", true)
  | 1 => ("PennyBank$Grammar", "size", "I", false)
  | 2 => ("PennyBank$Grammar", "state", "I", false)
  | 3 => ("PennyBank$Grammar", "lines", "I", false)
  | 4 => ("PennyBank$Grammar", "rule", "I", false)
  | 5 => ("PennyBank$Grammar", "depth", "I", false)
  | _ => ("PennyBank$Grammar", "compared", "[Z", true)
def TX4 : u_T := fun k => match k with
  | 0 => ("PennyBank$Holdings", "prices", "[I", true)
  | 1 => ("PennyBank$Holdings", "changes", "[I", true)
  | 2 => ("PennyBank$Holdings", "needs", "[I", true)
  | 3 => ("PennyBank$Holdings", "size", "I", false)
  | 4 => ("PennyBank$Holdings", "plan", "[I", true)
  | 5 => ("PennyBank$Holdings", "planned", "I", false)
  | _ => ("PennyBank$Holdings", "reached", "[J", true)
def TX5 : u_T := fun k => match k with
  | 0 => ("PennyBank$Judge", "kind", "I", false)
  | 1 => ("PennyBank$Judge", "base", "I", false)
  | 2 => ("PennyBank$Judge", "age", "I", false)
  | 3 => ("PennyBank$Judge", "month", "I", false)
  | 4 => ("PennyBank$Judge", "day", "I", false)
  | 5 => ("PennyBank$Judge", "level", "I", false)
  | 6 => ("PennyBank$Judge", "sums", "[I", true)
  | 7 => ("PennyBank$Judge", "signs", "[I", true)
  | 8 => ("PennyBank$Judge", "lefts", "[I", true)
  | 9 => ("PennyBank$Judge", "relations", "[I", true)
  | 10 => ("PennyBank$Judge", "tests", "[I", true)
  | _ => ("PennyBank$Judge", "worths", "[I", true)
def TX6 : u_T := fun k => match k with
  | 0 => ("PennyBank$Notices", "accounts", "[I", true)
  | 1 => ("PennyBank$Notices", "sums", "[I", true)
  | 2 => ("PennyBank$Notices", "days", "[I", true)
  | 3 => ("PennyBank$Notices", "used", "[Z", true)
  | _ => ("PennyBank$Notices", "size", "I", false)
def TX7 : u_T := fun k => match k with
  | 0 => ("PennyBank$Reckoner", "entries", "LPennyBank$Entries;", true)
  | 1 => ("PennyBank$Reckoner", "texts", "LPennyBank$Texts;", true)
  | 2 => ("PennyBank$Reckoner", "judge", "LPennyBank$Judge;", true)
  | 3 => ("PennyBank$Reckoner", "moved", "[I", true)
  | 4 => ("PennyBank$Reckoner", "balance", "I", false)
  | 5 => ("PennyBank$Reckoner", "earned", "I", false)
  | _ => ("PennyBank$Reckoner", "earnedLast", "I", false)
def TX8 : u_T := fun k => match k with
  | 0 => ("PennyBank$RuleText", "from", "I", true)
  | 1 => ("PennyBank$RuleText", "knownFrom", "I", true)
  | _ => ("PennyBank$RuleText", "tokens", "[I", true)
def TX9 : u_T := fun k => match k with
  | 0 => ("PennyBank$Tape", "signs", "[C", true)
  | 1 => ("PennyBank$Tape", "size", "I", false)
  | 2 => ("PennyBank$Tape", "place", "I", false)
  | _ => ("PennyBank$Tape", "at", "I", false)
def TX10 : u_T := fun k => match k with
  | 0 => ("PennyBank$Texts", "kept", "[LPennyBank$RuleText;", true)
  | _ => ("PennyBank$Texts", "size", "I", false)
def TX11 : u_T := fun k => match k with
  | 0 => ("PennyBank", "accounts", "[LPennyBank$Account;", true)
  | 1 => ("PennyBank", "entries", "LPennyBank$Entries;", true)
  | 2 => ("PennyBank", "tape", "LPennyBank$Tape;", true)
  | 3 => ("PennyBank", "grammar", "LPennyBank$Grammar;", true)
  | 4 => ("PennyBank", "texts", "LPennyBank$Texts;", true)
  | 5 => ("PennyBank", "judge", "LPennyBank$Judge;", true)
  | 6 => ("PennyBank", "reckoner", "LPennyBank$Reckoner;", true)
  | 7 => ("PennyBank", "notices", "LPennyBank$Notices;", true)
  | 8 => ("PennyBank", "coins", "LPennyBank$Coins;", true)
  | 9 => ("PennyBank", "holdings", "LPennyBank$Holdings;", true)
  | 10 => ("PennyBank", "accountCount", "I", false)
  | _ => ("PennyBank", "now", "I", false)
def TX12 : u_T := fun k => match k with
  | 0 => ("PennyBankModel", "thrown", "I", false)
  | 1 => ("PennyBankModel", "tape", "[I", true)
  | 2 => ("PennyBankModel", "taped", "I", false)
  | 3 => ("PennyBankModel", "size", "I", false)
  | 4 => ("PennyBankModel", "sort", "[I", true)
  | 5 => ("PennyBankModel", "place", "[I", true)
  | 6 => ("PennyBankModel", "value", "[J", true)
  | 7 => ("PennyBankModel", "at", "I", false)
  | 8 => ("PennyBankModel", "fault", "I", false)
  | 9 => ("PennyBankModel", "words", "[J", true)
  | 10 => ("PennyBankModel", "texts", "I", false)
  | 11 => ("PennyBankModel", "inForce", "[I", true)
  | 12 => ("PennyBankModel", "textDay", "[I", true)
  | 13 => ("PennyBankModel", "lines", "[I", true)
  | 14 => ("PennyBankModel", "isLimit", "[Z", true)
  | 15 => ("PennyBankModel", "lineN", "[I", true)
  | 16 => ("PennyBankModel", "lineAt", "[I", true)
  | 17 => ("PennyBankModel", "op", "[I", true)
  | 18 => ("PennyBankModel", "one", "[I", true)
  | 19 => ("PennyBankModel", "codes", "I", false)
  | 20 => ("PennyBankModel", "deep", "I", false)
  | 21 => ("PennyBankModel", "sumWaits", "[I", true)
  | 22 => ("PennyBankModel", "signWaits", "[I", true)
  | 23 => ("PennyBankModel", "andWaits", "[I", true)
  | 24 => ("PennyBankModel", "known", "[I", true)
  | 25 => ("PennyBankModel", "pile", "[I", true)
  | 26 => ("PennyBankModel", "now", "I", false)
  | 27 => ("PennyBankModel", "accounts", "I", false)
  | 28 => ("PennyBankModel", "kind", "[I", true)
  | 29 => ("PennyBankModel", "with", "[I", true)
  | 30 => ("PennyBankModel", "opened", "[I", true)
  | 31 => ("PennyBankModel", "written", "[I", true)
  | 32 => ("PennyBankModel", "entries", "I", false)
  | 33 => ("PennyBankModel", "entryOf", "[I", true)
  | 34 => ("PennyBankModel", "entryDay", "[I", true)
  | 35 => ("PennyBankModel", "entrySum", "[I", true)
  | 36 => ("PennyBankModel", "entryKnown", "[I", true)
  | 37 => ("PennyBankModel", "coin", "[I", true)
  | 38 => ("PennyBankModel", "interest", "[I", true)
  | 39 => ("PennyBankModel", "notices", "I", false)
  | 40 => ("PennyBankModel", "noticeOf", "[I", true)
  | 41 => ("PennyBankModel", "noticeDay", "[I", true)
  | 42 => ("PennyBankModel", "noticeSum", "[I", true)
  | 43 => ("PennyBankModel", "isUsed", "[Z", true)
  | 44 => ("PennyBankModel", "bookLines", "[I", true)
  | 45 => ("PennyBankModel", "bookDay", "[I", true)
  | 46 => ("PennyBankModel", "bookSum", "[I", true)
  | 47 => ("PennyBankModel", "isPaired", "[Z", true)
  | 48 => ("PennyBankModel", "over", "I", false)
  | 49 => ("PennyBankModel", "holdings", "I", false)
  | 50 => ("PennyBankModel", "price", "[I", true)
  | 51 => ("PennyBankModel", "needs", "[I", true)
  | 52 => ("PennyBankModel", "draft", "[I", true)
  | 53 => ("PennyBankModel", "soldIn", "[I", true)
  | _ => ("PennyBankModel", "soldMany", "I", false)
def px_CT (ci : Nat) : vw_C := match ci with
  | 0 => ("PennyBank$Account", TX0, 8)
  | 1 => ("PennyBank$Coins", TX1, 2)
  | 2 => ("PennyBank$Entries", TX2, 5)
  | 3 => ("PennyBank$Grammar", TX3, 7)
  | 4 => ("PennyBank$Holdings", TX4, 7)
  | 5 => ("PennyBank$Judge", TX5, 12)
  | 6 => ("PennyBank$Notices", TX6, 5)
  | 7 => ("PennyBank$Reckoner", TX7, 7)
  | 8 => ("PennyBank$RuleText", TX8, 3)
  | 9 => ("PennyBank$Tape", TX9, 4)
  | 10 => ("PennyBank$Texts", TX10, 2)
  | 11 => ("PennyBank", TX11, 12)
  | _ => ("PennyBankModel", TX12, 55)
def px_NC : Nat := 13
def px_C24 : String := "PennyBank$Account"
def px_C25 : String := "PennyBank$RuleText"
def px_NW : List (String × Nat × MethodName × String) := [("PennyBank", 17, ⟨"PennyBank$Entries", "<init>", "()V"⟩, "PennyBank"), ("PennyBank", 24, ⟨"PennyBank$Tape", "<init>", "()V"⟩, "PennyBank"), ("PennyBank", 31, ⟨"PennyBank$Grammar", "<init>", "()V"⟩, "PennyBank"), ("PennyBank", 38, ⟨"PennyBank$Texts", "<init>", "()V"⟩, "PennyBank"), ("PennyBank", 45, ⟨"PennyBank$Judge", "<init>", "()V"⟩, "PennyBank"), ("PennyBank", 61, ⟨"PennyBank$Notices", "<init>", "()V"⟩, "PennyBank"), ("PennyBank", 68, ⟨"PennyBank$Coins", "<init>", "()V"⟩, "PennyBank"), ("PennyBank", 75, ⟨"PennyBank$Holdings", "<init>", "()V"⟩, "PennyBank"), ("PennyBank$Coins", 15, ⟨"PennyBank", "isBranch", "(I)Z"⟩, "PennyBank"), ("PennyBank$Reckoner", 27, ⟨"PennyBank", "isDay", "(I)Z"⟩, "PennyBank")]
def px_SR : List (String × Nat × String × Nat) := [("PennyBank$Tape", 43, "interest", 1), ("PennyBank$Tape", 49, "limit", 3), ("PennyBank$Tape", 51, "when", 5), ("PennyBank$Tape", 53, "and", 7), ("PennyBank$Tape", 55, "kind", 9), ("PennyBank$Tape", 57, "base", 11), ("PennyBank$Tape", 59, "age", 13), ("PennyBank$Tape", 61, "month", 15), ("PennyBank$Tape", 63, "day", 17), ("PennyBank", 146, "no such account or days", 19), ("PennyBank", 155, "no such account, month or day", 20), ("PennyBank", 199, "no such account", 21), ("PennyBank", 208, "no such branch or number", 22), ("PennyBank", 213, "no such branch", 23)]
def px_AO : List String := ["PennyBank$Account", "PennyBank$RuleText"]
def px_CA : List (String × String) := [("[I", "java/lang/Cloneable"), ("java/util/NoSuchElementException", "java/util/NoSuchElementException"), ("PennyBank", "java/lang/Object"), ("PennyBank$Entries", "java/lang/Object"), ("PennyBank$Tape", "java/lang/Object"), ("PennyBank$Grammar", "java/lang/Object"), ("PennyBank$Texts", "java/lang/Object"), ("PennyBank$Judge", "java/lang/Object"), ("PennyBank$Reckoner", "java/lang/Object"), ("PennyBank$Notices", "java/lang/Object"), ("PennyBank$Coins", "java/lang/Object"), ("PennyBank$Holdings", "java/lang/Object"), ("PennyBankModel", "java/lang/Object"), ("PennyBank$Account", "java/lang/Object"), ("PennyBank$RuleText", "java/lang/Object"), ("java/util/NoSuchElementException", "java/lang/Object"), ("java/lang/Throwable", "java/lang/Object"), ("java/lang/String", "java/lang/Object")]
def px_DE : List MethodName := [⟨"java/lang/RuntimeException", "<init>", "()V"⟩, ⟨"java/lang/RuntimeException", "<init>", "(Ljava/lang/String;)V"⟩, ⟨"java/lang/Exception", "<init>", "()V"⟩, ⟨"java/lang/Exception", "<init>", "(Ljava/lang/String;)V"⟩, ⟨"java/lang/Throwable", "<init>", "()V"⟩, ⟨"java/lang/Throwable", "<init>", "(Ljava/lang/String;)V"⟩]
def px_SN : Nat := 9
def px_SL : List Nat := [8, 5, 4, 3, 4, 4, 3, 5, 3]
def px_SB : List (List Int32) := [[105, 110, 116, 101, 114, 101, 115, 116], [108, 105, 109, 105, 116], [119, 104, 101, 110], [97, 110, 100], [107, 105, 110, 100], [98, 97, 115, 101], [97, 103, 101], [109, 111, 110, 116, 104], [100, 97, 121]]
theorem px_ci {P : Nat → Prop} (h0 : P 0) (h1 : P 1) (h2 : P 2) (h3 : P 3) (h4 : P 4) (h5 : P 5) (h6 : P 6) (h7 : P 7) (h8 : P 8) (h9 : P 9) (h10 : P 10) (h11 : P 11) (h12 : P 12) : ∀ ci, ci < px_NC → P ci := by
  intro ci h
  have h : ci < 13 := h
  match ci, h with
  | 0, _ => exact h0
  | 1, _ => exact h1
  | 2, _ => exact h2
  | 3, _ => exact h3
  | 4, _ => exact h4
  | 5, _ => exact h5
  | 6, _ => exact h6
  | 7, _ => exact h7
  | 8, _ => exact h8
  | 9, _ => exact h9
  | 10, _ => exact h10
  | 11, _ => exact h11
  | 12, _ => exact h12
  | n + 13, h => exact absurd h (by omega)
theorem px_la0 : ∀ w ∈ u_ws (px_CT 0).1 (px_CT 0).2.1 (px_CT 0).2.2, w ∈ px_TB := by decide +kernel
theorem px_nm0 : ∀ a, a < (px_CT 0).2.2 → ∀ b, b < (px_CT 0).2.2 → a ≠ b → ((px_CT 0).2.1 a).2.1 ≠ ((px_CT 0).2.1 b).2.1 := by decide +kernel
theorem px_la1 : ∀ w ∈ u_ws (px_CT 1).1 (px_CT 1).2.1 (px_CT 1).2.2, w ∈ px_TB := by decide +kernel
theorem px_nm1 : ∀ a, a < (px_CT 1).2.2 → ∀ b, b < (px_CT 1).2.2 → a ≠ b → ((px_CT 1).2.1 a).2.1 ≠ ((px_CT 1).2.1 b).2.1 := by decide +kernel
theorem px_la2 : ∀ w ∈ u_ws (px_CT 2).1 (px_CT 2).2.1 (px_CT 2).2.2, w ∈ px_TB := by decide +kernel
theorem px_nm2 : ∀ a, a < (px_CT 2).2.2 → ∀ b, b < (px_CT 2).2.2 → a ≠ b → ((px_CT 2).2.1 a).2.1 ≠ ((px_CT 2).2.1 b).2.1 := by decide +kernel
theorem px_la3 : ∀ w ∈ u_ws (px_CT 3).1 (px_CT 3).2.1 (px_CT 3).2.2, w ∈ px_TB := by decide +kernel
theorem px_nm3 : ∀ a, a < (px_CT 3).2.2 → ∀ b, b < (px_CT 3).2.2 → a ≠ b → ((px_CT 3).2.1 a).2.1 ≠ ((px_CT 3).2.1 b).2.1 := by decide +kernel
theorem px_la4 : ∀ w ∈ u_ws (px_CT 4).1 (px_CT 4).2.1 (px_CT 4).2.2, w ∈ px_TB := by decide +kernel
theorem px_nm4 : ∀ a, a < (px_CT 4).2.2 → ∀ b, b < (px_CT 4).2.2 → a ≠ b → ((px_CT 4).2.1 a).2.1 ≠ ((px_CT 4).2.1 b).2.1 := by decide +kernel
theorem px_la5 : ∀ w ∈ u_ws (px_CT 5).1 (px_CT 5).2.1 (px_CT 5).2.2, w ∈ px_TB := by decide +kernel
theorem px_nm5 : ∀ a, a < (px_CT 5).2.2 → ∀ b, b < (px_CT 5).2.2 → a ≠ b → ((px_CT 5).2.1 a).2.1 ≠ ((px_CT 5).2.1 b).2.1 := by decide +kernel
theorem px_la6 : ∀ w ∈ u_ws (px_CT 6).1 (px_CT 6).2.1 (px_CT 6).2.2, w ∈ px_TB := by decide +kernel
theorem px_nm6 : ∀ a, a < (px_CT 6).2.2 → ∀ b, b < (px_CT 6).2.2 → a ≠ b → ((px_CT 6).2.1 a).2.1 ≠ ((px_CT 6).2.1 b).2.1 := by decide +kernel
theorem px_la7 : ∀ w ∈ u_ws (px_CT 7).1 (px_CT 7).2.1 (px_CT 7).2.2, w ∈ px_TB := by decide +kernel
theorem px_nm7 : ∀ a, a < (px_CT 7).2.2 → ∀ b, b < (px_CT 7).2.2 → a ≠ b → ((px_CT 7).2.1 a).2.1 ≠ ((px_CT 7).2.1 b).2.1 := by decide +kernel
theorem px_la8 : ∀ w ∈ u_ws (px_CT 8).1 (px_CT 8).2.1 (px_CT 8).2.2, w ∈ px_TB := by decide +kernel
theorem px_nm8 : ∀ a, a < (px_CT 8).2.2 → ∀ b, b < (px_CT 8).2.2 → a ≠ b → ((px_CT 8).2.1 a).2.1 ≠ ((px_CT 8).2.1 b).2.1 := by decide +kernel
theorem px_la9 : ∀ w ∈ u_ws (px_CT 9).1 (px_CT 9).2.1 (px_CT 9).2.2, w ∈ px_TB := by decide +kernel
theorem px_nm9 : ∀ a, a < (px_CT 9).2.2 → ∀ b, b < (px_CT 9).2.2 → a ≠ b → ((px_CT 9).2.1 a).2.1 ≠ ((px_CT 9).2.1 b).2.1 := by decide +kernel
theorem px_la10 : ∀ w ∈ u_ws (px_CT 10).1 (px_CT 10).2.1 (px_CT 10).2.2, w ∈ px_TB := by decide +kernel
theorem px_nm10 : ∀ a, a < (px_CT 10).2.2 → ∀ b, b < (px_CT 10).2.2 → a ≠ b → ((px_CT 10).2.1 a).2.1 ≠ ((px_CT 10).2.1 b).2.1 := by decide +kernel
theorem px_la11 : ∀ w ∈ u_ws (px_CT 11).1 (px_CT 11).2.1 (px_CT 11).2.2, w ∈ px_TB := by decide +kernel
theorem px_nm11 : ∀ a, a < (px_CT 11).2.2 → ∀ b, b < (px_CT 11).2.2 → a ≠ b → ((px_CT 11).2.1 a).2.1 ≠ ((px_CT 11).2.1 b).2.1 := by decide +kernel
theorem px_la12 : ∀ w ∈ u_ws (px_CT 12).1 (px_CT 12).2.1 (px_CT 12).2.2, w ∈ px_TB := by decide +kernel
theorem px_nm12 : ∀ a, a < (px_CT 12).2.2 → ∀ b, b < (px_CT 12).2.2 → a ≠ b → ((px_CT 12).2.1 a).2.1 ≠ ((px_CT 12).2.1 b).2.1 := by decide +kernel
theorem px_lays : ∀ ci, ci < px_NC → ∀ w ∈ u_ws (px_CT ci).1 (px_CT ci).2.1 (px_CT ci).2.2, w ∈ px_TB := px_ci px_la0 px_la1 px_la2 px_la3 px_la4 px_la5 px_la6 px_la7 px_la8 px_la9 px_la10 px_la11 px_la12
theorem px_names : ∀ ci, ci < px_NC → ∀ a, a < (px_CT ci).2.2 → ∀ b, b < (px_CT ci).2.2 → a ≠ b → ((px_CT ci).2.1 a).2.1 ≠ ((px_CT ci).2.1 b).2.1 := px_ci px_nm0 px_nm1 px_nm2 px_nm3 px_nm4 px_nm5 px_nm6 px_nm7 px_nm8 px_nm9 px_nm10 px_nm11 px_nm12
/-- a field's type: an int, or a reference of some kind -/
def px_isr (t : Option FieldType) : Bool := match t with
  | some (.object _) => true
  | some (.array _) => true
  | _ => false
theorem px_pf0 : ∀ j, j < (px_CT 0).2.2 → ((px_CT 0).2.1 j).2.2.1 = "I" ∨ px_isr (parseFieldDescriptor ((px_CT 0).2.1 j).2.2.1) = true := by decide +kernel
theorem px_pf1 : ∀ j, j < (px_CT 1).2.2 → ((px_CT 1).2.1 j).2.2.1 = "I" ∨ px_isr (parseFieldDescriptor ((px_CT 1).2.1 j).2.2.1) = true := by decide +kernel
theorem px_pf2 : ∀ j, j < (px_CT 2).2.2 → ((px_CT 2).2.1 j).2.2.1 = "I" ∨ px_isr (parseFieldDescriptor ((px_CT 2).2.1 j).2.2.1) = true := by decide +kernel
theorem px_pf3 : ∀ j, j < (px_CT 3).2.2 → ((px_CT 3).2.1 j).2.2.1 = "I" ∨ px_isr (parseFieldDescriptor ((px_CT 3).2.1 j).2.2.1) = true := by decide +kernel
theorem px_pf4 : ∀ j, j < (px_CT 4).2.2 → ((px_CT 4).2.1 j).2.2.1 = "I" ∨ px_isr (parseFieldDescriptor ((px_CT 4).2.1 j).2.2.1) = true := by decide +kernel
theorem px_pf5 : ∀ j, j < (px_CT 5).2.2 → ((px_CT 5).2.1 j).2.2.1 = "I" ∨ px_isr (parseFieldDescriptor ((px_CT 5).2.1 j).2.2.1) = true := by decide +kernel
theorem px_pf6 : ∀ j, j < (px_CT 6).2.2 → ((px_CT 6).2.1 j).2.2.1 = "I" ∨ px_isr (parseFieldDescriptor ((px_CT 6).2.1 j).2.2.1) = true := by decide +kernel
theorem px_pf7 : ∀ j, j < (px_CT 7).2.2 → ((px_CT 7).2.1 j).2.2.1 = "I" ∨ px_isr (parseFieldDescriptor ((px_CT 7).2.1 j).2.2.1) = true := by decide +kernel
theorem px_pf8 : ∀ j, j < (px_CT 8).2.2 → ((px_CT 8).2.1 j).2.2.1 = "I" ∨ px_isr (parseFieldDescriptor ((px_CT 8).2.1 j).2.2.1) = true := by decide +kernel
theorem px_pf9 : ∀ j, j < (px_CT 9).2.2 → ((px_CT 9).2.1 j).2.2.1 = "I" ∨ px_isr (parseFieldDescriptor ((px_CT 9).2.1 j).2.2.1) = true := by decide +kernel
theorem px_pf10 : ∀ j, j < (px_CT 10).2.2 → ((px_CT 10).2.1 j).2.2.1 = "I" ∨ px_isr (parseFieldDescriptor ((px_CT 10).2.1 j).2.2.1) = true := by decide +kernel
theorem px_pf11 : ∀ j, j < (px_CT 11).2.2 → ((px_CT 11).2.1 j).2.2.1 = "I" ∨ px_isr (parseFieldDescriptor ((px_CT 11).2.1 j).2.2.1) = true := by decide +kernel
theorem px_pf12 : ∀ j, j < (px_CT 12).2.2 → ((px_CT 12).2.1 j).2.2.1 = "I" ∨ px_isr (parseFieldDescriptor ((px_CT 12).2.1 j).2.2.1) = true := by decide +kernel
theorem px_parse : ∀ ci, ci < px_NC → ∀ j, j < (px_CT ci).2.2 → ((px_CT ci).2.1 j).2.2.1 = "I" ∨ px_isr (parseFieldDescriptor ((px_CT ci).2.1 j).2.2.1) = true := px_ci px_pf0 px_pf1 px_pf2 px_pf3 px_pf4 px_pf5 px_pf6 px_pf7 px_pf8 px_pf9 px_pf10 px_pf11 px_pf12
