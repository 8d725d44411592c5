/-! Names, by program (wip/whole/names.py): classes and their fields, methods, what rows of fields and calls need of the tables. -/
def bw_tbl : List Cond := lw_tbl.filter goodWord
theorem bw_kp : kz_Kp bw_tbl := fun w hw => good_of_word (List.mem_filter.mp hw).2
theorem bw_mem1 {w : Cond} (i : Nat) (hi : tables_1_1[i]? = some w) (hg : goodWord w = true) : w ∈ bw_tbl := by
  have h : w ∈ tables_1_1 := List.mem_of_getElem? hi
  exact List.mem_filter.mpr ⟨List.mem_append_right _ (List.mem_append_left _ h), hg⟩
theorem bw_mem2 {w : Cond} (i : Nat) (hi : tables_1_2[i]? = some w) (hg : goodWord w = true) : w ∈ bw_tbl := by
  have h : w ∈ tables_1_2 := List.mem_of_getElem? hi
  exact List.mem_filter.mpr ⟨List.mem_append_right _ (List.mem_append_right _ (List.mem_append_left _ h)), hg⟩
theorem bw_mem3 {w : Cond} (i : Nat) (hi : tables_1_3[i]? = some w) (hg : goodWord w = true) : w ∈ bw_tbl := by
  have h : w ∈ tables_1_3 := List.mem_of_getElem? hi
  exact List.mem_filter.mpr ⟨List.mem_append_right _ (List.mem_append_right _ (List.mem_append_right _ (List.mem_append_left _ h))), hg⟩
theorem bw_mem4 {w : Cond} (i : Nat) (hi : tables_1_4[i]? = some w) (hg : goodWord w = true) : w ∈ bw_tbl := by
  have h : w ∈ tables_1_4 := List.mem_of_getElem? hi
  exact List.mem_filter.mpr ⟨List.mem_append_right _ (List.mem_append_right _ (List.mem_append_right _ (List.mem_append_right _ h))), hg⟩
theorem bw_sel {q : MethodName × Nat} (h : q ∈ lw_privs) : Cond.selects q.1.cls q.1 q.1 ∈ bw_tbl := List.mem_filter.mpr ⟨List.mem_append_left _ (List.mem_map.mpr ⟨q, h, rfl⟩), rfl⟩
def nm_T0 : u_T := fun k => match k with
  | 0 => ("BankKeeper$Banks", "timings", "[I", true)
  | 1 => ("BankKeeper$Banks", "rows", "[I", true)
  | 2 => ("BankKeeper$Banks", "activated", "[I", true)
  | 3 => ("BankKeeper$Banks", "precharged", "[I", true)
  | 4 => ("BankKeeper$Banks", "readIn", "[I", true)
  | 5 => ("BankKeeper$Banks", "writtenIn", "[I", true)
  | 6 => ("BankKeeper$Banks", "latestActivates", "[I", true)
  | 7 => ("BankKeeper$Banks", "latestTransfer", "I", false)
  | 8 => ("BankKeeper$Banks", "latestWrite", "I", false)
  | 9 => ("BankKeeper$Banks", "latestRefresh", "I", false)
  | 10 => ("BankKeeper$Banks", "burstBegin", "I", false)
  | _ => ("BankKeeper$Banks", "burstWrites", "Z", false)
def nm_y0 : Nat → FieldType := fun k => match k with
  | 0 => .array .int
  | 1 => .array .int
  | 2 => .array .int
  | 3 => .array .int
  | 4 => .array .int
  | 5 => .array .int
  | 6 => .array .int
  | 7 => .int
  | 8 => .int
  | 9 => .int
  | 10 => .int
  | _ => .boolean
theorem nm_n0 : ∀ a, a < 12 → ∀ b, b < 12 → a ≠ b → (nm_T0 a).2.1 ≠ (nm_T0 b).2.1 := by decide +kernel
theorem nm_o0 : ∀ k, k < 12 → parseFieldDescriptor (nm_T0 k).2.2.1 = some (nm_y0 k) := by decide +kernel
theorem nm_w0 : ∀ w ∈ u_ws "BankKeeper$Banks" nm_T0 12, w ∈ bw_tbl := by
  intro w hw
  obtain ⟨k, hk, rfl⟩ := List.mem_map.mp hw
  match k, List.mem_range.mp hk with
  | 0, _ => exact bw_mem1 54 rfl rfl
  | 1, _ => exact bw_mem1 56 rfl rfl
  | 2, _ => exact bw_mem1 58 rfl rfl
  | 3, _ => exact bw_mem1 60 rfl rfl
  | 4, _ => exact bw_mem1 62 rfl rfl
  | 5, _ => exact bw_mem1 64 rfl rfl
  | 6, _ => exact bw_mem1 66 rfl rfl
  | 7, _ => exact bw_mem1 68 rfl rfl
  | 8, _ => exact bw_mem1 70 rfl rfl
  | 9, _ => exact bw_mem1 72 rfl rfl
  | 10, _ => exact bw_mem1 74 rfl rfl
  | 11, _ => exact bw_mem1 76 rfl rfl
  | k + 12, h => exact absurd h (by omega)
def nm_T1 : u_T := fun k => match k with
  | 0 => ("BankKeeper$Journal", "entries", "[[I", true)
  | 1 => ("BankKeeper$Journal", "next", "I", false)
  | 2 => ("BankKeeper$Journal", "kept", "I", false)
  | _ => ("BankKeeper$Journal", "count", "I", false)
def nm_y1 : Nat → FieldType := fun k => match k with
  | 0 => .array (.array .int)
  | 1 => .int
  | 2 => .int
  | _ => .int
theorem nm_n1 : ∀ a, a < 4 → ∀ b, b < 4 → a ≠ b → (nm_T1 a).2.1 ≠ (nm_T1 b).2.1 := by decide +kernel
theorem nm_o1 : ∀ k, k < 4 → parseFieldDescriptor (nm_T1 k).2.2.1 = some (nm_y1 k) := by decide +kernel
theorem nm_w1 : ∀ w ∈ u_ws "BankKeeper$Journal" nm_T1 4, w ∈ bw_tbl := by
  intro w hw
  obtain ⟨k, hk, rfl⟩ := List.mem_map.mp hw
  match k, List.mem_range.mp hk with
  | 0, _ => exact bw_mem1 148 rfl rfl
  | 1, _ => exact bw_mem1 150 rfl rfl
  | 2, _ => exact bw_mem1 152 rfl rfl
  | 3, _ => exact bw_mem1 154 rfl rfl
  | k + 4, h => exact absurd h (by omega)
def nm_T2 : u_T := fun k => match k with
  | 0 => ("BankKeeper$Line", "tickets", "[I", true)
  | _ => ("BankKeeper$Line", "size", "I", false)
def nm_y2 : Nat → FieldType := fun k => match k with
  | 0 => .array .int
  | _ => .int
theorem nm_n2 : ∀ a, a < 2 → ∀ b, b < 2 → a ≠ b → (nm_T2 a).2.1 ≠ (nm_T2 b).2.1 := by decide +kernel
theorem nm_o2 : ∀ k, k < 2 → parseFieldDescriptor (nm_T2 k).2.2.1 = some (nm_y2 k) := by decide +kernel
theorem nm_w2 : ∀ w ∈ u_ws "BankKeeper$Line" nm_T2 2, w ∈ bw_tbl := by
  intro w hw
  obtain ⟨k, hk, rfl⟩ := List.mem_map.mp hw
  match k, List.mem_range.mp hk with
  | 0, _ => exact bw_mem1 131 rfl rfl
  | 1, _ => exact bw_mem1 133 rfl rfl
  | k + 2, h => exact absurd h (by omega)
def nm_T3 : u_T := fun k => match k with
  | 0 => ("BankKeeper$Requests", "addresses", "[I", true)
  | 1 => ("BankKeeper$Requests", "areWritings", "[Z", true)
  | 2 => ("BankKeeper$Requests", "comings", "[I", true)
  | 3 => ("BankKeeper$Requests", "words", "[J", true)
  | 4 => ("BankKeeper$Requests", "lastStages", "[I", true)
  | 5 => ("BankKeeper$Requests", "ends", "[I", true)
  | _ => ("BankKeeper$Requests", "count", "I", false)
def nm_y3 : Nat → FieldType := fun k => match k with
  | 0 => .array .int
  | 1 => .array .boolean
  | 2 => .array .int
  | 3 => .array .long
  | 4 => .array .int
  | 5 => .array .int
  | _ => .int
theorem nm_n3 : ∀ a, a < 7 → ∀ b, b < 7 → a ≠ b → (nm_T3 a).2.1 ≠ (nm_T3 b).2.1 := by decide +kernel
theorem nm_o3 : ∀ k, k < 7 → parseFieldDescriptor (nm_T3 k).2.2.1 = some (nm_y3 k) := by decide +kernel
theorem nm_w3 : ∀ w ∈ u_ws "BankKeeper$Requests" nm_T3 7, w ∈ bw_tbl := by
  intro w hw
  obtain ⟨k, hk, rfl⟩ := List.mem_map.mp hw
  match k, List.mem_range.mp hk with
  | 0, _ => exact bw_mem1 107 rfl rfl
  | 1, _ => exact bw_mem1 109 rfl rfl
  | 2, _ => exact bw_mem1 111 rfl rfl
  | 3, _ => exact bw_mem1 113 rfl rfl
  | 4, _ => exact bw_mem1 115 rfl rfl
  | 5, _ => exact bw_mem1 117 rfl rfl
  | 6, _ => exact bw_mem1 119 rfl rfl
  | k + 7, h => exact absurd h (by omega)
def nm_T4 : u_T := fun k => match k with
  | 0 => ("BankKeeper$Store", "low", "[J", true)
  | _ => ("BankKeeper$Store", "high", "[I", true)
def nm_y4 : Nat → FieldType := fun k => match k with
  | 0 => .array .long
  | _ => .array .int
theorem nm_n4 : ∀ a, a < 2 → ∀ b, b < 2 → a ≠ b → (nm_T4 a).2.1 ≠ (nm_T4 b).2.1 := by decide +kernel
theorem nm_o4 : ∀ k, k < 2 → parseFieldDescriptor (nm_T4 k).2.2.1 = some (nm_y4 k) := by decide +kernel
theorem nm_w4 : ∀ w ∈ u_ws "BankKeeper$Store" nm_T4 2, w ∈ bw_tbl := by
  intro w hw
  obtain ⟨k, hk, rfl⟩ := List.mem_map.mp hw
  match k, List.mem_range.mp hk with
  | 0, _ => exact bw_mem1 88 rfl rfl
  | 1, _ => exact bw_mem1 90 rfl rfl
  | k + 2, h => exact absurd h (by omega)
def nm_T5 : u_T := fun k => match k with
  | 0 => ("BankKeeper", "queue", "I", true)
  | 1 => ("BankKeeper", "cap", "I", true)
  | 2 => ("BankKeeper", "banks", "LBankKeeper$Banks;", true)
  | 3 => ("BankKeeper", "store", "LBankKeeper$Store;", true)
  | 4 => ("BankKeeper", "requests", "LBankKeeper$Requests;", true)
  | 5 => ("BankKeeper", "readings", "LBankKeeper$Line;", true)
  | 6 => ("BankKeeper", "writings", "LBankKeeper$Line;", true)
  | 7 => ("BankKeeper", "lookedAt", "LBankKeeper$Line;", true)
  | 8 => ("BankKeeper", "journal", "LBankKeeper$Journal;", true)
  | 9 => ("BankKeeper", "now", "I", false)
  | 10 => ("BankKeeper", "sinceOwed", "I", false)
  | 11 => ("BankKeeper", "owed", "I", false)
  | 12 => ("BankKeeper", "drains", "Z", false)
  | 13 => ("BankKeeper", "wordsPutRight", "I", false)
  | _ => ("BankKeeper", "nextScrubbed", "I", false)
def nm_y5 : Nat → FieldType := fun k => match k with
  | 0 => .int
  | 1 => .int
  | 2 => .object "BankKeeper$Banks"
  | 3 => .object "BankKeeper$Store"
  | 4 => .object "BankKeeper$Requests"
  | 5 => .object "BankKeeper$Line"
  | 6 => .object "BankKeeper$Line"
  | 7 => .object "BankKeeper$Line"
  | 8 => .object "BankKeeper$Journal"
  | 9 => .int
  | 10 => .int
  | 11 => .int
  | 12 => .boolean
  | 13 => .int
  | _ => .int
theorem nm_n5 : ∀ a, a < 15 → ∀ b, b < 15 → a ≠ b → (nm_T5 a).2.1 ≠ (nm_T5 b).2.1 := by decide +kernel
theorem nm_o5 : ∀ k, k < 15 → parseFieldDescriptor (nm_T5 k).2.2.1 = some (nm_y5 k) := by decide +kernel
theorem nm_w5 : ∀ w ∈ u_ws "BankKeeper" nm_T5 15, w ∈ bw_tbl := by
  intro w hw
  obtain ⟨k, hk, rfl⟩ := List.mem_map.mp hw
  match k, List.mem_range.mp hk with
  | 0, _ => exact bw_mem1 172 rfl rfl
  | 1, _ => exact bw_mem1 174 rfl rfl
  | 2, _ => exact bw_mem1 176 rfl rfl
  | 3, _ => exact bw_mem1 178 rfl rfl
  | 4, _ => exact bw_mem1 180 rfl rfl
  | 5, _ => exact bw_mem1 182 rfl rfl
  | 6, _ => exact bw_mem1 184 rfl rfl
  | 7, _ => exact bw_mem1 186 rfl rfl
  | 8, _ => exact bw_mem1 188 rfl rfl
  | 9, _ => exact bw_mem1 190 rfl rfl
  | 10, _ => exact bw_mem1 192 rfl rfl
  | 11, _ => exact bw_mem1 194 rfl rfl
  | 12, _ => exact bw_mem1 196 rfl rfl
  | 13, _ => exact bw_mem1 198 rfl rfl
  | 14, _ => exact bw_mem1 200 rfl rfl
  | k + 15, h => exact absurd h (by omega)
def nm_T6 : u_T := fun k => match k with
  | 0 => ("BankKeeperModel", "queue", "I", false)
  | 1 => ("BankKeeperModel", "cap", "I", false)
  | 2 => ("BankKeeperModel", "now", "I", false)
  | 3 => ("BankKeeperModel", "owed", "I", false)
  | 4 => ("BankKeeperModel", "given", "I", false)
  | 5 => ("BankKeeperModel", "scrubbed", "I", false)
  | 6 => ("BankKeeperModel", "next", "I", false)
  | 7 => ("BankKeeperModel", "tickets", "I", false)
  | 8 => ("BankKeeperModel", "drains", "Z", false)
  | 9 => ("BankKeeperModel", "timing", "[I", false)
  | 10 => ("BankKeeperModel", "low", "[J", false)
  | 11 => ("BankKeeperModel", "high", "[I", false)
  | 12 => ("BankKeeperModel", "open", "[I", false)
  | 13 => ("BankKeeperModel", "latest", "[I", false)
  | 14 => ("BankKeeperModel", "any", "[I", false)
  | 15 => ("BankKeeperModel", "activates", "[I", false)
  | 16 => ("BankKeeperModel", "busEnd", "I", false)
  | 17 => ("BankKeeperModel", "busKind", "I", false)
  | 18 => ("BankKeeperModel", "writes", "[Z", false)
  | 19 => ("BankKeeperModel", "address", "[I", false)
  | 20 => ("BankKeeperModel", "came", "[I", false)
  | 21 => ("BankKeeperModel", "status", "[I", false)
  | 22 => ("BankKeeperModel", "value", "[J", false)
  | 23 => ("BankKeeperModel", "due", "[I", false)
  | 24 => ("BankKeeperModel", "outcome", "[I", false)
  | 25 => ("BankKeeperModel", "waits", "[I", false)
  | 26 => ("BankKeeperModel", "waiting", "I", false)
  | 27 => ("BankKeeperModel", "readings", "I", false)
  | 28 => ("BankKeeperModel", "writings", "I", false)
  | 29 => ("BankKeeperModel", "bursts", "[I", false)
  | 30 => ("BankKeeperModel", "begun", "I", false)
  | 31 => ("BankKeeperModel", "ended", "I", false)
  | 32 => ("BankKeeperModel", "looked", "[Z", false)
  | 33 => ("BankKeeperModel", "kind", "[I", false)
  | 34 => ("BankKeeperModel", "bankOf", "[I", false)
  | 35 => ("BankKeeperModel", "detail", "[I", false)
  | 36 => ("BankKeeperModel", "cycleOf", "[I", false)
  | 37 => ("BankKeeperModel", "ticketOf", "[I", false)
  | 38 => ("BankKeeperModel", "word", "J", false)
  | 39 => ("BankKeeperModel", "check", "I", false)
  | _ => ("BankKeeperModel", "place", "I", false)
def nm_y6 : Nat → FieldType := fun k => match k with
  | 0 => .int
  | 1 => .int
  | 2 => .int
  | 3 => .int
  | 4 => .int
  | 5 => .int
  | 6 => .int
  | 7 => .int
  | 8 => .boolean
  | 9 => .array .int
  | 10 => .array .long
  | 11 => .array .int
  | 12 => .array .int
  | 13 => .array .int
  | 14 => .array .int
  | 15 => .array .int
  | 16 => .int
  | 17 => .int
  | 18 => .array .boolean
  | 19 => .array .int
  | 20 => .array .int
  | 21 => .array .int
  | 22 => .array .long
  | 23 => .array .int
  | 24 => .array .int
  | 25 => .array .int
  | 26 => .int
  | 27 => .int
  | 28 => .int
  | 29 => .array .int
  | 30 => .int
  | 31 => .int
  | 32 => .array .boolean
  | 33 => .array .int
  | 34 => .array .int
  | 35 => .array .int
  | 36 => .array .int
  | 37 => .array .int
  | 38 => .long
  | 39 => .int
  | _ => .int
theorem nm_n6 : ∀ a, a < 41 → ∀ b, b < 41 → a ≠ b → (nm_T6 a).2.1 ≠ (nm_T6 b).2.1 := by decide +kernel
theorem nm_o6 : ∀ k, k < 41 → parseFieldDescriptor (nm_T6 k).2.2.1 = some (nm_y6 k) := by decide +kernel
theorem nm_w6 : ∀ w ∈ u_ws "BankKeeperModel" nm_T6 41, w ∈ bw_tbl := by
  intro w hw
  obtain ⟨k, hk, rfl⟩ := List.mem_map.mp hw
  match k, List.mem_range.mp hk with
  | 0, _ => exact bw_mem3 95 rfl rfl
  | 1, _ => exact bw_mem3 97 rfl rfl
  | 2, _ => exact bw_mem3 99 rfl rfl
  | 3, _ => exact bw_mem3 101 rfl rfl
  | 4, _ => exact bw_mem3 103 rfl rfl
  | 5, _ => exact bw_mem3 105 rfl rfl
  | 6, _ => exact bw_mem3 107 rfl rfl
  | 7, _ => exact bw_mem3 109 rfl rfl
  | 8, _ => exact bw_mem3 111 rfl rfl
  | 9, _ => exact bw_mem3 113 rfl rfl
  | 10, _ => exact bw_mem3 115 rfl rfl
  | 11, _ => exact bw_mem3 117 rfl rfl
  | 12, _ => exact bw_mem3 119 rfl rfl
  | 13, _ => exact bw_mem3 121 rfl rfl
  | 14, _ => exact bw_mem3 123 rfl rfl
  | 15, _ => exact bw_mem3 125 rfl rfl
  | 16, _ => exact bw_mem3 127 rfl rfl
  | 17, _ => exact bw_mem3 129 rfl rfl
  | 18, _ => exact bw_mem3 131 rfl rfl
  | 19, _ => exact bw_mem3 133 rfl rfl
  | 20, _ => exact bw_mem3 135 rfl rfl
  | 21, _ => exact bw_mem3 137 rfl rfl
  | 22, _ => exact bw_mem3 139 rfl rfl
  | 23, _ => exact bw_mem3 141 rfl rfl
  | 24, _ => exact bw_mem3 143 rfl rfl
  | 25, _ => exact bw_mem3 145 rfl rfl
  | 26, _ => exact bw_mem3 147 rfl rfl
  | 27, _ => exact bw_mem3 149 rfl rfl
  | 28, _ => exact bw_mem3 151 rfl rfl
  | 29, _ => exact bw_mem3 153 rfl rfl
  | 30, _ => exact bw_mem3 155 rfl rfl
  | 31, _ => exact bw_mem3 157 rfl rfl
  | 32, _ => exact bw_mem3 159 rfl rfl
  | 33, _ => exact bw_mem3 161 rfl rfl
  | 34, _ => exact bw_mem3 163 rfl rfl
  | 35, _ => exact bw_mem3 165 rfl rfl
  | 36, _ => exact bw_mem3 167 rfl rfl
  | 37, _ => exact bw_mem3 169 rfl rfl
  | 38, _ => exact bw_mem3 171 rfl rfl
  | 39, _ => exact bw_mem3 173 rfl rfl
  | 40, _ => exact bw_mem3 175 rfl rfl
  | k + 41, h => exact absurd h (by omega)
abbrev nm_cl : List vw_C := [("BankKeeper$Banks", nm_T0, 12), ("BankKeeper$Journal", nm_T1, 4), ("BankKeeper$Line", nm_T2, 2), ("BankKeeper$Requests", nm_T3, 7), ("BankKeeper$Store", nm_T4, 2), ("BankKeeper", nm_T5, 15), ("BankKeeperModel", nm_T6, 41)]
def sh_C : List kz_Sh := [.inr (5, [0, 0, 3, 3, 3, 3, 3, 3, 3, 0, 0, 0, 1, 0, 0]), .inr (0, [3, 3, 3, 3, 3, 3, 3, 0, 0, 0, 0, 1]), .inl (0, 14), .inl (0, 4), .inl (0, 4), .inl (0, 4), .inl (0, 4), .inl (0, 4), .inl (0, 4), .inr (4, [3, 3]), .inl (2, 256), .inl (0, 256), .inr (3, [3, 3, 3, 3, 3, 3, 0]), .inl (0, 400), .inl (1, 400), .inl (0, 400), .inl (2, 400), .inl (0, 400), .inl (0, 400), .inr (2, [3, 0]), .inl (0, 8), .inr (2, [3, 0]), .inl (0, 8), .inr (2, [3, 0]), .inl (0, 8), .inr (1, [3, 0, 0, 0]), .inl (3, 32), .inl (0, 5), .inl (0, 5), .inl (0, 5), .inl (0, 5), .inl (0, 5), .inl (0, 5), .inl (0, 5), .inl (0, 5), .inl (0, 5), .inl (0, 5), .inl (0, 5), .inl (0, 5), .inl (0, 5), .inl (0, 5), .inl (0, 5), .inl (0, 5), .inl (0, 5), .inl (0, 5), .inl (0, 5), .inl (0, 5), .inl (0, 5), .inl (0, 5), .inl (0, 5), .inl (0, 5), .inl (0, 5), .inl (0, 5), .inl (0, 5), .inl (0, 5), .inl (0, 5), .inl (0, 5), .inl (0, 5), .inl (0, 5)]
def rf_C : Nat → Nat → Option Nat := fun k j => match k with
  | 0 => match j with | 2 => some 1 | 3 => some 9 | 4 => some 12 | 5 => some 19 | 6 => some 21 | 7 => some 23 | 8 => some 25 | _ => none
  | 1 => match j with | 0 => some 2 | 1 => some 3 | 2 => some 4 | 3 => some 5 | 4 => some 6 | 5 => some 7 | 6 => some 8 | _ => none
  | 9 => match j with | 0 => some 10 | 1 => some 11 | _ => none
  | 12 => match j with | 0 => some 13 | 1 => some 14 | 2 => some 15 | 3 => some 16 | 4 => some 17 | 5 => some 18 | _ => none
  | 19 => match j with | 0 => some 20 | _ => none
  | 21 => match j with | 0 => some 22 | _ => none
  | 23 => match j with | 0 => some 24 | _ => none
  | 25 => match j with | 0 => some 26 | _ => none
  | 26 => if j < 32 then some (27 + j) else none
  | _ => none
def sC : kz_Sy := (nm_cl, sh_C, rf_C, bw_tbl)
def sh_R : List kz_Sh := [.inr (6, [0, 0, 0, 0, 0, 0, 0, 0, 1, 3, 3, 3, 3, 3, 3, 3, 0, 0, 3, 3, 3, 3, 3, 3, 3, 3, 0, 0, 0, 3, 0, 0, 3, 3, 3, 3, 3, 3, 2, 0, 0]), .inl (0, 14), .inl (2, 256), .inl (0, 256), .inl (0, 4), .inl (0, 20), .inl (0, 5), .inl (0, 4), .inl (1, 400), .inl (0, 400), .inl (0, 400), .inl (0, 400), .inl (2, 400), .inl (0, 400), .inl (0, 400), .inl (0, 16), .inl (0, 400), .inl (1, 16), .inl (0, 32), .inl (0, 32), .inl (0, 32), .inl (0, 32), .inl (0, 32)]
def rf_R : Nat → Nat → Option Nat := fun k j => match k with
  | 0 => match j with | 9 => some 1 | 10 => some 2 | 11 => some 3 | 12 => some 4 | 13 => some 5 | 14 => some 6 | 15 => some 7 | 18 => some 8 | 19 => some 9 | 20 => some 10 | 21 => some 11 | 22 => some 12 | 23 => some 13 | 24 => some 14 | 25 => some 15 | 29 => some 16 | 32 => some 17 | 33 => some 18 | 34 => some 19 | 35 => some 20 | 36 => some 21 | 37 => some 22 | _ => none
  | _ => none
def sR : kz_Sy := (nm_cl, sh_R, rf_R, bw_tbl)
-- methods
abbrev m_Bk_init : kz_Me := (⟨"BankKeeper", "<init>", "(II)V"⟩, prog_1_method_1_code, 3, none, 2, 43)
abbrev m_Ma_min : kz_Me := (⟨"java/lang/Math", "min", "(II)I"⟩, prog_12_method_69_code, 2, (some .int), 0, 0)
abbrev m_Ma_max : kz_Me := (⟨"java/lang/Math", "max", "(II)I"⟩, prog_12_method_65_code, 2, (some .int), 0, 0)
abbrev m_Ba_init : kz_Me := (⟨"BankKeeper$Banks", "<init>", "()V"⟩, prog_2_method_1_code, 2, none, 1, 22)
abbrev m_St_init : kz_Me := (⟨"BankKeeper$Store", "<init>", "()V"⟩, prog_6_method_1_code, 1, none, 1, 20)
abbrev m_Re_init : kz_Me := (⟨"BankKeeper$Requests", "<init>", "()V"⟩, prog_5_method_1_code, 1, none, 1, 20)
abbrev m_Li_init : kz_Me := (⟨"BankKeeper$Line", "<init>", "()V"⟩, prog_4_method_1_code, 1, none, 1, 20)
abbrev m_Jo_init : kz_Me := (⟨"BankKeeper$Journal", "<init>", "()V"⟩, prog_3_method_1_code, 1, none, 1, 20)
abbrev m_Bk_timing : kz_Me := (⟨"BankKeeper", "timing", "(II)Z"⟩, prog_1_method_2_code, 3, (some .boolean), 1, 24)
abbrev m_Ba_setTiming : kz_Me := (⟨"BankKeeper$Banks", "setTiming", "(II)Z"⟩, prog_2_method_2_code, 5, (some .boolean), 0, 0)
abbrev m_Bk_read : kz_Me := (⟨"BankKeeper", "read", "(I)I"⟩, prog_1_method_3_code, 4, (some .int), 2, 43)
abbrev m_Bk_isAddress : kz_Me := (⟨"BankKeeper", "isAddress", "(I)Z"⟩, prog_1_method_12_code, 1, (some .boolean), 0, 0)
abbrev m_Bk_latestWritingOf : kz_Me := (⟨"BankKeeper", "latestWritingOf", "(I)I"⟩, prog_1_method_17_code, 3, (some .int), 1, 21)
abbrev m_Li_size : kz_Me := (⟨"BankKeeper$Line", "size", "()I"⟩, prog_4_method_2_code, 1, (some .int), 0, 0)
abbrev m_Li_at : kz_Me := (⟨"BankKeeper$Line", "at", "(I)I"⟩, prog_4_method_3_code, 2, (some .int), 0, 0)
abbrev m_Re_addressOf : kz_Me := (⟨"BankKeeper$Requests", "addressOf", "(I)I"⟩, prog_5_method_8_code, 2, (some .int), 0, 0)
abbrev m_Re_areOut : kz_Me := (⟨"BankKeeper$Requests", "areOut", "()Z"⟩, prog_5_method_3_code, 1, (some .boolean), 0, 0)
abbrev m_Re_take : kz_Me := (⟨"BankKeeper$Requests", "take", "(IZI)I"⟩, prog_5_method_5_code, 5, (some .int), 0, 0)
abbrev m_Li_append : kz_Me := (⟨"BankKeeper$Line", "append", "(I)V"⟩, prog_4_method_4_code, 2, none, 0, 0)
abbrev m_Re_wordOf : kz_Me := (⟨"BankKeeper$Requests", "wordOf", "(I)J"⟩, prog_5_method_11_code, 2, (some .long), 0, 0)
abbrev m_Re_finish : kz_Me := (⟨"BankKeeper$Requests", "finish", "(IJII)V"⟩, prog_5_method_7_code, 6, none, 0, 0)
abbrev m_Bk_write : kz_Me := (⟨"BankKeeper", "write", "(IJ)I"⟩, prog_1_method_4_code, 5, (some .int), 1, 24)
abbrev m_Re_setWord : kz_Me := (⟨"BankKeeper$Requests", "setWord", "(IJ)V"⟩, prog_5_method_6_code, 4, none, 0, 0)
abbrev m_Bk_cycles : kz_Me := (⟨"BankKeeper", "cycles", "(I)I"⟩, prog_1_method_5_code, 4, (some .int), 7, 151)
abbrev m_Jo_count : kz_Me := (⟨"BankKeeper$Journal", "count", "()I"⟩, prog_3_method_2_code, 1, (some .int), 0, 0)
abbrev m_Bk_passCycle : kz_Me := (⟨"BankKeeper", "passCycle", "()V"⟩, prog_1_method_18_code, 1, none, 6, 131)
abbrev m_Bk_oweRefreshInTime : kz_Me := (⟨"BankKeeper", "oweRefreshInTime", "()V"⟩, prog_1_method_19_code, 1, none, 1, 20)
abbrev m_Ba_refreshInterval : kz_Me := (⟨"BankKeeper$Banks", "refreshInterval", "()I"⟩, prog_2_method_3_code, 1, (some .int), 0, 0)
abbrev m_Bk_refreshGoesFirst : kz_Me := (⟨"BankKeeper", "refreshGoesFirst", "()Z"⟩, prog_1_method_20_code, 2, (some .boolean), 1, 20)
abbrev m_Bk_refreshOrClose : kz_Me := (⟨"BankKeeper", "refreshOrClose", "()V"⟩, prog_1_method_21_code, 2, none, 5, 110)
abbrev m_Ba_mayRefresh : kz_Me := (⟨"BankKeeper$Banks", "mayRefresh", "(I)Z"⟩, prog_2_method_14_code, 3, (some .boolean), 0, 0)
abbrev m_Bk_refresh : kz_Me := (⟨"BankKeeper", "refresh", "()V"⟩, prog_1_method_22_code, 2, none, 4, 89)
abbrev m_Ba_refresh : kz_Me := (⟨"BankKeeper$Banks", "refresh", "(I)V"⟩, prog_2_method_15_code, 2, none, 0, 0)
abbrev m_Jo_enter : kz_Me := (⟨"BankKeeper$Journal", "enter", "(IIIII)V"⟩, prog_3_method_3_code, 7, none, 1, 21)
abbrev m_St_putRight : kz_Me := (⟨"BankKeeper$Store", "putRight", "(I)Z"⟩, prog_6_method_10_code, 3, (some .boolean), 3, 67)
abbrev m_St_faultOf : kz_Me := (⟨"BankKeeper$Store", "faultOf", "(I)I"⟩, prog_6_method_8_code, 3, (some .int), 2, 45)
abbrev m_St_syndromeOf : kz_Me := (⟨"BankKeeper$Store", "syndromeOf", "(I)I"⟩, prog_6_method_6_code, 4, (some .int), 1, 22)
abbrev m_St_bitAt : kz_Me := (⟨"BankKeeper$Store", "bitAt", "(II)I"⟩, prog_6_method_2_code, 3, (some .int), 0, 0)
abbrev m_St_onesAreOdd : kz_Me := (⟨"BankKeeper$Store", "onesAreOdd", "(I)Z"⟩, prog_6_method_7_code, 3, (some .boolean), 1, 21)
abbrev m_Lo_bitCount : kz_Me := (⟨"java/lang/Long", "bitCount", "(J)I"⟩, prog_11_method_50_code, 2, (some .int), 0, 0)
abbrev m_In_bitCount : kz_Me := (⟨"java/lang/Integer", "bitCount", "(I)I"⟩, prog_10_method_49_code, 1, (some .int), 0, 0)
abbrev m_St_turn : kz_Me := (⟨"BankKeeper$Store", "turn", "(II)V"⟩, prog_6_method_3_code, 3, none, 0, 0)
abbrev m_Ba_mayPrecharge : kz_Me := (⟨"BankKeeper$Banks", "mayPrecharge", "(II)Z"⟩, prog_2_method_7_code, 3, (some .boolean), 0, 0)
abbrev m_Bk_precharge : kz_Me := (⟨"BankKeeper", "precharge", "(I)V"⟩, prog_1_method_23_code, 2, none, 2, 47)
abbrev m_Ba_precharge : kz_Me := (⟨"BankKeeper$Banks", "precharge", "(II)V"⟩, prog_2_method_8_code, 3, none, 0, 0)
abbrev m_Bk_beginOrEndDraining : kz_Me := (⟨"BankKeeper", "beginOrEndDraining", "()V"⟩, prog_1_method_25_code, 3, none, 1, 20)
abbrev m_Bk_lookAtRequests : kz_Me := (⟨"BankKeeper", "lookAtRequests", "()V"⟩, prog_1_method_26_code, 1, none, 3, 66)
abbrev m_Li_clear : kz_Me := (⟨"BankKeeper$Line", "clear", "()V"⟩, prog_4_method_7_code, 1, none, 0, 0)
abbrev m_Bk_lookAtWritings : kz_Me := (⟨"BankKeeper", "lookAtWritings", "()V"⟩, prog_1_method_28_code, 2, none, 2, 45)
abbrev m_Bk_isHeld : kz_Me := (⟨"BankKeeper", "isHeld", "(I)Z"⟩, prog_1_method_29_code, 5, (some .boolean), 1, 21)
abbrev m_Bk_lookAtReadings : kz_Me := (⟨"BankKeeper", "lookAtReadings", "()V"⟩, prog_1_method_27_code, 2, none, 1, 21)
abbrev m_Re_comingOf : kz_Me := (⟨"BankKeeper$Requests", "comingOf", "(I)I"⟩, prog_5_method_10_code, 2, (some .int), 0, 0)
abbrev m_Li_keepFirst : kz_Me := (⟨"BankKeeper$Line", "keepFirst", "()V"⟩, prog_4_method_6_code, 1, none, 1, 21)
abbrev m_Bk_transferOldest : kz_Me := (⟨"BankKeeper", "transferOldest", "()Z"⟩, prog_1_method_30_code, 5, (some .boolean), 4, 96)
abbrev m_Re_isWriting : kz_Me := (⟨"BankKeeper$Requests", "isWriting", "(I)Z"⟩, prog_5_method_9_code, 2, (some .boolean), 0, 0)
abbrev m_Bk_bankOf : kz_Me := (⟨"BankKeeper", "bankOf", "(I)I"⟩, prog_1_method_15_code, 1, (some .int), 0, 0)
abbrev m_Bk_rowOf : kz_Me := (⟨"BankKeeper", "rowOf", "(I)I"⟩, prog_1_method_16_code, 1, (some .int), 0, 0)
abbrev m_Ba_mayTransfer : kz_Me := (⟨"BankKeeper$Banks", "mayTransfer", "(IIZI)Z"⟩, prog_2_method_9_code, 5, (some .boolean), 2, 41)
abbrev m_Ba_beginOfBurst : kz_Me := (⟨"BankKeeper$Banks", "beginOfBurst", "(ZI)I"⟩, prog_2_method_10_code, 3, (some .int), 0, 0)
abbrev m_Ba_busFreeFrom : kz_Me := (⟨"BankKeeper$Banks", "busFreeFrom", "(Z)I"⟩, prog_2_method_11_code, 2, (some .int), 1, 20)
abbrev m_Ba_endOfBurst : kz_Me := (⟨"BankKeeper$Banks", "endOfBurst", "()I"⟩, prog_2_method_12_code, 1, (some .int), 0, 0)
abbrev m_Bk_transfer : kz_Me := (⟨"BankKeeper", "transfer", "(IIZ)V"⟩, prog_1_method_31_code, 7, none, 3, 70)
abbrev m_Ba_transfer : kz_Me := (⟨"BankKeeper$Banks", "transfer", "(IZI)V"⟩, prog_2_method_13_code, 4, none, 1, 22)
abbrev m_Bk_columnOf : kz_Me := (⟨"BankKeeper", "columnOf", "(I)I"⟩, prog_1_method_14_code, 1, (some .int), 0, 0)
abbrev m_Li_remove : kz_Me := (⟨"BankKeeper$Line", "remove", "(I)V"⟩, prog_4_method_5_code, 4, none, 0, 0)
abbrev m_St_keep : kz_Me := (⟨"BankKeeper$Store", "keep", "(IJ)V"⟩, prog_6_method_4_code, 8, none, 2, 43)
abbrev m_St_isCheck : kz_Me := (⟨"BankKeeper$Store", "isCheck", "(I)Z"⟩, prog_6_method_5_code, 1, (some .boolean), 0, 0)
abbrev m_St_wordAt : kz_Me := (⟨"BankKeeper$Store", "wordAt", "(II)J"⟩, prog_6_method_9_code, 7, (some .long), 1, 22)
abbrev m_Bk_stageAfter : kz_Me := (⟨"BankKeeper", "stageAfter", "(I)I"⟩, prog_1_method_32_code, 1, (some .int), 0, 0)
abbrev m_Bk_openOrCloseForOldest : kz_Me := (⟨"BankKeeper", "openOrCloseForOldest", "()V"⟩, prog_1_method_33_code, 4, none, 3, 71)
abbrev m_Ba_mayActivate : kz_Me := (⟨"BankKeeper$Banks", "mayActivate", "(II)Z"⟩, prog_2_method_5_code, 3, (some .boolean), 0, 0)
abbrev m_Bk_activate : kz_Me := (⟨"BankKeeper", "activate", "(II)V"⟩, prog_1_method_24_code, 3, none, 2, 49)
abbrev m_Ba_activate : kz_Me := (⟨"BankKeeper$Banks", "activate", "(III)V"⟩, prog_2_method_6_code, 4, none, 1, 26)
abbrev m_Bk_openRowIsWanted : kz_Me := (⟨"BankKeeper", "openRowIsWanted", "(I)Z"⟩, prog_1_method_34_code, 4, (some .boolean), 1, 21)
abbrev m_Ba_openRow : kz_Me := (⟨"BankKeeper$Banks", "openRow", "(I)I"⟩, prog_2_method_4_code, 2, (some .int), 0, 0)
abbrev m_Bk_flip : kz_Me := (⟨"BankKeeper", "flip", "(II)Z"⟩, prog_1_method_6_code, 3, (some .boolean), 1, 22)
abbrev m_Bk_isPlace : kz_Me := (⟨"BankKeeper", "isPlace", "(I)Z"⟩, prog_1_method_13_code, 1, (some .boolean), 0, 0)
abbrev m_Bk_status : kz_Me := (⟨"BankKeeper", "status", "(I)I"⟩, prog_1_method_7_code, 2, (some .int), 1, 22)
abbrev m_Re_has : kz_Me := (⟨"BankKeeper$Requests", "has", "(I)Z"⟩, prog_5_method_4_code, 2, (some .boolean), 0, 0)
abbrev m_Re_stageOf : kz_Me := (⟨"BankKeeper$Requests", "stageOf", "(II)I"⟩, prog_5_method_12_code, 3, (some .int), 0, 0)
abbrev m_Bk_value : kz_Me := (⟨"BankKeeper", "value", "(I)J"⟩, prog_1_method_8_code, 2, (some .long), 1, 21)
abbrev m_Bk_state : kz_Me := (⟨"BankKeeper", "state", "(I)I"⟩, prog_1_method_9_code, 2, (some .int), 1, 21)
abbrev m_Re_count : kz_Me := (⟨"BankKeeper$Requests", "count", "()I"⟩, prog_5_method_2_code, 1, (some .int), 0, 0)
abbrev m_Bk_command : kz_Me := (⟨"BankKeeper", "command", "(II)I"⟩, prog_1_method_10_code, 3, (some .int), 1, 22)
abbrev m_Jo_entry : kz_Me := (⟨"BankKeeper$Journal", "entry", "(II)I"⟩, prog_3_method_4_code, 3, (some .int), 0, 0)
abbrev m_Bk_bit : kz_Me := (⟨"BankKeeper", "bit", "(II)I"⟩, prog_1_method_11_code, 3, (some .int), 1, 22)
abbrev m_Mo_init : kz_Me := (⟨"BankKeeperModel", "<init>", "(II)V"⟩, prog_8_method_1_code, 4, none, 1, 20)
abbrev m_Mo_first : kz_Me := (⟨"BankKeeperModel", "first", "(I)I"⟩, prog_8_method_2_code, 1, (some .int), 0, 0)
abbrev m_Mo_timing : kz_Me := (⟨"BankKeeperModel", "timing", "(II)Z"⟩, prog_8_method_3_code, 4, (some .boolean), 0, 0)
abbrev m_Mo_flip : kz_Me := (⟨"BankKeeperModel", "flip", "(II)Z"⟩, prog_8_method_9_code, 3, (some .boolean), 1, 22)
abbrev m_Mo_turn : kz_Me := (⟨"BankKeeperModel", "turn", "(II)V"⟩, prog_8_method_5_code, 3, none, 0, 0)
abbrev m_Mo_bit : kz_Me := (⟨"BankKeeperModel", "bit", "(II)I"⟩, prog_8_method_10_code, 3, (some .int), 1, 22)
abbrev m_Mo_bitAt : kz_Me := (⟨"BankKeeperModel", "bitAt", "(II)I"⟩, prog_8_method_4_code, 3, (some .int), 0, 0)
abbrev m_Mo_read : kz_Me := (⟨"BankKeeperModel", "read", "(I)I"⟩, prog_8_method_15_code, 4, (some .int), 1, 24)
abbrev m_Mo_writing : kz_Me := (⟨"BankKeeperModel", "writing", "(I)I"⟩, prog_8_method_14_code, 4, (some .int), 0, 0)
abbrev m_Mo_ticket : kz_Me := (⟨"BankKeeperModel", "ticket", "(ZIJ)I"⟩, prog_8_method_12_code, 5, (some .int), 0, 0)
abbrev m_Mo_add : kz_Me := (⟨"BankKeeperModel", "add", "(I)V"⟩, prog_8_method_13_code, 2, none, 0, 0)
abbrev m_Mo_write : kz_Me := (⟨"BankKeeperModel", "write", "(IJ)I"⟩, prog_8_method_16_code, 5, (some .int), 1, 24)
abbrev m_Mo_cycles : kz_Me := (⟨"BankKeeperModel", "cycles", "(I)I"⟩, prog_8_method_40_code, 4, (some .int), 5, 121)
abbrev m_Mo_cycle : kz_Me := (⟨"BankKeeperModel", "cycle", "()V"⟩, prog_8_method_39_code, 1, none, 4, 101)
abbrev m_Mo_refresh : kz_Me := (⟨"BankKeeperModel", "refresh", "()V"⟩, prog_8_method_30_code, 4, none, 3, 69)
abbrev m_Mo_mayPrecharge : kz_Me := (⟨"BankKeeperModel", "mayPrecharge", "(I)Z"⟩, prog_8_method_23_code, 2, (some .boolean), 1, 22)
abbrev m_Mo_isBehind : kz_Me := (⟨"BankKeeperModel", "isBehind", "(II)Z"⟩, prog_8_method_20_code, 3, (some .boolean), 0, 0)
abbrev m_Mo_mayRefresh : kz_Me := (⟨"BankKeeperModel", "mayRefresh", "()Z"⟩, prog_8_method_25_code, 3, (some .boolean), 1, 22)
abbrev m_Mo_give : kz_Me := (⟨"BankKeeperModel", "give", "(IIII)V"⟩, prog_8_method_26_code, 6, none, 0, 0)
abbrev m_Mo_scrub : kz_Me := (⟨"BankKeeperModel", "scrub", "()V"⟩, prog_8_method_11_code, 1, none, 2, 49)
abbrev m_Mo_take : kz_Me := (⟨"BankKeeperModel", "take", "(I)V"⟩, prog_8_method_8_code, 8, none, 1, 22)
abbrev m_Mo_isCheck : kz_Me := (⟨"BankKeeperModel", "isCheck", "(I)Z"⟩, prog_8_method_6_code, 1, (some .boolean), 0, 0)
abbrev m_Mo_precharge : kz_Me := (⟨"BankKeeperModel", "precharge", "(I)V"⟩, prog_8_method_28_code, 2, none, 1, 25)
abbrev m_Mo_serve : kz_Me := (⟨"BankKeeperModel", "serve", "()V"⟩, prog_8_method_38_code, 9, none, 3, 73)
abbrev m_Mo_drain : kz_Me := (⟨"BankKeeperModel", "drain", "()V"⟩, prog_8_method_36_code, 3, none, 0, 0)
abbrev m_Mo_look : kz_Me := (⟨"BankKeeperModel", "look", "(Z)I"⟩, prog_8_method_32_code, 4, (some .int), 1, 23)
abbrev m_Mo_isHeld : kz_Me := (⟨"BankKeeperModel", "isHeld", "(I)Z"⟩, prog_8_method_31_code, 4, (some .boolean), 0, 0)
abbrev m_Mo_capped : kz_Me := (⟨"BankKeeperModel", "capped", "()V"⟩, prog_8_method_34_code, 3, none, 1, 21)
abbrev m_Mo_oldest : kz_Me := (⟨"BankKeeperModel", "oldest", "()I"⟩, prog_8_method_33_code, 2, (some .int), 0, 0)
abbrev m_Mo_quick : kz_Me := (⟨"BankKeeperModel", "quick", "()I"⟩, prog_8_method_37_code, 5, (some .int), 2, 45)
abbrev m_Mo_bankAt : kz_Me := (⟨"BankKeeperModel", "bankAt", "(I)I"⟩, prog_8_method_17_code, 1, (some .int), 0, 0)
abbrev m_Mo_rowAt : kz_Me := (⟨"BankKeeperModel", "rowAt", "(I)I"⟩, prog_8_method_18_code, 1, (some .int), 0, 0)
abbrev m_Mo_mayMove : kz_Me := (⟨"BankKeeperModel", "mayMove", "(IZ)Z"⟩, prog_8_method_24_code, 4, (some .boolean), 1, 22)
abbrev m_Mo_isBusFree : kz_Me := (⟨"BankKeeperModel", "isBusFree", "(II)Z"⟩, prog_8_method_21_code, 3, (some .boolean), 0, 0)
abbrev m_Mo_move : kz_Me := (⟨"BankKeeperModel", "move", "(I)V"⟩, prog_8_method_29_code, 5, none, 2, 49)
abbrev m_Mo_leave : kz_Me := (⟨"BankKeeperModel", "leave", "(I)V"⟩, prog_8_method_19_code, 4, none, 0, 0)
abbrev m_Mo_store : kz_Me := (⟨"BankKeeperModel", "store", "(IJ)V"⟩, prog_8_method_7_code, 8, none, 1, 22)
abbrev m_Mo_mayActivate : kz_Me := (⟨"BankKeeperModel", "mayActivate", "(I)Z"⟩, prog_8_method_22_code, 3, (some .boolean), 1, 22)
abbrev m_Mo_isWanted : kz_Me := (⟨"BankKeeperModel", "isWanted", "(I)Z"⟩, prog_8_method_35_code, 4, (some .boolean), 1, 20)
abbrev m_Mo_activate : kz_Me := (⟨"BankKeeperModel", "activate", "(II)V"⟩, prog_8_method_27_code, 4, none, 1, 25)
abbrev m_Mo_status : kz_Me := (⟨"BankKeeperModel", "status", "(I)I"⟩, prog_8_method_41_code, 2, (some .int), 0, 0)
abbrev m_Mo_value : kz_Me := (⟨"BankKeeperModel", "value", "(I)J"⟩, prog_8_method_42_code, 2, (some .long), 0, 0)
abbrev m_Mo_state : kz_Me := (⟨"BankKeeperModel", "state", "(I)I"⟩, prog_8_method_43_code, 2, (some .int), 0, 0)
abbrev m_Mo_command : kz_Me := (⟨"BankKeeperModel", "command", "(II)I"⟩, prog_8_method_44_code, 4, (some .int), 0, 0)
-- fields
theorem fd_Ba_18 : kz_Fd sC "BankKeeper$Banks" 18 0 0 (.array .int) true := ⟨"BankKeeper$Banks", nm_T0, 12, nm_y0, rfl, by decide, nm_w0, bw_mem1 42 rfl rfl, rfl, nm_o0, nm_n0, rfl, rfl⟩
theorem fd_Ba_23 : kz_Fd sC "BankKeeper$Banks" 23 0 1 (.array .int) true := ⟨"BankKeeper$Banks", nm_T0, 12, nm_y0, rfl, by decide, nm_w0, bw_mem1 43 rfl rfl, rfl, nm_o0, nm_n0, rfl, rfl⟩
theorem fd_Ba_26 : kz_Fd sC "BankKeeper$Banks" 26 0 2 (.array .int) true := ⟨"BankKeeper$Banks", nm_T0, 12, nm_y0, rfl, by decide, nm_w0, bw_mem1 44 rfl rfl, rfl, nm_o0, nm_n0, rfl, rfl⟩
theorem fd_Ba_29 : kz_Fd sC "BankKeeper$Banks" 29 0 3 (.array .int) true := ⟨"BankKeeper$Banks", nm_T0, 12, nm_y0, rfl, by decide, nm_w0, bw_mem1 45 rfl rfl, rfl, nm_o0, nm_n0, rfl, rfl⟩
theorem fd_Ba_32 : kz_Fd sC "BankKeeper$Banks" 32 0 4 (.array .int) true := ⟨"BankKeeper$Banks", nm_T0, 12, nm_y0, rfl, by decide, nm_w0, bw_mem1 46 rfl rfl, rfl, nm_o0, nm_n0, rfl, rfl⟩
theorem fd_Ba_35 : kz_Fd sC "BankKeeper$Banks" 35 0 5 (.array .int) true := ⟨"BankKeeper$Banks", nm_T0, 12, nm_y0, rfl, by decide, nm_w0, bw_mem1 47 rfl rfl, rfl, nm_o0, nm_n0, rfl, rfl⟩
theorem fd_Ba_38 : kz_Fd sC "BankKeeper$Banks" 38 0 6 (.array .int) true := ⟨"BankKeeper$Banks", nm_T0, 12, nm_y0, rfl, by decide, nm_w0, bw_mem1 48 rfl rfl, rfl, nm_o0, nm_n0, rfl, rfl⟩
theorem fd_Ba_42 : kz_Fd sC "BankKeeper$Banks" 42 0 7 (.int) false := ⟨"BankKeeper$Banks", nm_T0, 12, nm_y0, rfl, by decide, nm_w0, bw_mem1 49 rfl rfl, rfl, nm_o0, nm_n0, rfl, rfl⟩
theorem fd_Ba_46 : kz_Fd sC "BankKeeper$Banks" 46 0 8 (.int) false := ⟨"BankKeeper$Banks", nm_T0, 12, nm_y0, rfl, by decide, nm_w0, bw_mem1 50 rfl rfl, rfl, nm_o0, nm_n0, rfl, rfl⟩
theorem fd_Ba_49 : kz_Fd sC "BankKeeper$Banks" 49 0 9 (.int) false := ⟨"BankKeeper$Banks", nm_T0, 12, nm_y0, rfl, by decide, nm_w0, bw_mem1 51 rfl rfl, rfl, nm_o0, nm_n0, rfl, rfl⟩
theorem fd_Ba_52 : kz_Fd sC "BankKeeper$Banks" 52 0 10 (.int) false := ⟨"BankKeeper$Banks", nm_T0, 12, nm_y0, rfl, by decide, nm_w0, bw_mem1 52 rfl rfl, rfl, nm_o0, nm_n0, rfl, rfl⟩
theorem fd_Ba_73 : kz_Fd sC "BankKeeper$Banks" 73 0 11 (.boolean) false := ⟨"BankKeeper$Banks", nm_T0, 12, nm_y0, rfl, by decide, nm_w0, bw_mem1 53 rfl rfl, rfl, nm_o0, nm_n0, rfl, rfl⟩
theorem fd_St_9 : kz_Fd sC "BankKeeper$Store" 9 4 0 (.array .long) true := ⟨"BankKeeper$Store", nm_T4, 2, nm_y4, rfl, by decide, nm_w4, bw_mem1 86 rfl rfl, rfl, nm_o4, nm_n4, rfl, rfl⟩
theorem fd_St_15 : kz_Fd sC "BankKeeper$Store" 15 4 1 (.array .int) true := ⟨"BankKeeper$Store", nm_T4, 2, nm_y4, rfl, by decide, nm_w4, bw_mem1 87 rfl rfl, rfl, nm_o4, nm_n4, rfl, rfl⟩
theorem fd_Re_9 : kz_Fd sC "BankKeeper$Requests" 9 3 0 (.array .int) true := ⟨"BankKeeper$Requests", nm_T3, 7, nm_y3, rfl, by decide, nm_w3, bw_mem1 100 rfl rfl, rfl, nm_o3, nm_n3, rfl, rfl⟩
theorem fd_Re_15 : kz_Fd sC "BankKeeper$Requests" 15 3 1 (.array .boolean) true := ⟨"BankKeeper$Requests", nm_T3, 7, nm_y3, rfl, by decide, nm_w3, bw_mem1 101 rfl rfl, rfl, nm_o3, nm_n3, rfl, rfl⟩
theorem fd_Re_19 : kz_Fd sC "BankKeeper$Requests" 19 3 2 (.array .int) true := ⟨"BankKeeper$Requests", nm_T3, 7, nm_y3, rfl, by decide, nm_w3, bw_mem1 102 rfl rfl, rfl, nm_o3, nm_n3, rfl, rfl⟩
theorem fd_Re_22 : kz_Fd sC "BankKeeper$Requests" 22 3 3 (.array .long) true := ⟨"BankKeeper$Requests", nm_T3, 7, nm_y3, rfl, by decide, nm_w3, bw_mem1 103 rfl rfl, rfl, nm_o3, nm_n3, rfl, rfl⟩
theorem fd_Re_26 : kz_Fd sC "BankKeeper$Requests" 26 3 4 (.array .int) true := ⟨"BankKeeper$Requests", nm_T3, 7, nm_y3, rfl, by decide, nm_w3, bw_mem1 104 rfl rfl, rfl, nm_o3, nm_n3, rfl, rfl⟩
theorem fd_Re_29 : kz_Fd sC "BankKeeper$Requests" 29 3 5 (.array .int) true := ⟨"BankKeeper$Requests", nm_T3, 7, nm_y3, rfl, by decide, nm_w3, bw_mem1 105 rfl rfl, rfl, nm_o3, nm_n3, rfl, rfl⟩
theorem fd_Re_32 : kz_Fd sC "BankKeeper$Requests" 32 3 6 (.int) false := ⟨"BankKeeper$Requests", nm_T3, 7, nm_y3, rfl, by decide, nm_w3, bw_mem1 106 rfl rfl, rfl, nm_o3, nm_n3, rfl, rfl⟩
theorem fd_Li_9 : kz_Fd sC "BankKeeper$Line" 9 2 0 (.array .int) true := ⟨"BankKeeper$Line", nm_T2, 2, nm_y2, rfl, by decide, nm_w2, bw_mem1 129 rfl rfl, rfl, nm_o2, nm_n2, rfl, rfl⟩
theorem fd_Li_15 : kz_Fd sC "BankKeeper$Line" 15 2 1 (.int) false := ⟨"BankKeeper$Line", nm_T2, 2, nm_y2, rfl, by decide, nm_w2, bw_mem1 130 rfl rfl, rfl, nm_o2, nm_n2, rfl, rfl⟩
theorem fd_Jo_11 : kz_Fd sC "BankKeeper$Journal" 11 1 0 (.array (.array .int)) true := ⟨"BankKeeper$Journal", nm_T1, 4, nm_y1, rfl, by decide, nm_w1, bw_mem1 144 rfl rfl, rfl, nm_o1, nm_n1, rfl, rfl⟩
theorem fd_Jo_18 : kz_Fd sC "BankKeeper$Journal" 18 1 1 (.int) false := ⟨"BankKeeper$Journal", nm_T1, 4, nm_y1, rfl, by decide, nm_w1, bw_mem1 145 rfl rfl, rfl, nm_o1, nm_n1, rfl, rfl⟩
theorem fd_Jo_21 : kz_Fd sC "BankKeeper$Journal" 21 1 2 (.int) false := ⟨"BankKeeper$Journal", nm_T1, 4, nm_y1, rfl, by decide, nm_w1, bw_mem1 146 rfl rfl, rfl, nm_o1, nm_n1, rfl, rfl⟩
theorem fd_Jo_14 : kz_Fd sC "BankKeeper$Journal" 14 1 3 (.int) false := ⟨"BankKeeper$Journal", nm_T1, 4, nm_y1, rfl, by decide, nm_w1, bw_mem1 147 rfl rfl, rfl, nm_o1, nm_n1, rfl, rfl⟩
theorem fd_Bk_18 : kz_Fd sC "BankKeeper" 18 5 0 (.int) true := ⟨"BankKeeper", nm_T5, 15, nm_y5, rfl, by decide, nm_w5, bw_mem1 157 rfl rfl, rfl, nm_o5, nm_n5, rfl, rfl⟩
theorem fd_Bk_22 : kz_Fd sC "BankKeeper" 22 5 1 (.int) true := ⟨"BankKeeper", nm_T5, 15, nm_y5, rfl, by decide, nm_w5, bw_mem1 158 rfl rfl, rfl, nm_o5, nm_n5, rfl, rfl⟩
theorem fd_Bk_28 : kz_Fd sC "BankKeeper" 28 5 2 (.object "BankKeeper$Banks") true := ⟨"BankKeeper", nm_T5, 15, nm_y5, rfl, by decide, nm_w5, bw_mem1 159 rfl rfl, rfl, nm_o5, nm_n5, rfl, rfl⟩
theorem fd_Bk_35 : kz_Fd sC "BankKeeper" 35 5 3 (.object "BankKeeper$Store") true := ⟨"BankKeeper", nm_T5, 15, nm_y5, rfl, by decide, nm_w5, bw_mem1 160 rfl rfl, rfl, nm_o5, nm_n5, rfl, rfl⟩
theorem fd_Bk_42 : kz_Fd sC "BankKeeper" 42 5 4 (.object "BankKeeper$Requests") true := ⟨"BankKeeper", nm_T5, 15, nm_y5, rfl, by decide, nm_w5, bw_mem1 161 rfl rfl, rfl, nm_o5, nm_n5, rfl, rfl⟩
theorem fd_Bk_49 : kz_Fd sC "BankKeeper" 49 5 5 (.object "BankKeeper$Line") true := ⟨"BankKeeper", nm_T5, 15, nm_y5, rfl, by decide, nm_w5, bw_mem1 162 rfl rfl, rfl, nm_o5, nm_n5, rfl, rfl⟩
theorem fd_Bk_53 : kz_Fd sC "BankKeeper" 53 5 6 (.object "BankKeeper$Line") true := ⟨"BankKeeper", nm_T5, 15, nm_y5, rfl, by decide, nm_w5, bw_mem1 163 rfl rfl, rfl, nm_o5, nm_n5, rfl, rfl⟩
theorem fd_Bk_56 : kz_Fd sC "BankKeeper" 56 5 7 (.object "BankKeeper$Line") true := ⟨"BankKeeper", nm_T5, 15, nm_y5, rfl, by decide, nm_w5, bw_mem1 164 rfl rfl, rfl, nm_o5, nm_n5, rfl, rfl⟩
theorem fd_Bk_62 : kz_Fd sC "BankKeeper" 62 5 8 (.object "BankKeeper$Journal") true := ⟨"BankKeeper", nm_T5, 15, nm_y5, rfl, by decide, nm_w5, bw_mem1 165 rfl rfl, rfl, nm_o5, nm_n5, rfl, rfl⟩
theorem fd_Bk_66 : kz_Fd sC "BankKeeper" 66 5 9 (.int) false := ⟨"BankKeeper", nm_T5, 15, nm_y5, rfl, by decide, nm_w5, bw_mem1 166 rfl rfl, rfl, nm_o5, nm_n5, rfl, rfl⟩
theorem fd_Bk_178 : kz_Fd sC "BankKeeper" 178 5 10 (.int) false := ⟨"BankKeeper", nm_T5, 15, nm_y5, rfl, by decide, nm_w5, bw_mem1 167 rfl rfl, rfl, nm_o5, nm_n5, rfl, rfl⟩
theorem fd_Bk_128 : kz_Fd sC "BankKeeper" 128 5 11 (.int) false := ⟨"BankKeeper", nm_T5, 15, nm_y5, rfl, by decide, nm_w5, bw_mem1 168 rfl rfl, rfl, nm_o5, nm_n5, rfl, rfl⟩
theorem fd_Bk_131 : kz_Fd sC "BankKeeper" 131 5 12 (.boolean) false := ⟨"BankKeeper", nm_T5, 15, nm_y5, rfl, by decide, nm_w5, bw_mem1 169 rfl rfl, rfl, nm_o5, nm_n5, rfl, rfl⟩
theorem fd_Bk_135 : kz_Fd sC "BankKeeper" 135 5 13 (.int) false := ⟨"BankKeeper", nm_T5, 15, nm_y5, rfl, by decide, nm_w5, bw_mem1 170 rfl rfl, rfl, nm_o5, nm_n5, rfl, rfl⟩
theorem fd_Bk_138 : kz_Fd sC "BankKeeper" 138 5 14 (.int) false := ⟨"BankKeeper", nm_T5, 15, nm_y5, rfl, by decide, nm_w5, bw_mem1 171 rfl rfl, rfl, nm_o5, nm_n5, rfl, rfl⟩
theorem fd_Mo_86 : kz_Fd sR "BankKeeperModel" 86 6 0 (.int) false := ⟨"BankKeeperModel", nm_T6, 41, nm_y6, rfl, by decide, nm_w6, bw_mem3 54 rfl rfl, rfl, nm_o6, nm_n6, rfl, rfl⟩
theorem fd_Mo_89 : kz_Fd sR "BankKeeperModel" 89 6 1 (.int) false := ⟨"BankKeeperModel", nm_T6, 41, nm_y6, rfl, by decide, nm_w6, bw_mem3 55 rfl rfl, rfl, nm_o6, nm_n6, rfl, rfl⟩
theorem fd_Mo_96 : kz_Fd sR "BankKeeperModel" 96 6 2 (.int) false := ⟨"BankKeeperModel", nm_T6, 41, nm_y6, rfl, by decide, nm_w6, bw_mem3 56 rfl rfl, rfl, nm_o6, nm_n6, rfl, rfl⟩
theorem fd_Mo_187 : kz_Fd sR "BankKeeperModel" 187 6 3 (.int) false := ⟨"BankKeeperModel", nm_T6, 41, nm_y6, rfl, by decide, nm_w6, bw_mem3 57 rfl rfl, rfl, nm_o6, nm_n6, rfl, rfl⟩
theorem fd_Mo_160 : kz_Fd sR "BankKeeperModel" 160 6 4 (.int) false := ⟨"BankKeeperModel", nm_T6, 41, nm_y6, rfl, by decide, nm_w6, bw_mem3 58 rfl rfl, rfl, nm_o6, nm_n6, rfl, rfl⟩
theorem fd_Mo_128 : kz_Fd sR "BankKeeperModel" 128 6 5 (.int) false := ⟨"BankKeeperModel", nm_T6, 41, nm_y6, rfl, by decide, nm_w6, bw_mem3 59 rfl rfl, rfl, nm_o6, nm_n6, rfl, rfl⟩
theorem fd_Mo_121 : kz_Fd sR "BankKeeperModel" 121 6 6 (.int) false := ⟨"BankKeeperModel", nm_T6, 41, nm_y6, rfl, by decide, nm_w6, bw_mem3 60 rfl rfl, rfl, nm_o6, nm_n6, rfl, rfl⟩
theorem fd_Mo_131 : kz_Fd sR "BankKeeperModel" 131 6 7 (.int) false := ⟨"BankKeeperModel", nm_T6, 41, nm_y6, rfl, by decide, nm_w6, bw_mem3 61 rfl rfl, rfl, nm_o6, nm_n6, rfl, rfl⟩
theorem fd_Mo_206 : kz_Fd sR "BankKeeperModel" 206 6 8 (.boolean) false := ⟨"BankKeeperModel", nm_T6, 41, nm_y6, rfl, by decide, nm_w6, bw_mem3 62 rfl rfl, rfl, nm_o6, nm_n6, rfl, rfl⟩
theorem fd_Mo_7 : kz_Fd sR "BankKeeperModel" 7 6 9 (.array .int) false := ⟨"BankKeeperModel", nm_T6, 41, nm_y6, rfl, by decide, nm_w6, bw_mem3 63 rfl rfl, rfl, nm_o6, nm_n6, rfl, rfl⟩
theorem fd_Mo_13 : kz_Fd sR "BankKeeperModel" 13 6 10 (.array .long) false := ⟨"BankKeeperModel", nm_T6, 41, nm_y6, rfl, by decide, nm_w6, bw_mem3 64 rfl rfl, rfl, nm_o6, nm_n6, rfl, rfl⟩
theorem fd_Mo_17 : kz_Fd sR "BankKeeperModel" 17 6 11 (.array .int) false := ⟨"BankKeeperModel", nm_T6, 41, nm_y6, rfl, by decide, nm_w6, bw_mem3 65 rfl rfl, rfl, nm_o6, nm_n6, rfl, rfl⟩
theorem fd_Mo_20 : kz_Fd sR "BankKeeperModel" 20 6 12 (.array .int) false := ⟨"BankKeeperModel", nm_T6, 41, nm_y6, rfl, by decide, nm_w6, bw_mem3 66 rfl rfl, rfl, nm_o6, nm_n6, rfl, rfl⟩
theorem fd_Mo_23 : kz_Fd sR "BankKeeperModel" 23 6 13 (.array .int) false := ⟨"BankKeeperModel", nm_T6, 41, nm_y6, rfl, by decide, nm_w6, bw_mem3 67 rfl rfl, rfl, nm_o6, nm_n6, rfl, rfl⟩
theorem fd_Mo_26 : kz_Fd sR "BankKeeperModel" 26 6 14 (.array .int) false := ⟨"BankKeeperModel", nm_T6, 41, nm_y6, rfl, by decide, nm_w6, bw_mem3 68 rfl rfl, rfl, nm_o6, nm_n6, rfl, rfl⟩
theorem fd_Mo_29 : kz_Fd sR "BankKeeperModel" 29 6 15 (.array .int) false := ⟨"BankKeeperModel", nm_T6, 41, nm_y6, rfl, by decide, nm_w6, bw_mem3 69 rfl rfl, rfl, nm_o6, nm_n6, rfl, rfl⟩
theorem fd_Mo_33 : kz_Fd sR "BankKeeperModel" 33 6 16 (.int) false := ⟨"BankKeeperModel", nm_T6, 41, nm_y6, rfl, by decide, nm_w6, bw_mem3 70 rfl rfl, rfl, nm_o6, nm_n6, rfl, rfl⟩
theorem fd_Mo_37 : kz_Fd sR "BankKeeperModel" 37 6 17 (.int) false := ⟨"BankKeeperModel", nm_T6, 41, nm_y6, rfl, by decide, nm_w6, bw_mem3 71 rfl rfl, rfl, nm_o6, nm_n6, rfl, rfl⟩
theorem fd_Mo_40 : kz_Fd sR "BankKeeperModel" 40 6 18 (.array .boolean) false := ⟨"BankKeeperModel", nm_T6, 41, nm_y6, rfl, by decide, nm_w6, bw_mem3 72 rfl rfl, rfl, nm_o6, nm_n6, rfl, rfl⟩
theorem fd_Mo_44 : kz_Fd sR "BankKeeperModel" 44 6 19 (.array .int) false := ⟨"BankKeeperModel", nm_T6, 41, nm_y6, rfl, by decide, nm_w6, bw_mem3 73 rfl rfl, rfl, nm_o6, nm_n6, rfl, rfl⟩
theorem fd_Mo_47 : kz_Fd sR "BankKeeperModel" 47 6 20 (.array .int) false := ⟨"BankKeeperModel", nm_T6, 41, nm_y6, rfl, by decide, nm_w6, bw_mem3 74 rfl rfl, rfl, nm_o6, nm_n6, rfl, rfl⟩
theorem fd_Mo_50 : kz_Fd sR "BankKeeperModel" 50 6 21 (.array .int) false := ⟨"BankKeeperModel", nm_T6, 41, nm_y6, rfl, by decide, nm_w6, bw_mem3 75 rfl rfl, rfl, nm_o6, nm_n6, rfl, rfl⟩
theorem fd_Mo_53 : kz_Fd sR "BankKeeperModel" 53 6 22 (.array .long) false := ⟨"BankKeeperModel", nm_T6, 41, nm_y6, rfl, by decide, nm_w6, bw_mem3 76 rfl rfl, rfl, nm_o6, nm_n6, rfl, rfl⟩
theorem fd_Mo_56 : kz_Fd sR "BankKeeperModel" 56 6 23 (.array .int) false := ⟨"BankKeeperModel", nm_T6, 41, nm_y6, rfl, by decide, nm_w6, bw_mem3 77 rfl rfl, rfl, nm_o6, nm_n6, rfl, rfl⟩
theorem fd_Mo_59 : kz_Fd sR "BankKeeperModel" 59 6 24 (.array .int) false := ⟨"BankKeeperModel", nm_T6, 41, nm_y6, rfl, by decide, nm_w6, bw_mem3 78 rfl rfl, rfl, nm_o6, nm_n6, rfl, rfl⟩
theorem fd_Mo_62 : kz_Fd sR "BankKeeperModel" 62 6 25 (.array .int) false := ⟨"BankKeeperModel", nm_T6, 41, nm_y6, rfl, by decide, nm_w6, bw_mem3 79 rfl rfl, rfl, nm_o6, nm_n6, rfl, rfl⟩
theorem fd_Mo_134 : kz_Fd sR "BankKeeperModel" 134 6 26 (.int) false := ⟨"BankKeeperModel", nm_T6, 41, nm_y6, rfl, by decide, nm_w6, bw_mem3 80 rfl rfl, rfl, nm_o6, nm_n6, rfl, rfl⟩
theorem fd_Mo_140 : kz_Fd sR "BankKeeperModel" 140 6 27 (.int) false := ⟨"BankKeeperModel", nm_T6, 41, nm_y6, rfl, by decide, nm_w6, bw_mem3 81 rfl rfl, rfl, nm_o6, nm_n6, rfl, rfl⟩
theorem fd_Mo_137 : kz_Fd sR "BankKeeperModel" 137 6 28 (.int) false := ⟨"BankKeeperModel", nm_T6, 41, nm_y6, rfl, by decide, nm_w6, bw_mem3 82 rfl rfl, rfl, nm_o6, nm_n6, rfl, rfl⟩
theorem fd_Mo_65 : kz_Fd sR "BankKeeperModel" 65 6 29 (.array .int) false := ⟨"BankKeeperModel", nm_T6, 41, nm_y6, rfl, by decide, nm_w6, bw_mem3 83 rfl rfl, rfl, nm_o6, nm_n6, rfl, rfl⟩
theorem fd_Mo_177 : kz_Fd sR "BankKeeperModel" 177 6 30 (.int) false := ⟨"BankKeeperModel", nm_T6, 41, nm_y6, rfl, by decide, nm_w6, bw_mem3 84 rfl rfl, rfl, nm_o6, nm_n6, rfl, rfl⟩
theorem fd_Mo_239 : kz_Fd sR "BankKeeperModel" 239 6 31 (.int) false := ⟨"BankKeeperModel", nm_T6, 41, nm_y6, rfl, by decide, nm_w6, bw_mem3 85 rfl rfl, rfl, nm_o6, nm_n6, rfl, rfl⟩
theorem fd_Mo_68 : kz_Fd sR "BankKeeperModel" 68 6 32 (.array .boolean) false := ⟨"BankKeeperModel", nm_T6, 41, nm_y6, rfl, by decide, nm_w6, bw_mem3 86 rfl rfl, rfl, nm_o6, nm_n6, rfl, rfl⟩
theorem fd_Mo_71 : kz_Fd sR "BankKeeperModel" 71 6 33 (.array .int) false := ⟨"BankKeeperModel", nm_T6, 41, nm_y6, rfl, by decide, nm_w6, bw_mem3 87 rfl rfl, rfl, nm_o6, nm_n6, rfl, rfl⟩
theorem fd_Mo_74 : kz_Fd sR "BankKeeperModel" 74 6 34 (.array .int) false := ⟨"BankKeeperModel", nm_T6, 41, nm_y6, rfl, by decide, nm_w6, bw_mem3 88 rfl rfl, rfl, nm_o6, nm_n6, rfl, rfl⟩
theorem fd_Mo_77 : kz_Fd sR "BankKeeperModel" 77 6 35 (.array .int) false := ⟨"BankKeeperModel", nm_T6, 41, nm_y6, rfl, by decide, nm_w6, bw_mem3 89 rfl rfl, rfl, nm_o6, nm_n6, rfl, rfl⟩
theorem fd_Mo_80 : kz_Fd sR "BankKeeperModel" 80 6 36 (.array .int) false := ⟨"BankKeeperModel", nm_T6, 41, nm_y6, rfl, by decide, nm_w6, bw_mem3 90 rfl rfl, rfl, nm_o6, nm_n6, rfl, rfl⟩
theorem fd_Mo_83 : kz_Fd sR "BankKeeperModel" 83 6 37 (.array .int) false := ⟨"BankKeeperModel", nm_T6, 41, nm_y6, rfl, by decide, nm_w6, bw_mem3 91 rfl rfl, rfl, nm_o6, nm_n6, rfl, rfl⟩
theorem fd_Mo_117 : kz_Fd sR "BankKeeperModel" 117 6 38 (.long) false := ⟨"BankKeeperModel", nm_T6, 41, nm_y6, rfl, by decide, nm_w6, bw_mem3 92 rfl rfl, rfl, nm_o6, nm_n6, rfl, rfl⟩
theorem fd_Mo_114 : kz_Fd sR "BankKeeperModel" 114 6 39 (.int) false := ⟨"BankKeeperModel", nm_T6, 41, nm_y6, rfl, by decide, nm_w6, bw_mem3 93 rfl rfl, rfl, nm_o6, nm_n6, rfl, rfl⟩
theorem fd_Mo_111 : kz_Fd sR "BankKeeperModel" 111 6 40 (.int) false := ⟨"BankKeeperModel", nm_T6, 41, nm_y6, rfl, by decide, nm_w6, bw_mem3 94 rfl rfl, rfl, nm_o6, nm_n6, rfl, rfl⟩
-- calls
theorem cv_Bk_69 : kz_Cv sC "BankKeeper" 69 m_Ba_setTiming 2 := ⟨⟨bw_kp, bw_mem1 207 rfl rfl, bw_mem1 3 rfl rfl, bw_mem1 210 rfl rfl, by decide, by decide, by decide +kernel⟩, bw_mem1 208 rfl rfl, bw_mem1 209 rfl rfl⟩
theorem cs_Bk_73 : kz_Cs sC "BankKeeper" 73 m_Bk_isAddress 1 := ⟨⟨bw_kp, bw_mem1 215 rfl rfl, bw_mem1 1 rfl rfl, bw_mem1 217 rfl rfl, by decide, by decide, by decide +kernel⟩, bw_mem1 216 rfl rfl⟩
theorem cv_Bk_77 : kz_Cv sC "BankKeeper" 77 m_Bk_latestWritingOf 1 := ⟨⟨bw_kp, bw_mem1 218 rfl rfl, bw_mem1 1 rfl rfl, bw_mem1 221 rfl rfl, by decide, by decide, by decide +kernel⟩, bw_mem1 220 rfl rfl, bw_sel (q := (⟨"BankKeeper", "latestWritingOf", "(I)I"⟩, 15)) (by decide +kernel)⟩
theorem cv_Bk_81 : kz_Cv sC "BankKeeper" 81 m_Li_size 0 := ⟨⟨bw_kp, bw_mem1 222 rfl rfl, bw_mem1 6 rfl rfl, bw_mem1 225 rfl rfl, by decide, by decide, by decide +kernel⟩, bw_mem1 223 rfl rfl, bw_mem1 224 rfl rfl⟩
theorem cv_Bk_85 : kz_Cv sC "BankKeeper" 85 m_Re_areOut 0 := ⟨⟨bw_kp, bw_mem1 234 rfl rfl, bw_mem1 5 rfl rfl, bw_mem1 237 rfl rfl, by decide, by decide, by decide +kernel⟩, bw_mem1 235 rfl rfl, bw_mem1 236 rfl rfl⟩
theorem cv_Bk_89 : kz_Cv sC "BankKeeper" 89 m_Re_take 3 := ⟨⟨bw_kp, bw_mem1 238 rfl rfl, bw_mem1 5 rfl rfl, bw_mem2 1 rfl rfl, by decide, by decide, by decide +kernel⟩, bw_mem1 239 rfl rfl, bw_mem2 0 rfl rfl⟩
theorem cv_Bk_93 : kz_Cv sC "BankKeeper" 93 m_Li_append 1 := ⟨⟨bw_kp, bw_mem2 2 rfl rfl, bw_mem1 6 rfl rfl, bw_mem2 5 rfl rfl, by decide, by decide, by decide +kernel⟩, bw_mem2 3 rfl rfl, bw_mem2 4 rfl rfl⟩
theorem cv_Bk_97 : kz_Cv sC "BankKeeper" 97 m_Re_wordOf 1 := ⟨⟨bw_kp, bw_mem2 6 rfl rfl, bw_mem1 5 rfl rfl, bw_mem2 9 rfl rfl, by decide, by decide, by decide +kernel⟩, bw_mem2 7 rfl rfl, bw_mem2 8 rfl rfl⟩
theorem cv_Bk_101 : kz_Cv sC "BankKeeper" 101 m_Re_finish 4 := ⟨⟨bw_kp, bw_mem2 10 rfl rfl, bw_mem1 5 rfl rfl, bw_mem2 13 rfl rfl, by decide, by decide, by decide +kernel⟩, bw_mem2 11 rfl rfl, bw_mem2 12 rfl rfl⟩
theorem cv_Bk_151 : kz_Cv sC "BankKeeper" 151 m_Li_at 1 := ⟨⟨bw_kp, bw_mem1 226 rfl rfl, bw_mem1 6 rfl rfl, bw_mem1 229 rfl rfl, by decide, by decide, by decide +kernel⟩, bw_mem1 227 rfl rfl, bw_mem1 228 rfl rfl⟩
theorem cv_Bk_154 : kz_Cv sC "BankKeeper" 154 m_Re_addressOf 1 := ⟨⟨bw_kp, bw_mem1 230 rfl rfl, bw_mem1 5 rfl rfl, bw_mem1 233 rfl rfl, by decide, by decide, by decide +kernel⟩, bw_mem1 231 rfl rfl, bw_mem1 232 rfl rfl⟩
theorem cv_Bk_105 : kz_Cv sC "BankKeeper" 105 m_Re_setWord 2 := ⟨⟨bw_kp, bw_mem2 18 rfl rfl, bw_mem1 5 rfl rfl, bw_mem2 21 rfl rfl, by decide, by decide, by decide +kernel⟩, bw_mem2 19 rfl rfl, bw_mem2 20 rfl rfl⟩
theorem cv_Bk_109 : kz_Cv sC "BankKeeper" 109 m_Jo_count 0 := ⟨⟨bw_kp, bw_mem2 26 rfl rfl, bw_mem1 7 rfl rfl, bw_mem2 29 rfl rfl, by decide, by decide, by decide +kernel⟩, bw_mem2 27 rfl rfl, bw_mem2 28 rfl rfl⟩
theorem cv_Bk_112 : kz_Cv sC "BankKeeper" 112 m_Bk_passCycle 0 := ⟨⟨bw_kp, bw_mem2 30 rfl rfl, bw_mem1 1 rfl rfl, bw_mem2 33 rfl rfl, by decide, by decide, by decide +kernel⟩, bw_mem2 32 rfl rfl, bw_sel (q := (⟨"BankKeeper", "passCycle", "()V"⟩, 15)) (by decide +kernel)⟩
theorem cv_Bk_157 : kz_Cv sC "BankKeeper" 157 m_Bk_oweRefreshInTime 0 := ⟨⟨bw_kp, bw_mem2 34 rfl rfl, bw_mem1 1 rfl rfl, bw_mem2 37 rfl rfl, by decide, by decide, by decide +kernel⟩, bw_mem2 36 rfl rfl, bw_sel (q := (⟨"BankKeeper", "oweRefreshInTime", "()V"⟩, 15)) (by decide +kernel)⟩
theorem cv_Bk_160 : kz_Cv sC "BankKeeper" 160 m_Bk_refreshGoesFirst 0 := ⟨⟨bw_kp, bw_mem2 42 rfl rfl, bw_mem1 1 rfl rfl, bw_mem2 45 rfl rfl, by decide, by decide, by decide +kernel⟩, bw_mem2 44 rfl rfl, bw_sel (q := (⟨"BankKeeper", "refreshGoesFirst", "()Z"⟩, 15)) (by decide +kernel)⟩
theorem cv_Bk_163 : kz_Cv sC "BankKeeper" 163 m_Bk_refreshOrClose 0 := ⟨⟨bw_kp, bw_mem2 46 rfl rfl, bw_mem1 1 rfl rfl, bw_mem2 49 rfl rfl, by decide, by decide, by decide +kernel⟩, bw_mem2 48 rfl rfl, bw_sel (q := (⟨"BankKeeper", "refreshOrClose", "()V"⟩, 15)) (by decide +kernel)⟩
theorem cv_Bk_166 : kz_Cv sC "BankKeeper" 166 m_Bk_beginOrEndDraining 0 := ⟨⟨bw_kp, bw_mem2 115 rfl rfl, bw_mem1 1 rfl rfl, bw_mem2 118 rfl rfl, by decide, by decide, by decide +kernel⟩, bw_mem2 117 rfl rfl, bw_sel (q := (⟨"BankKeeper", "beginOrEndDraining", "()V"⟩, 15)) (by decide +kernel)⟩
theorem cv_Bk_169 : kz_Cv sC "BankKeeper" 169 m_Bk_lookAtRequests 0 := ⟨⟨bw_kp, bw_mem2 119 rfl rfl, bw_mem1 1 rfl rfl, bw_mem2 122 rfl rfl, by decide, by decide, by decide +kernel⟩, bw_mem2 121 rfl rfl, bw_sel (q := (⟨"BankKeeper", "lookAtRequests", "()V"⟩, 15)) (by decide +kernel)⟩
theorem cv_Bk_172 : kz_Cv sC "BankKeeper" 172 m_Bk_transferOldest 0 := ⟨⟨bw_kp, bw_mem2 148 rfl rfl, bw_mem1 1 rfl rfl, bw_mem2 151 rfl rfl, by decide, by decide, by decide +kernel⟩, bw_mem2 150 rfl rfl, bw_sel (q := (⟨"BankKeeper", "transferOldest", "()Z"⟩, 15)) (by decide +kernel)⟩
theorem cv_Bk_175 : kz_Cv sC "BankKeeper" 175 m_Bk_openOrCloseForOldest 0 := ⟨⟨bw_kp, bw_mem2 209 rfl rfl, bw_mem1 1 rfl rfl, bw_mem2 212 rfl rfl, by decide, by decide, by decide +kernel⟩, bw_mem2 211 rfl rfl, bw_sel (q := (⟨"BankKeeper", "openOrCloseForOldest", "()V"⟩, 15)) (by decide +kernel)⟩
theorem cv_Bk_181 : kz_Cv sC "BankKeeper" 181 m_Ba_refreshInterval 0 := ⟨⟨bw_kp, bw_mem2 38 rfl rfl, bw_mem1 3 rfl rfl, bw_mem2 41 rfl rfl, by decide, by decide, by decide +kernel⟩, bw_mem2 39 rfl rfl, bw_mem2 40 rfl rfl⟩
theorem cv_Bk_184 : kz_Cv sC "BankKeeper" 184 m_Ba_mayRefresh 1 := ⟨⟨bw_kp, bw_mem2 50 rfl rfl, bw_mem1 3 rfl rfl, bw_mem2 53 rfl rfl, by decide, by decide, by decide +kernel⟩, bw_mem2 51 rfl rfl, bw_mem2 52 rfl rfl⟩
theorem cv_Bk_187 : kz_Cv sC "BankKeeper" 187 m_Bk_refresh 0 := ⟨⟨bw_kp, bw_mem2 54 rfl rfl, bw_mem1 1 rfl rfl, bw_mem2 57 rfl rfl, by decide, by decide, by decide +kernel⟩, bw_mem2 56 rfl rfl, bw_sel (q := (⟨"BankKeeper", "refresh", "()V"⟩, 15)) (by decide +kernel)⟩
theorem cv_Bk_190 : kz_Cv sC "BankKeeper" 190 m_Ba_mayPrecharge 2 := ⟨⟨bw_kp, bw_mem2 103 rfl rfl, bw_mem1 3 rfl rfl, bw_mem2 106 rfl rfl, by decide, by decide, by decide +kernel⟩, bw_mem2 104 rfl rfl, bw_mem2 105 rfl rfl⟩
theorem cv_Bk_193 : kz_Cv sC "BankKeeper" 193 m_Bk_precharge 1 := ⟨⟨bw_kp, bw_mem2 107 rfl rfl, bw_mem1 1 rfl rfl, bw_mem2 110 rfl rfl, by decide, by decide, by decide +kernel⟩, bw_mem2 109 rfl rfl, bw_sel (q := (⟨"BankKeeper", "precharge", "(I)V"⟩, 15)) (by decide +kernel)⟩
theorem cv_Bk_196 : kz_Cv sC "BankKeeper" 196 m_Ba_refresh 1 := ⟨⟨bw_kp, bw_mem2 58 rfl rfl, bw_mem1 3 rfl rfl, bw_mem2 61 rfl rfl, by decide, by decide, by decide +kernel⟩, bw_mem2 59 rfl rfl, bw_mem2 60 rfl rfl⟩
theorem cv_Bk_198 : kz_Cv sC "BankKeeper" 198 m_Jo_enter 5 := ⟨⟨bw_kp, bw_mem2 62 rfl rfl, bw_mem1 7 rfl rfl, bw_mem2 65 rfl rfl, by decide, by decide, by decide +kernel⟩, bw_mem2 63 rfl rfl, bw_mem2 64 rfl rfl⟩
theorem cv_Bk_202 : kz_Cv sC "BankKeeper" 202 m_St_putRight 1 := ⟨⟨bw_kp, bw_mem2 67 rfl rfl, bw_mem1 4 rfl rfl, bw_mem2 70 rfl rfl, by decide, by decide, by decide +kernel⟩, bw_mem2 68 rfl rfl, bw_mem2 69 rfl rfl⟩
theorem cv_St_48 : kz_Cv sC "BankKeeper$Store" 48 m_St_faultOf 1 := ⟨⟨bw_kp, bw_mem2 71 rfl rfl, bw_mem1 4 rfl rfl, bw_mem2 74 rfl rfl, by decide, by decide, by decide +kernel⟩, bw_mem2 72 rfl rfl, bw_mem2 73 rfl rfl⟩
theorem cv_St_23 : kz_Cv sC "BankKeeper$Store" 23 m_St_turn 2 := ⟨⟨bw_kp, bw_mem2 99 rfl rfl, bw_mem1 4 rfl rfl, bw_mem2 102 rfl rfl, by decide, by decide, by decide +kernel⟩, bw_mem2 100 rfl rfl, bw_mem2 101 rfl rfl⟩
theorem cv_St_45 : kz_Cv sC "BankKeeper$Store" 45 m_St_syndromeOf 1 := ⟨⟨bw_kp, bw_mem2 75 rfl rfl, bw_mem1 4 rfl rfl, bw_mem2 78 rfl rfl, by decide, by decide, by decide +kernel⟩, bw_mem2 77 rfl rfl, bw_sel (q := (⟨"BankKeeper$Store", "syndromeOf", "(I)I"⟩, 2)) (by decide +kernel)⟩
theorem cv_St_27 : kz_Cv sC "BankKeeper$Store" 27 m_St_onesAreOdd 1 := ⟨⟨bw_kp, bw_mem2 83 rfl rfl, bw_mem1 4 rfl rfl, bw_mem2 86 rfl rfl, by decide, by decide, by decide +kernel⟩, bw_mem2 85 rfl rfl, bw_sel (q := (⟨"BankKeeper$Store", "onesAreOdd", "(I)Z"⟩, 2)) (by decide +kernel)⟩
theorem cv_St_30 : kz_Cv sC "BankKeeper$Store" 30 m_St_bitAt 2 := ⟨⟨bw_kp, bw_mem2 79 rfl rfl, bw_mem1 4 rfl rfl, bw_mem2 82 rfl rfl, by decide, by decide, by decide +kernel⟩, bw_mem2 80 rfl rfl, bw_mem2 81 rfl rfl⟩
theorem cs_St_34 : kz_Cs sC "BankKeeper$Store" 34 m_Lo_bitCount 1 := ⟨⟨bw_kp, bw_mem2 87 rfl rfl, bw_mem1 9 rfl rfl, bw_mem2 89 rfl rfl, by decide, by decide, by decide +kernel⟩, bw_mem2 88 rfl rfl⟩
theorem cs_St_40 : kz_Cs sC "BankKeeper$Store" 40 m_In_bitCount 1 := ⟨⟨bw_kp, bw_mem2 93 rfl rfl, bw_mem1 10 rfl rfl, bw_mem2 95 rfl rfl, by decide, by decide, by decide +kernel⟩, bw_mem2 94 rfl rfl⟩
theorem cv_Bk_205 : kz_Cv sC "BankKeeper" 205 m_Ba_precharge 2 := ⟨⟨bw_kp, bw_mem2 111 rfl rfl, bw_mem1 3 rfl rfl, bw_mem2 114 rfl rfl, by decide, by decide, by decide +kernel⟩, bw_mem2 112 rfl rfl, bw_mem2 113 rfl rfl⟩
theorem cv_Bk_211 : kz_Cv sC "BankKeeper" 211 m_Li_clear 0 := ⟨⟨bw_kp, bw_mem2 123 rfl rfl, bw_mem1 6 rfl rfl, bw_mem2 126 rfl rfl, by decide, by decide, by decide +kernel⟩, bw_mem2 124 rfl rfl, bw_mem2 125 rfl rfl⟩
theorem cv_Bk_214 : kz_Cv sC "BankKeeper" 214 m_Bk_lookAtWritings 0 := ⟨⟨bw_kp, bw_mem2 127 rfl rfl, bw_mem1 1 rfl rfl, bw_mem2 130 rfl rfl, by decide, by decide, by decide +kernel⟩, bw_mem2 129 rfl rfl, bw_sel (q := (⟨"BankKeeper", "lookAtWritings", "()V"⟩, 15)) (by decide +kernel)⟩
theorem cv_Bk_217 : kz_Cv sC "BankKeeper" 217 m_Bk_lookAtReadings 0 := ⟨⟨bw_kp, bw_mem2 135 rfl rfl, bw_mem1 1 rfl rfl, bw_mem2 138 rfl rfl, by decide, by decide, by decide +kernel⟩, bw_mem2 137 rfl rfl, bw_sel (q := (⟨"BankKeeper", "lookAtReadings", "()V"⟩, 15)) (by decide +kernel)⟩
theorem cv_Bk_220 : kz_Cv sC "BankKeeper" 220 m_Re_comingOf 1 := ⟨⟨bw_kp, bw_mem2 139 rfl rfl, bw_mem1 5 rfl rfl, bw_mem2 142 rfl rfl, by decide, by decide, by decide +kernel⟩, bw_mem2 140 rfl rfl, bw_mem2 141 rfl rfl⟩
theorem cv_Bk_223 : kz_Cv sC "BankKeeper" 223 m_Li_keepFirst 0 := ⟨⟨bw_kp, bw_mem2 143 rfl rfl, bw_mem1 6 rfl rfl, bw_mem2 146 rfl rfl, by decide, by decide, by decide +kernel⟩, bw_mem2 144 rfl rfl, bw_mem2 145 rfl rfl⟩
theorem cv_Bk_226 : kz_Cv sC "BankKeeper" 226 m_Bk_isHeld 1 := ⟨⟨bw_kp, bw_mem2 131 rfl rfl, bw_mem1 1 rfl rfl, bw_mem2 134 rfl rfl, by decide, by decide, by decide +kernel⟩, bw_mem2 133 rfl rfl, bw_sel (q := (⟨"BankKeeper", "isHeld", "(I)Z"⟩, 15)) (by decide +kernel)⟩
theorem cv_Bk_229 : kz_Cv sC "BankKeeper" 229 m_Re_isWriting 1 := ⟨⟨bw_kp, bw_mem2 152 rfl rfl, bw_mem1 5 rfl rfl, bw_mem2 155 rfl rfl, by decide, by decide, by decide +kernel⟩, bw_mem2 153 rfl rfl, bw_mem2 154 rfl rfl⟩
theorem cs_Bk_232 : kz_Cs sC "BankKeeper" 232 m_Bk_bankOf 1 := ⟨⟨bw_kp, bw_mem2 156 rfl rfl, bw_mem1 1 rfl rfl, bw_mem2 158 rfl rfl, by decide, by decide, by decide +kernel⟩, bw_mem2 157 rfl rfl⟩
theorem cs_Bk_235 : kz_Cs sC "BankKeeper" 235 m_Bk_rowOf 1 := ⟨⟨bw_kp, bw_mem2 159 rfl rfl, bw_mem1 1 rfl rfl, bw_mem2 161 rfl rfl, by decide, by decide, by decide +kernel⟩, bw_mem2 160 rfl rfl⟩
theorem cv_Bk_238 : kz_Cv sC "BankKeeper" 238 m_Ba_mayTransfer 4 := ⟨⟨bw_kp, bw_mem2 162 rfl rfl, bw_mem1 3 rfl rfl, bw_mem2 165 rfl rfl, by decide, by decide, by decide +kernel⟩, bw_mem2 163 rfl rfl, bw_mem2 164 rfl rfl⟩
theorem cv_Bk_242 : kz_Cv sC "BankKeeper" 242 m_Bk_transfer 3 := ⟨⟨bw_kp, bw_mem2 178 rfl rfl, bw_mem1 1 rfl rfl, bw_mem2 181 rfl rfl, by decide, by decide, by decide +kernel⟩, bw_mem2 180 rfl rfl, bw_sel (q := (⟨"BankKeeper", "transfer", "(IIZ)V"⟩, 15)) (by decide +kernel)⟩
theorem cv_Ba_61 : kz_Cv sC "BankKeeper$Banks" 61 m_Ba_beginOfBurst 2 := ⟨⟨bw_kp, bw_mem2 166 rfl rfl, bw_mem1 3 rfl rfl, bw_mem2 169 rfl rfl, by decide, by decide, by decide +kernel⟩, bw_mem2 168 rfl rfl, bw_sel (q := (⟨"BankKeeper$Banks", "beginOfBurst", "(ZI)I"⟩, 12)) (by decide +kernel)⟩
theorem cv_Ba_65 : kz_Cv sC "BankKeeper$Banks" 65 m_Ba_busFreeFrom 1 := ⟨⟨bw_kp, bw_mem2 170 rfl rfl, bw_mem1 3 rfl rfl, bw_mem2 173 rfl rfl, by decide, by decide, by decide +kernel⟩, bw_mem2 172 rfl rfl, bw_sel (q := (⟨"BankKeeper$Banks", "busFreeFrom", "(Z)I"⟩, 12)) (by decide +kernel)⟩
theorem cv_Ba_69 : kz_Cv sC "BankKeeper$Banks" 69 m_Ba_endOfBurst 0 := ⟨⟨bw_kp, bw_mem2 174 rfl rfl, bw_mem1 3 rfl rfl, bw_mem2 177 rfl rfl, by decide, by decide, by decide +kernel⟩, bw_mem2 175 rfl rfl, bw_mem2 176 rfl rfl⟩
theorem cv_Bk_246 : kz_Cv sC "BankKeeper" 246 m_Ba_transfer 3 := ⟨⟨bw_kp, bw_mem2 182 rfl rfl, bw_mem1 3 rfl rfl, bw_mem2 185 rfl rfl, by decide, by decide, by decide +kernel⟩, bw_mem2 183 rfl rfl, bw_mem2 184 rfl rfl⟩
theorem cs_Bk_249 : kz_Cs sC "BankKeeper" 249 m_Bk_columnOf 1 := ⟨⟨bw_kp, bw_mem2 186 rfl rfl, bw_mem1 1 rfl rfl, bw_mem2 188 rfl rfl, by decide, by decide, by decide +kernel⟩, bw_mem2 187 rfl rfl⟩
theorem cv_Bk_252 : kz_Cv sC "BankKeeper" 252 m_Li_remove 1 := ⟨⟨bw_kp, bw_mem2 189 rfl rfl, bw_mem1 6 rfl rfl, bw_mem2 192 rfl rfl, by decide, by decide, by decide +kernel⟩, bw_mem2 190 rfl rfl, bw_mem2 191 rfl rfl⟩
theorem cv_Bk_255 : kz_Cv sC "BankKeeper" 255 m_St_keep 2 := ⟨⟨bw_kp, bw_mem2 193 rfl rfl, bw_mem1 4 rfl rfl, bw_mem2 196 rfl rfl, by decide, by decide, by decide +kernel⟩, bw_mem2 194 rfl rfl, bw_mem2 195 rfl rfl⟩
theorem cv_Bk_258 : kz_Cv sC "BankKeeper" 258 m_St_faultOf 1 := ⟨⟨bw_kp, bw_mem2 200 rfl rfl, bw_mem1 4 rfl rfl, bw_mem2 74 rfl rfl, by decide, by decide, by decide +kernel⟩, bw_mem2 72 rfl rfl, bw_mem2 73 rfl rfl⟩
theorem cv_Bk_261 : kz_Cv sC "BankKeeper" 261 m_St_wordAt 2 := ⟨⟨bw_kp, bw_mem2 201 rfl rfl, bw_mem1 4 rfl rfl, bw_mem2 204 rfl rfl, by decide, by decide, by decide +kernel⟩, bw_mem2 202 rfl rfl, bw_mem2 203 rfl rfl⟩
theorem cs_Bk_265 : kz_Cs sC "BankKeeper" 265 m_Bk_stageAfter 1 := ⟨⟨bw_kp, bw_mem2 205 rfl rfl, bw_mem1 1 rfl rfl, bw_mem2 207 rfl rfl, by decide, by decide, by decide +kernel⟩, bw_mem2 206 rfl rfl⟩
theorem cv_Bk_268 : kz_Cv sC "BankKeeper" 268 m_Ba_endOfBurst 0 := ⟨⟨bw_kp, bw_mem2 208 rfl rfl, bw_mem1 3 rfl rfl, bw_mem2 177 rfl rfl, by decide, by decide, by decide +kernel⟩, bw_mem2 175 rfl rfl, bw_mem2 176 rfl rfl⟩
theorem cs_St_19 : kz_Cs sC "BankKeeper$Store" 19 m_St_isCheck 1 := ⟨⟨bw_kp, bw_mem2 197 rfl rfl, bw_mem1 4 rfl rfl, bw_mem2 199 rfl rfl, by decide, by decide, by decide +kernel⟩, bw_mem2 198 rfl rfl⟩
theorem cv_Bk_271 : kz_Cv sC "BankKeeper" 271 m_Ba_mayActivate 2 := ⟨⟨bw_kp, bw_mem2 213 rfl rfl, bw_mem1 3 rfl rfl, bw_mem2 216 rfl rfl, by decide, by decide, by decide +kernel⟩, bw_mem2 214 rfl rfl, bw_mem2 215 rfl rfl⟩
theorem cv_Bk_274 : kz_Cv sC "BankKeeper" 274 m_Bk_activate 2 := ⟨⟨bw_kp, bw_mem2 217 rfl rfl, bw_mem1 1 rfl rfl, bw_mem2 220 rfl rfl, by decide, by decide, by decide +kernel⟩, bw_mem2 219 rfl rfl, bw_sel (q := (⟨"BankKeeper", "activate", "(II)V"⟩, 15)) (by decide +kernel)⟩
theorem cv_Bk_276 : kz_Cv sC "BankKeeper" 276 m_Bk_openRowIsWanted 1 := ⟨⟨bw_kp, bw_mem2 228 rfl rfl, bw_mem1 1 rfl rfl, bw_mem2 231 rfl rfl, by decide, by decide, by decide +kernel⟩, bw_mem2 230 rfl rfl, bw_sel (q := (⟨"BankKeeper", "openRowIsWanted", "(I)Z"⟩, 15)) (by decide +kernel)⟩
theorem cv_Bk_207 : kz_Cv sC "BankKeeper" 207 m_Ba_activate 3 := ⟨⟨bw_kp, bw_mem2 221 rfl rfl, bw_mem1 3 rfl rfl, bw_mem2 224 rfl rfl, by decide, by decide, by decide +kernel⟩, bw_mem2 222 rfl rfl, bw_mem2 223 rfl rfl⟩
theorem cv_Bk_142 : kz_Cv sC "BankKeeper" 142 m_Ba_openRow 1 := ⟨⟨bw_kp, bw_mem2 232 rfl rfl, bw_mem1 3 rfl rfl, bw_mem2 235 rfl rfl, by decide, by decide, by decide +kernel⟩, bw_mem2 233 rfl rfl, bw_mem2 234 rfl rfl⟩
theorem cs_Bk_115 : kz_Cs sC "BankKeeper" 115 m_Bk_isPlace 1 := ⟨⟨bw_kp, bw_mem3 0 rfl rfl, bw_mem1 1 rfl rfl, bw_mem3 2 rfl rfl, by decide, by decide, by decide +kernel⟩, bw_mem3 1 rfl rfl⟩
theorem cv_Bk_118 : kz_Cv sC "BankKeeper" 118 m_St_turn 2 := ⟨⟨bw_kp, bw_mem3 3 rfl rfl, bw_mem1 4 rfl rfl, bw_mem2 102 rfl rfl, by decide, by decide, by decide +kernel⟩, bw_mem2 100 rfl rfl, bw_mem2 101 rfl rfl⟩
theorem cv_Bk_122 : kz_Cv sC "BankKeeper" 122 m_Re_has 1 := ⟨⟨bw_kp, bw_mem3 8 rfl rfl, bw_mem1 5 rfl rfl, bw_mem3 11 rfl rfl, by decide, by decide, by decide +kernel⟩, bw_mem3 9 rfl rfl, bw_mem3 10 rfl rfl⟩
theorem cv_Bk_125 : kz_Cv sC "BankKeeper" 125 m_Re_stageOf 2 := ⟨⟨bw_kp, bw_mem3 12 rfl rfl, bw_mem1 5 rfl rfl, bw_mem3 15 rfl rfl, by decide, by decide, by decide +kernel⟩, bw_mem3 13 rfl rfl, bw_mem3 14 rfl rfl⟩
theorem cv_Bk_141 : kz_Cv sC "BankKeeper" 141 m_Re_count 0 := ⟨⟨bw_kp, bw_mem3 24 rfl rfl, bw_mem1 5 rfl rfl, bw_mem3 27 rfl rfl, by decide, by decide, by decide +kernel⟩, bw_mem3 25 rfl rfl, bw_mem3 26 rfl rfl⟩
theorem cv_Bk_145 : kz_Cv sC "BankKeeper" 145 m_Jo_entry 2 := ⟨⟨bw_kp, bw_mem3 32 rfl rfl, bw_mem1 7 rfl rfl, bw_mem3 35 rfl rfl, by decide, by decide, by decide +kernel⟩, bw_mem3 33 rfl rfl, bw_mem3 34 rfl rfl⟩
theorem cv_Bk_148 : kz_Cv sC "BankKeeper" 148 m_St_bitAt 2 := ⟨⟨bw_kp, bw_mem3 40 rfl rfl, bw_mem1 4 rfl rfl, bw_mem2 82 rfl rfl, by decide, by decide, by decide +kernel⟩, bw_mem2 80 rfl rfl, bw_mem2 81 rfl rfl⟩
theorem cs_Mo_92 : kz_Cs sR "BankKeeperModel" 92 m_Mo_first 1 := ⟨⟨bw_kp, bw_mem3 51 rfl rfl, bw_mem1 8 rfl rfl, bw_mem3 53 rfl rfl, by decide, by decide, by decide +kernel⟩, bw_mem3 52 rfl rfl⟩
theorem cv_Mo_103 : kz_Cv sR "BankKeeperModel" 103 m_Mo_turn 2 := ⟨⟨bw_kp, bw_mem3 186 rfl rfl, bw_mem1 8 rfl rfl, bw_mem3 189 rfl rfl, by decide, by decide, by decide +kernel⟩, bw_mem3 188 rfl rfl, bw_sel (q := (⟨"BankKeeperModel", "turn", "(II)V"⟩, 41)) (by decide +kernel)⟩
theorem cv_Mo_107 : kz_Cv sR "BankKeeperModel" 107 m_Mo_bitAt 2 := ⟨⟨bw_kp, bw_mem3 194 rfl rfl, bw_mem1 8 rfl rfl, bw_mem3 197 rfl rfl, by decide, by decide, by decide +kernel⟩, bw_mem3 196 rfl rfl, bw_sel (q := (⟨"BankKeeperModel", "bitAt", "(II)I"⟩, 41)) (by decide +kernel)⟩
theorem cv_Mo_143 : kz_Cv sR "BankKeeperModel" 143 m_Mo_writing 1 := ⟨⟨bw_kp, bw_mem3 202 rfl rfl, bw_mem1 8 rfl rfl, bw_mem3 205 rfl rfl, by decide, by decide, by decide +kernel⟩, bw_mem3 204 rfl rfl, bw_sel (q := (⟨"BankKeeperModel", "writing", "(I)I"⟩, 41)) (by decide +kernel)⟩
theorem cv_Mo_146 : kz_Cv sR "BankKeeperModel" 146 m_Mo_ticket 3 := ⟨⟨bw_kp, bw_mem3 206 rfl rfl, bw_mem1 8 rfl rfl, bw_mem3 209 rfl rfl, by decide, by decide, by decide +kernel⟩, bw_mem3 208 rfl rfl, bw_sel (q := (⟨"BankKeeperModel", "ticket", "(ZIJ)I"⟩, 41)) (by decide +kernel)⟩
theorem cv_Mo_150 : kz_Cv sR "BankKeeperModel" 150 m_Mo_add 1 := ⟨⟨bw_kp, bw_mem3 210 rfl rfl, bw_mem1 8 rfl rfl, bw_mem3 213 rfl rfl, by decide, by decide, by decide +kernel⟩, bw_mem3 212 rfl rfl, bw_sel (q := (⟨"BankKeeperModel", "add", "(I)V"⟩, 41)) (by decide +kernel)⟩
theorem cv_Mo_248 : kz_Cv sR "BankKeeperModel" 248 m_Mo_cycle 0 := ⟨⟨bw_kp, bw_mem3 222 rfl rfl, bw_mem1 8 rfl rfl, bw_mem3 225 rfl rfl, by decide, by decide, by decide +kernel⟩, bw_mem3 224 rfl rfl, bw_sel (q := (⟨"BankKeeperModel", "cycle", "()V"⟩, 41)) (by decide +kernel)⟩
theorem cv_Mo_242 : kz_Cv sR "BankKeeperModel" 242 m_Mo_refresh 0 := ⟨⟨bw_kp, bw_mem3 226 rfl rfl, bw_mem1 8 rfl rfl, bw_mem3 229 rfl rfl, by decide, by decide, by decide +kernel⟩, bw_mem3 228 rfl rfl, bw_sel (q := (⟨"BankKeeperModel", "refresh", "()V"⟩, 41)) (by decide +kernel)⟩
theorem cv_Mo_245 : kz_Cv sR "BankKeeperModel" 245 m_Mo_serve 0 := ⟨⟨bw_kp, bw_mem4 21 rfl rfl, bw_mem1 8 rfl rfl, bw_mem4 24 rfl rfl, by decide, by decide, by decide +kernel⟩, bw_mem4 23 rfl rfl, bw_sel (q := (⟨"BankKeeperModel", "serve", "()V"⟩, 41)) (by decide +kernel)⟩
theorem cv_Mo_180 : kz_Cv sR "BankKeeperModel" 180 m_Mo_mayPrecharge 1 := ⟨⟨bw_kp, bw_mem3 230 rfl rfl, bw_mem1 8 rfl rfl, bw_mem3 233 rfl rfl, by decide, by decide, by decide +kernel⟩, bw_mem3 232 rfl rfl, bw_sel (q := (⟨"BankKeeperModel", "mayPrecharge", "(I)Z"⟩, 41)) (by decide +kernel)⟩
theorem cv_Mo_183 : kz_Cv sR "BankKeeperModel" 183 m_Mo_mayRefresh 0 := ⟨⟨bw_kp, bw_mem3 238 rfl rfl, bw_mem1 8 rfl rfl, bw_mem4 1 rfl rfl, by decide, by decide, by decide +kernel⟩, bw_mem4 0 rfl rfl, bw_sel (q := (⟨"BankKeeperModel", "mayRefresh", "()Z"⟩, 41)) (by decide +kernel)⟩
theorem cv_Mo_163 : kz_Cv sR "BankKeeperModel" 163 m_Mo_give 4 := ⟨⟨bw_kp, bw_mem4 2 rfl rfl, bw_mem1 8 rfl rfl, bw_mem4 5 rfl rfl, by decide, by decide, by decide +kernel⟩, bw_mem4 4 rfl rfl, bw_sel (q := (⟨"BankKeeperModel", "give", "(IIII)V"⟩, 41)) (by decide +kernel)⟩
theorem cv_Mo_190 : kz_Cv sR "BankKeeperModel" 190 m_Mo_scrub 0 := ⟨⟨bw_kp, bw_mem4 6 rfl rfl, bw_mem1 8 rfl rfl, bw_mem4 9 rfl rfl, by decide, by decide, by decide +kernel⟩, bw_mem4 8 rfl rfl, bw_sel (q := (⟨"BankKeeperModel", "scrub", "()V"⟩, 41)) (by decide +kernel)⟩
theorem cv_Mo_193 : kz_Cv sR "BankKeeperModel" 193 m_Mo_precharge 1 := ⟨⟨bw_kp, bw_mem4 17 rfl rfl, bw_mem1 8 rfl rfl, bw_mem4 20 rfl rfl, by decide, by decide, by decide +kernel⟩, bw_mem4 19 rfl rfl, bw_sel (q := (⟨"BankKeeperModel", "precharge", "(I)V"⟩, 41)) (by decide +kernel)⟩
theorem cv_Mo_153 : kz_Cv sR "BankKeeperModel" 153 m_Mo_isBehind 2 := ⟨⟨bw_kp, bw_mem3 234 rfl rfl, bw_mem1 8 rfl rfl, bw_mem3 237 rfl rfl, by decide, by decide, by decide +kernel⟩, bw_mem3 236 rfl rfl, bw_sel (q := (⟨"BankKeeperModel", "isBehind", "(II)Z"⟩, 41)) (by decide +kernel)⟩
theorem cv_Mo_124 : kz_Cv sR "BankKeeperModel" 124 m_Mo_take 1 := ⟨⟨bw_kp, bw_mem4 10 rfl rfl, bw_mem1 8 rfl rfl, bw_mem4 13 rfl rfl, by decide, by decide, by decide +kernel⟩, bw_mem4 12 rfl rfl, bw_sel (q := (⟨"BankKeeperModel", "take", "(I)V"⟩, 41)) (by decide +kernel)⟩
theorem cs_Mo_99 : kz_Cs sR "BankKeeperModel" 99 m_Mo_isCheck 1 := ⟨⟨bw_kp, bw_mem4 14 rfl rfl, bw_mem1 8 rfl rfl, bw_mem4 16 rfl rfl, by decide, by decide, by decide +kernel⟩, bw_mem4 15 rfl rfl⟩
theorem cv_Mo_214 : kz_Cv sR "BankKeeperModel" 214 m_Mo_drain 0 := ⟨⟨bw_kp, bw_mem4 25 rfl rfl, bw_mem1 8 rfl rfl, bw_mem4 28 rfl rfl, by decide, by decide, by decide +kernel⟩, bw_mem4 27 rfl rfl, bw_sel (q := (⟨"BankKeeperModel", "drain", "()V"⟩, 41)) (by decide +kernel)⟩
theorem cv_Mo_217 : kz_Cv sR "BankKeeperModel" 217 m_Mo_look 1 := ⟨⟨bw_kp, bw_mem4 29 rfl rfl, bw_mem1 8 rfl rfl, bw_mem4 32 rfl rfl, by decide, by decide, by decide +kernel⟩, bw_mem4 31 rfl rfl, bw_sel (q := (⟨"BankKeeperModel", "look", "(Z)I"⟩, 41)) (by decide +kernel)⟩
theorem cv_Mo_221 : kz_Cv sR "BankKeeperModel" 221 m_Mo_capped 0 := ⟨⟨bw_kp, bw_mem4 37 rfl rfl, bw_mem1 8 rfl rfl, bw_mem4 40 rfl rfl, by decide, by decide, by decide +kernel⟩, bw_mem4 39 rfl rfl, bw_sel (q := (⟨"BankKeeperModel", "capped", "()V"⟩, 41)) (by decide +kernel)⟩
theorem cv_Mo_224 : kz_Cv sR "BankKeeperModel" 224 m_Mo_quick 0 := ⟨⟨bw_kp, bw_mem4 45 rfl rfl, bw_mem1 8 rfl rfl, bw_mem4 48 rfl rfl, by decide, by decide, by decide +kernel⟩, bw_mem4 47 rfl rfl, bw_sel (q := (⟨"BankKeeperModel", "quick", "()I"⟩, 41)) (by decide +kernel)⟩
theorem cv_Mo_227 : kz_Cv sR "BankKeeperModel" 227 m_Mo_move 1 := ⟨⟨bw_kp, bw_mem4 63 rfl rfl, bw_mem1 8 rfl rfl, bw_mem4 66 rfl rfl, by decide, by decide, by decide +kernel⟩, bw_mem4 65 rfl rfl, bw_sel (q := (⟨"BankKeeperModel", "move", "(I)V"⟩, 41)) (by decide +kernel)⟩
theorem cs_Mo_167 : kz_Cs sR "BankKeeperModel" 167 m_Mo_bankAt 1 := ⟨⟨bw_kp, bw_mem4 49 rfl rfl, bw_mem1 8 rfl rfl, bw_mem4 51 rfl rfl, by decide, by decide, by decide +kernel⟩, bw_mem4 50 rfl rfl⟩
theorem cv_Mo_230 : kz_Cv sR "BankKeeperModel" 230 m_Mo_mayActivate 1 := ⟨⟨bw_kp, bw_mem4 75 rfl rfl, bw_mem1 8 rfl rfl, bw_mem4 78 rfl rfl, by decide, by decide, by decide +kernel⟩, bw_mem4 77 rfl rfl, bw_sel (q := (⟨"BankKeeperModel", "mayActivate", "(I)Z"⟩, 41)) (by decide +kernel)⟩
theorem cs_Mo_203 : kz_Cs sR "BankKeeperModel" 203 m_Mo_rowAt 1 := ⟨⟨bw_kp, bw_mem4 52 rfl rfl, bw_mem1 8 rfl rfl, bw_mem4 54 rfl rfl, by decide, by decide, by decide +kernel⟩, bw_mem4 53 rfl rfl⟩
theorem cv_Mo_233 : kz_Cv sR "BankKeeperModel" 233 m_Mo_isWanted 1 := ⟨⟨bw_kp, bw_mem4 79 rfl rfl, bw_mem1 8 rfl rfl, bw_mem4 82 rfl rfl, by decide, by decide, by decide +kernel⟩, bw_mem4 81 rfl rfl, bw_sel (q := (⟨"BankKeeperModel", "isWanted", "(I)Z"⟩, 41)) (by decide +kernel)⟩
theorem cv_Mo_236 : kz_Cv sR "BankKeeperModel" 236 m_Mo_activate 2 := ⟨⟨bw_kp, bw_mem4 83 rfl rfl, bw_mem1 8 rfl rfl, bw_mem4 86 rfl rfl, by decide, by decide, by decide +kernel⟩, bw_mem4 85 rfl rfl, bw_sel (q := (⟨"BankKeeperModel", "activate", "(II)V"⟩, 41)) (by decide +kernel)⟩
theorem cv_Mo_196 : kz_Cv sR "BankKeeperModel" 196 m_Mo_isHeld 1 := ⟨⟨bw_kp, bw_mem4 33 rfl rfl, bw_mem1 8 rfl rfl, bw_mem4 36 rfl rfl, by decide, by decide, by decide +kernel⟩, bw_mem4 35 rfl rfl, bw_sel (q := (⟨"BankKeeperModel", "isHeld", "(I)Z"⟩, 41)) (by decide +kernel)⟩
theorem cv_Mo_199 : kz_Cv sR "BankKeeperModel" 199 m_Mo_oldest 0 := ⟨⟨bw_kp, bw_mem4 41 rfl rfl, bw_mem1 8 rfl rfl, bw_mem4 44 rfl rfl, by decide, by decide, by decide +kernel⟩, bw_mem4 43 rfl rfl, bw_sel (q := (⟨"BankKeeperModel", "oldest", "()I"⟩, 41)) (by decide +kernel)⟩
theorem cv_Mo_210 : kz_Cv sR "BankKeeperModel" 210 m_Mo_mayMove 2 := ⟨⟨bw_kp, bw_mem4 55 rfl rfl, bw_mem1 8 rfl rfl, bw_mem4 58 rfl rfl, by decide, by decide, by decide +kernel⟩, bw_mem4 57 rfl rfl, bw_sel (q := (⟨"BankKeeperModel", "mayMove", "(IZ)Z"⟩, 41)) (by decide +kernel)⟩
theorem cv_Mo_157 : kz_Cv sR "BankKeeperModel" 157 m_Mo_isBusFree 2 := ⟨⟨bw_kp, bw_mem4 59 rfl rfl, bw_mem1 8 rfl rfl, bw_mem4 62 rfl rfl, by decide, by decide, by decide +kernel⟩, bw_mem4 61 rfl rfl, bw_sel (q := (⟨"BankKeeperModel", "isBusFree", "(II)Z"⟩, 41)) (by decide +kernel)⟩
theorem cv_Mo_170 : kz_Cv sR "BankKeeperModel" 170 m_Mo_leave 1 := ⟨⟨bw_kp, bw_mem4 67 rfl rfl, bw_mem1 8 rfl rfl, bw_mem4 70 rfl rfl, by decide, by decide, by decide +kernel⟩, bw_mem4 69 rfl rfl, bw_sel (q := (⟨"BankKeeperModel", "leave", "(I)V"⟩, 41)) (by decide +kernel)⟩
theorem cv_Mo_173 : kz_Cv sR "BankKeeperModel" 173 m_Mo_store 2 := ⟨⟨bw_kp, bw_mem4 71 rfl rfl, bw_mem1 8 rfl rfl, bw_mem4 74 rfl rfl, by decide, by decide, by decide +kernel⟩, bw_mem4 73 rfl rfl, bw_sel (q := (⟨"BankKeeperModel", "store", "(IJ)V"⟩, 41)) (by decide +kernel)⟩
