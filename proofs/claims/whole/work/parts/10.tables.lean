/-! names and tables of the small machine, printed by wip/whole/gen_tables.py -/
abbrev am_E : Type := (Nat × List Value) ⊕ ((Nat × List Int32) ⊕ (Nat × List (Option Nat)))
abbrev am_H : Type := Nat × Nat × (Nat → Option am_E)
abbrev am_M : Type := MethodName × ByteArray × Nat × Option FieldType × Nat × Bool
abbrev am_L : Type := List (Option Value)
abbrev am_O : Type := Option ((Nat × am_L × List Value × am_H) ⊕ (Option Value ⊕ (Nat × List Value × List Value)))
def am_kw : List Jvm.Cond := lw_tbl.filter goodWord
theorem am_good : ∀ w ∈ am_kw, (w.onTables && w.keeps) = true ∨ ∃ ty, w = .arrayClass ty := fun _ h => good_of_word (List.mem_filter.mp h).2
theorem am_in0 {w : Jvm.Cond} (h : w ∈ k2_sels lw_privs) (g : goodWord w = true) : w ∈ am_kw := List.mem_filter.mpr ⟨List.mem_append_left _ h, g⟩
theorem am_in1 {w : Jvm.Cond} (h : w ∈ tables_1_1) (g : goodWord w = true) : w ∈ am_kw := List.mem_filter.mpr ⟨List.mem_append_right _ (List.mem_append_left _ h), g⟩
theorem am_in2 {w : Jvm.Cond} (h : w ∈ tables_1_2) (g : goodWord w = true) : w ∈ am_kw := List.mem_filter.mpr ⟨List.mem_append_right _ (List.mem_append_right _ (List.mem_append_left _ h)), g⟩
theorem am_in3 {w : Jvm.Cond} (h : w ∈ tables_1_3) (g : goodWord w = true) : w ∈ am_kw := List.mem_filter.mpr ⟨List.mem_append_right _ (List.mem_append_right _ (List.mem_append_right _ (List.mem_append_left _ h))), g⟩
theorem am_in4 {w : Jvm.Cond} (h : w ∈ tables_1_4) (g : goodWord w = true) : w ∈ am_kw := List.mem_filter.mpr ⟨List.mem_append_right _ (List.mem_append_right _ (List.mem_append_right _ (List.mem_append_right _ h))), g⟩
def am_cn (c : Nat) : String := match c with
  | 0 => "TapTerminal$Row"
  | 1 => "TapTerminal$Block"
  | 2 => "TapTerminal$Card"
  | 3 => "TapTerminal$Journal"
  | 4 => "TapTerminal$Air"
  | 5 => "TapTerminal$Items"
  | 6 => "TapTerminal$Settings"
  | 7 => "TapTerminal$Report"
  | 8 => "TapTerminal"
  | 9 => "TapTerminalModel"
  | _ => ""
def F_Row : u_T := fun k => match k with
  | 0 => ("TapTerminal$Row", "octets", "[I", true)
  | _ => ("TapTerminal$Row", "count", "I", false)
def t_Row : Nat → FieldType := fun k => match k with
  | 0 => .array .int
  | _ => .int
def F_Block : u_T := fun k => match k with
  | 0 => ("TapTerminal$Block", "kind", "I", false)
  | 1 => ("TapTerminal$Block", "number", "I", false)
  | 2 => ("TapTerminal$Block", "more", "Z", false)
  | _ => ("TapTerminal$Block", "octets", "LTapTerminal$Row;", true)
def t_Block : Nat → FieldType := fun k => match k with
  | 0 => .int
  | 1 => .int
  | 2 => .boolean
  | _ => .object "TapTerminal$Row"
def F_Card : u_T := fun k => match k with
  | 0 => ("TapTerminal$Card", "exists", "Z", false)
  | 1 => ("TapTerminal$Card", "inField", "Z", false)
  | 2 => ("TapTerminal$Card", "ready", "Z", false)
  | 3 => ("TapTerminal$Card", "address", "I", false)
  | 4 => ("TapTerminal$Card", "application", "I", false)
  | 5 => ("TapTerminal$Card", "key", "I", false)
  | 6 => ("TapTerminal$Card", "size", "I", false)
  | 7 => ("TapTerminal$Card", "counter", "I", false)
  | 8 => ("TapTerminal$Card", "cap", "I", false)
  | 9 => ("TapTerminal$Card", "limit", "I", false)
  | 10 => ("TapTerminal$Card", "runs", "I", false)
  | 11 => ("TapTerminal$Card", "commandsDone", "I", false)
  | 12 => ("TapTerminal$Card", "records", "[LTapTerminal$Row;", true)
  | 13 => ("TapTerminal$Card", "reply", "LTapTerminal$Block;", true)
  | 14 => ("TapTerminal$Card", "number", "I", false)
  | 15 => ("TapTerminal$Card", "heard", "LTapTerminal$Row;", true)
  | 16 => ("TapTerminal$Card", "answer", "LTapTerminal$Row;", true)
  | _ => ("TapTerminal$Card", "answerFrom", "I", false)
def t_Card : Nat → FieldType := fun k => match k with
  | 0 => .boolean
  | 1 => .boolean
  | 2 => .boolean
  | 3 => .int
  | 4 => .int
  | 5 => .int
  | 6 => .int
  | 7 => .int
  | 8 => .int
  | 9 => .int
  | 10 => .int
  | 11 => .int
  | 12 => .array (.object "TapTerminal$Row")
  | 13 => .object "TapTerminal$Block"
  | 14 => .int
  | 15 => .object "TapTerminal$Row"
  | 16 => .object "TapTerminal$Row"
  | _ => .int
def F_Journal : u_T := fun k => match k with
  | 0 => ("TapTerminal$Journal", "faults", "[I", true)
  | 1 => ("TapTerminal$Journal", "kinds", "[I", true)
  | 2 => ("TapTerminal$Journal", "numbers", "[I", true)
  | 3 => ("TapTerminal$Journal", "answered", "[Z", true)
  | 4 => ("TapTerminal$Journal", "count", "I", false)
  | _ => ("TapTerminal$Journal", "unanswered", "I", false)
def t_Journal : Nat → FieldType := fun k => match k with
  | 0 => .array .int
  | 1 => .array .int
  | 2 => .array .int
  | 3 => .array .boolean
  | 4 => .int
  | _ => .int
def F_Air : u_T := fun k => match k with
  | 0 => ("TapTerminal$Air", "cards", "[LTapTerminal$Card;", true)
  | 1 => ("TapTerminal$Air", "journal", "LTapTerminal$Journal;", true)
  | 2 => ("TapTerminal$Air", "partner", "I", false)
  | 3 => ("TapTerminal$Air", "differing", "I", false)
  | 4 => ("TapTerminal$Air", "turn", "I", false)
  | _ => ("TapTerminal$Air", "sent", "LTapTerminal$Block;", true)
def t_Air : Nat → FieldType := fun k => match k with
  | 0 => .array (.object "TapTerminal$Card")
  | 1 => .object "TapTerminal$Journal"
  | 2 => .int
  | 3 => .int
  | 4 => .int
  | _ => .object "TapTerminal$Block"
def F_Items : u_T := fun k => match k with
  | 0 => ("TapTerminal$Items", "rows", "[LTapTerminal$Row;", true)
  | 1 => ("TapTerminal$Items", "there", "[Z", true)
  | 2 => ("TapTerminal$Items", "whole", "Z", false)
  | _ => ("TapTerminal$Items", "seen", "[Z", true)
def t_Items : Nat → FieldType := fun k => match k with
  | 0 => .array (.object "TapTerminal$Row")
  | 1 => .array .boolean
  | 2 => .boolean
  | _ => .array .boolean
def F_Settings : u_T := fun k => match k with
  | 0 => ("TapTerminal$Settings", "place", "I", false)
  | 1 => ("TapTerminal$Settings", "floor", "I", false)
  | 2 => ("TapTerminal$Settings", "ways", "I", false)
  | 3 => ("TapTerminal$Settings", "online", "Z", false)
  | 4 => ("TapTerminal$Settings", "issuer", "I", false)
  | _ => ("TapTerminal$Settings", "applications", "I", false)
def t_Settings : Nat → FieldType := fun k => match k with
  | 0 => .int
  | 1 => .int
  | 2 => .int
  | 3 => .boolean
  | 4 => .int
  | _ => .int
def F_Report : u_T := fun k => match k with
  | 0 => ("TapTerminal$Report", "ending", "I", false)
  | 1 => ("TapTerminal$Report", "chosen", "I", false)
  | 2 => ("TapTerminal$Report", "findings", "I", false)
  | 3 => ("TapTerminal$Report", "typeAsked", "I", false)
  | 4 => ("TapTerminal$Report", "counter", "I", false)
  | 5 => ("TapTerminal$Report", "mixture", "I", false)
  | 6 => ("TapTerminal$Report", "selected", "I", false)
  | _ => ("TapTerminal$Report", "recordsRead", "I", false)
def t_Report : Nat → FieldType := fun k => match k with
  | 0 => .int
  | 1 => .int
  | 2 => .int
  | 3 => .int
  | 4 => .int
  | 5 => .int
  | 6 => .int
  | _ => .int
def F_Tap : u_T := fun k => match k with
  | 0 => ("TapTerminal", "air", "LTapTerminal$Air;", true)
  | 1 => ("TapTerminal", "settings", "LTapTerminal$Settings;", true)
  | 2 => ("TapTerminal", "items", "LTapTerminal$Items;", true)
  | 3 => ("TapTerminal", "report", "LTapTerminal$Report;", true)
  | 4 => ("TapTerminal", "command", "LTapTerminal$Row;", true)
  | _ => ("TapTerminal", "answer", "LTapTerminal$Row;", true)
def t_Tap : Nat → FieldType := fun k => match k with
  | 0 => .object "TapTerminal$Air"
  | 1 => .object "TapTerminal$Settings"
  | 2 => .object "TapTerminal$Items"
  | 3 => .object "TapTerminal$Report"
  | 4 => .object "TapTerminal$Row"
  | _ => .object "TapTerminal$Row"
def F_Mod : u_T := fun k => match k with
  | 0 => ("TapTerminalModel", "there", "[Z", true)
  | 1 => ("TapTerminalModel", "inField", "[Z", true)
  | 2 => ("TapTerminalModel", "ready", "[Z", true)
  | 3 => ("TapTerminalModel", "address", "[I", true)
  | 4 => ("TapTerminalModel", "application", "[I", true)
  | 5 => ("TapTerminalModel", "key", "[I", true)
  | 6 => ("TapTerminalModel", "size", "[I", true)
  | 7 => ("TapTerminalModel", "counter", "[I", true)
  | 8 => ("TapTerminalModel", "cap", "[I", true)
  | 9 => ("TapTerminalModel", "limit", "[I", true)
  | 10 => ("TapTerminalModel", "runs", "[I", true)
  | 11 => ("TapTerminalModel", "commands", "[I", true)
  | 12 => ("TapTerminalModel", "records", "[I", true)
  | 13 => ("TapTerminalModel", "lengths", "[I", true)
  | 14 => ("TapTerminalModel", "place", "I", false)
  | 15 => ("TapTerminalModel", "floor", "I", false)
  | 16 => ("TapTerminalModel", "ways", "I", false)
  | 17 => ("TapTerminalModel", "issuer", "I", false)
  | 18 => ("TapTerminalModel", "applications", "I", false)
  | 19 => ("TapTerminalModel", "online", "Z", false)
  | 20 => ("TapTerminalModel", "faults", "[I", true)
  | 21 => ("TapTerminalModel", "kinds", "[I", true)
  | 22 => ("TapTerminalModel", "numbers", "[I", true)
  | 23 => ("TapTerminalModel", "answered", "[Z", true)
  | 24 => ("TapTerminalModel", "how", "I", false)
  | 25 => ("TapTerminalModel", "chosen", "I", false)
  | 26 => ("TapTerminalModel", "findings", "I", false)
  | 27 => ("TapTerminalModel", "asked", "I", false)
  | 28 => ("TapTerminalModel", "saidCounter", "I", false)
  | 29 => ("TapTerminalModel", "saidMix", "I", false)
  | 30 => ("TapTerminalModel", "exchanges", "I", false)
  | 31 => ("TapTerminalModel", "silentOnes", "I", false)
  | 32 => ("TapTerminalModel", "silent", "I", false)
  | 33 => ("TapTerminalModel", "selected", "I", false)
  | 34 => ("TapTerminalModel", "wholes", "I", false)
  | 35 => ("TapTerminalModel", "row", "[I", true)
  | 36 => ("TapTerminalModel", "came", "[I", true)
  | 37 => ("TapTerminalModel", "reply", "[I", true)
  | 38 => ("TapTerminalModel", "got", "[I", true)
  | 39 => ("TapTerminalModel", "rowLength", "I", false)
  | 40 => ("TapTerminalModel", "cameLength", "I", false)
  | 41 => ("TapTerminalModel", "replyLength", "I", false)
  | 42 => ("TapTerminalModel", "gotLength", "I", false)
  | 43 => ("TapTerminalModel", "number", "I", false)
  | 44 => ("TapTerminalModel", "own", "I", false)
  | 45 => ("TapTerminalModel", "from", "I", false)
  | 46 => ("TapTerminalModel", "last", "I", false)
  | 47 => ("TapTerminalModel", "chosenNow", "I", false)
  | 48 => ("TapTerminalModel", "saidAck", "Z", false)
  | 49 => ("TapTerminalModel", "read", "[I", true)
  | 50 => ("TapTerminalModel", "readLength", "[I", true)
  | 51 => ("TapTerminalModel", "ends", "[I", true)
  | 52 => ("TapTerminalModel", "itemAt", "[I", true)
  | _ => ("TapTerminalModel", "itemLength", "[I", true)
def t_Mod : Nat → FieldType := fun k => match k with
  | 0 => .array .boolean
  | 1 => .array .boolean
  | 2 => .array .boolean
  | 3 => .array .int
  | 4 => .array .int
  | 5 => .array .int
  | 6 => .array .int
  | 7 => .array .int
  | 8 => .array .int
  | 9 => .array .int
  | 10 => .array .int
  | 11 => .array .int
  | 12 => .array .int
  | 13 => .array .int
  | 14 => .int
  | 15 => .int
  | 16 => .int
  | 17 => .int
  | 18 => .int
  | 19 => .boolean
  | 20 => .array .int
  | 21 => .array .int
  | 22 => .array .int
  | 23 => .array .boolean
  | 24 => .int
  | 25 => .int
  | 26 => .int
  | 27 => .int
  | 28 => .int
  | 29 => .int
  | 30 => .int
  | 31 => .int
  | 32 => .int
  | 33 => .int
  | 34 => .int
  | 35 => .array .int
  | 36 => .array .int
  | 37 => .array .int
  | 38 => .array .int
  | 39 => .int
  | 40 => .int
  | 41 => .int
  | 42 => .int
  | 43 => .int
  | 44 => .int
  | 45 => .int
  | 46 => .int
  | 47 => .int
  | 48 => .boolean
  | 49 => .array .int
  | 50 => .array .int
  | 51 => .array .int
  | 52 => .array .int
  | _ => .array .int
abbrev classes : List vw_C := [("TapTerminal$Row", F_Row, 2), ("TapTerminal$Block", F_Block, 4), ("TapTerminal$Card", F_Card, 18), ("TapTerminal$Journal", F_Journal, 6), ("TapTerminal$Air", F_Air, 6), ("TapTerminal$Items", F_Items, 4), ("TapTerminal$Settings", F_Settings, 6), ("TapTerminal$Report", F_Report, 8), ("TapTerminal", F_Tap, 6), ("TapTerminalModel", F_Mod, 54)]
def am_cP (ci : Nat) (C : String) (T : u_T) (N : Nat) (t0 : Nat → FieldType) : Prop := classes[ci]? = some (C, T, N) ∧ (∀ w ∈ u_ws C T N, w ∈ am_kw) ∧ (∀ k, k < N → parseFieldDescriptor (T k).2.2.1 = some (t0 k)) ∧ (∀ a, a < N → ∀ b, b < N → a ≠ b → (T a).2.1 ≠ (T b).2.1)
theorem kw_1_48 : (Jvm.Cond.laysFinal "TapTerminal$Row" "TapTerminal$Row" "octets" "[I") ∈ am_kw := am_in1 (List.mem_of_getElem? (i := 48) rfl) rfl
theorem kw_1_50 : (Jvm.Cond.lays "TapTerminal$Row" "TapTerminal$Row" "count" "I") ∈ am_kw := am_in1 (List.mem_of_getElem? (i := 50) rfl) rfl
set_option maxRecDepth 20000 in
theorem cw_Row : ∀ w ∈ u_ws "TapTerminal$Row" F_Row 2, w ∈ am_kw := List.forall_mem_cons.mpr ⟨kw_1_48, List.forall_mem_cons.mpr ⟨kw_1_50, fun _ h => absurd h List.not_mem_nil⟩⟩
theorem cp_Row : am_cP 0 "TapTerminal$Row" F_Row 2 t_Row := ⟨rfl, cw_Row, by decide +kernel, by decide +kernel⟩
theorem kw_1_74 : (Jvm.Cond.lays "TapTerminal$Block" "TapTerminal$Block" "kind" "I") ∈ am_kw := am_in1 (List.mem_of_getElem? (i := 74) rfl) rfl
theorem kw_1_76 : (Jvm.Cond.lays "TapTerminal$Block" "TapTerminal$Block" "number" "I") ∈ am_kw := am_in1 (List.mem_of_getElem? (i := 76) rfl) rfl
theorem kw_1_78 : (Jvm.Cond.lays "TapTerminal$Block" "TapTerminal$Block" "more" "Z") ∈ am_kw := am_in1 (List.mem_of_getElem? (i := 78) rfl) rfl
theorem kw_1_80 : (Jvm.Cond.laysFinal "TapTerminal$Block" "TapTerminal$Block" "octets" "LTapTerminal$Row;") ∈ am_kw := am_in1 (List.mem_of_getElem? (i := 80) rfl) rfl
set_option maxRecDepth 20000 in
theorem cw_Block : ∀ w ∈ u_ws "TapTerminal$Block" F_Block 4, w ∈ am_kw := List.forall_mem_cons.mpr ⟨kw_1_74, List.forall_mem_cons.mpr ⟨kw_1_76, List.forall_mem_cons.mpr ⟨kw_1_78, List.forall_mem_cons.mpr ⟨kw_1_80, fun _ h => absurd h List.not_mem_nil⟩⟩⟩⟩
theorem cp_Block : am_cP 1 "TapTerminal$Block" F_Block 4 t_Block := ⟨rfl, cw_Block, by decide +kernel, by decide +kernel⟩
theorem kw_1_115 : (Jvm.Cond.lays "TapTerminal$Card" "TapTerminal$Card" "exists" "Z") ∈ am_kw := am_in1 (List.mem_of_getElem? (i := 115) rfl) rfl
theorem kw_1_117 : (Jvm.Cond.lays "TapTerminal$Card" "TapTerminal$Card" "inField" "Z") ∈ am_kw := am_in1 (List.mem_of_getElem? (i := 117) rfl) rfl
theorem kw_1_119 : (Jvm.Cond.lays "TapTerminal$Card" "TapTerminal$Card" "ready" "Z") ∈ am_kw := am_in1 (List.mem_of_getElem? (i := 119) rfl) rfl
theorem kw_1_121 : (Jvm.Cond.lays "TapTerminal$Card" "TapTerminal$Card" "address" "I") ∈ am_kw := am_in1 (List.mem_of_getElem? (i := 121) rfl) rfl
theorem kw_1_123 : (Jvm.Cond.lays "TapTerminal$Card" "TapTerminal$Card" "application" "I") ∈ am_kw := am_in1 (List.mem_of_getElem? (i := 123) rfl) rfl
theorem kw_1_125 : (Jvm.Cond.lays "TapTerminal$Card" "TapTerminal$Card" "key" "I") ∈ am_kw := am_in1 (List.mem_of_getElem? (i := 125) rfl) rfl
theorem kw_1_127 : (Jvm.Cond.lays "TapTerminal$Card" "TapTerminal$Card" "size" "I") ∈ am_kw := am_in1 (List.mem_of_getElem? (i := 127) rfl) rfl
theorem kw_1_129 : (Jvm.Cond.lays "TapTerminal$Card" "TapTerminal$Card" "counter" "I") ∈ am_kw := am_in1 (List.mem_of_getElem? (i := 129) rfl) rfl
theorem kw_1_131 : (Jvm.Cond.lays "TapTerminal$Card" "TapTerminal$Card" "cap" "I") ∈ am_kw := am_in1 (List.mem_of_getElem? (i := 131) rfl) rfl
theorem kw_1_133 : (Jvm.Cond.lays "TapTerminal$Card" "TapTerminal$Card" "limit" "I") ∈ am_kw := am_in1 (List.mem_of_getElem? (i := 133) rfl) rfl
theorem kw_1_135 : (Jvm.Cond.lays "TapTerminal$Card" "TapTerminal$Card" "runs" "I") ∈ am_kw := am_in1 (List.mem_of_getElem? (i := 135) rfl) rfl
theorem kw_1_137 : (Jvm.Cond.lays "TapTerminal$Card" "TapTerminal$Card" "commandsDone" "I") ∈ am_kw := am_in1 (List.mem_of_getElem? (i := 137) rfl) rfl
theorem kw_1_139 : (Jvm.Cond.laysFinal "TapTerminal$Card" "TapTerminal$Card" "records" "[LTapTerminal$Row;") ∈ am_kw := am_in1 (List.mem_of_getElem? (i := 139) rfl) rfl
theorem kw_1_141 : (Jvm.Cond.laysFinal "TapTerminal$Card" "TapTerminal$Card" "reply" "LTapTerminal$Block;") ∈ am_kw := am_in1 (List.mem_of_getElem? (i := 141) rfl) rfl
theorem kw_1_143 : (Jvm.Cond.lays "TapTerminal$Card" "TapTerminal$Card" "number" "I") ∈ am_kw := am_in1 (List.mem_of_getElem? (i := 143) rfl) rfl
theorem kw_1_145 : (Jvm.Cond.laysFinal "TapTerminal$Card" "TapTerminal$Card" "heard" "LTapTerminal$Row;") ∈ am_kw := am_in1 (List.mem_of_getElem? (i := 145) rfl) rfl
theorem kw_1_147 : (Jvm.Cond.laysFinal "TapTerminal$Card" "TapTerminal$Card" "answer" "LTapTerminal$Row;") ∈ am_kw := am_in1 (List.mem_of_getElem? (i := 147) rfl) rfl
theorem kw_1_149 : (Jvm.Cond.lays "TapTerminal$Card" "TapTerminal$Card" "answerFrom" "I") ∈ am_kw := am_in1 (List.mem_of_getElem? (i := 149) rfl) rfl
set_option maxRecDepth 20000 in
theorem cw_Card : ∀ w ∈ u_ws "TapTerminal$Card" F_Card 18, w ∈ am_kw := List.forall_mem_cons.mpr ⟨kw_1_115, List.forall_mem_cons.mpr ⟨kw_1_117, List.forall_mem_cons.mpr ⟨kw_1_119, List.forall_mem_cons.mpr ⟨kw_1_121, List.forall_mem_cons.mpr ⟨kw_1_123, List.forall_mem_cons.mpr ⟨kw_1_125, List.forall_mem_cons.mpr ⟨kw_1_127, List.forall_mem_cons.mpr ⟨kw_1_129, List.forall_mem_cons.mpr ⟨kw_1_131, List.forall_mem_cons.mpr ⟨kw_1_133, List.forall_mem_cons.mpr ⟨kw_1_135, List.forall_mem_cons.mpr ⟨kw_1_137, List.forall_mem_cons.mpr ⟨kw_1_139, List.forall_mem_cons.mpr ⟨kw_1_141, List.forall_mem_cons.mpr ⟨kw_1_143, List.forall_mem_cons.mpr ⟨kw_1_145, List.forall_mem_cons.mpr ⟨kw_1_147, List.forall_mem_cons.mpr ⟨kw_1_149, fun _ h => absurd h List.not_mem_nil⟩⟩⟩⟩⟩⟩⟩⟩⟩⟩⟩⟩⟩⟩⟩⟩⟩⟩
theorem cp_Card : am_cP 2 "TapTerminal$Card" F_Card 18 t_Card := ⟨rfl, cw_Card, by decide +kernel, by decide +kernel⟩
theorem kw_1_170 : (Jvm.Cond.laysFinal "TapTerminal$Journal" "TapTerminal$Journal" "faults" "[I") ∈ am_kw := am_in1 (List.mem_of_getElem? (i := 170) rfl) rfl
theorem kw_1_172 : (Jvm.Cond.laysFinal "TapTerminal$Journal" "TapTerminal$Journal" "kinds" "[I") ∈ am_kw := am_in1 (List.mem_of_getElem? (i := 172) rfl) rfl
theorem kw_1_174 : (Jvm.Cond.laysFinal "TapTerminal$Journal" "TapTerminal$Journal" "numbers" "[I") ∈ am_kw := am_in1 (List.mem_of_getElem? (i := 174) rfl) rfl
theorem kw_1_176 : (Jvm.Cond.laysFinal "TapTerminal$Journal" "TapTerminal$Journal" "answered" "[Z") ∈ am_kw := am_in1 (List.mem_of_getElem? (i := 176) rfl) rfl
theorem kw_1_178 : (Jvm.Cond.lays "TapTerminal$Journal" "TapTerminal$Journal" "count" "I") ∈ am_kw := am_in1 (List.mem_of_getElem? (i := 178) rfl) rfl
theorem kw_1_180 : (Jvm.Cond.lays "TapTerminal$Journal" "TapTerminal$Journal" "unanswered" "I") ∈ am_kw := am_in1 (List.mem_of_getElem? (i := 180) rfl) rfl
set_option maxRecDepth 20000 in
theorem cw_Journal : ∀ w ∈ u_ws "TapTerminal$Journal" F_Journal 6, w ∈ am_kw := List.forall_mem_cons.mpr ⟨kw_1_170, List.forall_mem_cons.mpr ⟨kw_1_172, List.forall_mem_cons.mpr ⟨kw_1_174, List.forall_mem_cons.mpr ⟨kw_1_176, List.forall_mem_cons.mpr ⟨kw_1_178, List.forall_mem_cons.mpr ⟨kw_1_180, fun _ h => absurd h List.not_mem_nil⟩⟩⟩⟩⟩⟩
theorem cp_Journal : am_cP 3 "TapTerminal$Journal" F_Journal 6 t_Journal := ⟨rfl, cw_Journal, by decide +kernel, by decide +kernel⟩
theorem kw_1_195 : (Jvm.Cond.laysFinal "TapTerminal$Air" "TapTerminal$Air" "cards" "[LTapTerminal$Card;") ∈ am_kw := am_in1 (List.mem_of_getElem? (i := 195) rfl) rfl
theorem kw_1_197 : (Jvm.Cond.laysFinal "TapTerminal$Air" "TapTerminal$Air" "journal" "LTapTerminal$Journal;") ∈ am_kw := am_in1 (List.mem_of_getElem? (i := 197) rfl) rfl
theorem kw_1_199 : (Jvm.Cond.lays "TapTerminal$Air" "TapTerminal$Air" "partner" "I") ∈ am_kw := am_in1 (List.mem_of_getElem? (i := 199) rfl) rfl
theorem kw_1_201 : (Jvm.Cond.lays "TapTerminal$Air" "TapTerminal$Air" "differing" "I") ∈ am_kw := am_in1 (List.mem_of_getElem? (i := 201) rfl) rfl
theorem kw_1_203 : (Jvm.Cond.lays "TapTerminal$Air" "TapTerminal$Air" "turn" "I") ∈ am_kw := am_in1 (List.mem_of_getElem? (i := 203) rfl) rfl
theorem kw_1_205 : (Jvm.Cond.laysFinal "TapTerminal$Air" "TapTerminal$Air" "sent" "LTapTerminal$Block;") ∈ am_kw := am_in1 (List.mem_of_getElem? (i := 205) rfl) rfl
set_option maxRecDepth 20000 in
theorem cw_Air : ∀ w ∈ u_ws "TapTerminal$Air" F_Air 6, w ∈ am_kw := List.forall_mem_cons.mpr ⟨kw_1_195, List.forall_mem_cons.mpr ⟨kw_1_197, List.forall_mem_cons.mpr ⟨kw_1_199, List.forall_mem_cons.mpr ⟨kw_1_201, List.forall_mem_cons.mpr ⟨kw_1_203, List.forall_mem_cons.mpr ⟨kw_1_205, fun _ h => absurd h List.not_mem_nil⟩⟩⟩⟩⟩⟩
theorem cp_Air : am_cP 4 "TapTerminal$Air" F_Air 6 t_Air := ⟨rfl, cw_Air, by decide +kernel, by decide +kernel⟩
theorem kw_2_16 : (Jvm.Cond.laysFinal "TapTerminal$Items" "TapTerminal$Items" "rows" "[LTapTerminal$Row;") ∈ am_kw := am_in2 (List.mem_of_getElem? (i := 16) rfl) rfl
theorem kw_2_18 : (Jvm.Cond.laysFinal "TapTerminal$Items" "TapTerminal$Items" "there" "[Z") ∈ am_kw := am_in2 (List.mem_of_getElem? (i := 18) rfl) rfl
theorem kw_2_20 : (Jvm.Cond.lays "TapTerminal$Items" "TapTerminal$Items" "whole" "Z") ∈ am_kw := am_in2 (List.mem_of_getElem? (i := 20) rfl) rfl
theorem kw_2_22 : (Jvm.Cond.laysFinal "TapTerminal$Items" "TapTerminal$Items" "seen" "[Z") ∈ am_kw := am_in2 (List.mem_of_getElem? (i := 22) rfl) rfl
set_option maxRecDepth 20000 in
theorem cw_Items : ∀ w ∈ u_ws "TapTerminal$Items" F_Items 4, w ∈ am_kw := List.forall_mem_cons.mpr ⟨kw_2_16, List.forall_mem_cons.mpr ⟨kw_2_18, List.forall_mem_cons.mpr ⟨kw_2_20, List.forall_mem_cons.mpr ⟨kw_2_22, fun _ h => absurd h List.not_mem_nil⟩⟩⟩⟩
theorem cp_Items : am_cP 5 "TapTerminal$Items" F_Items 4 t_Items := ⟨rfl, cw_Items, by decide +kernel, by decide +kernel⟩
theorem kw_1_226 : (Jvm.Cond.lays "TapTerminal$Settings" "TapTerminal$Settings" "place" "I") ∈ am_kw := am_in1 (List.mem_of_getElem? (i := 226) rfl) rfl
theorem kw_1_228 : (Jvm.Cond.lays "TapTerminal$Settings" "TapTerminal$Settings" "floor" "I") ∈ am_kw := am_in1 (List.mem_of_getElem? (i := 228) rfl) rfl
theorem kw_1_230 : (Jvm.Cond.lays "TapTerminal$Settings" "TapTerminal$Settings" "ways" "I") ∈ am_kw := am_in1 (List.mem_of_getElem? (i := 230) rfl) rfl
theorem kw_1_232 : (Jvm.Cond.lays "TapTerminal$Settings" "TapTerminal$Settings" "online" "Z") ∈ am_kw := am_in1 (List.mem_of_getElem? (i := 232) rfl) rfl
theorem kw_1_234 : (Jvm.Cond.lays "TapTerminal$Settings" "TapTerminal$Settings" "issuer" "I") ∈ am_kw := am_in1 (List.mem_of_getElem? (i := 234) rfl) rfl
theorem kw_1_236 : (Jvm.Cond.lays "TapTerminal$Settings" "TapTerminal$Settings" "applications" "I") ∈ am_kw := am_in1 (List.mem_of_getElem? (i := 236) rfl) rfl
set_option maxRecDepth 20000 in
theorem cw_Settings : ∀ w ∈ u_ws "TapTerminal$Settings" F_Settings 6, w ∈ am_kw := List.forall_mem_cons.mpr ⟨kw_1_226, List.forall_mem_cons.mpr ⟨kw_1_228, List.forall_mem_cons.mpr ⟨kw_1_230, List.forall_mem_cons.mpr ⟨kw_1_232, List.forall_mem_cons.mpr ⟨kw_1_234, List.forall_mem_cons.mpr ⟨kw_1_236, fun _ h => absurd h List.not_mem_nil⟩⟩⟩⟩⟩⟩
theorem cp_Settings : am_cP 6 "TapTerminal$Settings" F_Settings 6 t_Settings := ⟨rfl, cw_Settings, by decide +kernel, by decide +kernel⟩
theorem kw_2_51 : (Jvm.Cond.lays "TapTerminal$Report" "TapTerminal$Report" "ending" "I") ∈ am_kw := am_in2 (List.mem_of_getElem? (i := 51) rfl) rfl
theorem kw_2_53 : (Jvm.Cond.lays "TapTerminal$Report" "TapTerminal$Report" "chosen" "I") ∈ am_kw := am_in2 (List.mem_of_getElem? (i := 53) rfl) rfl
theorem kw_2_55 : (Jvm.Cond.lays "TapTerminal$Report" "TapTerminal$Report" "findings" "I") ∈ am_kw := am_in2 (List.mem_of_getElem? (i := 55) rfl) rfl
theorem kw_2_57 : (Jvm.Cond.lays "TapTerminal$Report" "TapTerminal$Report" "typeAsked" "I") ∈ am_kw := am_in2 (List.mem_of_getElem? (i := 57) rfl) rfl
theorem kw_2_59 : (Jvm.Cond.lays "TapTerminal$Report" "TapTerminal$Report" "counter" "I") ∈ am_kw := am_in2 (List.mem_of_getElem? (i := 59) rfl) rfl
theorem kw_2_61 : (Jvm.Cond.lays "TapTerminal$Report" "TapTerminal$Report" "mixture" "I") ∈ am_kw := am_in2 (List.mem_of_getElem? (i := 61) rfl) rfl
theorem kw_2_63 : (Jvm.Cond.lays "TapTerminal$Report" "TapTerminal$Report" "selected" "I") ∈ am_kw := am_in2 (List.mem_of_getElem? (i := 63) rfl) rfl
theorem kw_2_65 : (Jvm.Cond.lays "TapTerminal$Report" "TapTerminal$Report" "recordsRead" "I") ∈ am_kw := am_in2 (List.mem_of_getElem? (i := 65) rfl) rfl
set_option maxRecDepth 20000 in
theorem cw_Report : ∀ w ∈ u_ws "TapTerminal$Report" F_Report 8, w ∈ am_kw := List.forall_mem_cons.mpr ⟨kw_2_51, List.forall_mem_cons.mpr ⟨kw_2_53, List.forall_mem_cons.mpr ⟨kw_2_55, List.forall_mem_cons.mpr ⟨kw_2_57, List.forall_mem_cons.mpr ⟨kw_2_59, List.forall_mem_cons.mpr ⟨kw_2_61, List.forall_mem_cons.mpr ⟨kw_2_63, List.forall_mem_cons.mpr ⟨kw_2_65, fun _ h => absurd h List.not_mem_nil⟩⟩⟩⟩⟩⟩⟩⟩
theorem cp_Report : am_cP 7 "TapTerminal$Report" F_Report 8 t_Report := ⟨rfl, cw_Report, by decide +kernel, by decide +kernel⟩
theorem kw_2_76 : (Jvm.Cond.laysFinal "TapTerminal" "TapTerminal" "air" "LTapTerminal$Air;") ∈ am_kw := am_in2 (List.mem_of_getElem? (i := 76) rfl) rfl
theorem kw_2_78 : (Jvm.Cond.laysFinal "TapTerminal" "TapTerminal" "settings" "LTapTerminal$Settings;") ∈ am_kw := am_in2 (List.mem_of_getElem? (i := 78) rfl) rfl
theorem kw_2_80 : (Jvm.Cond.laysFinal "TapTerminal" "TapTerminal" "items" "LTapTerminal$Items;") ∈ am_kw := am_in2 (List.mem_of_getElem? (i := 80) rfl) rfl
theorem kw_2_82 : (Jvm.Cond.laysFinal "TapTerminal" "TapTerminal" "report" "LTapTerminal$Report;") ∈ am_kw := am_in2 (List.mem_of_getElem? (i := 82) rfl) rfl
theorem kw_2_84 : (Jvm.Cond.laysFinal "TapTerminal" "TapTerminal" "command" "LTapTerminal$Row;") ∈ am_kw := am_in2 (List.mem_of_getElem? (i := 84) rfl) rfl
theorem kw_2_86 : (Jvm.Cond.laysFinal "TapTerminal" "TapTerminal" "answer" "LTapTerminal$Row;") ∈ am_kw := am_in2 (List.mem_of_getElem? (i := 86) rfl) rfl
set_option maxRecDepth 20000 in
theorem cw_Tap : ∀ w ∈ u_ws "TapTerminal" F_Tap 6, w ∈ am_kw := List.forall_mem_cons.mpr ⟨kw_2_76, List.forall_mem_cons.mpr ⟨kw_2_78, List.forall_mem_cons.mpr ⟨kw_2_80, List.forall_mem_cons.mpr ⟨kw_2_82, List.forall_mem_cons.mpr ⟨kw_2_84, List.forall_mem_cons.mpr ⟨kw_2_86, fun _ h => absurd h List.not_mem_nil⟩⟩⟩⟩⟩⟩
theorem cp_Tap : am_cP 8 "TapTerminal" F_Tap 6 t_Tap := ⟨rfl, cw_Tap, by decide +kernel, by decide +kernel⟩
theorem kw_3_195 : (Jvm.Cond.laysFinal "TapTerminalModel" "TapTerminalModel" "there" "[Z") ∈ am_kw := am_in3 (List.mem_of_getElem? (i := 195) rfl) rfl
theorem kw_3_197 : (Jvm.Cond.laysFinal "TapTerminalModel" "TapTerminalModel" "inField" "[Z") ∈ am_kw := am_in3 (List.mem_of_getElem? (i := 197) rfl) rfl
theorem kw_3_199 : (Jvm.Cond.laysFinal "TapTerminalModel" "TapTerminalModel" "ready" "[Z") ∈ am_kw := am_in3 (List.mem_of_getElem? (i := 199) rfl) rfl
theorem kw_3_201 : (Jvm.Cond.laysFinal "TapTerminalModel" "TapTerminalModel" "address" "[I") ∈ am_kw := am_in3 (List.mem_of_getElem? (i := 201) rfl) rfl
theorem kw_3_203 : (Jvm.Cond.laysFinal "TapTerminalModel" "TapTerminalModel" "application" "[I") ∈ am_kw := am_in3 (List.mem_of_getElem? (i := 203) rfl) rfl
theorem kw_3_205 : (Jvm.Cond.laysFinal "TapTerminalModel" "TapTerminalModel" "key" "[I") ∈ am_kw := am_in3 (List.mem_of_getElem? (i := 205) rfl) rfl
theorem kw_3_207 : (Jvm.Cond.laysFinal "TapTerminalModel" "TapTerminalModel" "size" "[I") ∈ am_kw := am_in3 (List.mem_of_getElem? (i := 207) rfl) rfl
theorem kw_3_209 : (Jvm.Cond.laysFinal "TapTerminalModel" "TapTerminalModel" "counter" "[I") ∈ am_kw := am_in3 (List.mem_of_getElem? (i := 209) rfl) rfl
theorem kw_3_211 : (Jvm.Cond.laysFinal "TapTerminalModel" "TapTerminalModel" "cap" "[I") ∈ am_kw := am_in3 (List.mem_of_getElem? (i := 211) rfl) rfl
theorem kw_3_213 : (Jvm.Cond.laysFinal "TapTerminalModel" "TapTerminalModel" "limit" "[I") ∈ am_kw := am_in3 (List.mem_of_getElem? (i := 213) rfl) rfl
theorem kw_3_215 : (Jvm.Cond.laysFinal "TapTerminalModel" "TapTerminalModel" "runs" "[I") ∈ am_kw := am_in3 (List.mem_of_getElem? (i := 215) rfl) rfl
theorem kw_3_217 : (Jvm.Cond.laysFinal "TapTerminalModel" "TapTerminalModel" "commands" "[I") ∈ am_kw := am_in3 (List.mem_of_getElem? (i := 217) rfl) rfl
theorem kw_3_219 : (Jvm.Cond.laysFinal "TapTerminalModel" "TapTerminalModel" "records" "[I") ∈ am_kw := am_in3 (List.mem_of_getElem? (i := 219) rfl) rfl
theorem kw_3_221 : (Jvm.Cond.laysFinal "TapTerminalModel" "TapTerminalModel" "lengths" "[I") ∈ am_kw := am_in3 (List.mem_of_getElem? (i := 221) rfl) rfl
theorem kw_3_223 : (Jvm.Cond.lays "TapTerminalModel" "TapTerminalModel" "place" "I") ∈ am_kw := am_in3 (List.mem_of_getElem? (i := 223) rfl) rfl
theorem kw_3_225 : (Jvm.Cond.lays "TapTerminalModel" "TapTerminalModel" "floor" "I") ∈ am_kw := am_in3 (List.mem_of_getElem? (i := 225) rfl) rfl
theorem kw_3_227 : (Jvm.Cond.lays "TapTerminalModel" "TapTerminalModel" "ways" "I") ∈ am_kw := am_in3 (List.mem_of_getElem? (i := 227) rfl) rfl
theorem kw_3_229 : (Jvm.Cond.lays "TapTerminalModel" "TapTerminalModel" "issuer" "I") ∈ am_kw := am_in3 (List.mem_of_getElem? (i := 229) rfl) rfl
theorem kw_3_231 : (Jvm.Cond.lays "TapTerminalModel" "TapTerminalModel" "applications" "I") ∈ am_kw := am_in3 (List.mem_of_getElem? (i := 231) rfl) rfl
theorem kw_3_233 : (Jvm.Cond.lays "TapTerminalModel" "TapTerminalModel" "online" "Z") ∈ am_kw := am_in3 (List.mem_of_getElem? (i := 233) rfl) rfl
theorem kw_3_235 : (Jvm.Cond.laysFinal "TapTerminalModel" "TapTerminalModel" "faults" "[I") ∈ am_kw := am_in3 (List.mem_of_getElem? (i := 235) rfl) rfl
theorem kw_3_237 : (Jvm.Cond.laysFinal "TapTerminalModel" "TapTerminalModel" "kinds" "[I") ∈ am_kw := am_in3 (List.mem_of_getElem? (i := 237) rfl) rfl
theorem kw_3_239 : (Jvm.Cond.laysFinal "TapTerminalModel" "TapTerminalModel" "numbers" "[I") ∈ am_kw := am_in3 (List.mem_of_getElem? (i := 239) rfl) rfl
theorem kw_4_1 : (Jvm.Cond.laysFinal "TapTerminalModel" "TapTerminalModel" "answered" "[Z") ∈ am_kw := am_in4 (List.mem_of_getElem? (i := 1) rfl) rfl
theorem kw_4_3 : (Jvm.Cond.lays "TapTerminalModel" "TapTerminalModel" "how" "I") ∈ am_kw := am_in4 (List.mem_of_getElem? (i := 3) rfl) rfl
theorem kw_4_5 : (Jvm.Cond.lays "TapTerminalModel" "TapTerminalModel" "chosen" "I") ∈ am_kw := am_in4 (List.mem_of_getElem? (i := 5) rfl) rfl
theorem kw_4_7 : (Jvm.Cond.lays "TapTerminalModel" "TapTerminalModel" "findings" "I") ∈ am_kw := am_in4 (List.mem_of_getElem? (i := 7) rfl) rfl
theorem kw_4_9 : (Jvm.Cond.lays "TapTerminalModel" "TapTerminalModel" "asked" "I") ∈ am_kw := am_in4 (List.mem_of_getElem? (i := 9) rfl) rfl
theorem kw_4_11 : (Jvm.Cond.lays "TapTerminalModel" "TapTerminalModel" "saidCounter" "I") ∈ am_kw := am_in4 (List.mem_of_getElem? (i := 11) rfl) rfl
theorem kw_4_13 : (Jvm.Cond.lays "TapTerminalModel" "TapTerminalModel" "saidMix" "I") ∈ am_kw := am_in4 (List.mem_of_getElem? (i := 13) rfl) rfl
theorem kw_4_15 : (Jvm.Cond.lays "TapTerminalModel" "TapTerminalModel" "exchanges" "I") ∈ am_kw := am_in4 (List.mem_of_getElem? (i := 15) rfl) rfl
theorem kw_4_17 : (Jvm.Cond.lays "TapTerminalModel" "TapTerminalModel" "silentOnes" "I") ∈ am_kw := am_in4 (List.mem_of_getElem? (i := 17) rfl) rfl
theorem kw_4_19 : (Jvm.Cond.lays "TapTerminalModel" "TapTerminalModel" "silent" "I") ∈ am_kw := am_in4 (List.mem_of_getElem? (i := 19) rfl) rfl
theorem kw_4_21 : (Jvm.Cond.lays "TapTerminalModel" "TapTerminalModel" "selected" "I") ∈ am_kw := am_in4 (List.mem_of_getElem? (i := 21) rfl) rfl
theorem kw_4_23 : (Jvm.Cond.lays "TapTerminalModel" "TapTerminalModel" "wholes" "I") ∈ am_kw := am_in4 (List.mem_of_getElem? (i := 23) rfl) rfl
theorem kw_4_25 : (Jvm.Cond.laysFinal "TapTerminalModel" "TapTerminalModel" "row" "[I") ∈ am_kw := am_in4 (List.mem_of_getElem? (i := 25) rfl) rfl
theorem kw_4_27 : (Jvm.Cond.laysFinal "TapTerminalModel" "TapTerminalModel" "came" "[I") ∈ am_kw := am_in4 (List.mem_of_getElem? (i := 27) rfl) rfl
theorem kw_4_29 : (Jvm.Cond.laysFinal "TapTerminalModel" "TapTerminalModel" "reply" "[I") ∈ am_kw := am_in4 (List.mem_of_getElem? (i := 29) rfl) rfl
theorem kw_4_31 : (Jvm.Cond.laysFinal "TapTerminalModel" "TapTerminalModel" "got" "[I") ∈ am_kw := am_in4 (List.mem_of_getElem? (i := 31) rfl) rfl
theorem kw_4_33 : (Jvm.Cond.lays "TapTerminalModel" "TapTerminalModel" "rowLength" "I") ∈ am_kw := am_in4 (List.mem_of_getElem? (i := 33) rfl) rfl
theorem kw_4_35 : (Jvm.Cond.lays "TapTerminalModel" "TapTerminalModel" "cameLength" "I") ∈ am_kw := am_in4 (List.mem_of_getElem? (i := 35) rfl) rfl
theorem kw_4_37 : (Jvm.Cond.lays "TapTerminalModel" "TapTerminalModel" "replyLength" "I") ∈ am_kw := am_in4 (List.mem_of_getElem? (i := 37) rfl) rfl
theorem kw_4_39 : (Jvm.Cond.lays "TapTerminalModel" "TapTerminalModel" "gotLength" "I") ∈ am_kw := am_in4 (List.mem_of_getElem? (i := 39) rfl) rfl
theorem kw_4_41 : (Jvm.Cond.lays "TapTerminalModel" "TapTerminalModel" "number" "I") ∈ am_kw := am_in4 (List.mem_of_getElem? (i := 41) rfl) rfl
theorem kw_4_43 : (Jvm.Cond.lays "TapTerminalModel" "TapTerminalModel" "own" "I") ∈ am_kw := am_in4 (List.mem_of_getElem? (i := 43) rfl) rfl
theorem kw_4_45 : (Jvm.Cond.lays "TapTerminalModel" "TapTerminalModel" "from" "I") ∈ am_kw := am_in4 (List.mem_of_getElem? (i := 45) rfl) rfl
theorem kw_4_47 : (Jvm.Cond.lays "TapTerminalModel" "TapTerminalModel" "last" "I") ∈ am_kw := am_in4 (List.mem_of_getElem? (i := 47) rfl) rfl
theorem kw_4_49 : (Jvm.Cond.lays "TapTerminalModel" "TapTerminalModel" "chosenNow" "I") ∈ am_kw := am_in4 (List.mem_of_getElem? (i := 49) rfl) rfl
theorem kw_4_51 : (Jvm.Cond.lays "TapTerminalModel" "TapTerminalModel" "saidAck" "Z") ∈ am_kw := am_in4 (List.mem_of_getElem? (i := 51) rfl) rfl
theorem kw_4_53 : (Jvm.Cond.laysFinal "TapTerminalModel" "TapTerminalModel" "read" "[I") ∈ am_kw := am_in4 (List.mem_of_getElem? (i := 53) rfl) rfl
theorem kw_4_55 : (Jvm.Cond.laysFinal "TapTerminalModel" "TapTerminalModel" "readLength" "[I") ∈ am_kw := am_in4 (List.mem_of_getElem? (i := 55) rfl) rfl
theorem kw_4_57 : (Jvm.Cond.laysFinal "TapTerminalModel" "TapTerminalModel" "ends" "[I") ∈ am_kw := am_in4 (List.mem_of_getElem? (i := 57) rfl) rfl
theorem kw_4_59 : (Jvm.Cond.laysFinal "TapTerminalModel" "TapTerminalModel" "itemAt" "[I") ∈ am_kw := am_in4 (List.mem_of_getElem? (i := 59) rfl) rfl
theorem kw_4_61 : (Jvm.Cond.laysFinal "TapTerminalModel" "TapTerminalModel" "itemLength" "[I") ∈ am_kw := am_in4 (List.mem_of_getElem? (i := 61) rfl) rfl
set_option maxRecDepth 20000 in
theorem cw_Mod : ∀ w ∈ u_ws "TapTerminalModel" F_Mod 54, w ∈ am_kw := List.forall_mem_cons.mpr ⟨kw_3_195, List.forall_mem_cons.mpr ⟨kw_3_197, List.forall_mem_cons.mpr ⟨kw_3_199, List.forall_mem_cons.mpr ⟨kw_3_201, List.forall_mem_cons.mpr ⟨kw_3_203, List.forall_mem_cons.mpr ⟨kw_3_205, List.forall_mem_cons.mpr ⟨kw_3_207, List.forall_mem_cons.mpr ⟨kw_3_209, List.forall_mem_cons.mpr ⟨kw_3_211, List.forall_mem_cons.mpr ⟨kw_3_213, List.forall_mem_cons.mpr ⟨kw_3_215, List.forall_mem_cons.mpr ⟨kw_3_217, List.forall_mem_cons.mpr ⟨kw_3_219, List.forall_mem_cons.mpr ⟨kw_3_221, List.forall_mem_cons.mpr ⟨kw_3_223, List.forall_mem_cons.mpr ⟨kw_3_225, List.forall_mem_cons.mpr ⟨kw_3_227, List.forall_mem_cons.mpr ⟨kw_3_229, List.forall_mem_cons.mpr ⟨kw_3_231, List.forall_mem_cons.mpr ⟨kw_3_233, List.forall_mem_cons.mpr ⟨kw_3_235, List.forall_mem_cons.mpr ⟨kw_3_237, List.forall_mem_cons.mpr ⟨kw_3_239, List.forall_mem_cons.mpr ⟨kw_4_1, List.forall_mem_cons.mpr ⟨kw_4_3, List.forall_mem_cons.mpr ⟨kw_4_5, List.forall_mem_cons.mpr ⟨kw_4_7, List.forall_mem_cons.mpr ⟨kw_4_9, List.forall_mem_cons.mpr ⟨kw_4_11, List.forall_mem_cons.mpr ⟨kw_4_13, List.forall_mem_cons.mpr ⟨kw_4_15, List.forall_mem_cons.mpr ⟨kw_4_17, List.forall_mem_cons.mpr ⟨kw_4_19, List.forall_mem_cons.mpr ⟨kw_4_21, List.forall_mem_cons.mpr ⟨kw_4_23, List.forall_mem_cons.mpr ⟨kw_4_25, List.forall_mem_cons.mpr ⟨kw_4_27, List.forall_mem_cons.mpr ⟨kw_4_29, List.forall_mem_cons.mpr ⟨kw_4_31, List.forall_mem_cons.mpr ⟨kw_4_33, List.forall_mem_cons.mpr ⟨kw_4_35, List.forall_mem_cons.mpr ⟨kw_4_37, List.forall_mem_cons.mpr ⟨kw_4_39, List.forall_mem_cons.mpr ⟨kw_4_41, List.forall_mem_cons.mpr ⟨kw_4_43, List.forall_mem_cons.mpr ⟨kw_4_45, List.forall_mem_cons.mpr ⟨kw_4_47, List.forall_mem_cons.mpr ⟨kw_4_49, List.forall_mem_cons.mpr ⟨kw_4_51, List.forall_mem_cons.mpr ⟨kw_4_53, List.forall_mem_cons.mpr ⟨kw_4_55, List.forall_mem_cons.mpr ⟨kw_4_57, List.forall_mem_cons.mpr ⟨kw_4_59, List.forall_mem_cons.mpr ⟨kw_4_61, fun _ h => absurd h List.not_mem_nil⟩⟩⟩⟩⟩⟩⟩⟩⟩⟩⟩⟩⟩⟩⟩⟩⟩⟩⟩⟩⟩⟩⟩⟩⟩⟩⟩⟩⟩⟩⟩⟩⟩⟩⟩⟩⟩⟩⟩⟩⟩⟩⟩⟩⟩⟩⟩⟩⟩⟩⟩⟩⟩⟩
theorem cp_Mod : am_cP 9 "TapTerminalModel" F_Mod 54 t_Mod := ⟨rfl, cw_Mod, by decide +kernel, by decide +kernel⟩
theorem am_cls_ok : ∀ (ci : Nat) (r : vw_C), classes[ci]? = some r → r.1 = am_cn ci := by
  intro ci r h
  match ci, h with
  | 0, h => cases h; rfl
  | 1, h => cases h; rfl
  | 2, h => cases h; rfl
  | 3, h => cases h; rfl
  | 4, h => cases h; rfl
  | 5, h => cases h; rfl
  | 6, h => cases h; rfl
  | 7, h => cases h; rfl
  | 8, h => cases h; rfl
  | 9, h => cases h; rfl
  | n + 10, h => simp at h
def q_Row_init : am_M := (⟨"TapTerminal$Row", "<init>", "(I)V"⟩, prog_8_method_1_code, 2, none, 0, true)
def q_Row_clear : am_M := (⟨"TapTerminal$Row", "clear", "()V"⟩, prog_8_method_2_code, 1, none, 0, false)
def q_Row_add : am_M := (⟨"TapTerminal$Row", "add", "(I)V"⟩, prog_8_method_3_code, 2, none, 0, false)
def q_Row_addInt : am_M := (⟨"TapTerminal$Row", "addInt", "(I)V"⟩, prog_8_method_4_code, 2, none, 0, false)
def q_Row_addPart : am_M := (⟨"TapTerminal$Row", "addPart", "(LTapTerminal$Row;II)V"⟩, prog_8_method_5_code, 5, none, 0, false)
def q_Row_at : am_M := (⟨"TapTerminal$Row", "at", "(I)I"⟩, prog_8_method_6_code, 2, (some .int), 0, false)
def q_Row_pairAt : am_M := (⟨"TapTerminal$Row", "pairAt", "(I)I"⟩, prog_8_method_7_code, 2, (some .int), 0, false)
def q_Row_intAt : am_M := (⟨"TapTerminal$Row", "intAt", "(I)I"⟩, prog_8_method_8_code, 2, (some .int), 0, false)
def q_Row_stirInto : am_M := (⟨"TapTerminal$Row", "stirInto", "(I)I"⟩, prog_8_method_9_code, 4, (some .int), 0, false)
def q_Block_init : am_M := (⟨"TapTerminal$Block", "<init>", "()V"⟩, prog_3_method_1_code, 1, none, 1, true)
def q_Block_becomePlain : am_M := (⟨"TapTerminal$Block", "becomePlain", "(II)V"⟩, prog_3_method_2_code, 3, none, 1, false)
def q_Block_becomePart : am_M := (⟨"TapTerminal$Block", "becomePart", "(ILTapTerminal$Row;II)V"⟩, prog_3_method_3_code, 5, none, 1, false)
def q_Card_init : am_M := (⟨"TapTerminal$Card", "<init>", "()V"⟩, prog_4_method_1_code, 2, none, 2, true)
def q_Card_renew : am_M := (⟨"TapTerminal$Card", "renew", "(IIII)V"⟩, prog_4_method_2_code, 6, none, 2, false)
def q_Card_countRecords : am_M := (⟨"TapTerminal$Card", "countRecords", "()I"⟩, prog_4_method_3_code, 2, (some .int), 2, false)
def q_Card_beginsWith : am_M := (⟨"TapTerminal$Card", "beginsWith", "(II)Z"⟩, prog_4_method_4_code, 3, (some .boolean), 2, false)
def q_Card_hearCall : am_M := (⟨"TapTerminal$Card", "hearCall", "(I)V"⟩, prog_4_method_5_code, 2, none, 2, false)
def q_Card_hearBlock : am_M := (⟨"TapTerminal$Card", "hearBlock", "(LTapTerminal$Block;)V"⟩, prog_4_method_6_code, 2, none, 2, false)
def q_Card_obey : am_M := (⟨"TapTerminal$Card", "obey", "()V"⟩, prog_4_method_7_code, 3, none, 2, false)
def q_Card_addRecord : am_M := (⟨"TapTerminal$Card", "addRecord", "(I)V"⟩, prog_4_method_8_code, 2, none, 2, false)
def q_Card_decide : am_M := (⟨"TapTerminal$Card", "decide", "(II)I"⟩, prog_4_method_9_code, 4, (some .int), 2, false)
def q_Card_mixtureOf : am_M := (⟨"TapTerminal$Card", "mixtureOf", "(IIII)I"⟩, prog_4_method_10_code, 6, (some .int), 2, false)
def q_Journal_init : am_M := (⟨"TapTerminal$Journal", "<init>", "()V"⟩, prog_6_method_1_code, 1, none, 3, true)
def q_Journal_clear : am_M := (⟨"TapTerminal$Journal", "clear", "()V"⟩, prog_6_method_2_code, 1, none, 3, false)
def q_Journal_nextFault : am_M := (⟨"TapTerminal$Journal", "nextFault", "()I"⟩, prog_6_method_3_code, 1, (some .int), 3, false)
def q_Journal_note : am_M := (⟨"TapTerminal$Journal", "note", "(IIZ)Z"⟩, prog_6_method_4_code, 4, (some .boolean), 3, false)
def q_Air_init : am_M := (⟨"TapTerminal$Air", "<init>", "()V"⟩, prog_2_method_1_code, 2, none, 4, true)
def q_Air_isAddressTaken : am_M := (⟨"TapTerminal$Air", "isAddressTaken", "(I)Z"⟩, prog_2_method_2_code, 3, (some .boolean), 4, false)
def q_Air_begin : am_M := (⟨"TapTerminal$Air", "begin", "()V"⟩, prog_2_method_3_code, 2, none, 4, false)
def q_Air_wake : am_M := (⟨"TapTerminal$Air", "wake", "()Z"⟩, prog_2_method_4_code, 1, (some .boolean), 4, false)
def q_Air_findAddress : am_M := (⟨"TapTerminal$Air", "findAddress", "()I"⟩, prog_2_method_5_code, 5, (some .int), 4, false)
def q_Air_select : am_M := (⟨"TapTerminal$Air", "select", "()Z"⟩, prog_2_method_6_code, 1, (some .boolean), 4, false)
def q_Air_putOff : am_M := (⟨"TapTerminal$Air", "putOff", "()Z"⟩, prog_2_method_7_code, 1, (some .boolean), 4, false)
def q_Air_transmit : am_M := (⟨"TapTerminal$Air", "transmit", "(LTapTerminal$Row;LTapTerminal$Row;)Z"⟩, prog_2_method_8_code, 11, (some .boolean), 4, false)
def q_Air_prepare : am_M := (⟨"TapTerminal$Air", "prepare", "(ILTapTerminal$Row;II)V"⟩, prog_2_method_9_code, 5, none, 4, false)
def q_Air_gather : am_M := (⟨"TapTerminal$Air", "gather", "(II)V"⟩, prog_2_method_10_code, 4, none, 4, false)
def q_Air_call : am_M := (⟨"TapTerminal$Air", "call", "(II)Z"⟩, prog_2_method_11_code, 6, (some .boolean), 4, false)
def q_Air_leadingZeros : am_M := (⟨"TapTerminal$Air", "leadingZeros", "(I)I"⟩, prog_2_method_12_code, 2, (some .int), 4, false)
def q_Items_init : am_M := (⟨"TapTerminal$Items", "<init>", "()V"⟩, prog_5_method_1_code, 2, none, 5, true)
def q_Items_clear : am_M := (⟨"TapTerminal$Items", "clear", "()V"⟩, prog_5_method_2_code, 2, none, 5, false)
def q_Items_take : am_M := (⟨"TapTerminal$Items", "take", "(LTapTerminal$Row;)V"⟩, prog_5_method_3_code, 2, none, 5, false)
def q_Items_takePart : am_M := (⟨"TapTerminal$Items", "takePart", "(LTapTerminal$Items;LTapTerminal$Row;III)Z"⟩, prog_5_method_4_code, 8, (some .boolean), 5, false)
def q_Items_keepFirst : am_M := (⟨"TapTerminal$Items", "keepFirst", "(ILTapTerminal$Row;II)V"⟩, prog_5_method_5_code, 5, none, 5, false)
def q_Items_isLength : am_M := (⟨"TapTerminal$Items", "isLength", "(II)Z"⟩, prog_5_method_6_code, 2, (some .boolean), 5, false)
def q_Settings_init : am_M := (⟨"TapTerminal$Settings", "<init>", "()V"⟩, prog_9_method_1_code, 1, none, 6, true)
def q_Settings_takesApplication : am_M := (⟨"TapTerminal$Settings", "takesApplication", "(I)Z"⟩, prog_9_method_2_code, 2, (some .boolean), 6, false)
def q_Settings_findingsOf : am_M := (⟨"TapTerminal$Settings", "findingsOf", "(LTapTerminal$Items;III)I"⟩, prog_9_method_3_code, 6, (some .int), 6, false)
def q_Settings_typeFor : am_M := (⟨"TapTerminal$Settings", "typeFor", "(ILTapTerminal$Row;)I"⟩, prog_9_method_4_code, 3, (some .int), 6, false)
def q_Settings_isSigned : am_M := (⟨"TapTerminal$Settings", "isSigned", "(LTapTerminal$Items;)Z"⟩, prog_9_method_5_code, 4, (some .boolean), 6, false)
def q_Settings_someWayGoes : am_M := (⟨"TapTerminal$Settings", "someWayGoes", "(LTapTerminal$Row;Z)Z"⟩, prog_9_method_6_code, 5, (some .boolean), 6, false)
def q_Settings_isNow : am_M := (⟨"TapTerminal$Settings", "isNow", "(IZ)Z"⟩, prog_9_method_7_code, 2, (some .boolean), 6, false)
def q_Settings_hasWay : am_M := (⟨"TapTerminal$Settings", "hasWay", "(I)Z"⟩, prog_9_method_8_code, 2, (some .boolean), 6, false)
def q_Report_init : am_M := (⟨"TapTerminal$Report", "<init>", "()V"⟩, prog_7_method_1_code, 1, none, 7, true)
def q_Report_clear : am_M := (⟨"TapTerminal$Report", "clear", "()V"⟩, prog_7_method_2_code, 1, none, 7, false)
def q_Tap_init : am_M := (⟨"TapTerminal", "<init>", "()V"⟩, prog_1_method_1_code, 1, none, 8, true)
def q_Tap_card : am_M := (⟨"TapTerminal", "card", "(IIIII)Z"⟩, prog_1_method_2_code, 7, (some .boolean), 8, false)
def q_Tap_allow : am_M := (⟨"TapTerminal", "allow", "(III)Z"⟩, prog_1_method_3_code, 5, (some .boolean), 8, false)
def q_Tap_write : am_M := (⟨"TapTerminal", "write", "(III)I"⟩, prog_1_method_4_code, 5, (some .int), 8, false)
def q_Tap_field : am_M := (⟨"TapTerminal", "field", "(IZ)Z"⟩, prog_1_method_5_code, 3, (some .boolean), 8, false)
def q_Tap_terminal : am_M := (⟨"TapTerminal", "terminal", "(IIIZI)Z"⟩, prog_1_method_6_code, 7, (some .boolean), 8, false)
def q_Tap_takes : am_M := (⟨"TapTerminal", "takes", "(I)Z"⟩, prog_1_method_7_code, 3, (some .boolean), 8, false)
def q_Tap_fault : am_M := (⟨"TapTerminal", "fault", "(II)I"⟩, prog_1_method_8_code, 4, (some .int), 8, false)
def q_Tap_run : am_M := (⟨"TapTerminal", "run", "(III)I"⟩, prog_1_method_9_code, 5, (some .int), 8, false)
def q_Tap_told : am_M := (⟨"TapTerminal", "told", "(I)I"⟩, prog_1_method_10_code, 2, (some .int), 8, false)
def q_Tap_exchange : am_M := (⟨"TapTerminal", "exchange", "(II)I"⟩, prog_1_method_11_code, 4, (some .int), 8, false)
def q_Tap_look : am_M := (⟨"TapTerminal", "look", "(II)I"⟩, prog_1_method_12_code, 4, (some .int), 8, false)
def q_Tap_mix : am_M := (⟨"TapTerminal", "mix", "(IIIII)I"⟩, prog_1_method_13_code, 6, (some .int), 8, false)
def q_Tap_chooseCard : am_M := (⟨"TapTerminal", "chooseCard", "()I"⟩, prog_1_method_14_code, 3, (some .int), 8, false)
def q_Tap_readRecords : am_M := (⟨"TapTerminal", "readRecords", "(I)I"⟩, prog_1_method_15_code, 4, (some .int), 8, false)
def q_Tap_settle : am_M := (⟨"TapTerminal", "settle", "(III)I"⟩, prog_1_method_16_code, 4, (some .int), 8, false)
def q_Tap_startCommand : am_M := (⟨"TapTerminal", "startCommand", "(I)V"⟩, prog_1_method_17_code, 2, none, 8, false)
def q_Tap_isCard : am_M := (⟨"TapTerminal", "isCard", "(I)Z"⟩, prog_1_method_18_code, 2, (some .boolean), 8, false)
def q_Tap_isWithin : am_M := (⟨"TapTerminal", "isWithin", "(II)Z"⟩, prog_1_method_19_code, 2, (some .boolean), 8, false)
def q_Tap_isOctet : am_M := (⟨"TapTerminal", "isOctet", "(I)Z"⟩, prog_1_method_20_code, 1, (some .boolean), 8, false)
def q_Tap_stir : am_M := (⟨"TapTerminal", "stir", "(II)I"⟩, prog_1_method_21_code, 3, (some .int), 8, false)
def q_Mod_init : am_M := (⟨"TapTerminalModel", "<init>", "()V"⟩, prog_11_method_1_code, 1, none, 9, true)
def q_Mod_is : am_M := (⟨"TapTerminalModel", "is", "(III)Z"⟩, prog_11_method_2_code, 3, (some .boolean), 9, false)
def q_Mod_isCard : am_M := (⟨"TapTerminalModel", "isCard", "(I)Z"⟩, prog_11_method_3_code, 2, (some .boolean), 9, false)
def q_Mod_stir : am_M := (⟨"TapTerminalModel", "stir", "(II)I"⟩, prog_11_method_4_code, 3, (some .int), 9, false)
def q_Mod_card : am_M := (⟨"TapTerminalModel", "card", "(IIIII)Z"⟩, prog_11_method_5_code, 7, (some .boolean), 9, false)
def q_Mod_allow : am_M := (⟨"TapTerminalModel", "allow", "(III)Z"⟩, prog_11_method_6_code, 4, (some .boolean), 9, false)
def q_Mod_write : am_M := (⟨"TapTerminalModel", "write", "(III)I"⟩, prog_11_method_7_code, 5, (some .int), 9, false)
def q_Mod_field : am_M := (⟨"TapTerminalModel", "field", "(IZ)Z"⟩, prog_11_method_8_code, 4, (some .boolean), 9, false)
def q_Mod_terminal : am_M := (⟨"TapTerminalModel", "terminal", "(IIIZI)Z"⟩, prog_11_method_9_code, 6, (some .boolean), 9, false)
def q_Mod_takes : am_M := (⟨"TapTerminalModel", "takes", "(I)Z"⟩, prog_11_method_10_code, 2, (some .boolean), 9, false)
def q_Mod_fault : am_M := (⟨"TapTerminalModel", "fault", "(II)I"⟩, prog_11_method_11_code, 4, (some .int), 9, false)
def q_Mod_faultNow : am_M := (⟨"TapTerminalModel", "faultNow", "()I"⟩, prog_11_method_12_code, 1, (some .int), 9, false)
def q_Mod_note : am_M := (⟨"TapTerminalModel", "note", "(IIZ)Z"⟩, prog_11_method_13_code, 4, (some .boolean), 9, false)
def q_Mod_saySize : am_M := (⟨"TapTerminalModel", "saySize", "()I"⟩, prog_11_method_14_code, 2, (some .int), 9, false)
def q_Mod_hear : am_M := (⟨"TapTerminalModel", "hear", "(IIIIZ)V"⟩, prog_11_method_15_code, 7, none, 9, false)
def q_Mod_four : am_M := (⟨"TapTerminalModel", "four", "(I)I"⟩, prog_11_method_16_code, 2, (some .int), 9, false)
def q_Mod_command : am_M := (⟨"TapTerminalModel", "command", "()V"⟩, prog_11_method_17_code, 4, none, 9, false)
def q_Mod_manyOf : am_M := (⟨"TapTerminalModel", "manyOf", "(I)I"⟩, prog_11_method_18_code, 3, (some .int), 9, false)
def q_Mod_decide : am_M := (⟨"TapTerminalModel", "decide", "(I)V"⟩, prog_11_method_19_code, 7, none, 9, false)
def q_Mod_talk : am_M := (⟨"TapTerminalModel", "talk", "()Z"⟩, prog_11_method_20_code, 9, (some .boolean), 9, false)
def q_Mod_say : am_M := (⟨"TapTerminalModel", "say", "(II)V"⟩, prog_11_method_21_code, 3, none, 9, false)
def q_Mod_put : am_M := (⟨"TapTerminalModel", "put", "(I)V"⟩, prog_11_method_22_code, 3, none, 9, false)
def q_Mod_wake : am_M := (⟨"TapTerminalModel", "wake", "()Z"⟩, prog_11_method_23_code, 3, (some .boolean), 9, false)
def q_Mod_ask : am_M := (⟨"TapTerminalModel", "ask", "()I"⟩, prog_11_method_24_code, 7, (some .int), 9, false)
def q_Mod_call : am_M := (⟨"TapTerminalModel", "call", "(II)Z"⟩, prog_11_method_25_code, 4, (some .boolean), 9, false)
def q_Mod_run : am_M := (⟨"TapTerminalModel", "run", "(III)I"⟩, prog_11_method_26_code, 5, (some .int), 9, false)
def q_Mod_goes : am_M := (⟨"TapTerminalModel", "goes", "(III)I"⟩, prog_11_method_27_code, 7, (some .int), 9, false)
def q_Mod_takeApart : am_M := (⟨"TapTerminalModel", "takeApart", "(I)Z"⟩, prog_11_method_28_code, 6, (some .boolean), 9, false)
def q_Mod_items : am_M := (⟨"TapTerminalModel", "items", "(I)Z"⟩, prog_11_method_29_code, 6, (some .boolean), 9, false)
def q_Mod_item : am_M := (⟨"TapTerminalModel", "item", "(II)I"⟩, prog_11_method_30_code, 3, (some .int), 9, false)
def q_Mod_find : am_M := (⟨"TapTerminalModel", "find", "(III)V"⟩, prog_11_method_31_code, 8, none, 9, false)
def q_Mod_wayGoes : am_M := (⟨"TapTerminalModel", "wayGoes", "(I)Z"⟩, prog_11_method_32_code, 7, (some .boolean), 9, false)
def q_Mod_typeFor : am_M := (⟨"TapTerminalModel", "typeFor", "()I"⟩, prog_11_method_33_code, 1, (some .int), 9, false)
def q_Mod_told : am_M := (⟨"TapTerminalModel", "told", "(I)I"⟩, prog_11_method_34_code, 2, (some .int), 9, false)
def q_Mod_exchange : am_M := (⟨"TapTerminalModel", "exchange", "(II)I"⟩, prog_11_method_35_code, 3, (some .int), 9, false)
def q_Mod_look : am_M := (⟨"TapTerminalModel", "look", "(II)I"⟩, prog_11_method_36_code, 3, (some .int), 9, false)
def q_Mod_mix : am_M := (⟨"TapTerminalModel", "mix", "(IIIII)I"⟩, prog_11_method_37_code, 7, (some .int), 9, false)
def am_ms : List am_M := [q_Row_init, q_Row_clear, q_Row_add, q_Row_addInt, q_Row_addPart, q_Row_at, q_Row_pairAt, q_Row_intAt, q_Row_stirInto, q_Block_init, q_Block_becomePlain, q_Block_becomePart, q_Card_init, q_Card_renew, q_Card_countRecords, q_Card_beginsWith, q_Card_hearCall, q_Card_hearBlock, q_Card_obey, q_Card_addRecord, q_Card_decide, q_Card_mixtureOf, q_Journal_init, q_Journal_clear, q_Journal_nextFault, q_Journal_note, q_Air_init, q_Air_isAddressTaken, q_Air_begin, q_Air_wake, q_Air_findAddress, q_Air_select, q_Air_putOff, q_Air_transmit, q_Air_prepare, q_Air_gather, q_Air_call, q_Air_leadingZeros, q_Items_init, q_Items_clear, q_Items_take, q_Items_takePart, q_Items_keepFirst, q_Items_isLength, q_Settings_init, q_Settings_takesApplication, q_Settings_findingsOf, q_Settings_typeFor, q_Settings_isSigned, q_Settings_someWayGoes, q_Settings_isNow, q_Settings_hasWay, q_Report_init, q_Report_clear, q_Tap_init, q_Tap_card, q_Tap_allow, q_Tap_write, q_Tap_field, q_Tap_terminal, q_Tap_takes, q_Tap_fault, q_Tap_run, q_Tap_told, q_Tap_exchange, q_Tap_look, q_Tap_mix, q_Tap_chooseCard, q_Tap_readRecords, q_Tap_settle, q_Tap_startCommand, q_Tap_isCard, q_Tap_isWithin, q_Tap_isOctet, q_Tap_stir, q_Mod_init, q_Mod_is, q_Mod_isCard, q_Mod_stir, q_Mod_card, q_Mod_allow, q_Mod_write, q_Mod_field, q_Mod_terminal, q_Mod_takes, q_Mod_fault, q_Mod_faultNow, q_Mod_note, q_Mod_saySize, q_Mod_hear, q_Mod_four, q_Mod_command, q_Mod_manyOf, q_Mod_decide, q_Mod_talk, q_Mod_say, q_Mod_put, q_Mod_wake, q_Mod_ask, q_Mod_call, q_Mod_run, q_Mod_goes, q_Mod_takeApart, q_Mod_items, q_Mod_item, q_Mod_find, q_Mod_wayGoes, q_Mod_typeFor, q_Mod_told, q_Mod_exchange, q_Mod_look, q_Mod_mix]
def am_qP (q : am_M) : Prop := am_cn q.2.2.2.2.1 = q.1.cls ∧ Jvm.Cond.code q.1 q.2.1 q.2.2.1 q.2.2.2.1 ∈ am_kw ∧ Jvm.Cond.initialized q.1.cls ∈ am_kw ∧ q.1.cls ≠ "java/lang/invoke/MethodHandle" ∧ q.1.cls ≠ "java/lang/invoke/VarHandle" ∧ plainName q.1.cls = true ∧ (q.2.2.2.2.2 = true → q.1.name = "<init>") ∧ q.2.2.1 ≤ 40
theorem kw_1_38 : (Jvm.Cond.code ({ cls := "TapTerminal$Row", name := "<init>", desc := "(I)V" } : Jvm.MethodName) prog_8_method_1_code (2 : Nat) (Option.none : Option Jvm.ClassFile.FieldType)) ∈ am_kw := am_in1 (List.mem_of_getElem? (i := 38) rfl) rfl
theorem kw_1_4 : (Jvm.Cond.initialized "TapTerminal$Row") ∈ am_kw := am_in1 (List.mem_of_getElem? (i := 4) rfl) rfl
theorem qp_Row_init : am_qP q_Row_init := ⟨rfl, kw_1_38, kw_1_4, by decide +kernel, by decide +kernel, by decide +kernel, by decide +kernel, by decide +kernel⟩
theorem kw_2_107 : (Jvm.Cond.code ({ cls := "TapTerminal$Row", name := "clear", desc := "()V" } : Jvm.MethodName) prog_8_method_2_code (1 : Nat) (Option.none : Option Jvm.ClassFile.FieldType)) ∈ am_kw := am_in2 (List.mem_of_getElem? (i := 107) rfl) rfl
theorem qp_Row_clear : am_qP q_Row_clear := ⟨rfl, kw_2_107, kw_1_4, by decide +kernel, by decide +kernel, by decide +kernel, by decide +kernel, by decide +kernel⟩
theorem kw_2_123 : (Jvm.Cond.code ({ cls := "TapTerminal$Row", name := "add", desc := "(I)V" } : Jvm.MethodName) prog_8_method_3_code (2 : Nat) (Option.none : Option Jvm.ClassFile.FieldType)) ∈ am_kw := am_in2 (List.mem_of_getElem? (i := 123) rfl) rfl
theorem qp_Row_add : am_qP q_Row_add := ⟨rfl, kw_2_123, kw_1_4, by decide +kernel, by decide +kernel, by decide +kernel, by decide +kernel, by decide +kernel⟩
theorem kw_3_39 : (Jvm.Cond.code ({ cls := "TapTerminal$Row", name := "addInt", desc := "(I)V" } : Jvm.MethodName) prog_8_method_4_code (2 : Nat) (Option.none : Option Jvm.ClassFile.FieldType)) ∈ am_kw := am_in3 (List.mem_of_getElem? (i := 39) rfl) rfl
theorem qp_Row_addInt : am_qP q_Row_addInt := ⟨rfl, kw_3_39, kw_1_4, by decide +kernel, by decide +kernel, by decide +kernel, by decide +kernel, by decide +kernel⟩
theorem kw_2_230 : (Jvm.Cond.code ({ cls := "TapTerminal$Row", name := "addPart", desc := "(LTapTerminal$Row;II)V" } : Jvm.MethodName) prog_8_method_5_code (5 : Nat) (Option.none : Option Jvm.ClassFile.FieldType)) ∈ am_kw := am_in2 (List.mem_of_getElem? (i := 230) rfl) rfl
theorem qp_Row_addPart : am_qP q_Row_addPart := ⟨rfl, kw_2_230, kw_1_4, by decide +kernel, by decide +kernel, by decide +kernel, by decide +kernel, by decide +kernel⟩
theorem kw_2_234 : (Jvm.Cond.code ({ cls := "TapTerminal$Row", name := "at", desc := "(I)I" } : Jvm.MethodName) prog_8_method_6_code (2 : Nat) (Option.some Jvm.ClassFile.FieldType.int)) ∈ am_kw := am_in2 (List.mem_of_getElem? (i := 234) rfl) rfl
theorem qp_Row_at : am_qP q_Row_at := ⟨rfl, kw_2_234, kw_1_4, by decide +kernel, by decide +kernel, by decide +kernel, by decide +kernel, by decide +kernel⟩
theorem kw_3_98 : (Jvm.Cond.code ({ cls := "TapTerminal$Row", name := "pairAt", desc := "(I)I" } : Jvm.MethodName) prog_8_method_7_code (2 : Nat) (Option.some Jvm.ClassFile.FieldType.int)) ∈ am_kw := am_in3 (List.mem_of_getElem? (i := 98) rfl) rfl
theorem qp_Row_pairAt : am_qP q_Row_pairAt := ⟨rfl, kw_3_98, kw_1_4, by decide +kernel, by decide +kernel, by decide +kernel, by decide +kernel, by decide +kernel⟩
theorem kw_3_22 : (Jvm.Cond.code ({ cls := "TapTerminal$Row", name := "intAt", desc := "(I)I" } : Jvm.MethodName) prog_8_method_8_code (2 : Nat) (Option.some Jvm.ClassFile.FieldType.int)) ∈ am_kw := am_in3 (List.mem_of_getElem? (i := 22) rfl) rfl
theorem qp_Row_intAt : am_qP q_Row_intAt := ⟨rfl, kw_3_22, kw_1_4, by decide +kernel, by decide +kernel, by decide +kernel, by decide +kernel, by decide +kernel⟩
theorem kw_3_92 : (Jvm.Cond.code ({ cls := "TapTerminal$Row", name := "stirInto", desc := "(I)I" } : Jvm.MethodName) prog_8_method_9_code (4 : Nat) (Option.some Jvm.ClassFile.FieldType.int)) ∈ am_kw := am_in3 (List.mem_of_getElem? (i := 92) rfl) rfl
theorem qp_Row_stirInto : am_qP q_Row_stirInto := ⟨rfl, kw_3_92, kw_1_4, by decide +kernel, by decide +kernel, by decide +kernel, by decide +kernel, by decide +kernel⟩
theorem kw_1_58 : (Jvm.Cond.code ({ cls := "TapTerminal$Block", name := "<init>", desc := "()V" } : Jvm.MethodName) prog_3_method_1_code (1 : Nat) (Option.none : Option Jvm.ClassFile.FieldType)) ∈ am_kw := am_in1 (List.mem_of_getElem? (i := 58) rfl) rfl
theorem kw_1_5 : (Jvm.Cond.initialized "TapTerminal$Block") ∈ am_kw := am_in1 (List.mem_of_getElem? (i := 5) rfl) rfl
theorem qp_Block_init : am_qP q_Block_init := ⟨rfl, kw_1_58, kw_1_5, by decide +kernel, by decide +kernel, by decide +kernel, by decide +kernel, by decide +kernel⟩
theorem kw_2_222 : (Jvm.Cond.code ({ cls := "TapTerminal$Block", name := "becomePlain", desc := "(II)V" } : Jvm.MethodName) prog_3_method_2_code (3 : Nat) (Option.none : Option Jvm.ClassFile.FieldType)) ∈ am_kw := am_in2 (List.mem_of_getElem? (i := 222) rfl) rfl
theorem qp_Block_becomePlain : am_qP q_Block_becomePlain := ⟨rfl, kw_2_222, kw_1_5, by decide +kernel, by decide +kernel, by decide +kernel, by decide +kernel, by decide +kernel⟩
theorem kw_2_218 : (Jvm.Cond.code ({ cls := "TapTerminal$Block", name := "becomePart", desc := "(ILTapTerminal$Row;II)V" } : Jvm.MethodName) prog_3_method_3_code (5 : Nat) (Option.none : Option Jvm.ClassFile.FieldType)) ∈ am_kw := am_in2 (List.mem_of_getElem? (i := 218) rfl) rfl
theorem qp_Block_becomePart : am_qP q_Block_becomePart := ⟨rfl, kw_2_218, kw_1_5, by decide +kernel, by decide +kernel, by decide +kernel, by decide +kernel, by decide +kernel⟩
theorem kw_1_31 : (Jvm.Cond.code ({ cls := "TapTerminal$Card", name := "<init>", desc := "()V" } : Jvm.MethodName) prog_4_method_1_code (2 : Nat) (Option.none : Option Jvm.ClassFile.FieldType)) ∈ am_kw := am_in1 (List.mem_of_getElem? (i := 31) rfl) rfl
theorem kw_1_3 : (Jvm.Cond.initialized "TapTerminal$Card") ∈ am_kw := am_in1 (List.mem_of_getElem? (i := 3) rfl) rfl
theorem qp_Card_init : am_qP q_Card_init := ⟨rfl, kw_1_31, kw_1_3, by decide +kernel, by decide +kernel, by decide +kernel, by decide +kernel, by decide +kernel⟩
theorem kw_2_102 : (Jvm.Cond.code ({ cls := "TapTerminal$Card", name := "renew", desc := "(IIII)V" } : Jvm.MethodName) prog_4_method_2_code (6 : Nat) (Option.none : Option Jvm.ClassFile.FieldType)) ∈ am_kw := am_in2 (List.mem_of_getElem? (i := 102) rfl) rfl
theorem qp_Card_renew : am_qP q_Card_renew := ⟨rfl, kw_2_102, kw_1_3, by decide +kernel, by decide +kernel, by decide +kernel, by decide +kernel, by decide +kernel⟩
theorem kw_3_13 : (Jvm.Cond.code ({ cls := "TapTerminal$Card", name := "countRecords", desc := "()I" } : Jvm.MethodName) prog_4_method_3_code (2 : Nat) (Option.some Jvm.ClassFile.FieldType.int)) ∈ am_kw := am_in3 (List.mem_of_getElem? (i := 13) rfl) rfl
theorem qp_Card_countRecords : am_qP q_Card_countRecords := ⟨rfl, kw_3_13, kw_1_3, by decide +kernel, by decide +kernel, by decide +kernel, by decide +kernel, by decide +kernel⟩
theorem kw_2_172 : (Jvm.Cond.code ({ cls := "TapTerminal$Card", name := "beginsWith", desc := "(II)Z" } : Jvm.MethodName) prog_4_method_4_code (3 : Nat) (Option.some Jvm.ClassFile.FieldType.boolean)) ∈ am_kw := am_in2 (List.mem_of_getElem? (i := 172) rfl) rfl
theorem qp_Card_beginsWith : am_qP q_Card_beginsWith := ⟨rfl, kw_2_172, kw_1_3, by decide +kernel, by decide +kernel, by decide +kernel, by decide +kernel, by decide +kernel⟩
theorem kw_2_184 : (Jvm.Cond.code ({ cls := "TapTerminal$Card", name := "hearCall", desc := "(I)V" } : Jvm.MethodName) prog_4_method_5_code (2 : Nat) (Option.none : Option Jvm.ClassFile.FieldType)) ∈ am_kw := am_in2 (List.mem_of_getElem? (i := 184) rfl) rfl
theorem qp_Card_hearCall : am_qP q_Card_hearCall := ⟨rfl, kw_2_184, kw_1_3, by decide +kernel, by decide +kernel, by decide +kernel, by decide +kernel, by decide +kernel⟩
theorem kw_3_0 : (Jvm.Cond.code ({ cls := "TapTerminal$Card", name := "hearBlock", desc := "(LTapTerminal$Block;)V" } : Jvm.MethodName) prog_4_method_6_code (2 : Nat) (Option.none : Option Jvm.ClassFile.FieldType)) ∈ am_kw := am_in3 (List.mem_of_getElem? (i := 0) rfl) rfl
theorem qp_Card_hearBlock : am_qP q_Card_hearBlock := ⟨rfl, kw_3_0, kw_1_3, by decide +kernel, by decide +kernel, by decide +kernel, by decide +kernel, by decide +kernel⟩
theorem kw_3_7 : (Jvm.Cond.code ({ cls := "TapTerminal$Card", name := "obey", desc := "()V" } : Jvm.MethodName) prog_4_method_7_code (3 : Nat) (Option.none : Option Jvm.ClassFile.FieldType)) ∈ am_kw := am_in3 (List.mem_of_getElem? (i := 7) rfl) rfl
theorem qp_Card_obey : am_qP q_Card_obey := ⟨rfl, kw_3_7, kw_1_3, by decide +kernel, by decide +kernel, by decide +kernel, by decide +kernel, by decide +kernel⟩
theorem kw_3_17 : (Jvm.Cond.code ({ cls := "TapTerminal$Card", name := "addRecord", desc := "(I)V" } : Jvm.MethodName) prog_4_method_8_code (2 : Nat) (Option.none : Option Jvm.ClassFile.FieldType)) ∈ am_kw := am_in3 (List.mem_of_getElem? (i := 17) rfl) rfl
theorem qp_Card_addRecord : am_qP q_Card_addRecord := ⟨rfl, kw_3_17, kw_1_3, by decide +kernel, by decide +kernel, by decide +kernel, by decide +kernel, by decide +kernel⟩
theorem kw_3_26 : (Jvm.Cond.code ({ cls := "TapTerminal$Card", name := "decide", desc := "(II)I" } : Jvm.MethodName) prog_4_method_9_code (4 : Nat) (Option.some Jvm.ClassFile.FieldType.int)) ∈ am_kw := am_in3 (List.mem_of_getElem? (i := 26) rfl) rfl
theorem qp_Card_decide : am_qP q_Card_decide := ⟨rfl, kw_3_26, kw_1_3, by decide +kernel, by decide +kernel, by decide +kernel, by decide +kernel, by decide +kernel⟩
theorem kw_3_31 : (Jvm.Cond.code ({ cls := "TapTerminal$Card", name := "mixtureOf", desc := "(IIII)I" } : Jvm.MethodName) prog_4_method_10_code (6 : Nat) (Option.some Jvm.ClassFile.FieldType.int)) ∈ am_kw := am_in3 (List.mem_of_getElem? (i := 31) rfl) rfl
theorem qp_Card_mixtureOf : am_qP q_Card_mixtureOf := ⟨rfl, kw_3_31, kw_1_3, by decide +kernel, by decide +kernel, by decide +kernel, by decide +kernel, by decide +kernel⟩
theorem kw_1_156 : (Jvm.Cond.code ({ cls := "TapTerminal$Journal", name := "<init>", desc := "()V" } : Jvm.MethodName) prog_6_method_1_code (1 : Nat) (Option.none : Option Jvm.ClassFile.FieldType)) ∈ am_kw := am_in1 (List.mem_of_getElem? (i := 156) rfl) rfl
theorem kw_1_6 : (Jvm.Cond.initialized "TapTerminal$Journal") ∈ am_kw := am_in1 (List.mem_of_getElem? (i := 6) rfl) rfl
theorem qp_Journal_init : am_qP q_Journal_init := ⟨rfl, kw_1_156, kw_1_6, by decide +kernel, by decide +kernel, by decide +kernel, by decide +kernel, by decide +kernel⟩
theorem kw_2_156 : (Jvm.Cond.code ({ cls := "TapTerminal$Journal", name := "clear", desc := "()V" } : Jvm.MethodName) prog_6_method_2_code (1 : Nat) (Option.none : Option Jvm.ClassFile.FieldType)) ∈ am_kw := am_in2 (List.mem_of_getElem? (i := 156) rfl) rfl
theorem qp_Journal_clear : am_qP q_Journal_clear := ⟨rfl, kw_2_156, kw_1_6, by decide +kernel, by decide +kernel, by decide +kernel, by decide +kernel, by decide +kernel⟩
theorem kw_2_180 : (Jvm.Cond.code ({ cls := "TapTerminal$Journal", name := "nextFault", desc := "()I" } : Jvm.MethodName) prog_6_method_3_code (1 : Nat) (Option.some Jvm.ClassFile.FieldType.int)) ∈ am_kw := am_in2 (List.mem_of_getElem? (i := 180) rfl) rfl
theorem qp_Journal_nextFault : am_qP q_Journal_nextFault := ⟨rfl, kw_2_180, kw_1_6, by decide +kernel, by decide +kernel, by decide +kernel, by decide +kernel, by decide +kernel⟩
theorem kw_2_188 : (Jvm.Cond.code ({ cls := "TapTerminal$Journal", name := "note", desc := "(IIZ)Z" } : Jvm.MethodName) prog_6_method_4_code (4 : Nat) (Option.some Jvm.ClassFile.FieldType.boolean)) ∈ am_kw := am_in2 (List.mem_of_getElem? (i := 188) rfl) rfl
theorem qp_Journal_note : am_qP q_Journal_note := ⟨rfl, kw_2_188, kw_1_6, by decide +kernel, by decide +kernel, by decide +kernel, by decide +kernel, by decide +kernel⟩
theorem kw_1_24 : (Jvm.Cond.code ({ cls := "TapTerminal$Air", name := "<init>", desc := "()V" } : Jvm.MethodName) prog_2_method_1_code (2 : Nat) (Option.none : Option Jvm.ClassFile.FieldType)) ∈ am_kw := am_in1 (List.mem_of_getElem? (i := 24) rfl) rfl
theorem kw_1_2 : (Jvm.Cond.initialized "TapTerminal$Air") ∈ am_kw := am_in1 (List.mem_of_getElem? (i := 2) rfl) rfl
theorem qp_Air_init : am_qP q_Air_init := ⟨rfl, kw_1_24, kw_1_2, by decide +kernel, by decide +kernel, by decide +kernel, by decide +kernel, by decide +kernel⟩
theorem kw_2_131 : (Jvm.Cond.code ({ cls := "TapTerminal$Air", name := "isAddressTaken", desc := "(I)Z" } : Jvm.MethodName) prog_2_method_2_code (3 : Nat) (Option.some Jvm.ClassFile.FieldType.boolean)) ∈ am_kw := am_in2 (List.mem_of_getElem? (i := 131) rfl) rfl
theorem qp_Air_isAddressTaken : am_qP q_Air_isAddressTaken := ⟨rfl, kw_2_131, kw_1_2, by decide +kernel, by decide +kernel, by decide +kernel, by decide +kernel, by decide +kernel⟩
theorem kw_2_152 : (Jvm.Cond.code ({ cls := "TapTerminal$Air", name := "begin", desc := "()V" } : Jvm.MethodName) prog_2_method_3_code (2 : Nat) (Option.none : Option Jvm.ClassFile.FieldType)) ∈ am_kw := am_in2 (List.mem_of_getElem? (i := 152) rfl) rfl
theorem qp_Air_begin : am_qP q_Air_begin := ⟨rfl, kw_2_152, kw_1_2, by decide +kernel, by decide +kernel, by decide +kernel, by decide +kernel, by decide +kernel⟩
theorem kw_2_164 : (Jvm.Cond.code ({ cls := "TapTerminal$Air", name := "wake", desc := "()Z" } : Jvm.MethodName) prog_2_method_4_code (1 : Nat) (Option.some Jvm.ClassFile.FieldType.boolean)) ∈ am_kw := am_in2 (List.mem_of_getElem? (i := 164) rfl) rfl
theorem qp_Air_wake : am_qP q_Air_wake := ⟨rfl, kw_2_164, kw_1_2, by decide +kernel, by decide +kernel, by decide +kernel, by decide +kernel, by decide +kernel⟩
theorem kw_2_192 : (Jvm.Cond.code ({ cls := "TapTerminal$Air", name := "findAddress", desc := "()I" } : Jvm.MethodName) prog_2_method_5_code (5 : Nat) (Option.some Jvm.ClassFile.FieldType.int)) ∈ am_kw := am_in2 (List.mem_of_getElem? (i := 192) rfl) rfl
theorem qp_Air_findAddress : am_qP q_Air_findAddress := ⟨rfl, kw_2_192, kw_1_2, by decide +kernel, by decide +kernel, by decide +kernel, by decide +kernel, by decide +kernel⟩
theorem kw_2_199 : (Jvm.Cond.code ({ cls := "TapTerminal$Air", name := "select", desc := "()Z" } : Jvm.MethodName) prog_2_method_6_code (1 : Nat) (Option.some Jvm.ClassFile.FieldType.boolean)) ∈ am_kw := am_in2 (List.mem_of_getElem? (i := 199) rfl) rfl
theorem qp_Air_select : am_qP q_Air_select := ⟨rfl, kw_2_199, kw_1_2, by decide +kernel, by decide +kernel, by decide +kernel, by decide +kernel, by decide +kernel⟩
theorem kw_3_49 : (Jvm.Cond.code ({ cls := "TapTerminal$Air", name := "putOff", desc := "()Z" } : Jvm.MethodName) prog_2_method_7_code (1 : Nat) (Option.some Jvm.ClassFile.FieldType.boolean)) ∈ am_kw := am_in3 (List.mem_of_getElem? (i := 49) rfl) rfl
theorem qp_Air_putOff : am_qP q_Air_putOff := ⟨rfl, kw_3_49, kw_1_2, by decide +kernel, by decide +kernel, by decide +kernel, by decide +kernel, by decide +kernel⟩
theorem kw_2_208 : (Jvm.Cond.code ({ cls := "TapTerminal$Air", name := "transmit", desc := "(LTapTerminal$Row;LTapTerminal$Row;)Z" } : Jvm.MethodName) prog_2_method_8_code (11 : Nat) (Option.some Jvm.ClassFile.FieldType.boolean)) ∈ am_kw := am_in2 (List.mem_of_getElem? (i := 208) rfl) rfl
theorem qp_Air_transmit : am_qP q_Air_transmit := ⟨rfl, kw_2_208, kw_1_2, by decide +kernel, by decide +kernel, by decide +kernel, by decide +kernel, by decide +kernel⟩
theorem kw_2_214 : (Jvm.Cond.code ({ cls := "TapTerminal$Air", name := "prepare", desc := "(ILTapTerminal$Row;II)V" } : Jvm.MethodName) prog_2_method_9_code (5 : Nat) (Option.none : Option Jvm.ClassFile.FieldType)) ∈ am_kw := am_in2 (List.mem_of_getElem? (i := 214) rfl) rfl
theorem qp_Air_prepare : am_qP q_Air_prepare := ⟨rfl, kw_2_214, kw_1_2, by decide +kernel, by decide +kernel, by decide +kernel, by decide +kernel, by decide +kernel⟩
theorem kw_2_168 : (Jvm.Cond.code ({ cls := "TapTerminal$Air", name := "gather", desc := "(II)V" } : Jvm.MethodName) prog_2_method_10_code (4 : Nat) (Option.none : Option Jvm.ClassFile.FieldType)) ∈ am_kw := am_in2 (List.mem_of_getElem? (i := 168) rfl) rfl
theorem qp_Air_gather : am_qP q_Air_gather := ⟨rfl, kw_2_168, kw_1_2, by decide +kernel, by decide +kernel, by decide +kernel, by decide +kernel, by decide +kernel⟩
theorem kw_2_176 : (Jvm.Cond.code ({ cls := "TapTerminal$Air", name := "call", desc := "(II)Z" } : Jvm.MethodName) prog_2_method_11_code (6 : Nat) (Option.some Jvm.ClassFile.FieldType.boolean)) ∈ am_kw := am_in2 (List.mem_of_getElem? (i := 176) rfl) rfl
theorem qp_Air_call : am_qP q_Air_call := ⟨rfl, kw_2_176, kw_1_2, by decide +kernel, by decide +kernel, by decide +kernel, by decide +kernel, by decide +kernel⟩
theorem kw_2_195 : (Jvm.Cond.code ({ cls := "TapTerminal$Air", name := "leadingZeros", desc := "(I)I" } : Jvm.MethodName) prog_2_method_12_code (2 : Nat) (Option.some Jvm.ClassFile.FieldType.int)) ∈ am_kw := am_in2 (List.mem_of_getElem? (i := 195) rfl) rfl
theorem qp_Air_leadingZeros : am_qP q_Air_leadingZeros := ⟨rfl, kw_2_195, kw_1_2, by decide +kernel, by decide +kernel, by decide +kernel, by decide +kernel, by decide +kernel⟩
theorem kw_2_3 : (Jvm.Cond.code ({ cls := "TapTerminal$Items", name := "<init>", desc := "()V" } : Jvm.MethodName) prog_5_method_1_code (2 : Nat) (Option.none : Option Jvm.ClassFile.FieldType)) ∈ am_kw := am_in2 (List.mem_of_getElem? (i := 3) rfl) rfl
theorem kw_1_8 : (Jvm.Cond.initialized "TapTerminal$Items") ∈ am_kw := am_in1 (List.mem_of_getElem? (i := 8) rfl) rfl
theorem qp_Items_init : am_qP q_Items_init := ⟨rfl, kw_2_3, kw_1_8, by decide +kernel, by decide +kernel, by decide +kernel, by decide +kernel, by decide +kernel⟩
theorem kw_3_59 : (Jvm.Cond.code ({ cls := "TapTerminal$Items", name := "clear", desc := "()V" } : Jvm.MethodName) prog_5_method_2_code (2 : Nat) (Option.none : Option Jvm.ClassFile.FieldType)) ∈ am_kw := am_in3 (List.mem_of_getElem? (i := 59) rfl) rfl
theorem qp_Items_clear : am_qP q_Items_clear := ⟨rfl, kw_3_59, kw_1_8, by decide +kernel, by decide +kernel, by decide +kernel, by decide +kernel, by decide +kernel⟩
theorem kw_3_64 : (Jvm.Cond.code ({ cls := "TapTerminal$Items", name := "take", desc := "(LTapTerminal$Row;)V" } : Jvm.MethodName) prog_5_method_3_code (2 : Nat) (Option.none : Option Jvm.ClassFile.FieldType)) ∈ am_kw := am_in3 (List.mem_of_getElem? (i := 64) rfl) rfl
theorem qp_Items_take : am_qP q_Items_take := ⟨rfl, kw_3_64, kw_1_8, by decide +kernel, by decide +kernel, by decide +kernel, by decide +kernel, by decide +kernel⟩
theorem kw_3_67 : (Jvm.Cond.code ({ cls := "TapTerminal$Items", name := "takePart", desc := "(LTapTerminal$Items;LTapTerminal$Row;III)Z" } : Jvm.MethodName) prog_5_method_4_code (8 : Nat) (Option.some Jvm.ClassFile.FieldType.boolean)) ∈ am_kw := am_in3 (List.mem_of_getElem? (i := 67) rfl) rfl
theorem qp_Items_takePart : am_qP q_Items_takePart := ⟨rfl, kw_3_67, kw_1_8, by decide +kernel, by decide +kernel, by decide +kernel, by decide +kernel, by decide +kernel⟩
theorem kw_3_72 : (Jvm.Cond.code ({ cls := "TapTerminal$Items", name := "keepFirst", desc := "(ILTapTerminal$Row;II)V" } : Jvm.MethodName) prog_5_method_5_code (5 : Nat) (Option.none : Option Jvm.ClassFile.FieldType)) ∈ am_kw := am_in3 (List.mem_of_getElem? (i := 72) rfl) rfl
theorem qp_Items_keepFirst : am_qP q_Items_keepFirst := ⟨rfl, kw_3_72, kw_1_8, by decide +kernel, by decide +kernel, by decide +kernel, by decide +kernel, by decide +kernel⟩
theorem kw_3_75 : (Jvm.Cond.code ({ cls := "TapTerminal$Items", name := "isLength", desc := "(II)Z" } : Jvm.MethodName) prog_5_method_6_code (2 : Nat) (Option.some Jvm.ClassFile.FieldType.boolean)) ∈ am_kw := am_in3 (List.mem_of_getElem? (i := 75) rfl) rfl
theorem qp_Items_isLength : am_qP q_Items_isLength := ⟨rfl, kw_3_75, kw_1_8, by decide +kernel, by decide +kernel, by decide +kernel, by decide +kernel, by decide +kernel⟩
theorem kw_1_212 : (Jvm.Cond.code ({ cls := "TapTerminal$Settings", name := "<init>", desc := "()V" } : Jvm.MethodName) prog_9_method_1_code (1 : Nat) (Option.none : Option Jvm.ClassFile.FieldType)) ∈ am_kw := am_in1 (List.mem_of_getElem? (i := 212) rfl) rfl
theorem kw_1_7 : (Jvm.Cond.initialized "TapTerminal$Settings") ∈ am_kw := am_in1 (List.mem_of_getElem? (i := 7) rfl) rfl
theorem qp_Settings_init : am_qP q_Settings_init := ⟨rfl, kw_1_212, kw_1_7, by decide +kernel, by decide +kernel, by decide +kernel, by decide +kernel, by decide +kernel⟩
theorem kw_3_45 : (Jvm.Cond.code ({ cls := "TapTerminal$Settings", name := "takesApplication", desc := "(I)Z" } : Jvm.MethodName) prog_9_method_2_code (2 : Nat) (Option.some Jvm.ClassFile.FieldType.boolean)) ∈ am_kw := am_in3 (List.mem_of_getElem? (i := 45) rfl) rfl
theorem qp_Settings_takesApplication : am_qP q_Settings_takesApplication := ⟨rfl, kw_3_45, kw_1_7, by decide +kernel, by decide +kernel, by decide +kernel, by decide +kernel, by decide +kernel⟩
theorem kw_3_84 : (Jvm.Cond.code ({ cls := "TapTerminal$Settings", name := "findingsOf", desc := "(LTapTerminal$Items;III)I" } : Jvm.MethodName) prog_9_method_3_code (6 : Nat) (Option.some Jvm.ClassFile.FieldType.int)) ∈ am_kw := am_in3 (List.mem_of_getElem? (i := 84) rfl) rfl
theorem qp_Settings_findingsOf : am_qP q_Settings_findingsOf := ⟨rfl, kw_3_84, kw_1_7, by decide +kernel, by decide +kernel, by decide +kernel, by decide +kernel, by decide +kernel⟩
theorem kw_3_114 : (Jvm.Cond.code ({ cls := "TapTerminal$Settings", name := "typeFor", desc := "(ILTapTerminal$Row;)I" } : Jvm.MethodName) prog_9_method_4_code (3 : Nat) (Option.some Jvm.ClassFile.FieldType.int)) ∈ am_kw := am_in3 (List.mem_of_getElem? (i := 114) rfl) rfl
theorem qp_Settings_typeFor : am_qP q_Settings_typeFor := ⟨rfl, kw_3_114, kw_1_7, by decide +kernel, by decide +kernel, by decide +kernel, by decide +kernel, by decide +kernel⟩
theorem kw_3_88 : (Jvm.Cond.code ({ cls := "TapTerminal$Settings", name := "isSigned", desc := "(LTapTerminal$Items;)Z" } : Jvm.MethodName) prog_9_method_5_code (4 : Nat) (Option.some Jvm.ClassFile.FieldType.boolean)) ∈ am_kw := am_in3 (List.mem_of_getElem? (i := 88) rfl) rfl
theorem qp_Settings_isSigned : am_qP q_Settings_isSigned := ⟨rfl, kw_3_88, kw_1_7, by decide +kernel, by decide +kernel, by decide +kernel, by decide +kernel, by decide +kernel⟩
theorem kw_3_103 : (Jvm.Cond.code ({ cls := "TapTerminal$Settings", name := "someWayGoes", desc := "(LTapTerminal$Row;Z)Z" } : Jvm.MethodName) prog_9_method_6_code (5 : Nat) (Option.some Jvm.ClassFile.FieldType.boolean)) ∈ am_kw := am_in3 (List.mem_of_getElem? (i := 103) rfl) rfl
theorem qp_Settings_someWayGoes : am_qP q_Settings_someWayGoes := ⟨rfl, kw_3_103, kw_1_7, by decide +kernel, by decide +kernel, by decide +kernel, by decide +kernel, by decide +kernel⟩
theorem kw_3_106 : (Jvm.Cond.code ({ cls := "TapTerminal$Settings", name := "isNow", desc := "(IZ)Z" } : Jvm.MethodName) prog_9_method_7_code (2 : Nat) (Option.some Jvm.ClassFile.FieldType.boolean)) ∈ am_kw := am_in3 (List.mem_of_getElem? (i := 106) rfl) rfl
theorem qp_Settings_isNow : am_qP q_Settings_isNow := ⟨rfl, kw_3_106, kw_1_7, by decide +kernel, by decide +kernel, by decide +kernel, by decide +kernel, by decide +kernel⟩
theorem kw_3_110 : (Jvm.Cond.code ({ cls := "TapTerminal$Settings", name := "hasWay", desc := "(I)Z" } : Jvm.MethodName) prog_9_method_8_code (2 : Nat) (Option.some Jvm.ClassFile.FieldType.boolean)) ∈ am_kw := am_in3 (List.mem_of_getElem? (i := 110) rfl) rfl
theorem qp_Settings_hasWay : am_qP q_Settings_hasWay := ⟨rfl, kw_3_110, kw_1_7, by decide +kernel, by decide +kernel, by decide +kernel, by decide +kernel, by decide +kernel⟩
theorem kw_2_29 : (Jvm.Cond.code ({ cls := "TapTerminal$Report", name := "<init>", desc := "()V" } : Jvm.MethodName) prog_7_method_1_code (1 : Nat) (Option.none : Option Jvm.ClassFile.FieldType)) ∈ am_kw := am_in2 (List.mem_of_getElem? (i := 29) rfl) rfl
theorem kw_1_9 : (Jvm.Cond.initialized "TapTerminal$Report") ∈ am_kw := am_in1 (List.mem_of_getElem? (i := 9) rfl) rfl
theorem qp_Report_init : am_qP q_Report_init := ⟨rfl, kw_2_29, kw_1_9, by decide +kernel, by decide +kernel, by decide +kernel, by decide +kernel, by decide +kernel⟩
theorem kw_2_34 : (Jvm.Cond.code ({ cls := "TapTerminal$Report", name := "clear", desc := "()V" } : Jvm.MethodName) prog_7_method_2_code (1 : Nat) (Option.none : Option Jvm.ClassFile.FieldType)) ∈ am_kw := am_in2 (List.mem_of_getElem? (i := 34) rfl) rfl
theorem qp_Report_clear : am_qP q_Report_clear := ⟨rfl, kw_2_34, kw_1_9, by decide +kernel, by decide +kernel, by decide +kernel, by decide +kernel, by decide +kernel⟩
theorem kw_1_16 : (Jvm.Cond.code ({ cls := "TapTerminal", name := "<init>", desc := "()V" } : Jvm.MethodName) prog_1_method_1_code (1 : Nat) (Option.none : Option Jvm.ClassFile.FieldType)) ∈ am_kw := am_in1 (List.mem_of_getElem? (i := 16) rfl) rfl
theorem kw_1_1 : (Jvm.Cond.initialized "TapTerminal") ∈ am_kw := am_in1 (List.mem_of_getElem? (i := 1) rfl) rfl
theorem qp_Tap_init : am_qP q_Tap_init := ⟨rfl, kw_1_16, kw_1_1, by decide +kernel, by decide +kernel, by decide +kernel, by decide +kernel, by decide +kernel⟩
theorem kw_2_92 : (Jvm.Cond.code ({ cls := "TapTerminal", name := "card", desc := "(IIIII)Z" } : Jvm.MethodName) prog_1_method_2_code (7 : Nat) (Option.some Jvm.ClassFile.FieldType.boolean)) ∈ am_kw := am_in2 (List.mem_of_getElem? (i := 92) rfl) rfl
theorem qp_Tap_card : am_qP q_Tap_card := ⟨rfl, kw_2_92, kw_1_1, by decide +kernel, by decide +kernel, by decide +kernel, by decide +kernel, by decide +kernel⟩
theorem kw_2_111 : (Jvm.Cond.code ({ cls := "TapTerminal", name := "allow", desc := "(III)Z" } : Jvm.MethodName) prog_1_method_3_code (5 : Nat) (Option.some Jvm.ClassFile.FieldType.boolean)) ∈ am_kw := am_in2 (List.mem_of_getElem? (i := 111) rfl) rfl
theorem qp_Tap_allow : am_qP q_Tap_allow := ⟨rfl, kw_2_111, kw_1_1, by decide +kernel, by decide +kernel, by decide +kernel, by decide +kernel, by decide +kernel⟩
theorem kw_2_119 : (Jvm.Cond.code ({ cls := "TapTerminal", name := "write", desc := "(III)I" } : Jvm.MethodName) prog_1_method_4_code (5 : Nat) (Option.some Jvm.ClassFile.FieldType.int)) ∈ am_kw := am_in2 (List.mem_of_getElem? (i := 119) rfl) rfl
theorem qp_Tap_write : am_qP q_Tap_write := ⟨rfl, kw_2_119, kw_1_1, by decide +kernel, by decide +kernel, by decide +kernel, by decide +kernel, by decide +kernel⟩
theorem kw_2_127 : (Jvm.Cond.code ({ cls := "TapTerminal", name := "field", desc := "(IZ)Z" } : Jvm.MethodName) prog_1_method_5_code (3 : Nat) (Option.some Jvm.ClassFile.FieldType.boolean)) ∈ am_kw := am_in2 (List.mem_of_getElem? (i := 127) rfl) rfl
theorem qp_Tap_field : am_qP q_Tap_field := ⟨rfl, kw_2_127, kw_1_1, by decide +kernel, by decide +kernel, by decide +kernel, by decide +kernel, by decide +kernel⟩
theorem kw_2_135 : (Jvm.Cond.code ({ cls := "TapTerminal", name := "terminal", desc := "(IIIZI)Z" } : Jvm.MethodName) prog_1_method_6_code (7 : Nat) (Option.some Jvm.ClassFile.FieldType.boolean)) ∈ am_kw := am_in2 (List.mem_of_getElem? (i := 135) rfl) rfl
theorem qp_Tap_terminal : am_qP q_Tap_terminal := ⟨rfl, kw_2_135, kw_1_1, by decide +kernel, by decide +kernel, by decide +kernel, by decide +kernel, by decide +kernel⟩
theorem kw_2_139 : (Jvm.Cond.code ({ cls := "TapTerminal", name := "takes", desc := "(I)Z" } : Jvm.MethodName) prog_1_method_7_code (3 : Nat) (Option.some Jvm.ClassFile.FieldType.boolean)) ∈ am_kw := am_in2 (List.mem_of_getElem? (i := 139) rfl) rfl
theorem qp_Tap_takes : am_qP q_Tap_takes := ⟨rfl, kw_2_139, kw_1_1, by decide +kernel, by decide +kernel, by decide +kernel, by decide +kernel, by decide +kernel⟩
theorem kw_2_143 : (Jvm.Cond.code ({ cls := "TapTerminal", name := "fault", desc := "(II)I" } : Jvm.MethodName) prog_1_method_8_code (4 : Nat) (Option.some Jvm.ClassFile.FieldType.int)) ∈ am_kw := am_in2 (List.mem_of_getElem? (i := 143) rfl) rfl
theorem qp_Tap_fault : am_qP q_Tap_fault := ⟨rfl, kw_2_143, kw_1_1, by decide +kernel, by decide +kernel, by decide +kernel, by decide +kernel, by decide +kernel⟩
theorem kw_2_147 : (Jvm.Cond.code ({ cls := "TapTerminal", name := "run", desc := "(III)I" } : Jvm.MethodName) prog_1_method_9_code (5 : Nat) (Option.some Jvm.ClassFile.FieldType.int)) ∈ am_kw := am_in2 (List.mem_of_getElem? (i := 147) rfl) rfl
theorem qp_Tap_run : am_qP q_Tap_run := ⟨rfl, kw_2_147, kw_1_1, by decide +kernel, by decide +kernel, by decide +kernel, by decide +kernel, by decide +kernel⟩
theorem kw_3_120 : (Jvm.Cond.code ({ cls := "TapTerminal", name := "told", desc := "(I)I" } : Jvm.MethodName) prog_1_method_10_code (2 : Nat) (Option.some Jvm.ClassFile.FieldType.int)) ∈ am_kw := am_in3 (List.mem_of_getElem? (i := 120) rfl) rfl
theorem qp_Tap_told : am_qP q_Tap_told := ⟨rfl, kw_3_120, kw_1_1, by decide +kernel, by decide +kernel, by decide +kernel, by decide +kernel, by decide +kernel⟩
theorem kw_3_124 : (Jvm.Cond.code ({ cls := "TapTerminal", name := "exchange", desc := "(II)I" } : Jvm.MethodName) prog_1_method_11_code (4 : Nat) (Option.some Jvm.ClassFile.FieldType.int)) ∈ am_kw := am_in3 (List.mem_of_getElem? (i := 124) rfl) rfl
theorem qp_Tap_exchange : am_qP q_Tap_exchange := ⟨rfl, kw_3_124, kw_1_1, by decide +kernel, by decide +kernel, by decide +kernel, by decide +kernel, by decide +kernel⟩
theorem kw_3_128 : (Jvm.Cond.code ({ cls := "TapTerminal", name := "look", desc := "(II)I" } : Jvm.MethodName) prog_1_method_12_code (4 : Nat) (Option.some Jvm.ClassFile.FieldType.int)) ∈ am_kw := am_in3 (List.mem_of_getElem? (i := 128) rfl) rfl
theorem qp_Tap_look : am_qP q_Tap_look := ⟨rfl, kw_3_128, kw_1_1, by decide +kernel, by decide +kernel, by decide +kernel, by decide +kernel, by decide +kernel⟩
theorem kw_3_133 : (Jvm.Cond.code ({ cls := "TapTerminal", name := "mix", desc := "(IIIII)I" } : Jvm.MethodName) prog_1_method_13_code (6 : Nat) (Option.some Jvm.ClassFile.FieldType.int)) ∈ am_kw := am_in3 (List.mem_of_getElem? (i := 133) rfl) rfl
theorem qp_Tap_mix : am_qP q_Tap_mix := ⟨rfl, kw_3_133, kw_1_1, by decide +kernel, by decide +kernel, by decide +kernel, by decide +kernel, by decide +kernel⟩
theorem kw_2_160 : (Jvm.Cond.code ({ cls := "TapTerminal", name := "chooseCard", desc := "()I" } : Jvm.MethodName) prog_1_method_14_code (3 : Nat) (Option.some Jvm.ClassFile.FieldType.int)) ∈ am_kw := am_in2 (List.mem_of_getElem? (i := 160) rfl) rfl
theorem qp_Tap_chooseCard : am_qP q_Tap_chooseCard := ⟨rfl, kw_2_160, kw_1_1, by decide +kernel, by decide +kernel, by decide +kernel, by decide +kernel, by decide +kernel⟩
theorem kw_3_53 : (Jvm.Cond.code ({ cls := "TapTerminal", name := "readRecords", desc := "(I)I" } : Jvm.MethodName) prog_1_method_15_code (4 : Nat) (Option.some Jvm.ClassFile.FieldType.int)) ∈ am_kw := am_in3 (List.mem_of_getElem? (i := 53) rfl) rfl
theorem qp_Tap_readRecords : am_qP q_Tap_readRecords := ⟨rfl, kw_3_53, kw_1_1, by decide +kernel, by decide +kernel, by decide +kernel, by decide +kernel, by decide +kernel⟩
theorem kw_3_80 : (Jvm.Cond.code ({ cls := "TapTerminal", name := "settle", desc := "(III)I" } : Jvm.MethodName) prog_1_method_16_code (4 : Nat) (Option.some Jvm.ClassFile.FieldType.int)) ∈ am_kw := am_in3 (List.mem_of_getElem? (i := 80) rfl) rfl
theorem qp_Tap_settle : am_qP q_Tap_settle := ⟨rfl, kw_3_80, kw_1_1, by decide +kernel, by decide +kernel, by decide +kernel, by decide +kernel, by decide +kernel⟩
theorem kw_2_203 : (Jvm.Cond.code ({ cls := "TapTerminal", name := "startCommand", desc := "(I)V" } : Jvm.MethodName) prog_1_method_17_code (2 : Nat) (Option.none : Option Jvm.ClassFile.FieldType)) ∈ am_kw := am_in2 (List.mem_of_getElem? (i := 203) rfl) rfl
theorem qp_Tap_startCommand : am_qP q_Tap_startCommand := ⟨rfl, kw_2_203, kw_1_1, by decide +kernel, by decide +kernel, by decide +kernel, by decide +kernel, by decide +kernel⟩
theorem kw_2_115 : (Jvm.Cond.code ({ cls := "TapTerminal", name := "isCard", desc := "(I)Z" } : Jvm.MethodName) prog_1_method_18_code (2 : Nat) (Option.some Jvm.ClassFile.FieldType.boolean)) ∈ am_kw := am_in2 (List.mem_of_getElem? (i := 115) rfl) rfl
theorem qp_Tap_isCard : am_qP q_Tap_isCard := ⟨rfl, kw_2_115, kw_1_1, by decide +kernel, by decide +kernel, by decide +kernel, by decide +kernel, by decide +kernel⟩
theorem kw_2_95 : (Jvm.Cond.code ({ cls := "TapTerminal", name := "isWithin", desc := "(II)Z" } : Jvm.MethodName) prog_1_method_19_code (2 : Nat) (Option.some Jvm.ClassFile.FieldType.boolean)) ∈ am_kw := am_in2 (List.mem_of_getElem? (i := 95) rfl) rfl
theorem qp_Tap_isWithin : am_qP q_Tap_isWithin := ⟨rfl, kw_2_95, kw_1_1, by decide +kernel, by decide +kernel, by decide +kernel, by decide +kernel, by decide +kernel⟩
theorem kw_2_98 : (Jvm.Cond.code ({ cls := "TapTerminal", name := "isOctet", desc := "(I)Z" } : Jvm.MethodName) prog_1_method_20_code (1 : Nat) (Option.some Jvm.ClassFile.FieldType.boolean)) ∈ am_kw := am_in2 (List.mem_of_getElem? (i := 98) rfl) rfl
theorem qp_Tap_isOctet : am_qP q_Tap_isOctet := ⟨rfl, kw_2_98, kw_1_1, by decide +kernel, by decide +kernel, by decide +kernel, by decide +kernel, by decide +kernel⟩
theorem kw_3_34 : (Jvm.Cond.code ({ cls := "TapTerminal", name := "stir", desc := "(II)I" } : Jvm.MethodName) prog_1_method_21_code (3 : Nat) (Option.some Jvm.ClassFile.FieldType.int)) ∈ am_kw := am_in3 (List.mem_of_getElem? (i := 34) rfl) rfl
theorem qp_Tap_stir : am_qP q_Tap_stir := ⟨rfl, kw_3_34, kw_1_1, by decide +kernel, by decide +kernel, by decide +kernel, by decide +kernel, by decide +kernel⟩
theorem kw_3_139 : (Jvm.Cond.code ({ cls := "TapTerminalModel", name := "<init>", desc := "()V" } : Jvm.MethodName) prog_11_method_1_code (1 : Nat) (Option.none : Option Jvm.ClassFile.FieldType)) ∈ am_kw := am_in3 (List.mem_of_getElem? (i := 139) rfl) rfl
theorem kw_1_10 : (Jvm.Cond.initialized "TapTerminalModel") ∈ am_kw := am_in1 (List.mem_of_getElem? (i := 10) rfl) rfl
theorem qp_Mod_init : am_qP q_Mod_init := ⟨rfl, kw_3_139, kw_1_10, by decide +kernel, by decide +kernel, by decide +kernel, by decide +kernel, by decide +kernel⟩
theorem kw_4_70 : (Jvm.Cond.code ({ cls := "TapTerminalModel", name := "is", desc := "(III)Z" } : Jvm.MethodName) prog_11_method_2_code (3 : Nat) (Option.some Jvm.ClassFile.FieldType.boolean)) ∈ am_kw := am_in4 (List.mem_of_getElem? (i := 70) rfl) rfl
theorem qp_Mod_is : am_qP q_Mod_is := ⟨rfl, kw_4_70, kw_1_10, by decide +kernel, by decide +kernel, by decide +kernel, by decide +kernel, by decide +kernel⟩
theorem kw_4_79 : (Jvm.Cond.code ({ cls := "TapTerminalModel", name := "isCard", desc := "(I)Z" } : Jvm.MethodName) prog_11_method_3_code (2 : Nat) (Option.some Jvm.ClassFile.FieldType.boolean)) ∈ am_kw := am_in4 (List.mem_of_getElem? (i := 79) rfl) rfl
theorem qp_Mod_isCard : am_qP q_Mod_isCard := ⟨rfl, kw_4_79, kw_1_10, by decide +kernel, by decide +kernel, by decide +kernel, by decide +kernel, by decide +kernel⟩
theorem kw_4_159 : (Jvm.Cond.code ({ cls := "TapTerminalModel", name := "stir", desc := "(II)I" } : Jvm.MethodName) prog_11_method_4_code (3 : Nat) (Option.some Jvm.ClassFile.FieldType.int)) ∈ am_kw := am_in4 (List.mem_of_getElem? (i := 159) rfl) rfl
theorem qp_Mod_stir : am_qP q_Mod_stir := ⟨rfl, kw_4_159, kw_1_10, by decide +kernel, by decide +kernel, by decide +kernel, by decide +kernel, by decide +kernel⟩
theorem kw_4_67 : (Jvm.Cond.code ({ cls := "TapTerminalModel", name := "card", desc := "(IIIII)Z" } : Jvm.MethodName) prog_11_method_5_code (7 : Nat) (Option.some Jvm.ClassFile.FieldType.boolean)) ∈ am_kw := am_in4 (List.mem_of_getElem? (i := 67) rfl) rfl
theorem qp_Mod_card : am_qP q_Mod_card := ⟨rfl, kw_4_67, kw_1_10, by decide +kernel, by decide +kernel, by decide +kernel, by decide +kernel, by decide +kernel⟩
theorem kw_4_75 : (Jvm.Cond.code ({ cls := "TapTerminalModel", name := "allow", desc := "(III)Z" } : Jvm.MethodName) prog_11_method_6_code (4 : Nat) (Option.some Jvm.ClassFile.FieldType.boolean)) ∈ am_kw := am_in4 (List.mem_of_getElem? (i := 75) rfl) rfl
theorem qp_Mod_allow : am_qP q_Mod_allow := ⟨rfl, kw_4_75, kw_1_10, by decide +kernel, by decide +kernel, by decide +kernel, by decide +kernel, by decide +kernel⟩
theorem kw_4_83 : (Jvm.Cond.code ({ cls := "TapTerminalModel", name := "write", desc := "(III)I" } : Jvm.MethodName) prog_11_method_7_code (5 : Nat) (Option.some Jvm.ClassFile.FieldType.int)) ∈ am_kw := am_in4 (List.mem_of_getElem? (i := 83) rfl) rfl
theorem qp_Mod_write : am_qP q_Mod_write := ⟨rfl, kw_4_83, kw_1_10, by decide +kernel, by decide +kernel, by decide +kernel, by decide +kernel, by decide +kernel⟩
theorem kw_4_87 : (Jvm.Cond.code ({ cls := "TapTerminalModel", name := "field", desc := "(IZ)Z" } : Jvm.MethodName) prog_11_method_8_code (4 : Nat) (Option.some Jvm.ClassFile.FieldType.boolean)) ∈ am_kw := am_in4 (List.mem_of_getElem? (i := 87) rfl) rfl
theorem qp_Mod_field : am_qP q_Mod_field := ⟨rfl, kw_4_87, kw_1_10, by decide +kernel, by decide +kernel, by decide +kernel, by decide +kernel, by decide +kernel⟩
theorem kw_4_91 : (Jvm.Cond.code ({ cls := "TapTerminalModel", name := "terminal", desc := "(IIIZI)Z" } : Jvm.MethodName) prog_11_method_9_code (6 : Nat) (Option.some Jvm.ClassFile.FieldType.boolean)) ∈ am_kw := am_in4 (List.mem_of_getElem? (i := 91) rfl) rfl
theorem qp_Mod_terminal : am_qP q_Mod_terminal := ⟨rfl, kw_4_91, kw_1_10, by decide +kernel, by decide +kernel, by decide +kernel, by decide +kernel, by decide +kernel⟩
theorem kw_4_95 : (Jvm.Cond.code ({ cls := "TapTerminalModel", name := "takes", desc := "(I)Z" } : Jvm.MethodName) prog_11_method_10_code (2 : Nat) (Option.some Jvm.ClassFile.FieldType.boolean)) ∈ am_kw := am_in4 (List.mem_of_getElem? (i := 95) rfl) rfl
theorem qp_Mod_takes : am_qP q_Mod_takes := ⟨rfl, kw_4_95, kw_1_10, by decide +kernel, by decide +kernel, by decide +kernel, by decide +kernel, by decide +kernel⟩
theorem kw_4_99 : (Jvm.Cond.code ({ cls := "TapTerminalModel", name := "fault", desc := "(II)I" } : Jvm.MethodName) prog_11_method_11_code (4 : Nat) (Option.some Jvm.ClassFile.FieldType.int)) ∈ am_kw := am_in4 (List.mem_of_getElem? (i := 99) rfl) rfl
theorem qp_Mod_fault : am_qP q_Mod_fault := ⟨rfl, kw_4_99, kw_1_10, by decide +kernel, by decide +kernel, by decide +kernel, by decide +kernel, by decide +kernel⟩
theorem kw_4_115 : (Jvm.Cond.code ({ cls := "TapTerminalModel", name := "faultNow", desc := "()I" } : Jvm.MethodName) prog_11_method_12_code (1 : Nat) (Option.some Jvm.ClassFile.FieldType.int)) ∈ am_kw := am_in4 (List.mem_of_getElem? (i := 115) rfl) rfl
theorem qp_Mod_faultNow : am_qP q_Mod_faultNow := ⟨rfl, kw_4_115, kw_1_10, by decide +kernel, by decide +kernel, by decide +kernel, by decide +kernel, by decide +kernel⟩
theorem kw_4_119 : (Jvm.Cond.code ({ cls := "TapTerminalModel", name := "note", desc := "(IIZ)Z" } : Jvm.MethodName) prog_11_method_13_code (4 : Nat) (Option.some Jvm.ClassFile.FieldType.boolean)) ∈ am_kw := am_in4 (List.mem_of_getElem? (i := 119) rfl) rfl
theorem qp_Mod_note : am_qP q_Mod_note := ⟨rfl, kw_4_119, kw_1_10, by decide +kernel, by decide +kernel, by decide +kernel, by decide +kernel, by decide +kernel⟩
theorem kw_4_139 : (Jvm.Cond.code ({ cls := "TapTerminalModel", name := "saySize", desc := "()I" } : Jvm.MethodName) prog_11_method_14_code (2 : Nat) (Option.some Jvm.ClassFile.FieldType.int)) ∈ am_kw := am_in4 (List.mem_of_getElem? (i := 139) rfl) rfl
theorem qp_Mod_saySize : am_qP q_Mod_saySize := ⟨rfl, kw_4_139, kw_1_10, by decide +kernel, by decide +kernel, by decide +kernel, by decide +kernel, by decide +kernel⟩
theorem kw_4_135 : (Jvm.Cond.code ({ cls := "TapTerminalModel", name := "hear", desc := "(IIIIZ)V" } : Jvm.MethodName) prog_11_method_15_code (7 : Nat) (Option.none : Option Jvm.ClassFile.FieldType)) ∈ am_kw := am_in4 (List.mem_of_getElem? (i := 135) rfl) rfl
theorem qp_Mod_hear : am_qP q_Mod_hear := ⟨rfl, kw_4_135, kw_1_10, by decide +kernel, by decide +kernel, by decide +kernel, by decide +kernel, by decide +kernel⟩
theorem kw_4_155 : (Jvm.Cond.code ({ cls := "TapTerminalModel", name := "four", desc := "(I)I" } : Jvm.MethodName) prog_11_method_16_code (2 : Nat) (Option.some Jvm.ClassFile.FieldType.int)) ∈ am_kw := am_in4 (List.mem_of_getElem? (i := 155) rfl) rfl
theorem qp_Mod_four : am_qP q_Mod_four := ⟨rfl, kw_4_155, kw_1_10, by decide +kernel, by decide +kernel, by decide +kernel, by decide +kernel, by decide +kernel⟩
theorem kw_4_143 : (Jvm.Cond.code ({ cls := "TapTerminalModel", name := "command", desc := "()V" } : Jvm.MethodName) prog_11_method_17_code (4 : Nat) (Option.none : Option Jvm.ClassFile.FieldType)) ∈ am_kw := am_in4 (List.mem_of_getElem? (i := 143) rfl) rfl
theorem qp_Mod_command : am_qP q_Mod_command := ⟨rfl, kw_4_143, kw_1_10, by decide +kernel, by decide +kernel, by decide +kernel, by decide +kernel, by decide +kernel⟩
theorem kw_4_147 : (Jvm.Cond.code ({ cls := "TapTerminalModel", name := "manyOf", desc := "(I)I" } : Jvm.MethodName) prog_11_method_18_code (3 : Nat) (Option.some Jvm.ClassFile.FieldType.int)) ∈ am_kw := am_in4 (List.mem_of_getElem? (i := 147) rfl) rfl
theorem qp_Mod_manyOf : am_qP q_Mod_manyOf := ⟨rfl, kw_4_147, kw_1_10, by decide +kernel, by decide +kernel, by decide +kernel, by decide +kernel, by decide +kernel⟩
theorem kw_4_151 : (Jvm.Cond.code ({ cls := "TapTerminalModel", name := "decide", desc := "(I)V" } : Jvm.MethodName) prog_11_method_19_code (7 : Nat) (Option.none : Option Jvm.ClassFile.FieldType)) ∈ am_kw := am_in4 (List.mem_of_getElem? (i := 151) rfl) rfl
theorem qp_Mod_decide : am_qP q_Mod_decide := ⟨rfl, kw_4_151, kw_1_10, by decide +kernel, by decide +kernel, by decide +kernel, by decide +kernel, by decide +kernel⟩
theorem kw_4_131 : (Jvm.Cond.code ({ cls := "TapTerminalModel", name := "talk", desc := "()Z" } : Jvm.MethodName) prog_11_method_20_code (9 : Nat) (Option.some Jvm.ClassFile.FieldType.boolean)) ∈ am_kw := am_in4 (List.mem_of_getElem? (i := 131) rfl) rfl
theorem qp_Mod_talk : am_qP q_Mod_talk := ⟨rfl, kw_4_131, kw_1_10, by decide +kernel, by decide +kernel, by decide +kernel, by decide +kernel, by decide +kernel⟩
theorem kw_4_168 : (Jvm.Cond.code ({ cls := "TapTerminalModel", name := "say", desc := "(II)V" } : Jvm.MethodName) prog_11_method_21_code (3 : Nat) (Option.none : Option Jvm.ClassFile.FieldType)) ∈ am_kw := am_in4 (List.mem_of_getElem? (i := 168) rfl) rfl
theorem qp_Mod_say : am_qP q_Mod_say := ⟨rfl, kw_4_168, kw_1_10, by decide +kernel, by decide +kernel, by decide +kernel, by decide +kernel, by decide +kernel⟩
theorem kw_4_164 : (Jvm.Cond.code ({ cls := "TapTerminalModel", name := "put", desc := "(I)V" } : Jvm.MethodName) prog_11_method_22_code (3 : Nat) (Option.none : Option Jvm.ClassFile.FieldType)) ∈ am_kw := am_in4 (List.mem_of_getElem? (i := 164) rfl) rfl
theorem qp_Mod_put : am_qP q_Mod_put := ⟨rfl, kw_4_164, kw_1_10, by decide +kernel, by decide +kernel, by decide +kernel, by decide +kernel, by decide +kernel⟩
theorem kw_4_111 : (Jvm.Cond.code ({ cls := "TapTerminalModel", name := "wake", desc := "()Z" } : Jvm.MethodName) prog_11_method_23_code (3 : Nat) (Option.some Jvm.ClassFile.FieldType.boolean)) ∈ am_kw := am_in4 (List.mem_of_getElem? (i := 111) rfl) rfl
theorem qp_Mod_wake : am_qP q_Mod_wake := ⟨rfl, kw_4_111, kw_1_10, by decide +kernel, by decide +kernel, by decide +kernel, by decide +kernel, by decide +kernel⟩
theorem kw_4_123 : (Jvm.Cond.code ({ cls := "TapTerminalModel", name := "ask", desc := "()I" } : Jvm.MethodName) prog_11_method_24_code (7 : Nat) (Option.some Jvm.ClassFile.FieldType.int)) ∈ am_kw := am_in4 (List.mem_of_getElem? (i := 123) rfl) rfl
theorem qp_Mod_ask : am_qP q_Mod_ask := ⟨rfl, kw_4_123, kw_1_10, by decide +kernel, by decide +kernel, by decide +kernel, by decide +kernel, by decide +kernel⟩
theorem kw_4_127 : (Jvm.Cond.code ({ cls := "TapTerminalModel", name := "call", desc := "(II)Z" } : Jvm.MethodName) prog_11_method_25_code (4 : Nat) (Option.some Jvm.ClassFile.FieldType.boolean)) ∈ am_kw := am_in4 (List.mem_of_getElem? (i := 127) rfl) rfl
theorem qp_Mod_call : am_qP q_Mod_call := ⟨rfl, kw_4_127, kw_1_10, by decide +kernel, by decide +kernel, by decide +kernel, by decide +kernel, by decide +kernel⟩
theorem kw_4_103 : (Jvm.Cond.code ({ cls := "TapTerminalModel", name := "run", desc := "(III)I" } : Jvm.MethodName) prog_11_method_26_code (5 : Nat) (Option.some Jvm.ClassFile.FieldType.int)) ∈ am_kw := am_in4 (List.mem_of_getElem? (i := 103) rfl) rfl
theorem qp_Mod_run : am_qP q_Mod_run := ⟨rfl, kw_4_103, kw_1_10, by decide +kernel, by decide +kernel, by decide +kernel, by decide +kernel, by decide +kernel⟩
theorem kw_4_107 : (Jvm.Cond.code ({ cls := "TapTerminalModel", name := "goes", desc := "(III)I" } : Jvm.MethodName) prog_11_method_27_code (7 : Nat) (Option.some Jvm.ClassFile.FieldType.int)) ∈ am_kw := am_in4 (List.mem_of_getElem? (i := 107) rfl) rfl
theorem qp_Mod_goes : am_qP q_Mod_goes := ⟨rfl, kw_4_107, kw_1_10, by decide +kernel, by decide +kernel, by decide +kernel, by decide +kernel, by decide +kernel⟩
theorem kw_4_172 : (Jvm.Cond.code ({ cls := "TapTerminalModel", name := "takeApart", desc := "(I)Z" } : Jvm.MethodName) prog_11_method_28_code (6 : Nat) (Option.some Jvm.ClassFile.FieldType.boolean)) ∈ am_kw := am_in4 (List.mem_of_getElem? (i := 172) rfl) rfl
theorem qp_Mod_takeApart : am_qP q_Mod_takeApart := ⟨rfl, kw_4_172, kw_1_10, by decide +kernel, by decide +kernel, by decide +kernel, by decide +kernel, by decide +kernel⟩
theorem kw_4_176 : (Jvm.Cond.code ({ cls := "TapTerminalModel", name := "items", desc := "(I)Z" } : Jvm.MethodName) prog_11_method_29_code (6 : Nat) (Option.some Jvm.ClassFile.FieldType.boolean)) ∈ am_kw := am_in4 (List.mem_of_getElem? (i := 176) rfl) rfl
theorem qp_Mod_items : am_qP q_Mod_items := ⟨rfl, kw_4_176, kw_1_10, by decide +kernel, by decide +kernel, by decide +kernel, by decide +kernel, by decide +kernel⟩
theorem kw_4_184 : (Jvm.Cond.code ({ cls := "TapTerminalModel", name := "item", desc := "(II)I" } : Jvm.MethodName) prog_11_method_30_code (3 : Nat) (Option.some Jvm.ClassFile.FieldType.int)) ∈ am_kw := am_in4 (List.mem_of_getElem? (i := 184) rfl) rfl
theorem qp_Mod_item : am_qP q_Mod_item := ⟨rfl, kw_4_184, kw_1_10, by decide +kernel, by decide +kernel, by decide +kernel, by decide +kernel, by decide +kernel⟩
theorem kw_4_180 : (Jvm.Cond.code ({ cls := "TapTerminalModel", name := "find", desc := "(III)V" } : Jvm.MethodName) prog_11_method_31_code (8 : Nat) (Option.none : Option Jvm.ClassFile.FieldType)) ∈ am_kw := am_in4 (List.mem_of_getElem? (i := 180) rfl) rfl
theorem qp_Mod_find : am_qP q_Mod_find := ⟨rfl, kw_4_180, kw_1_10, by decide +kernel, by decide +kernel, by decide +kernel, by decide +kernel, by decide +kernel⟩
theorem kw_4_188 : (Jvm.Cond.code ({ cls := "TapTerminalModel", name := "wayGoes", desc := "(I)Z" } : Jvm.MethodName) prog_11_method_32_code (7 : Nat) (Option.some Jvm.ClassFile.FieldType.boolean)) ∈ am_kw := am_in4 (List.mem_of_getElem? (i := 188) rfl) rfl
theorem qp_Mod_wayGoes : am_qP q_Mod_wayGoes := ⟨rfl, kw_4_188, kw_1_10, by decide +kernel, by decide +kernel, by decide +kernel, by decide +kernel, by decide +kernel⟩
theorem kw_4_192 : (Jvm.Cond.code ({ cls := "TapTerminalModel", name := "typeFor", desc := "()I" } : Jvm.MethodName) prog_11_method_33_code (1 : Nat) (Option.some Jvm.ClassFile.FieldType.int)) ∈ am_kw := am_in4 (List.mem_of_getElem? (i := 192) rfl) rfl
theorem qp_Mod_typeFor : am_qP q_Mod_typeFor := ⟨rfl, kw_4_192, kw_1_10, by decide +kernel, by decide +kernel, by decide +kernel, by decide +kernel, by decide +kernel⟩
theorem kw_4_196 : (Jvm.Cond.code ({ cls := "TapTerminalModel", name := "told", desc := "(I)I" } : Jvm.MethodName) prog_11_method_34_code (2 : Nat) (Option.some Jvm.ClassFile.FieldType.int)) ∈ am_kw := am_in4 (List.mem_of_getElem? (i := 196) rfl) rfl
theorem qp_Mod_told : am_qP q_Mod_told := ⟨rfl, kw_4_196, kw_1_10, by decide +kernel, by decide +kernel, by decide +kernel, by decide +kernel, by decide +kernel⟩
theorem kw_4_200 : (Jvm.Cond.code ({ cls := "TapTerminalModel", name := "exchange", desc := "(II)I" } : Jvm.MethodName) prog_11_method_35_code (3 : Nat) (Option.some Jvm.ClassFile.FieldType.int)) ∈ am_kw := am_in4 (List.mem_of_getElem? (i := 200) rfl) rfl
theorem qp_Mod_exchange : am_qP q_Mod_exchange := ⟨rfl, kw_4_200, kw_1_10, by decide +kernel, by decide +kernel, by decide +kernel, by decide +kernel, by decide +kernel⟩
theorem kw_4_204 : (Jvm.Cond.code ({ cls := "TapTerminalModel", name := "look", desc := "(II)I" } : Jvm.MethodName) prog_11_method_36_code (3 : Nat) (Option.some Jvm.ClassFile.FieldType.int)) ∈ am_kw := am_in4 (List.mem_of_getElem? (i := 204) rfl) rfl
theorem qp_Mod_look : am_qP q_Mod_look := ⟨rfl, kw_4_204, kw_1_10, by decide +kernel, by decide +kernel, by decide +kernel, by decide +kernel, by decide +kernel⟩
theorem kw_4_208 : (Jvm.Cond.code ({ cls := "TapTerminalModel", name := "mix", desc := "(IIIII)I" } : Jvm.MethodName) prog_11_method_37_code (7 : Nat) (Option.some Jvm.ClassFile.FieldType.int)) ∈ am_kw := am_in4 (List.mem_of_getElem? (i := 208) rfl) rfl
theorem qp_Mod_mix : am_qP q_Mod_mix := ⟨rfl, kw_4_208, kw_1_10, by decide +kernel, by decide +kernel, by decide +kernel, by decide +kernel, by decide +kernel⟩
set_option maxRecDepth 20000 in
theorem am_ms_all : ∀ q ∈ am_ms, am_qP q := List.forall_mem_cons.mpr ⟨qp_Row_init, List.forall_mem_cons.mpr ⟨qp_Row_clear, List.forall_mem_cons.mpr ⟨qp_Row_add, List.forall_mem_cons.mpr ⟨qp_Row_addInt, List.forall_mem_cons.mpr ⟨qp_Row_addPart, List.forall_mem_cons.mpr ⟨qp_Row_at, List.forall_mem_cons.mpr ⟨qp_Row_pairAt, List.forall_mem_cons.mpr ⟨qp_Row_intAt, List.forall_mem_cons.mpr ⟨qp_Row_stirInto, List.forall_mem_cons.mpr ⟨qp_Block_init, List.forall_mem_cons.mpr ⟨qp_Block_becomePlain, List.forall_mem_cons.mpr ⟨qp_Block_becomePart, List.forall_mem_cons.mpr ⟨qp_Card_init, List.forall_mem_cons.mpr ⟨qp_Card_renew, List.forall_mem_cons.mpr ⟨qp_Card_countRecords, List.forall_mem_cons.mpr ⟨qp_Card_beginsWith, List.forall_mem_cons.mpr ⟨qp_Card_hearCall, List.forall_mem_cons.mpr ⟨qp_Card_hearBlock, List.forall_mem_cons.mpr ⟨qp_Card_obey, List.forall_mem_cons.mpr ⟨qp_Card_addRecord, List.forall_mem_cons.mpr ⟨qp_Card_decide, List.forall_mem_cons.mpr ⟨qp_Card_mixtureOf, List.forall_mem_cons.mpr ⟨qp_Journal_init, List.forall_mem_cons.mpr ⟨qp_Journal_clear, List.forall_mem_cons.mpr ⟨qp_Journal_nextFault, List.forall_mem_cons.mpr ⟨qp_Journal_note, List.forall_mem_cons.mpr ⟨qp_Air_init, List.forall_mem_cons.mpr ⟨qp_Air_isAddressTaken, List.forall_mem_cons.mpr ⟨qp_Air_begin, List.forall_mem_cons.mpr ⟨qp_Air_wake, List.forall_mem_cons.mpr ⟨qp_Air_findAddress, List.forall_mem_cons.mpr ⟨qp_Air_select, List.forall_mem_cons.mpr ⟨qp_Air_putOff, List.forall_mem_cons.mpr ⟨qp_Air_transmit, List.forall_mem_cons.mpr ⟨qp_Air_prepare, List.forall_mem_cons.mpr ⟨qp_Air_gather, List.forall_mem_cons.mpr ⟨qp_Air_call, List.forall_mem_cons.mpr ⟨qp_Air_leadingZeros, List.forall_mem_cons.mpr ⟨qp_Items_init, List.forall_mem_cons.mpr ⟨qp_Items_clear, List.forall_mem_cons.mpr ⟨qp_Items_take, List.forall_mem_cons.mpr ⟨qp_Items_takePart, List.forall_mem_cons.mpr ⟨qp_Items_keepFirst, List.forall_mem_cons.mpr ⟨qp_Items_isLength, List.forall_mem_cons.mpr ⟨qp_Settings_init, List.forall_mem_cons.mpr ⟨qp_Settings_takesApplication, List.forall_mem_cons.mpr ⟨qp_Settings_findingsOf, List.forall_mem_cons.mpr ⟨qp_Settings_typeFor, List.forall_mem_cons.mpr ⟨qp_Settings_isSigned, List.forall_mem_cons.mpr ⟨qp_Settings_someWayGoes, List.forall_mem_cons.mpr ⟨qp_Settings_isNow, List.forall_mem_cons.mpr ⟨qp_Settings_hasWay, List.forall_mem_cons.mpr ⟨qp_Report_init, List.forall_mem_cons.mpr ⟨qp_Report_clear, List.forall_mem_cons.mpr ⟨qp_Tap_init, List.forall_mem_cons.mpr ⟨qp_Tap_card, List.forall_mem_cons.mpr ⟨qp_Tap_allow, List.forall_mem_cons.mpr ⟨qp_Tap_write, List.forall_mem_cons.mpr ⟨qp_Tap_field, List.forall_mem_cons.mpr ⟨qp_Tap_terminal, List.forall_mem_cons.mpr ⟨qp_Tap_takes, List.forall_mem_cons.mpr ⟨qp_Tap_fault, List.forall_mem_cons.mpr ⟨qp_Tap_run, List.forall_mem_cons.mpr ⟨qp_Tap_told, List.forall_mem_cons.mpr ⟨qp_Tap_exchange, List.forall_mem_cons.mpr ⟨qp_Tap_look, List.forall_mem_cons.mpr ⟨qp_Tap_mix, List.forall_mem_cons.mpr ⟨qp_Tap_chooseCard, List.forall_mem_cons.mpr ⟨qp_Tap_readRecords, List.forall_mem_cons.mpr ⟨qp_Tap_settle, List.forall_mem_cons.mpr ⟨qp_Tap_startCommand, List.forall_mem_cons.mpr ⟨qp_Tap_isCard, List.forall_mem_cons.mpr ⟨qp_Tap_isWithin, List.forall_mem_cons.mpr ⟨qp_Tap_isOctet, List.forall_mem_cons.mpr ⟨qp_Tap_stir, List.forall_mem_cons.mpr ⟨qp_Mod_init, List.forall_mem_cons.mpr ⟨qp_Mod_is, List.forall_mem_cons.mpr ⟨qp_Mod_isCard, List.forall_mem_cons.mpr ⟨qp_Mod_stir, List.forall_mem_cons.mpr ⟨qp_Mod_card, List.forall_mem_cons.mpr ⟨qp_Mod_allow, List.forall_mem_cons.mpr ⟨qp_Mod_write, List.forall_mem_cons.mpr ⟨qp_Mod_field, List.forall_mem_cons.mpr ⟨qp_Mod_terminal, List.forall_mem_cons.mpr ⟨qp_Mod_takes, List.forall_mem_cons.mpr ⟨qp_Mod_fault, List.forall_mem_cons.mpr ⟨qp_Mod_faultNow, List.forall_mem_cons.mpr ⟨qp_Mod_note, List.forall_mem_cons.mpr ⟨qp_Mod_saySize, List.forall_mem_cons.mpr ⟨qp_Mod_hear, List.forall_mem_cons.mpr ⟨qp_Mod_four, List.forall_mem_cons.mpr ⟨qp_Mod_command, List.forall_mem_cons.mpr ⟨qp_Mod_manyOf, List.forall_mem_cons.mpr ⟨qp_Mod_decide, List.forall_mem_cons.mpr ⟨qp_Mod_talk, List.forall_mem_cons.mpr ⟨qp_Mod_say, List.forall_mem_cons.mpr ⟨qp_Mod_put, List.forall_mem_cons.mpr ⟨qp_Mod_wake, List.forall_mem_cons.mpr ⟨qp_Mod_ask, List.forall_mem_cons.mpr ⟨qp_Mod_call, List.forall_mem_cons.mpr ⟨qp_Mod_run, List.forall_mem_cons.mpr ⟨qp_Mod_goes, List.forall_mem_cons.mpr ⟨qp_Mod_takeApart, List.forall_mem_cons.mpr ⟨qp_Mod_items, List.forall_mem_cons.mpr ⟨qp_Mod_item, List.forall_mem_cons.mpr ⟨qp_Mod_find, List.forall_mem_cons.mpr ⟨qp_Mod_wayGoes, List.forall_mem_cons.mpr ⟨qp_Mod_typeFor, List.forall_mem_cons.mpr ⟨qp_Mod_told, List.forall_mem_cons.mpr ⟨qp_Mod_exchange, List.forall_mem_cons.mpr ⟨qp_Mod_look, List.forall_mem_cons.mpr ⟨qp_Mod_mix, fun _ h => absurd h List.not_mem_nil⟩⟩⟩⟩⟩⟩⟩⟩⟩⟩⟩⟩⟩⟩⟩⟩⟩⟩⟩⟩⟩⟩⟩⟩⟩⟩⟩⟩⟩⟩⟩⟩⟩⟩⟩⟩⟩⟩⟩⟩⟩⟩⟩⟩⟩⟩⟩⟩⟩⟩⟩⟩⟩⟩⟩⟩⟩⟩⟩⟩⟩⟩⟩⟩⟩⟩⟩⟩⟩⟩⟩⟩⟩⟩⟩⟩⟩⟩⟩⟩⟩⟩⟩⟩⟩⟩⟩⟩⟩⟩⟩⟩⟩⟩⟩⟩⟩⟩⟩⟩⟩⟩⟩⟩⟩⟩⟩⟩⟩⟩⟩⟩
theorem am_ms_ok : ∀ (y : Nat) (q : am_M), am_ms[y]? = some q → am_qP q := fun _ q h => am_ms_all q (List.mem_of_getElem? h)
def am_nest : List Jvm.Cond := [(Jvm.Cond.methodLinkNest "TapTerminal$Card" (138 : Nat) ({ cls := "TapTerminal", name := "isWithin", desc := "(II)Z" } : Jvm.MethodName) "TapTerminal"), (Jvm.Cond.methodLinkNest "TapTerminal$Card" (143 : Nat) ({ cls := "TapTerminal", name := "stir", desc := "(II)I" } : Jvm.MethodName) "TapTerminal"), (Jvm.Cond.methodLinkNest "TapTerminal$Row" (25 : Nat) ({ cls := "TapTerminal", name := "stir", desc := "(II)I" } : Jvm.MethodName) "TapTerminal")]
def am_isN (w : Jvm.Cond) : Bool := match w with
  | .fieldLinkNest .. => true
  | .methodLinkNest .. => true
  | _ => false
theorem am_nest_ok : ∀ w ∈ am_nest, am_isN w = true := by decide +kernel
theorem nt_0 : (Jvm.Cond.methodLinkNest "TapTerminal$Card" (138 : Nat) ({ cls := "TapTerminal", name := "isWithin", desc := "(II)Z" } : Jvm.MethodName) "TapTerminal") ∈ lw_tbl := List.mem_append_right _ (List.mem_append_right _ (List.mem_append_right _ (List.mem_append_left _ (List.mem_of_getElem? (i := 18) rfl))))
theorem nt_1 : (Jvm.Cond.methodLinkNest "TapTerminal$Card" (143 : Nat) ({ cls := "TapTerminal", name := "stir", desc := "(II)I" } : Jvm.MethodName) "TapTerminal") ∈ lw_tbl := List.mem_append_right _ (List.mem_append_right _ (List.mem_append_right _ (List.mem_append_left _ (List.mem_of_getElem? (i := 32) rfl))))
theorem nt_2 : (Jvm.Cond.methodLinkNest "TapTerminal$Row" (25 : Nat) ({ cls := "TapTerminal", name := "stir", desc := "(II)I" } : Jvm.MethodName) "TapTerminal") ∈ lw_tbl := List.mem_append_right _ (List.mem_append_right _ (List.mem_append_right _ (List.mem_append_left _ (List.mem_of_getElem? (i := 93) rfl))))
theorem am_nest_in : ∀ w ∈ am_nest, w ∈ lw_tbl := List.forall_mem_cons.mpr ⟨nt_0, List.forall_mem_cons.mpr ⟨nt_1, List.forall_mem_cons.mpr ⟨nt_2, fun _ h => absurd h List.not_mem_nil⟩⟩⟩
def am_fP (oc idx : Nat) (f : Nat × Nat × FieldType × Bool) : Prop := ∃ (C : String) (T : u_T) (N : Nat) (t0 : Nat → FieldType), classes[f.1]? = some (C, T, N) ∧ f.2.1 < N ∧ (∀ w ∈ u_ws C T N, w ∈ am_kw) ∧ (∀ k, k < N → parseFieldDescriptor (T k).2.2.1 = some (t0 k)) ∧ (∀ a, a < N → ∀ b, b < N → a ≠ b → (T a).2.1 ≠ (T b).2.1) ∧ (T f.2.1).1 = C ∧ (T f.2.1).2.2.2 = f.2.2.2 ∧ parseFieldDescriptor (T f.2.1).2.2.1 = some f.2.2.1 ∧ (Jvm.Cond.fieldLink (am_cn oc) idx C (T f.2.1).2.1 (T f.2.1).2.2.1 ∈ am_kw ∨ ∃ host, Jvm.Cond.fieldLinkNest (am_cn oc) idx C (T f.2.1).2.1 (T f.2.1).2.2.1 host ∈ am_nest) ∧ (oc = f.1 → Jvm.Cond.fieldLink (am_cn oc) idx C (T f.2.1).2.1 (T f.2.1).2.2.1 ∈ am_kw ∧ am_cn oc = C)
theorem kw_1_40 : (Jvm.Cond.fieldLink "TapTerminal$Row" (7 : Nat) "TapTerminal$Row" "octets" "[I") ∈ am_kw := am_in1 (List.mem_of_getElem? (i := 40) rfl) rfl
theorem fp_0_7 : am_fP 0 7 (0, 0, (.array .int), true) := ⟨"TapTerminal$Row", F_Row, 2, t_Row, cp_Row.1, by decide, cp_Row.2.1, cp_Row.2.2.1, cp_Row.2.2.2, rfl, rfl, cp_Row.2.2.1 0 (by decide), Or.inl kw_1_40, fun _ => ⟨kw_1_40, rfl⟩⟩
theorem kw_1_41 : (Jvm.Cond.fieldLink "TapTerminal$Row" (13 : Nat) "TapTerminal$Row" "count" "I") ∈ am_kw := am_in1 (List.mem_of_getElem? (i := 41) rfl) rfl
theorem fp_0_13 : am_fP 0 13 (0, 1, .int, false) := ⟨"TapTerminal$Row", F_Row, 2, t_Row, cp_Row.1, by decide, cp_Row.2.1, cp_Row.2.2.1, cp_Row.2.2.2, rfl, rfl, cp_Row.2.2.1 1 (by decide), Or.inl kw_1_41, fun _ => ⟨kw_1_41, rfl⟩⟩
def fls_0 : List (Nat × Nat × Nat × FieldType × Bool) := [(7, 0, 0, (.array .int), true), (13, 0, 1, .int, false)]
set_option maxRecDepth 20000 in
theorem fls_0_ok : ∀ e ∈ fls_0, am_fP 0 e.1 e.2 := List.forall_mem_cons.mpr ⟨fp_0_7, List.forall_mem_cons.mpr ⟨fp_0_13, fun _ h => absurd h List.not_mem_nil⟩⟩
theorem kw_1_44 : (Jvm.Cond.fieldLink "TapTerminal$Block" (38 : Nat) "TapTerminal$Row" "count" "I") ∈ am_kw := am_in1 (List.mem_of_getElem? (i := 44) rfl) rfl
theorem fp_1_38 : am_fP 1 38 (0, 1, .int, false) := ⟨"TapTerminal$Row", F_Row, 2, t_Row, cp_Row.1, by decide, cp_Row.2.1, cp_Row.2.2.1, cp_Row.2.2.2, rfl, rfl, cp_Row.2.2.1 1 (by decide), Or.inl kw_1_44, fun h => absurd h (by decide)⟩
theorem kw_1_62 : (Jvm.Cond.fieldLink "TapTerminal$Block" (20 : Nat) "TapTerminal$Block" "kind" "I") ∈ am_kw := am_in1 (List.mem_of_getElem? (i := 62) rfl) rfl
theorem fp_1_20 : am_fP 1 20 (1, 0, .int, false) := ⟨"TapTerminal$Block", F_Block, 4, t_Block, cp_Block.1, by decide, cp_Block.2.1, cp_Block.2.2.1, cp_Block.2.2.2, rfl, rfl, cp_Block.2.2.1 0 (by decide), Or.inl kw_1_62, fun _ => ⟨kw_1_62, rfl⟩⟩
theorem kw_1_65 : (Jvm.Cond.fieldLink "TapTerminal$Block" (24 : Nat) "TapTerminal$Block" "number" "I") ∈ am_kw := am_in1 (List.mem_of_getElem? (i := 65) rfl) rfl
theorem fp_1_24 : am_fP 1 24 (1, 1, .int, false) := ⟨"TapTerminal$Block", F_Block, 4, t_Block, cp_Block.1, by decide, cp_Block.2.1, cp_Block.2.2.1, cp_Block.2.2.2, rfl, rfl, cp_Block.2.2.1 1 (by decide), Or.inl kw_1_65, fun _ => ⟨kw_1_65, rfl⟩⟩
theorem kw_1_68 : (Jvm.Cond.fieldLink "TapTerminal$Block" (27 : Nat) "TapTerminal$Block" "more" "Z") ∈ am_kw := am_in1 (List.mem_of_getElem? (i := 68) rfl) rfl
theorem fp_1_27 : am_fP 1 27 (1, 2, .boolean, false) := ⟨"TapTerminal$Block", F_Block, 4, t_Block, cp_Block.1, by decide, cp_Block.2.1, cp_Block.2.2.1, cp_Block.2.2.2, rfl, rfl, cp_Block.2.2.1 2 (by decide), Or.inl kw_1_68, fun _ => ⟨kw_1_68, rfl⟩⟩
theorem kw_1_71 : (Jvm.Cond.fieldLink "TapTerminal$Block" (14 : Nat) "TapTerminal$Block" "octets" "LTapTerminal$Row;") ∈ am_kw := am_in1 (List.mem_of_getElem? (i := 71) rfl) rfl
theorem fp_1_14 : am_fP 1 14 (1, 3, (.object "TapTerminal$Row"), true) := ⟨"TapTerminal$Block", F_Block, 4, t_Block, cp_Block.1, by decide, cp_Block.2.1, cp_Block.2.2.1, cp_Block.2.2.2, rfl, rfl, cp_Block.2.2.1 3 (by decide), Or.inl kw_1_71, fun _ => ⟨kw_1_71, rfl⟩⟩
def fls_1 : List (Nat × Nat × Nat × FieldType × Bool) := [(38, 0, 1, .int, false), (20, 1, 0, .int, false), (24, 1, 1, .int, false), (27, 1, 2, .boolean, false), (14, 1, 3, (.object "TapTerminal$Row"), true)]
set_option maxRecDepth 20000 in
theorem fls_1_ok : ∀ e ∈ fls_1, am_fP 1 e.1 e.2 := List.forall_mem_cons.mpr ⟨fp_1_38, List.forall_mem_cons.mpr ⟨fp_1_20, List.forall_mem_cons.mpr ⟨fp_1_24, List.forall_mem_cons.mpr ⟨fp_1_27, List.forall_mem_cons.mpr ⟨fp_1_14, fun _ h => absurd h List.not_mem_nil⟩⟩⟩⟩⟩
theorem kw_1_43 : (Jvm.Cond.fieldLink "TapTerminal$Card" (73 : Nat) "TapTerminal$Row" "count" "I") ∈ am_kw := am_in1 (List.mem_of_getElem? (i := 43) rfl) rfl
theorem fp_2_73 : am_fP 2 73 (0, 1, .int, false) := ⟨"TapTerminal$Row", F_Row, 2, t_Row, cp_Row.1, by decide, cp_Row.2.1, cp_Row.2.2.1, cp_Row.2.2.2, rfl, rfl, cp_Row.2.2.1 1 (by decide), Or.inl kw_1_43, fun h => absurd h (by decide)⟩
theorem kw_1_63 : (Jvm.Cond.fieldLink "TapTerminal$Card" (83 : Nat) "TapTerminal$Block" "kind" "I") ∈ am_kw := am_in1 (List.mem_of_getElem? (i := 63) rfl) rfl
theorem fp_2_83 : am_fP 2 83 (1, 0, .int, false) := ⟨"TapTerminal$Block", F_Block, 4, t_Block, cp_Block.1, by decide, cp_Block.2.1, cp_Block.2.2.1, cp_Block.2.2.2, rfl, rfl, cp_Block.2.2.1 0 (by decide), Or.inl kw_1_63, fun h => absurd h (by decide)⟩
theorem kw_1_66 : (Jvm.Cond.fieldLink "TapTerminal$Card" (82 : Nat) "TapTerminal$Block" "number" "I") ∈ am_kw := am_in1 (List.mem_of_getElem? (i := 66) rfl) rfl
theorem fp_2_82 : am_fP 2 82 (1, 1, .int, false) := ⟨"TapTerminal$Block", F_Block, 4, t_Block, cp_Block.1, by decide, cp_Block.2.1, cp_Block.2.2.1, cp_Block.2.2.2, rfl, rfl, cp_Block.2.2.1 1 (by decide), Or.inl kw_1_66, fun h => absurd h (by decide)⟩
theorem kw_1_69 : (Jvm.Cond.fieldLink "TapTerminal$Card" (104 : Nat) "TapTerminal$Block" "more" "Z") ∈ am_kw := am_in1 (List.mem_of_getElem? (i := 69) rfl) rfl
theorem fp_2_104 : am_fP 2 104 (1, 2, .boolean, false) := ⟨"TapTerminal$Block", F_Block, 4, t_Block, cp_Block.1, by decide, cp_Block.2.1, cp_Block.2.2.1, cp_Block.2.2.2, rfl, rfl, cp_Block.2.2.1 2 (by decide), Or.inl kw_1_69, fun h => absurd h (by decide)⟩
theorem kw_1_72 : (Jvm.Cond.fieldLink "TapTerminal$Card" (97 : Nat) "TapTerminal$Block" "octets" "LTapTerminal$Row;") ∈ am_kw := am_in1 (List.mem_of_getElem? (i := 72) rfl) rfl
theorem fp_2_97 : am_fP 2 97 (1, 3, (.object "TapTerminal$Row"), true) := ⟨"TapTerminal$Block", F_Block, 4, t_Block, cp_Block.1, by decide, cp_Block.2.1, cp_Block.2.2.1, cp_Block.2.2.2, rfl, rfl, cp_Block.2.2.1 3 (by decide), Or.inl kw_1_72, fun h => absurd h (by decide)⟩
theorem kw_1_83 : (Jvm.Cond.fieldLink "TapTerminal$Card" (34 : Nat) "TapTerminal$Card" "exists" "Z") ∈ am_kw := am_in1 (List.mem_of_getElem? (i := 83) rfl) rfl
theorem fp_2_34 : am_fP 2 34 (2, 0, .boolean, false) := ⟨"TapTerminal$Card", F_Card, 18, t_Card, cp_Card.1, by decide, cp_Card.2.1, cp_Card.2.2.1, cp_Card.2.2.2, rfl, rfl, cp_Card.2.2.1 0 (by decide), Or.inl kw_1_83, fun _ => ⟨kw_1_83, rfl⟩⟩
theorem kw_1_85 : (Jvm.Cond.fieldLink "TapTerminal$Card" (38 : Nat) "TapTerminal$Card" "inField" "Z") ∈ am_kw := am_in1 (List.mem_of_getElem? (i := 85) rfl) rfl
theorem fp_2_38 : am_fP 2 38 (2, 1, .boolean, false) := ⟨"TapTerminal$Card", F_Card, 18, t_Card, cp_Card.1, by decide, cp_Card.2.1, cp_Card.2.2.1, cp_Card.2.2.2, rfl, rfl, cp_Card.2.2.1 1 (by decide), Or.inl kw_1_85, fun _ => ⟨kw_1_85, rfl⟩⟩
theorem kw_1_89 : (Jvm.Cond.fieldLink "TapTerminal$Card" (79 : Nat) "TapTerminal$Card" "ready" "Z") ∈ am_kw := am_in1 (List.mem_of_getElem? (i := 89) rfl) rfl
theorem fp_2_79 : am_fP 2 79 (2, 2, .boolean, false) := ⟨"TapTerminal$Card", F_Card, 18, t_Card, cp_Card.1, by decide, cp_Card.2.1, cp_Card.2.2.1, cp_Card.2.2.2, rfl, rfl, cp_Card.2.2.1 2 (by decide), Or.inl kw_1_89, fun _ => ⟨kw_1_89, rfl⟩⟩
theorem kw_1_90 : (Jvm.Cond.fieldLink "TapTerminal$Card" (41 : Nat) "TapTerminal$Card" "address" "I") ∈ am_kw := am_in1 (List.mem_of_getElem? (i := 90) rfl) rfl
theorem fp_2_41 : am_fP 2 41 (2, 3, .int, false) := ⟨"TapTerminal$Card", F_Card, 18, t_Card, cp_Card.1, by decide, cp_Card.2.1, cp_Card.2.2.1, cp_Card.2.2.2, rfl, rfl, cp_Card.2.2.1 3 (by decide), Or.inl kw_1_90, fun _ => ⟨kw_1_90, rfl⟩⟩
theorem kw_1_93 : (Jvm.Cond.fieldLink "TapTerminal$Card" (45 : Nat) "TapTerminal$Card" "application" "I") ∈ am_kw := am_in1 (List.mem_of_getElem? (i := 93) rfl) rfl
theorem fp_2_45 : am_fP 2 45 (2, 4, .int, false) := ⟨"TapTerminal$Card", F_Card, 18, t_Card, cp_Card.1, by decide, cp_Card.2.1, cp_Card.2.2.1, cp_Card.2.2.2, rfl, rfl, cp_Card.2.2.1 4 (by decide), Or.inl kw_1_93, fun _ => ⟨kw_1_93, rfl⟩⟩
theorem kw_1_94 : (Jvm.Cond.fieldLink "TapTerminal$Card" (48 : Nat) "TapTerminal$Card" "key" "I") ∈ am_kw := am_in1 (List.mem_of_getElem? (i := 94) rfl) rfl
theorem fp_2_48 : am_fP 2 48 (2, 5, .int, false) := ⟨"TapTerminal$Card", F_Card, 18, t_Card, cp_Card.1, by decide, cp_Card.2.1, cp_Card.2.2.1, cp_Card.2.2.2, rfl, rfl, cp_Card.2.2.1 5 (by decide), Or.inl kw_1_94, fun _ => ⟨kw_1_94, rfl⟩⟩
theorem kw_1_95 : (Jvm.Cond.fieldLink "TapTerminal$Card" (51 : Nat) "TapTerminal$Card" "size" "I") ∈ am_kw := am_in1 (List.mem_of_getElem? (i := 95) rfl) rfl
theorem fp_2_51 : am_fP 2 51 (2, 6, .int, false) := ⟨"TapTerminal$Card", F_Card, 18, t_Card, cp_Card.1, by decide, cp_Card.2.1, cp_Card.2.2.1, cp_Card.2.2.2, rfl, rfl, cp_Card.2.2.1 6 (by decide), Or.inl kw_1_95, fun _ => ⟨kw_1_95, rfl⟩⟩
theorem kw_1_97 : (Jvm.Cond.fieldLink "TapTerminal$Card" (54 : Nat) "TapTerminal$Card" "counter" "I") ∈ am_kw := am_in1 (List.mem_of_getElem? (i := 97) rfl) rfl
theorem fp_2_54 : am_fP 2 54 (2, 7, .int, false) := ⟨"TapTerminal$Card", F_Card, 18, t_Card, cp_Card.1, by decide, cp_Card.2.1, cp_Card.2.2.1, cp_Card.2.2.2, rfl, rfl, cp_Card.2.2.1 7 (by decide), Or.inl kw_1_97, fun _ => ⟨kw_1_97, rfl⟩⟩
theorem kw_1_99 : (Jvm.Cond.fieldLink "TapTerminal$Card" (58 : Nat) "TapTerminal$Card" "cap" "I") ∈ am_kw := am_in1 (List.mem_of_getElem? (i := 99) rfl) rfl
theorem fp_2_58 : am_fP 2 58 (2, 8, .int, false) := ⟨"TapTerminal$Card", F_Card, 18, t_Card, cp_Card.1, by decide, cp_Card.2.1, cp_Card.2.2.1, cp_Card.2.2.2, rfl, rfl, cp_Card.2.2.1 8 (by decide), Or.inl kw_1_99, fun _ => ⟨kw_1_99, rfl⟩⟩
theorem kw_1_101 : (Jvm.Cond.fieldLink "TapTerminal$Card" (61 : Nat) "TapTerminal$Card" "limit" "I") ∈ am_kw := am_in1 (List.mem_of_getElem? (i := 101) rfl) rfl
theorem fp_2_61 : am_fP 2 61 (2, 9, .int, false) := ⟨"TapTerminal$Card", F_Card, 18, t_Card, cp_Card.1, by decide, cp_Card.2.1, cp_Card.2.2.1, cp_Card.2.2.2, rfl, rfl, cp_Card.2.2.1 9 (by decide), Or.inl kw_1_101, fun _ => ⟨kw_1_101, rfl⟩⟩
theorem kw_1_103 : (Jvm.Cond.fieldLink "TapTerminal$Card" (64 : Nat) "TapTerminal$Card" "runs" "I") ∈ am_kw := am_in1 (List.mem_of_getElem? (i := 103) rfl) rfl
theorem fp_2_64 : am_fP 2 64 (2, 10, .int, false) := ⟨"TapTerminal$Card", F_Card, 18, t_Card, cp_Card.1, by decide, cp_Card.2.1, cp_Card.2.2.1, cp_Card.2.2.2, rfl, rfl, cp_Card.2.2.1 10 (by decide), Or.inl kw_1_103, fun _ => ⟨kw_1_103, rfl⟩⟩
theorem kw_1_105 : (Jvm.Cond.fieldLink "TapTerminal$Card" (67 : Nat) "TapTerminal$Card" "commandsDone" "I") ∈ am_kw := am_in1 (List.mem_of_getElem? (i := 105) rfl) rfl
theorem fp_2_67 : am_fP 2 67 (2, 11, .int, false) := ⟨"TapTerminal$Card", F_Card, 18, t_Card, cp_Card.1, by decide, cp_Card.2.1, cp_Card.2.2.1, cp_Card.2.2.2, rfl, rfl, cp_Card.2.2.1 11 (by decide), Or.inl kw_1_105, fun _ => ⟨kw_1_105, rfl⟩⟩
theorem kw_1_107 : (Jvm.Cond.fieldLink "TapTerminal$Card" (11 : Nat) "TapTerminal$Card" "records" "[LTapTerminal$Row;") ∈ am_kw := am_in1 (List.mem_of_getElem? (i := 107) rfl) rfl
theorem fp_2_11 : am_fP 2 11 (2, 12, (.array (.object "TapTerminal$Row")), true) := ⟨"TapTerminal$Card", F_Card, 18, t_Card, cp_Card.1, by decide, cp_Card.2.1, cp_Card.2.2.1, cp_Card.2.2.2, rfl, rfl, cp_Card.2.2.1 12 (by decide), Or.inl kw_1_107, fun _ => ⟨kw_1_107, rfl⟩⟩
theorem kw_1_109 : (Jvm.Cond.fieldLink "TapTerminal$Card" (23 : Nat) "TapTerminal$Card" "reply" "LTapTerminal$Block;") ∈ am_kw := am_in1 (List.mem_of_getElem? (i := 109) rfl) rfl
theorem fp_2_23 : am_fP 2 23 (2, 13, (.object "TapTerminal$Block"), true) := ⟨"TapTerminal$Card", F_Card, 18, t_Card, cp_Card.1, by decide, cp_Card.2.1, cp_Card.2.2.1, cp_Card.2.2.2, rfl, rfl, cp_Card.2.2.1 13 (by decide), Or.inl kw_1_109, fun _ => ⟨kw_1_109, rfl⟩⟩
theorem kw_1_111 : (Jvm.Cond.fieldLink "TapTerminal$Card" (76 : Nat) "TapTerminal$Card" "number" "I") ∈ am_kw := am_in1 (List.mem_of_getElem? (i := 111) rfl) rfl
theorem fp_2_76 : am_fP 2 76 (2, 14, .int, false) := ⟨"TapTerminal$Card", F_Card, 18, t_Card, cp_Card.1, by decide, cp_Card.2.1, cp_Card.2.2.1, cp_Card.2.2.2, rfl, rfl, cp_Card.2.2.1 14 (by decide), Or.inl kw_1_111, fun _ => ⟨kw_1_111, rfl⟩⟩
theorem kw_1_112 : (Jvm.Cond.fieldLink "TapTerminal$Card" (27 : Nat) "TapTerminal$Card" "heard" "LTapTerminal$Row;") ∈ am_kw := am_in1 (List.mem_of_getElem? (i := 112) rfl) rfl
theorem fp_2_27 : am_fP 2 27 (2, 15, (.object "TapTerminal$Row"), true) := ⟨"TapTerminal$Card", F_Card, 18, t_Card, cp_Card.1, by decide, cp_Card.2.1, cp_Card.2.2.1, cp_Card.2.2.2, rfl, rfl, cp_Card.2.2.1 15 (by decide), Or.inl kw_1_112, fun _ => ⟨kw_1_112, rfl⟩⟩
theorem kw_1_113 : (Jvm.Cond.fieldLink "TapTerminal$Card" (31 : Nat) "TapTerminal$Card" "answer" "LTapTerminal$Row;") ∈ am_kw := am_in1 (List.mem_of_getElem? (i := 113) rfl) rfl
theorem fp_2_31 : am_fP 2 31 (2, 16, (.object "TapTerminal$Row"), true) := ⟨"TapTerminal$Card", F_Card, 18, t_Card, cp_Card.1, by decide, cp_Card.2.1, cp_Card.2.2.1, cp_Card.2.2.2, rfl, rfl, cp_Card.2.2.1 16 (by decide), Or.inl kw_1_113, fun _ => ⟨kw_1_113, rfl⟩⟩
theorem kw_1_114 : (Jvm.Cond.fieldLink "TapTerminal$Card" (90 : Nat) "TapTerminal$Card" "answerFrom" "I") ∈ am_kw := am_in1 (List.mem_of_getElem? (i := 114) rfl) rfl
theorem fp_2_90 : am_fP 2 90 (2, 17, .int, false) := ⟨"TapTerminal$Card", F_Card, 18, t_Card, cp_Card.1, by decide, cp_Card.2.1, cp_Card.2.2.1, cp_Card.2.2.2, rfl, rfl, cp_Card.2.2.1 17 (by decide), Or.inl kw_1_114, fun _ => ⟨kw_1_114, rfl⟩⟩
def fls_2 : List (Nat × Nat × Nat × FieldType × Bool) := [(73, 0, 1, .int, false), (83, 1, 0, .int, false), (82, 1, 1, .int, false), (104, 1, 2, .boolean, false), (97, 1, 3, (.object "TapTerminal$Row"), true), (34, 2, 0, .boolean, false), (38, 2, 1, .boolean, false), (79, 2, 2, .boolean, false), (41, 2, 3, .int, false), (45, 2, 4, .int, false), (48, 2, 5, .int, false), (51, 2, 6, .int, false), (54, 2, 7, .int, false), (58, 2, 8, .int, false), (61, 2, 9, .int, false), (64, 2, 10, .int, false), (67, 2, 11, .int, false), (11, 2, 12, (.array (.object "TapTerminal$Row")), true), (23, 2, 13, (.object "TapTerminal$Block"), true), (76, 2, 14, .int, false), (27, 2, 15, (.object "TapTerminal$Row"), true), (31, 2, 16, (.object "TapTerminal$Row"), true), (90, 2, 17, .int, false)]
set_option maxRecDepth 20000 in
theorem fls_2_ok : ∀ e ∈ fls_2, am_fP 2 e.1 e.2 := List.forall_mem_cons.mpr ⟨fp_2_73, List.forall_mem_cons.mpr ⟨fp_2_83, List.forall_mem_cons.mpr ⟨fp_2_82, List.forall_mem_cons.mpr ⟨fp_2_104, List.forall_mem_cons.mpr ⟨fp_2_97, List.forall_mem_cons.mpr ⟨fp_2_34, List.forall_mem_cons.mpr ⟨fp_2_38, List.forall_mem_cons.mpr ⟨fp_2_79, List.forall_mem_cons.mpr ⟨fp_2_41, List.forall_mem_cons.mpr ⟨fp_2_45, List.forall_mem_cons.mpr ⟨fp_2_48, List.forall_mem_cons.mpr ⟨fp_2_51, List.forall_mem_cons.mpr ⟨fp_2_54, List.forall_mem_cons.mpr ⟨fp_2_58, List.forall_mem_cons.mpr ⟨fp_2_61, List.forall_mem_cons.mpr ⟨fp_2_64, List.forall_mem_cons.mpr ⟨fp_2_67, List.forall_mem_cons.mpr ⟨fp_2_11, List.forall_mem_cons.mpr ⟨fp_2_23, List.forall_mem_cons.mpr ⟨fp_2_76, List.forall_mem_cons.mpr ⟨fp_2_27, List.forall_mem_cons.mpr ⟨fp_2_31, List.forall_mem_cons.mpr ⟨fp_2_90, fun _ h => absurd h List.not_mem_nil⟩⟩⟩⟩⟩⟩⟩⟩⟩⟩⟩⟩⟩⟩⟩⟩⟩⟩⟩⟩⟩⟩⟩
theorem kw_1_158 : (Jvm.Cond.fieldLink "TapTerminal$Journal" (9 : Nat) "TapTerminal$Journal" "faults" "[I") ∈ am_kw := am_in1 (List.mem_of_getElem? (i := 158) rfl) rfl
theorem fp_3_9 : am_fP 3 9 (3, 0, (.array .int), true) := ⟨"TapTerminal$Journal", F_Journal, 6, t_Journal, cp_Journal.1, by decide, cp_Journal.2.1, cp_Journal.2.2.1, cp_Journal.2.2.2, rfl, rfl, cp_Journal.2.2.1 0 (by decide), Or.inl kw_1_158, fun _ => ⟨kw_1_158, rfl⟩⟩
theorem kw_1_160 : (Jvm.Cond.fieldLink "TapTerminal$Journal" (15 : Nat) "TapTerminal$Journal" "kinds" "[I") ∈ am_kw := am_in1 (List.mem_of_getElem? (i := 160) rfl) rfl
theorem fp_3_15 : am_fP 3 15 (3, 1, (.array .int), true) := ⟨"TapTerminal$Journal", F_Journal, 6, t_Journal, cp_Journal.1, by decide, cp_Journal.2.1, cp_Journal.2.2.1, cp_Journal.2.2.2, rfl, rfl, cp_Journal.2.2.1 1 (by decide), Or.inl kw_1_160, fun _ => ⟨kw_1_160, rfl⟩⟩
theorem kw_1_162 : (Jvm.Cond.fieldLink "TapTerminal$Journal" (18 : Nat) "TapTerminal$Journal" "numbers" "[I") ∈ am_kw := am_in1 (List.mem_of_getElem? (i := 162) rfl) rfl
theorem fp_3_18 : am_fP 3 18 (3, 2, (.array .int), true) := ⟨"TapTerminal$Journal", F_Journal, 6, t_Journal, cp_Journal.1, by decide, cp_Journal.2.1, cp_Journal.2.2.1, cp_Journal.2.2.2, rfl, rfl, cp_Journal.2.2.1 2 (by decide), Or.inl kw_1_162, fun _ => ⟨kw_1_162, rfl⟩⟩
theorem kw_1_164 : (Jvm.Cond.fieldLink "TapTerminal$Journal" (21 : Nat) "TapTerminal$Journal" "answered" "[Z") ∈ am_kw := am_in1 (List.mem_of_getElem? (i := 164) rfl) rfl
theorem fp_3_21 : am_fP 3 21 (3, 3, (.array .boolean), true) := ⟨"TapTerminal$Journal", F_Journal, 6, t_Journal, cp_Journal.1, by decide, cp_Journal.2.1, cp_Journal.2.2.1, cp_Journal.2.2.2, rfl, rfl, cp_Journal.2.2.1 3 (by decide), Or.inl kw_1_164, fun _ => ⟨kw_1_164, rfl⟩⟩
theorem kw_1_166 : (Jvm.Cond.fieldLink "TapTerminal$Journal" (25 : Nat) "TapTerminal$Journal" "count" "I") ∈ am_kw := am_in1 (List.mem_of_getElem? (i := 166) rfl) rfl
theorem fp_3_25 : am_fP 3 25 (3, 4, .int, false) := ⟨"TapTerminal$Journal", F_Journal, 6, t_Journal, cp_Journal.1, by decide, cp_Journal.2.1, cp_Journal.2.2.1, cp_Journal.2.2.2, rfl, rfl, cp_Journal.2.2.1 4 (by decide), Or.inl kw_1_166, fun _ => ⟨kw_1_166, rfl⟩⟩
theorem kw_1_168 : (Jvm.Cond.fieldLink "TapTerminal$Journal" (29 : Nat) "TapTerminal$Journal" "unanswered" "I") ∈ am_kw := am_in1 (List.mem_of_getElem? (i := 168) rfl) rfl
theorem fp_3_29 : am_fP 3 29 (3, 5, .int, false) := ⟨"TapTerminal$Journal", F_Journal, 6, t_Journal, cp_Journal.1, by decide, cp_Journal.2.1, cp_Journal.2.2.1, cp_Journal.2.2.2, rfl, rfl, cp_Journal.2.2.1 5 (by decide), Or.inl kw_1_168, fun _ => ⟨kw_1_168, rfl⟩⟩
def fls_3 : List (Nat × Nat × Nat × FieldType × Bool) := [(9, 3, 0, (.array .int), true), (15, 3, 1, (.array .int), true), (18, 3, 2, (.array .int), true), (21, 3, 3, (.array .boolean), true), (25, 3, 4, .int, false), (29, 3, 5, .int, false)]
set_option maxRecDepth 20000 in
theorem fls_3_ok : ∀ e ∈ fls_3, am_fP 3 e.1 e.2 := List.forall_mem_cons.mpr ⟨fp_3_9, List.forall_mem_cons.mpr ⟨fp_3_15, List.forall_mem_cons.mpr ⟨fp_3_18, List.forall_mem_cons.mpr ⟨fp_3_21, List.forall_mem_cons.mpr ⟨fp_3_25, List.forall_mem_cons.mpr ⟨fp_3_29, fun _ h => absurd h List.not_mem_nil⟩⟩⟩⟩⟩⟩
theorem kw_1_47 : (Jvm.Cond.fieldLink "TapTerminal$Air" (103 : Nat) "TapTerminal$Row" "count" "I") ∈ am_kw := am_in1 (List.mem_of_getElem? (i := 47) rfl) rfl
theorem fp_4_103 : am_fP 4 103 (0, 1, .int, false) := ⟨"TapTerminal$Row", F_Row, 2, t_Row, cp_Row.1, by decide, cp_Row.2.1, cp_Row.2.2.1, cp_Row.2.2.2, rfl, rfl, cp_Row.2.2.1 1 (by decide), Or.inl kw_1_47, fun h => absurd h (by decide)⟩
theorem kw_1_64 : (Jvm.Cond.fieldLink "TapTerminal$Air" (96 : Nat) "TapTerminal$Block" "kind" "I") ∈ am_kw := am_in1 (List.mem_of_getElem? (i := 64) rfl) rfl
theorem fp_4_96 : am_fP 4 96 (1, 0, .int, false) := ⟨"TapTerminal$Block", F_Block, 4, t_Block, cp_Block.1, by decide, cp_Block.2.1, cp_Block.2.2.1, cp_Block.2.2.2, rfl, rfl, cp_Block.2.2.1 0 (by decide), Or.inl kw_1_64, fun h => absurd h (by decide)⟩
theorem kw_1_67 : (Jvm.Cond.fieldLink "TapTerminal$Air" (93 : Nat) "TapTerminal$Block" "number" "I") ∈ am_kw := am_in1 (List.mem_of_getElem? (i := 67) rfl) rfl
theorem fp_4_93 : am_fP 4 93 (1, 1, .int, false) := ⟨"TapTerminal$Block", F_Block, 4, t_Block, cp_Block.1, by decide, cp_Block.2.1, cp_Block.2.2.1, cp_Block.2.2.2, rfl, rfl, cp_Block.2.2.1 1 (by decide), Or.inl kw_1_67, fun h => absurd h (by decide)⟩
theorem kw_1_70 : (Jvm.Cond.fieldLink "TapTerminal$Air" (110 : Nat) "TapTerminal$Block" "more" "Z") ∈ am_kw := am_in1 (List.mem_of_getElem? (i := 70) rfl) rfl
theorem fp_4_110 : am_fP 4 110 (1, 2, .boolean, false) := ⟨"TapTerminal$Block", F_Block, 4, t_Block, cp_Block.1, by decide, cp_Block.2.1, cp_Block.2.2.1, cp_Block.2.2.2, rfl, rfl, cp_Block.2.2.1 2 (by decide), Or.inl kw_1_70, fun h => absurd h (by decide)⟩
theorem kw_1_73 : (Jvm.Cond.fieldLink "TapTerminal$Air" (99 : Nat) "TapTerminal$Block" "octets" "LTapTerminal$Row;") ∈ am_kw := am_in1 (List.mem_of_getElem? (i := 73) rfl) rfl
theorem fp_4_99 : am_fP 4 99 (1, 3, (.object "TapTerminal$Row"), true) := ⟨"TapTerminal$Block", F_Block, 4, t_Block, cp_Block.1, by decide, cp_Block.2.1, cp_Block.2.2.1, cp_Block.2.2.2, rfl, rfl, cp_Block.2.2.1 3 (by decide), Or.inl kw_1_73, fun h => absurd h (by decide)⟩
theorem kw_1_86 : (Jvm.Cond.fieldLink "TapTerminal$Air" (32 : Nat) "TapTerminal$Card" "inField" "Z") ∈ am_kw := am_in1 (List.mem_of_getElem? (i := 86) rfl) rfl
theorem fp_4_32 : am_fP 4 32 (2, 1, .boolean, false) := ⟨"TapTerminal$Card", F_Card, 18, t_Card, cp_Card.1, by decide, cp_Card.2.1, cp_Card.2.2.1, cp_Card.2.2.2, rfl, rfl, cp_Card.2.2.1 1 (by decide), Or.inl kw_1_86, fun h => absurd h (by decide)⟩
theorem kw_1_88 : (Jvm.Cond.fieldLink "TapTerminal$Air" (43 : Nat) "TapTerminal$Card" "ready" "Z") ∈ am_kw := am_in1 (List.mem_of_getElem? (i := 88) rfl) rfl
theorem fp_4_43 : am_fP 4 43 (2, 2, .boolean, false) := ⟨"TapTerminal$Card", F_Card, 18, t_Card, cp_Card.1, by decide, cp_Card.2.1, cp_Card.2.2.1, cp_Card.2.2.2, rfl, rfl, cp_Card.2.2.1 2 (by decide), Or.inl kw_1_88, fun h => absurd h (by decide)⟩
theorem kw_1_91 : (Jvm.Cond.fieldLink "TapTerminal$Air" (36 : Nat) "TapTerminal$Card" "address" "I") ∈ am_kw := am_in1 (List.mem_of_getElem? (i := 91) rfl) rfl
theorem fp_4_36 : am_fP 4 36 (2, 3, .int, false) := ⟨"TapTerminal$Card", F_Card, 18, t_Card, cp_Card.1, by decide, cp_Card.2.1, cp_Card.2.2.1, cp_Card.2.2.2, rfl, rfl, cp_Card.2.2.1 3 (by decide), Or.inl kw_1_91, fun h => absurd h (by decide)⟩
theorem kw_1_96 : (Jvm.Cond.fieldLink "TapTerminal$Air" (71 : Nat) "TapTerminal$Card" "size" "I") ∈ am_kw := am_in1 (List.mem_of_getElem? (i := 96) rfl) rfl
theorem fp_4_71 : am_fP 4 71 (2, 6, .int, false) := ⟨"TapTerminal$Card", F_Card, 18, t_Card, cp_Card.1, by decide, cp_Card.2.1, cp_Card.2.2.1, cp_Card.2.2.2, rfl, rfl, cp_Card.2.2.1 6 (by decide), Or.inl kw_1_96, fun h => absurd h (by decide)⟩
theorem kw_1_110 : (Jvm.Cond.fieldLink "TapTerminal$Air" (90 : Nat) "TapTerminal$Card" "reply" "LTapTerminal$Block;") ∈ am_kw := am_in1 (List.mem_of_getElem? (i := 110) rfl) rfl
theorem fp_4_90 : am_fP 4 90 (2, 13, (.object "TapTerminal$Block"), true) := ⟨"TapTerminal$Card", F_Card, 18, t_Card, cp_Card.1, by decide, cp_Card.2.1, cp_Card.2.2.1, cp_Card.2.2.2, rfl, rfl, cp_Card.2.2.1 13 (by decide), Or.inl kw_1_110, fun h => absurd h (by decide)⟩
theorem kw_1_186 : (Jvm.Cond.fieldLink "TapTerminal$Air" (11 : Nat) "TapTerminal$Air" "cards" "[LTapTerminal$Card;") ∈ am_kw := am_in1 (List.mem_of_getElem? (i := 186) rfl) rfl
theorem fp_4_11 : am_fP 4 11 (4, 0, (.array (.object "TapTerminal$Card")), true) := ⟨"TapTerminal$Air", F_Air, 6, t_Air, cp_Air.1, by decide, cp_Air.2.1, cp_Air.2.2.1, cp_Air.2.2.2, rfl, rfl, cp_Air.2.2.1 0 (by decide), Or.inl kw_1_186, fun _ => ⟨kw_1_186, rfl⟩⟩
theorem kw_1_188 : (Jvm.Cond.fieldLink "TapTerminal$Air" (21 : Nat) "TapTerminal$Air" "journal" "LTapTerminal$Journal;") ∈ am_kw := am_in1 (List.mem_of_getElem? (i := 188) rfl) rfl
theorem fp_4_21 : am_fP 4 21 (4, 1, (.object "TapTerminal$Journal"), true) := ⟨"TapTerminal$Air", F_Air, 6, t_Air, cp_Air.1, by decide, cp_Air.2.1, cp_Air.2.2.1, cp_Air.2.2.2, rfl, rfl, cp_Air.2.2.1 1 (by decide), Or.inl kw_1_188, fun _ => ⟨kw_1_188, rfl⟩⟩
theorem kw_1_190 : (Jvm.Cond.fieldLink "TapTerminal$Air" (61 : Nat) "TapTerminal$Air" "partner" "I") ∈ am_kw := am_in1 (List.mem_of_getElem? (i := 190) rfl) rfl
theorem fp_4_61 : am_fP 4 61 (4, 2, .int, false) := ⟨"TapTerminal$Air", F_Air, 6, t_Air, cp_Air.1, by decide, cp_Air.2.1, cp_Air.2.2.1, cp_Air.2.2.2, rfl, rfl, cp_Air.2.2.1 2 (by decide), Or.inl kw_1_190, fun _ => ⟨kw_1_190, rfl⟩⟩
theorem kw_1_192 : (Jvm.Cond.fieldLink "TapTerminal$Air" (54 : Nat) "TapTerminal$Air" "differing" "I") ∈ am_kw := am_in1 (List.mem_of_getElem? (i := 192) rfl) rfl
theorem fp_4_54 : am_fP 4 54 (4, 3, .int, false) := ⟨"TapTerminal$Air", F_Air, 6, t_Air, cp_Air.1, by decide, cp_Air.2.1, cp_Air.2.2.1, cp_Air.2.2.2, rfl, rfl, cp_Air.2.2.1 3 (by decide), Or.inl kw_1_192, fun _ => ⟨kw_1_192, rfl⟩⟩
theorem kw_1_193 : (Jvm.Cond.fieldLink "TapTerminal$Air" (64 : Nat) "TapTerminal$Air" "turn" "I") ∈ am_kw := am_in1 (List.mem_of_getElem? (i := 193) rfl) rfl
theorem fp_4_64 : am_fP 4 64 (4, 4, .int, false) := ⟨"TapTerminal$Air", F_Air, 6, t_Air, cp_Air.1, by decide, cp_Air.2.1, cp_Air.2.2.1, cp_Air.2.2.2, rfl, rfl, cp_Air.2.2.1 4 (by decide), Or.inl kw_1_193, fun _ => ⟨kw_1_193, rfl⟩⟩
theorem kw_1_194 : (Jvm.Cond.fieldLink "TapTerminal$Air" (28 : Nat) "TapTerminal$Air" "sent" "LTapTerminal$Block;") ∈ am_kw := am_in1 (List.mem_of_getElem? (i := 194) rfl) rfl
theorem fp_4_28 : am_fP 4 28 (4, 5, (.object "TapTerminal$Block"), true) := ⟨"TapTerminal$Air", F_Air, 6, t_Air, cp_Air.1, by decide, cp_Air.2.1, cp_Air.2.2.1, cp_Air.2.2.2, rfl, rfl, cp_Air.2.2.1 5 (by decide), Or.inl kw_1_194, fun _ => ⟨kw_1_194, rfl⟩⟩
def fls_4 : List (Nat × Nat × Nat × FieldType × Bool) := [(103, 0, 1, .int, false), (96, 1, 0, .int, false), (93, 1, 1, .int, false), (110, 1, 2, .boolean, false), (99, 1, 3, (.object "TapTerminal$Row"), true), (32, 2, 1, .boolean, false), (43, 2, 2, .boolean, false), (36, 2, 3, .int, false), (71, 2, 6, .int, false), (90, 2, 13, (.object "TapTerminal$Block"), true), (11, 4, 0, (.array (.object "TapTerminal$Card")), true), (21, 4, 1, (.object "TapTerminal$Journal"), true), (61, 4, 2, .int, false), (54, 4, 3, .int, false), (64, 4, 4, .int, false), (28, 4, 5, (.object "TapTerminal$Block"), true)]
set_option maxRecDepth 20000 in
theorem fls_4_ok : ∀ e ∈ fls_4, am_fP 4 e.1 e.2 := List.forall_mem_cons.mpr ⟨fp_4_103, List.forall_mem_cons.mpr ⟨fp_4_96, List.forall_mem_cons.mpr ⟨fp_4_93, List.forall_mem_cons.mpr ⟨fp_4_110, List.forall_mem_cons.mpr ⟨fp_4_99, List.forall_mem_cons.mpr ⟨fp_4_32, List.forall_mem_cons.mpr ⟨fp_4_43, List.forall_mem_cons.mpr ⟨fp_4_36, List.forall_mem_cons.mpr ⟨fp_4_71, List.forall_mem_cons.mpr ⟨fp_4_90, List.forall_mem_cons.mpr ⟨fp_4_11, List.forall_mem_cons.mpr ⟨fp_4_21, List.forall_mem_cons.mpr ⟨fp_4_61, List.forall_mem_cons.mpr ⟨fp_4_54, List.forall_mem_cons.mpr ⟨fp_4_64, List.forall_mem_cons.mpr ⟨fp_4_28, fun _ h => absurd h List.not_mem_nil⟩⟩⟩⟩⟩⟩⟩⟩⟩⟩⟩⟩⟩⟩⟩⟩
theorem kw_1_42 : (Jvm.Cond.fieldLink "TapTerminal$Items" (34 : Nat) "TapTerminal$Row" "count" "I") ∈ am_kw := am_in1 (List.mem_of_getElem? (i := 42) rfl) rfl
theorem fp_5_34 : am_fP 5 34 (0, 1, .int, false) := ⟨"TapTerminal$Row", F_Row, 2, t_Row, cp_Row.1, by decide, cp_Row.2.1, cp_Row.2.2.1, cp_Row.2.2.2, rfl, rfl, cp_Row.2.2.1 1 (by decide), Or.inl kw_1_42, fun h => absurd h (by decide)⟩
theorem kw_2_7 : (Jvm.Cond.fieldLink "TapTerminal$Items" (11 : Nat) "TapTerminal$Items" "rows" "[LTapTerminal$Row;") ∈ am_kw := am_in2 (List.mem_of_getElem? (i := 7) rfl) rfl
theorem fp_5_11 : am_fP 5 11 (5, 0, (.array (.object "TapTerminal$Row")), true) := ⟨"TapTerminal$Items", F_Items, 4, t_Items, cp_Items.1, by decide, cp_Items.2.1, cp_Items.2.2.1, cp_Items.2.2.2, rfl, rfl, cp_Items.2.2.1 0 (by decide), Or.inl kw_2_7, fun _ => ⟨kw_2_7, rfl⟩⟩
theorem kw_2_10 : (Jvm.Cond.fieldLink "TapTerminal$Items" (20 : Nat) "TapTerminal$Items" "there" "[Z") ∈ am_kw := am_in2 (List.mem_of_getElem? (i := 10) rfl) rfl
theorem fp_5_20 : am_fP 5 20 (5, 1, (.array .boolean), true) := ⟨"TapTerminal$Items", F_Items, 4, t_Items, cp_Items.1, by decide, cp_Items.2.1, cp_Items.2.2.1, cp_Items.2.2.2, rfl, rfl, cp_Items.2.2.1 1 (by decide), Or.inl kw_2_10, fun _ => ⟨kw_2_10, rfl⟩⟩
theorem kw_2_13 : (Jvm.Cond.fieldLink "TapTerminal$Items" (27 : Nat) "TapTerminal$Items" "whole" "Z") ∈ am_kw := am_in2 (List.mem_of_getElem? (i := 13) rfl) rfl
theorem fp_5_27 : am_fP 5 27 (5, 2, .boolean, false) := ⟨"TapTerminal$Items", F_Items, 4, t_Items, cp_Items.1, by decide, cp_Items.2.1, cp_Items.2.2.1, cp_Items.2.2.2, rfl, rfl, cp_Items.2.2.1 2 (by decide), Or.inl kw_2_13, fun _ => ⟨kw_2_13, rfl⟩⟩
theorem kw_2_15 : (Jvm.Cond.fieldLink "TapTerminal$Items" (24 : Nat) "TapTerminal$Items" "seen" "[Z") ∈ am_kw := am_in2 (List.mem_of_getElem? (i := 15) rfl) rfl
theorem fp_5_24 : am_fP 5 24 (5, 3, (.array .boolean), true) := ⟨"TapTerminal$Items", F_Items, 4, t_Items, cp_Items.1, by decide, cp_Items.2.1, cp_Items.2.2.1, cp_Items.2.2.2, rfl, rfl, cp_Items.2.2.1 3 (by decide), Or.inl kw_2_15, fun _ => ⟨kw_2_15, rfl⟩⟩
def fls_5 : List (Nat × Nat × Nat × FieldType × Bool) := [(34, 0, 1, .int, false), (11, 5, 0, (.array (.object "TapTerminal$Row")), true), (20, 5, 1, (.array .boolean), true), (27, 5, 2, .boolean, false), (24, 5, 3, (.array .boolean), true)]
set_option maxRecDepth 20000 in
theorem fls_5_ok : ∀ e ∈ fls_5, am_fP 5 e.1 e.2 := List.forall_mem_cons.mpr ⟨fp_5_34, List.forall_mem_cons.mpr ⟨fp_5_11, List.forall_mem_cons.mpr ⟨fp_5_20, List.forall_mem_cons.mpr ⟨fp_5_27, List.forall_mem_cons.mpr ⟨fp_5_24, fun _ h => absurd h List.not_mem_nil⟩⟩⟩⟩⟩
theorem kw_1_46 : (Jvm.Cond.fieldLink "TapTerminal$Settings" (61 : Nat) "TapTerminal$Row" "count" "I") ∈ am_kw := am_in1 (List.mem_of_getElem? (i := 46) rfl) rfl
theorem fp_6_61 : am_fP 6 61 (0, 1, .int, false) := ⟨"TapTerminal$Row", F_Row, 2, t_Row, cp_Row.1, by decide, cp_Row.2.1, cp_Row.2.2.1, cp_Row.2.2.2, rfl, rfl, cp_Row.2.2.1 1 (by decide), Or.inl kw_1_46, fun h => absurd h (by decide)⟩
theorem kw_1_214 : (Jvm.Cond.fieldLink "TapTerminal$Settings" (42 : Nat) "TapTerminal$Settings" "place" "I") ∈ am_kw := am_in1 (List.mem_of_getElem? (i := 214) rfl) rfl
theorem fp_6_42 : am_fP 6 42 (6, 0, .int, false) := ⟨"TapTerminal$Settings", F_Settings, 6, t_Settings, cp_Settings.1, by decide, cp_Settings.2.1, cp_Settings.2.2.1, cp_Settings.2.2.2, rfl, rfl, cp_Settings.2.2.1 0 (by decide), Or.inl kw_1_214, fun _ => ⟨kw_1_214, rfl⟩⟩
theorem kw_1_216 : (Jvm.Cond.fieldLink "TapTerminal$Settings" (45 : Nat) "TapTerminal$Settings" "floor" "I") ∈ am_kw := am_in1 (List.mem_of_getElem? (i := 216) rfl) rfl
theorem fp_6_45 : am_fP 6 45 (6, 1, .int, false) := ⟨"TapTerminal$Settings", F_Settings, 6, t_Settings, cp_Settings.1, by decide, cp_Settings.2.1, cp_Settings.2.2.1, cp_Settings.2.2.2, rfl, rfl, cp_Settings.2.2.1 1 (by decide), Or.inl kw_1_216, fun _ => ⟨kw_1_216, rfl⟩⟩
theorem kw_1_219 : (Jvm.Cond.fieldLink "TapTerminal$Settings" (72 : Nat) "TapTerminal$Settings" "ways" "I") ∈ am_kw := am_in1 (List.mem_of_getElem? (i := 219) rfl) rfl
theorem fp_6_72 : am_fP 6 72 (6, 2, .int, false) := ⟨"TapTerminal$Settings", F_Settings, 6, t_Settings, cp_Settings.1, by decide, cp_Settings.2.1, cp_Settings.2.2.1, cp_Settings.2.2.2, rfl, rfl, cp_Settings.2.2.1 2 (by decide), Or.inl kw_1_219, fun _ => ⟨kw_1_219, rfl⟩⟩
theorem kw_1_220 : (Jvm.Cond.fieldLink "TapTerminal$Settings" (9 : Nat) "TapTerminal$Settings" "online" "Z") ∈ am_kw := am_in1 (List.mem_of_getElem? (i := 220) rfl) rfl
theorem fp_6_9 : am_fP 6 9 (6, 3, .boolean, false) := ⟨"TapTerminal$Settings", F_Settings, 6, t_Settings, cp_Settings.1, by decide, cp_Settings.2.1, cp_Settings.2.2.1, cp_Settings.2.2.2, rfl, rfl, cp_Settings.2.2.1 3 (by decide), Or.inl kw_1_220, fun _ => ⟨kw_1_220, rfl⟩⟩
theorem kw_1_222 : (Jvm.Cond.fieldLink "TapTerminal$Settings" (52 : Nat) "TapTerminal$Settings" "issuer" "I") ∈ am_kw := am_in1 (List.mem_of_getElem? (i := 222) rfl) rfl
theorem fp_6_52 : am_fP 6 52 (6, 4, .int, false) := ⟨"TapTerminal$Settings", F_Settings, 6, t_Settings, cp_Settings.1, by decide, cp_Settings.2.1, cp_Settings.2.2.1, cp_Settings.2.2.2, rfl, rfl, cp_Settings.2.2.1 4 (by decide), Or.inl kw_1_222, fun _ => ⟨kw_1_222, rfl⟩⟩
theorem kw_1_224 : (Jvm.Cond.fieldLink "TapTerminal$Settings" (15 : Nat) "TapTerminal$Settings" "applications" "I") ∈ am_kw := am_in1 (List.mem_of_getElem? (i := 224) rfl) rfl
theorem fp_6_15 : am_fP 6 15 (6, 5, .int, false) := ⟨"TapTerminal$Settings", F_Settings, 6, t_Settings, cp_Settings.1, by decide, cp_Settings.2.1, cp_Settings.2.2.1, cp_Settings.2.2.2, rfl, rfl, cp_Settings.2.2.1 5 (by decide), Or.inl kw_1_224, fun _ => ⟨kw_1_224, rfl⟩⟩
theorem kw_2_8 : (Jvm.Cond.fieldLink "TapTerminal$Settings" (23 : Nat) "TapTerminal$Items" "rows" "[LTapTerminal$Row;") ∈ am_kw := am_in2 (List.mem_of_getElem? (i := 8) rfl) rfl
theorem fp_6_23 : am_fP 6 23 (5, 0, (.array (.object "TapTerminal$Row")), true) := ⟨"TapTerminal$Items", F_Items, 4, t_Items, cp_Items.1, by decide, cp_Items.2.1, cp_Items.2.2.1, cp_Items.2.2.2, rfl, rfl, cp_Items.2.2.1 0 (by decide), Or.inl kw_2_8, fun h => absurd h (by decide)⟩
theorem kw_2_11 : (Jvm.Cond.fieldLink "TapTerminal$Settings" (35 : Nat) "TapTerminal$Items" "there" "[Z") ∈ am_kw := am_in2 (List.mem_of_getElem? (i := 11) rfl) rfl
theorem fp_6_35 : am_fP 6 35 (5, 1, (.array .boolean), true) := ⟨"TapTerminal$Items", F_Items, 4, t_Items, cp_Items.1, by decide, cp_Items.2.1, cp_Items.2.2.1, cp_Items.2.2.2, rfl, rfl, cp_Items.2.2.1 1 (by decide), Or.inl kw_2_11, fun h => absurd h (by decide)⟩
def fls_6 : List (Nat × Nat × Nat × FieldType × Bool) := [(61, 0, 1, .int, false), (42, 6, 0, .int, false), (45, 6, 1, .int, false), (72, 6, 2, .int, false), (9, 6, 3, .boolean, false), (52, 6, 4, .int, false), (15, 6, 5, .int, false), (23, 5, 0, (.array (.object "TapTerminal$Row")), true), (35, 5, 1, (.array .boolean), true)]
set_option maxRecDepth 20000 in
theorem fls_6_ok : ∀ e ∈ fls_6, am_fP 6 e.1 e.2 := List.forall_mem_cons.mpr ⟨fp_6_61, List.forall_mem_cons.mpr ⟨fp_6_42, List.forall_mem_cons.mpr ⟨fp_6_45, List.forall_mem_cons.mpr ⟨fp_6_72, List.forall_mem_cons.mpr ⟨fp_6_9, List.forall_mem_cons.mpr ⟨fp_6_52, List.forall_mem_cons.mpr ⟨fp_6_15, List.forall_mem_cons.mpr ⟨fp_6_23, List.forall_mem_cons.mpr ⟨fp_6_35, fun _ h => absurd h List.not_mem_nil⟩⟩⟩⟩⟩⟩⟩⟩⟩
theorem kw_2_35 : (Jvm.Cond.fieldLink "TapTerminal$Report" (14 : Nat) "TapTerminal$Report" "ending" "I") ∈ am_kw := am_in2 (List.mem_of_getElem? (i := 35) rfl) rfl
theorem fp_7_14 : am_fP 7 14 (7, 0, .int, false) := ⟨"TapTerminal$Report", F_Report, 8, t_Report, cp_Report.1, by decide, cp_Report.2.1, cp_Report.2.2.1, cp_Report.2.2.2, rfl, rfl, cp_Report.2.2.1 0 (by decide), Or.inl kw_2_35, fun _ => ⟨kw_2_35, rfl⟩⟩
theorem kw_2_37 : (Jvm.Cond.fieldLink "TapTerminal$Report" (18 : Nat) "TapTerminal$Report" "chosen" "I") ∈ am_kw := am_in2 (List.mem_of_getElem? (i := 37) rfl) rfl
theorem fp_7_18 : am_fP 7 18 (7, 1, .int, false) := ⟨"TapTerminal$Report", F_Report, 8, t_Report, cp_Report.1, by decide, cp_Report.2.1, cp_Report.2.2.1, cp_Report.2.2.2, rfl, rfl, cp_Report.2.2.1 1 (by decide), Or.inl kw_2_37, fun _ => ⟨kw_2_37, rfl⟩⟩
theorem kw_2_39 : (Jvm.Cond.fieldLink "TapTerminal$Report" (21 : Nat) "TapTerminal$Report" "findings" "I") ∈ am_kw := am_in2 (List.mem_of_getElem? (i := 39) rfl) rfl
theorem fp_7_21 : am_fP 7 21 (7, 2, .int, false) := ⟨"TapTerminal$Report", F_Report, 8, t_Report, cp_Report.1, by decide, cp_Report.2.1, cp_Report.2.2.1, cp_Report.2.2.2, rfl, rfl, cp_Report.2.2.1 2 (by decide), Or.inl kw_2_39, fun _ => ⟨kw_2_39, rfl⟩⟩
theorem kw_2_41 : (Jvm.Cond.fieldLink "TapTerminal$Report" (24 : Nat) "TapTerminal$Report" "typeAsked" "I") ∈ am_kw := am_in2 (List.mem_of_getElem? (i := 41) rfl) rfl
theorem fp_7_24 : am_fP 7 24 (7, 3, .int, false) := ⟨"TapTerminal$Report", F_Report, 8, t_Report, cp_Report.1, by decide, cp_Report.2.1, cp_Report.2.2.1, cp_Report.2.2.2, rfl, rfl, cp_Report.2.2.1 3 (by decide), Or.inl kw_2_41, fun _ => ⟨kw_2_41, rfl⟩⟩
theorem kw_2_43 : (Jvm.Cond.fieldLink "TapTerminal$Report" (27 : Nat) "TapTerminal$Report" "counter" "I") ∈ am_kw := am_in2 (List.mem_of_getElem? (i := 43) rfl) rfl
theorem fp_7_27 : am_fP 7 27 (7, 4, .int, false) := ⟨"TapTerminal$Report", F_Report, 8, t_Report, cp_Report.1, by decide, cp_Report.2.1, cp_Report.2.2.1, cp_Report.2.2.2, rfl, rfl, cp_Report.2.2.1 4 (by decide), Or.inl kw_2_43, fun _ => ⟨kw_2_43, rfl⟩⟩
theorem kw_2_45 : (Jvm.Cond.fieldLink "TapTerminal$Report" (30 : Nat) "TapTerminal$Report" "mixture" "I") ∈ am_kw := am_in2 (List.mem_of_getElem? (i := 45) rfl) rfl
theorem fp_7_30 : am_fP 7 30 (7, 5, .int, false) := ⟨"TapTerminal$Report", F_Report, 8, t_Report, cp_Report.1, by decide, cp_Report.2.1, cp_Report.2.2.1, cp_Report.2.2.2, rfl, rfl, cp_Report.2.2.1 5 (by decide), Or.inl kw_2_45, fun _ => ⟨kw_2_45, rfl⟩⟩
theorem kw_2_47 : (Jvm.Cond.fieldLink "TapTerminal$Report" (33 : Nat) "TapTerminal$Report" "selected" "I") ∈ am_kw := am_in2 (List.mem_of_getElem? (i := 47) rfl) rfl
theorem fp_7_33 : am_fP 7 33 (7, 6, .int, false) := ⟨"TapTerminal$Report", F_Report, 8, t_Report, cp_Report.1, by decide, cp_Report.2.1, cp_Report.2.2.1, cp_Report.2.2.2, rfl, rfl, cp_Report.2.2.1 6 (by decide), Or.inl kw_2_47, fun _ => ⟨kw_2_47, rfl⟩⟩
theorem kw_2_49 : (Jvm.Cond.fieldLink "TapTerminal$Report" (36 : Nat) "TapTerminal$Report" "recordsRead" "I") ∈ am_kw := am_in2 (List.mem_of_getElem? (i := 49) rfl) rfl
theorem fp_7_36 : am_fP 7 36 (7, 7, .int, false) := ⟨"TapTerminal$Report", F_Report, 8, t_Report, cp_Report.1, by decide, cp_Report.2.1, cp_Report.2.2.1, cp_Report.2.2.2, rfl, rfl, cp_Report.2.2.1 7 (by decide), Or.inl kw_2_49, fun _ => ⟨kw_2_49, rfl⟩⟩
def fls_7 : List (Nat × Nat × Nat × FieldType × Bool) := [(14, 7, 0, .int, false), (18, 7, 1, .int, false), (21, 7, 2, .int, false), (24, 7, 3, .int, false), (27, 7, 4, .int, false), (30, 7, 5, .int, false), (33, 7, 6, .int, false), (36, 7, 7, .int, false)]
set_option maxRecDepth 20000 in
theorem fls_7_ok : ∀ e ∈ fls_7, am_fP 7 e.1 e.2 := List.forall_mem_cons.mpr ⟨fp_7_14, List.forall_mem_cons.mpr ⟨fp_7_18, List.forall_mem_cons.mpr ⟨fp_7_21, List.forall_mem_cons.mpr ⟨fp_7_24, List.forall_mem_cons.mpr ⟨fp_7_27, List.forall_mem_cons.mpr ⟨fp_7_30, List.forall_mem_cons.mpr ⟨fp_7_33, List.forall_mem_cons.mpr ⟨fp_7_36, fun _ h => absurd h List.not_mem_nil⟩⟩⟩⟩⟩⟩⟩⟩
theorem kw_1_45 : (Jvm.Cond.fieldLink "TapTerminal" (81 : Nat) "TapTerminal$Row" "count" "I") ∈ am_kw := am_in1 (List.mem_of_getElem? (i := 45) rfl) rfl
theorem fp_8_81 : am_fP 8 81 (0, 1, .int, false) := ⟨"TapTerminal$Row", F_Row, 2, t_Row, cp_Row.1, by decide, cp_Row.2.1, cp_Row.2.2.1, cp_Row.2.2.2, rfl, rfl, cp_Row.2.2.1 1 (by decide), Or.inl kw_1_45, fun h => absurd h (by decide)⟩
theorem kw_1_84 : (Jvm.Cond.fieldLink "TapTerminal" (261 : Nat) "TapTerminal$Card" "exists" "Z") ∈ am_kw := am_in1 (List.mem_of_getElem? (i := 84) rfl) rfl
theorem fp_8_261 : am_fP 8 261 (2, 0, .boolean, false) := ⟨"TapTerminal$Card", F_Card, 18, t_Card, cp_Card.1, by decide, cp_Card.2.1, cp_Card.2.2.1, cp_Card.2.2.2, rfl, rfl, cp_Card.2.2.1 0 (by decide), Or.inl kw_1_84, fun h => absurd h (by decide)⟩
theorem kw_1_87 : (Jvm.Cond.fieldLink "TapTerminal" (90 : Nat) "TapTerminal$Card" "inField" "Z") ∈ am_kw := am_in1 (List.mem_of_getElem? (i := 87) rfl) rfl
theorem fp_8_90 : am_fP 8 90 (2, 1, .boolean, false) := ⟨"TapTerminal$Card", F_Card, 18, t_Card, cp_Card.1, by decide, cp_Card.2.1, cp_Card.2.2.1, cp_Card.2.2.2, rfl, rfl, cp_Card.2.2.1 1 (by decide), Or.inl kw_1_87, fun h => absurd h (by decide)⟩
theorem kw_1_92 : (Jvm.Cond.fieldLink "TapTerminal" (178 : Nat) "TapTerminal$Card" "address" "I") ∈ am_kw := am_in1 (List.mem_of_getElem? (i := 92) rfl) rfl
theorem fp_8_178 : am_fP 8 178 (2, 3, .int, false) := ⟨"TapTerminal$Card", F_Card, 18, t_Card, cp_Card.1, by decide, cp_Card.2.1, cp_Card.2.2.1, cp_Card.2.2.2, rfl, rfl, cp_Card.2.2.1 3 (by decide), Or.inl kw_1_92, fun h => absurd h (by decide)⟩
theorem kw_1_98 : (Jvm.Cond.fieldLink "TapTerminal" (181 : Nat) "TapTerminal$Card" "counter" "I") ∈ am_kw := am_in1 (List.mem_of_getElem? (i := 98) rfl) rfl
theorem fp_8_181 : am_fP 8 181 (2, 7, .int, false) := ⟨"TapTerminal$Card", F_Card, 18, t_Card, cp_Card.1, by decide, cp_Card.2.1, cp_Card.2.2.1, cp_Card.2.2.2, rfl, rfl, cp_Card.2.2.1 7 (by decide), Or.inl kw_1_98, fun h => absurd h (by decide)⟩
theorem kw_1_100 : (Jvm.Cond.fieldLink "TapTerminal" (70 : Nat) "TapTerminal$Card" "cap" "I") ∈ am_kw := am_in1 (List.mem_of_getElem? (i := 100) rfl) rfl
theorem fp_8_70 : am_fP 8 70 (2, 8, .int, false) := ⟨"TapTerminal$Card", F_Card, 18, t_Card, cp_Card.1, by decide, cp_Card.2.1, cp_Card.2.2.1, cp_Card.2.2.2, rfl, rfl, cp_Card.2.2.1 8 (by decide), Or.inl kw_1_100, fun h => absurd h (by decide)⟩
theorem kw_1_102 : (Jvm.Cond.fieldLink "TapTerminal" (74 : Nat) "TapTerminal$Card" "limit" "I") ∈ am_kw := am_in1 (List.mem_of_getElem? (i := 102) rfl) rfl
theorem fp_8_74 : am_fP 8 74 (2, 9, .int, false) := ⟨"TapTerminal$Card", F_Card, 18, t_Card, cp_Card.1, by decide, cp_Card.2.1, cp_Card.2.2.1, cp_Card.2.2.2, rfl, rfl, cp_Card.2.2.1 9 (by decide), Or.inl kw_1_102, fun h => absurd h (by decide)⟩
theorem kw_1_104 : (Jvm.Cond.fieldLink "TapTerminal" (182 : Nat) "TapTerminal$Card" "runs" "I") ∈ am_kw := am_in1 (List.mem_of_getElem? (i := 104) rfl) rfl
theorem fp_8_182 : am_fP 8 182 (2, 10, .int, false) := ⟨"TapTerminal$Card", F_Card, 18, t_Card, cp_Card.1, by decide, cp_Card.2.1, cp_Card.2.2.1, cp_Card.2.2.2, rfl, rfl, cp_Card.2.2.1 10 (by decide), Or.inl kw_1_104, fun h => absurd h (by decide)⟩
theorem kw_1_106 : (Jvm.Cond.fieldLink "TapTerminal" (185 : Nat) "TapTerminal$Card" "commandsDone" "I") ∈ am_kw := am_in1 (List.mem_of_getElem? (i := 106) rfl) rfl
theorem fp_8_185 : am_fP 8 185 (2, 11, .int, false) := ⟨"TapTerminal$Card", F_Card, 18, t_Card, cp_Card.1, by decide, cp_Card.2.1, cp_Card.2.2.1, cp_Card.2.2.2, rfl, rfl, cp_Card.2.2.1 11 (by decide), Or.inl kw_1_106, fun h => absurd h (by decide)⟩
theorem kw_1_108 : (Jvm.Cond.fieldLink "TapTerminal" (77 : Nat) "TapTerminal$Card" "records" "[LTapTerminal$Row;") ∈ am_kw := am_in1 (List.mem_of_getElem? (i := 108) rfl) rfl
theorem fp_8_77 : am_fP 8 77 (2, 12, (.array (.object "TapTerminal$Row")), true) := ⟨"TapTerminal$Card", F_Card, 18, t_Card, cp_Card.1, by decide, cp_Card.2.1, cp_Card.2.2.1, cp_Card.2.2.2, rfl, rfl, cp_Card.2.2.1 12 (by decide), Or.inl kw_1_108, fun h => absurd h (by decide)⟩
theorem kw_1_159 : (Jvm.Cond.fieldLink "TapTerminal" (116 : Nat) "TapTerminal$Journal" "faults" "[I") ∈ am_kw := am_in1 (List.mem_of_getElem? (i := 159) rfl) rfl
theorem fp_8_116 : am_fP 8 116 (3, 0, (.array .int), true) := ⟨"TapTerminal$Journal", F_Journal, 6, t_Journal, cp_Journal.1, by decide, cp_Journal.2.1, cp_Journal.2.2.1, cp_Journal.2.2.2, rfl, rfl, cp_Journal.2.2.1 0 (by decide), Or.inl kw_1_159, fun h => absurd h (by decide)⟩
theorem kw_1_161 : (Jvm.Cond.fieldLink "TapTerminal" (168 : Nat) "TapTerminal$Journal" "kinds" "[I") ∈ am_kw := am_in1 (List.mem_of_getElem? (i := 161) rfl) rfl
theorem fp_8_168 : am_fP 8 168 (3, 1, (.array .int), true) := ⟨"TapTerminal$Journal", F_Journal, 6, t_Journal, cp_Journal.1, by decide, cp_Journal.2.1, cp_Journal.2.2.1, cp_Journal.2.2.2, rfl, rfl, cp_Journal.2.2.1 1 (by decide), Or.inl kw_1_161, fun h => absurd h (by decide)⟩
theorem kw_1_163 : (Jvm.Cond.fieldLink "TapTerminal" (171 : Nat) "TapTerminal$Journal" "numbers" "[I") ∈ am_kw := am_in1 (List.mem_of_getElem? (i := 163) rfl) rfl
theorem fp_8_171 : am_fP 8 171 (3, 2, (.array .int), true) := ⟨"TapTerminal$Journal", F_Journal, 6, t_Journal, cp_Journal.1, by decide, cp_Journal.2.1, cp_Journal.2.2.1, cp_Journal.2.2.2, rfl, rfl, cp_Journal.2.2.1 2 (by decide), Or.inl kw_1_163, fun h => absurd h (by decide)⟩
theorem kw_1_165 : (Jvm.Cond.fieldLink "TapTerminal" (174 : Nat) "TapTerminal$Journal" "answered" "[Z") ∈ am_kw := am_in1 (List.mem_of_getElem? (i := 165) rfl) rfl
theorem fp_8_174 : am_fP 8 174 (3, 3, (.array .boolean), true) := ⟨"TapTerminal$Journal", F_Journal, 6, t_Journal, cp_Journal.1, by decide, cp_Journal.2.1, cp_Journal.2.2.1, cp_Journal.2.2.2, rfl, rfl, cp_Journal.2.2.1 3 (by decide), Or.inl kw_1_165, fun h => absurd h (by decide)⟩
theorem kw_1_167 : (Jvm.Cond.fieldLink "TapTerminal" (158 : Nat) "TapTerminal$Journal" "count" "I") ∈ am_kw := am_in1 (List.mem_of_getElem? (i := 167) rfl) rfl
theorem fp_8_158 : am_fP 8 158 (3, 4, .int, false) := ⟨"TapTerminal$Journal", F_Journal, 6, t_Journal, cp_Journal.1, by decide, cp_Journal.2.1, cp_Journal.2.2.1, cp_Journal.2.2.2, rfl, rfl, cp_Journal.2.2.1 4 (by decide), Or.inl kw_1_167, fun h => absurd h (by decide)⟩
theorem kw_1_169 : (Jvm.Cond.fieldLink "TapTerminal" (159 : Nat) "TapTerminal$Journal" "unanswered" "I") ∈ am_kw := am_in1 (List.mem_of_getElem? (i := 169) rfl) rfl
theorem fp_8_159 : am_fP 8 159 (3, 5, .int, false) := ⟨"TapTerminal$Journal", F_Journal, 6, t_Journal, cp_Journal.1, by decide, cp_Journal.2.1, cp_Journal.2.2.1, cp_Journal.2.2.2, rfl, rfl, cp_Journal.2.2.1 5 (by decide), Or.inl kw_1_169, fun h => absurd h (by decide)⟩
theorem kw_1_187 : (Jvm.Cond.fieldLink "TapTerminal" (57 : Nat) "TapTerminal$Air" "cards" "[LTapTerminal$Card;") ∈ am_kw := am_in1 (List.mem_of_getElem? (i := 187) rfl) rfl
theorem fp_8_57 : am_fP 8 57 (4, 0, (.array (.object "TapTerminal$Card")), true) := ⟨"TapTerminal$Air", F_Air, 6, t_Air, cp_Air.1, by decide, cp_Air.2.1, cp_Air.2.2.1, cp_Air.2.2.2, rfl, rfl, cp_Air.2.2.1 0 (by decide), Or.inl kw_1_187, fun h => absurd h (by decide)⟩
theorem kw_1_189 : (Jvm.Cond.fieldLink "TapTerminal" (112 : Nat) "TapTerminal$Air" "journal" "LTapTerminal$Journal;") ∈ am_kw := am_in1 (List.mem_of_getElem? (i := 189) rfl) rfl
theorem fp_8_112 : am_fP 8 112 (4, 1, (.object "TapTerminal$Journal"), true) := ⟨"TapTerminal$Air", F_Air, 6, t_Air, cp_Air.1, by decide, cp_Air.2.1, cp_Air.2.2.1, cp_Air.2.2.2, rfl, rfl, cp_Air.2.2.1 1 (by decide), Or.inl kw_1_189, fun h => absurd h (by decide)⟩
theorem kw_1_191 : (Jvm.Cond.fieldLink "TapTerminal" (218 : Nat) "TapTerminal$Air" "partner" "I") ∈ am_kw := am_in1 (List.mem_of_getElem? (i := 191) rfl) rfl
theorem fp_8_218 : am_fP 8 218 (4, 2, .int, false) := ⟨"TapTerminal$Air", F_Air, 6, t_Air, cp_Air.1, by decide, cp_Air.2.1, cp_Air.2.2.1, cp_Air.2.2.2, rfl, rfl, cp_Air.2.2.1 2 (by decide), Or.inl kw_1_191, fun h => absurd h (by decide)⟩
theorem kw_1_215 : (Jvm.Cond.fieldLink "TapTerminal" (94 : Nat) "TapTerminal$Settings" "place" "I") ∈ am_kw := am_in1 (List.mem_of_getElem? (i := 215) rfl) rfl
theorem fp_8_94 : am_fP 8 94 (6, 0, .int, false) := ⟨"TapTerminal$Settings", F_Settings, 6, t_Settings, cp_Settings.1, by decide, cp_Settings.2.1, cp_Settings.2.2.1, cp_Settings.2.2.2, rfl, rfl, cp_Settings.2.2.1 0 (by decide), Or.inl kw_1_215, fun h => absurd h (by decide)⟩
theorem kw_1_217 : (Jvm.Cond.fieldLink "TapTerminal" (97 : Nat) "TapTerminal$Settings" "floor" "I") ∈ am_kw := am_in1 (List.mem_of_getElem? (i := 217) rfl) rfl
theorem fp_8_97 : am_fP 8 97 (6, 1, .int, false) := ⟨"TapTerminal$Settings", F_Settings, 6, t_Settings, cp_Settings.1, by decide, cp_Settings.2.1, cp_Settings.2.2.1, cp_Settings.2.2.2, rfl, rfl, cp_Settings.2.2.1 1 (by decide), Or.inl kw_1_217, fun h => absurd h (by decide)⟩
theorem kw_1_218 : (Jvm.Cond.fieldLink "TapTerminal" (100 : Nat) "TapTerminal$Settings" "ways" "I") ∈ am_kw := am_in1 (List.mem_of_getElem? (i := 218) rfl) rfl
theorem fp_8_100 : am_fP 8 100 (6, 2, .int, false) := ⟨"TapTerminal$Settings", F_Settings, 6, t_Settings, cp_Settings.1, by decide, cp_Settings.2.1, cp_Settings.2.2.1, cp_Settings.2.2.2, rfl, rfl, cp_Settings.2.2.1 2 (by decide), Or.inl kw_1_218, fun h => absurd h (by decide)⟩
theorem kw_1_221 : (Jvm.Cond.fieldLink "TapTerminal" (103 : Nat) "TapTerminal$Settings" "online" "Z") ∈ am_kw := am_in1 (List.mem_of_getElem? (i := 221) rfl) rfl
theorem fp_8_103 : am_fP 8 103 (6, 3, .boolean, false) := ⟨"TapTerminal$Settings", F_Settings, 6, t_Settings, cp_Settings.1, by decide, cp_Settings.2.1, cp_Settings.2.2.1, cp_Settings.2.2.2, rfl, rfl, cp_Settings.2.2.1 3 (by decide), Or.inl kw_1_221, fun h => absurd h (by decide)⟩
theorem kw_1_223 : (Jvm.Cond.fieldLink "TapTerminal" (106 : Nat) "TapTerminal$Settings" "issuer" "I") ∈ am_kw := am_in1 (List.mem_of_getElem? (i := 223) rfl) rfl
theorem fp_8_106 : am_fP 8 106 (6, 4, .int, false) := ⟨"TapTerminal$Settings", F_Settings, 6, t_Settings, cp_Settings.1, by decide, cp_Settings.2.1, cp_Settings.2.2.1, cp_Settings.2.2.2, rfl, rfl, cp_Settings.2.2.1 4 (by decide), Or.inl kw_1_223, fun h => absurd h (by decide)⟩
theorem kw_1_225 : (Jvm.Cond.fieldLink "TapTerminal" (109 : Nat) "TapTerminal$Settings" "applications" "I") ∈ am_kw := am_in1 (List.mem_of_getElem? (i := 225) rfl) rfl
theorem fp_8_109 : am_fP 8 109 (6, 5, .int, false) := ⟨"TapTerminal$Settings", F_Settings, 6, t_Settings, cp_Settings.1, by decide, cp_Settings.2.1, cp_Settings.2.2.1, cp_Settings.2.2.2, rfl, rfl, cp_Settings.2.2.1 5 (by decide), Or.inl kw_1_225, fun h => absurd h (by decide)⟩
theorem kw_2_9 : (Jvm.Cond.fieldLink "TapTerminal" (247 : Nat) "TapTerminal$Items" "rows" "[LTapTerminal$Row;") ∈ am_kw := am_in2 (List.mem_of_getElem? (i := 9) rfl) rfl
theorem fp_8_247 : am_fP 8 247 (5, 0, (.array (.object "TapTerminal$Row")), true) := ⟨"TapTerminal$Items", F_Items, 4, t_Items, cp_Items.1, by decide, cp_Items.2.1, cp_Items.2.2.1, cp_Items.2.2.2, rfl, rfl, cp_Items.2.2.1 0 (by decide), Or.inl kw_2_9, fun h => absurd h (by decide)⟩
theorem kw_2_12 : (Jvm.Cond.fieldLink "TapTerminal" (240 : Nat) "TapTerminal$Items" "there" "[Z") ∈ am_kw := am_in2 (List.mem_of_getElem? (i := 12) rfl) rfl
theorem fp_8_240 : am_fP 8 240 (5, 1, (.array .boolean), true) := ⟨"TapTerminal$Items", F_Items, 4, t_Items, cp_Items.1, by decide, cp_Items.2.1, cp_Items.2.2.1, cp_Items.2.2.2, rfl, rfl, cp_Items.2.2.1 1 (by decide), Or.inl kw_2_12, fun h => absurd h (by decide)⟩
theorem kw_2_14 : (Jvm.Cond.fieldLink "TapTerminal" (237 : Nat) "TapTerminal$Items" "whole" "Z") ∈ am_kw := am_in2 (List.mem_of_getElem? (i := 14) rfl) rfl
theorem fp_8_237 : am_fP 8 237 (5, 2, .boolean, false) := ⟨"TapTerminal$Items", F_Items, 4, t_Items, cp_Items.1, by decide, cp_Items.2.1, cp_Items.2.2.1, cp_Items.2.2.2, rfl, rfl, cp_Items.2.2.1 2 (by decide), Or.inl kw_2_14, fun h => absurd h (by decide)⟩
theorem kw_2_36 : (Jvm.Cond.fieldLink "TapTerminal" (140 : Nat) "TapTerminal$Report" "ending" "I") ∈ am_kw := am_in2 (List.mem_of_getElem? (i := 36) rfl) rfl
theorem fp_8_140 : am_fP 8 140 (7, 0, .int, false) := ⟨"TapTerminal$Report", F_Report, 8, t_Report, cp_Report.1, by decide, cp_Report.2.1, cp_Report.2.2.1, cp_Report.2.2.2, rfl, rfl, cp_Report.2.2.1 0 (by decide), Or.inl kw_2_36, fun h => absurd h (by decide)⟩
theorem kw_2_38 : (Jvm.Cond.fieldLink "TapTerminal" (143 : Nat) "TapTerminal$Report" "chosen" "I") ∈ am_kw := am_in2 (List.mem_of_getElem? (i := 38) rfl) rfl
theorem fp_8_143 : am_fP 8 143 (7, 1, .int, false) := ⟨"TapTerminal$Report", F_Report, 8, t_Report, cp_Report.1, by decide, cp_Report.2.1, cp_Report.2.2.1, cp_Report.2.2.2, rfl, rfl, cp_Report.2.2.1 1 (by decide), Or.inl kw_2_38, fun h => absurd h (by decide)⟩
theorem kw_2_40 : (Jvm.Cond.fieldLink "TapTerminal" (146 : Nat) "TapTerminal$Report" "findings" "I") ∈ am_kw := am_in2 (List.mem_of_getElem? (i := 40) rfl) rfl
theorem fp_8_146 : am_fP 8 146 (7, 2, .int, false) := ⟨"TapTerminal$Report", F_Report, 8, t_Report, cp_Report.1, by decide, cp_Report.2.1, cp_Report.2.2.1, cp_Report.2.2.2, rfl, rfl, cp_Report.2.2.1 2 (by decide), Or.inl kw_2_40, fun h => absurd h (by decide)⟩
theorem kw_2_42 : (Jvm.Cond.fieldLink "TapTerminal" (149 : Nat) "TapTerminal$Report" "typeAsked" "I") ∈ am_kw := am_in2 (List.mem_of_getElem? (i := 42) rfl) rfl
theorem fp_8_149 : am_fP 8 149 (7, 3, .int, false) := ⟨"TapTerminal$Report", F_Report, 8, t_Report, cp_Report.1, by decide, cp_Report.2.1, cp_Report.2.2.1, cp_Report.2.2.2, rfl, rfl, cp_Report.2.2.1 3 (by decide), Or.inl kw_2_42, fun h => absurd h (by decide)⟩
theorem kw_2_44 : (Jvm.Cond.fieldLink "TapTerminal" (152 : Nat) "TapTerminal$Report" "counter" "I") ∈ am_kw := am_in2 (List.mem_of_getElem? (i := 44) rfl) rfl
theorem fp_8_152 : am_fP 8 152 (7, 4, .int, false) := ⟨"TapTerminal$Report", F_Report, 8, t_Report, cp_Report.1, by decide, cp_Report.2.1, cp_Report.2.2.1, cp_Report.2.2.2, rfl, rfl, cp_Report.2.2.1 4 (by decide), Or.inl kw_2_44, fun h => absurd h (by decide)⟩
theorem kw_2_46 : (Jvm.Cond.fieldLink "TapTerminal" (155 : Nat) "TapTerminal$Report" "mixture" "I") ∈ am_kw := am_in2 (List.mem_of_getElem? (i := 46) rfl) rfl
theorem fp_8_155 : am_fP 8 155 (7, 5, .int, false) := ⟨"TapTerminal$Report", F_Report, 8, t_Report, cp_Report.1, by decide, cp_Report.2.1, cp_Report.2.2.1, cp_Report.2.2.2, rfl, rfl, cp_Report.2.2.1 5 (by decide), Or.inl kw_2_46, fun h => absurd h (by decide)⟩
theorem kw_2_48 : (Jvm.Cond.fieldLink "TapTerminal" (162 : Nat) "TapTerminal$Report" "selected" "I") ∈ am_kw := am_in2 (List.mem_of_getElem? (i := 48) rfl) rfl
theorem fp_8_162 : am_fP 8 162 (7, 6, .int, false) := ⟨"TapTerminal$Report", F_Report, 8, t_Report, cp_Report.1, by decide, cp_Report.2.1, cp_Report.2.2.1, cp_Report.2.2.2, rfl, rfl, cp_Report.2.2.1 6 (by decide), Or.inl kw_2_48, fun h => absurd h (by decide)⟩
theorem kw_2_50 : (Jvm.Cond.fieldLink "TapTerminal" (165 : Nat) "TapTerminal$Report" "recordsRead" "I") ∈ am_kw := am_in2 (List.mem_of_getElem? (i := 50) rfl) rfl
theorem fp_8_165 : am_fP 8 165 (7, 7, .int, false) := ⟨"TapTerminal$Report", F_Report, 8, t_Report, cp_Report.1, by decide, cp_Report.2.1, cp_Report.2.2.1, cp_Report.2.2.2, rfl, rfl, cp_Report.2.2.1 7 (by decide), Or.inl kw_2_50, fun h => absurd h (by decide)⟩
theorem kw_2_70 : (Jvm.Cond.fieldLink "TapTerminal" (10 : Nat) "TapTerminal" "air" "LTapTerminal$Air;") ∈ am_kw := am_in2 (List.mem_of_getElem? (i := 70) rfl) rfl
theorem fp_8_10 : am_fP 8 10 (8, 0, (.object "TapTerminal$Air"), true) := ⟨"TapTerminal", F_Tap, 6, t_Tap, cp_Tap.1, by decide, cp_Tap.2.1, cp_Tap.2.2.1, cp_Tap.2.2.2, rfl, rfl, cp_Tap.2.2.1 0 (by decide), Or.inl kw_2_70, fun _ => ⟨kw_2_70, rfl⟩⟩
theorem kw_2_71 : (Jvm.Cond.fieldLink "TapTerminal" (19 : Nat) "TapTerminal" "settings" "LTapTerminal$Settings;") ∈ am_kw := am_in2 (List.mem_of_getElem? (i := 71) rfl) rfl
theorem fp_8_19 : am_fP 8 19 (8, 1, (.object "TapTerminal$Settings"), true) := ⟨"TapTerminal", F_Tap, 6, t_Tap, cp_Tap.1, by decide, cp_Tap.2.1, cp_Tap.2.2.1, cp_Tap.2.2.2, rfl, rfl, cp_Tap.2.2.1 1 (by decide), Or.inl kw_2_71, fun _ => ⟨kw_2_71, rfl⟩⟩
theorem kw_2_72 : (Jvm.Cond.fieldLink "TapTerminal" (26 : Nat) "TapTerminal" "items" "LTapTerminal$Items;") ∈ am_kw := am_in2 (List.mem_of_getElem? (i := 72) rfl) rfl
theorem fp_8_26 : am_fP 8 26 (8, 2, (.object "TapTerminal$Items"), true) := ⟨"TapTerminal", F_Tap, 6, t_Tap, cp_Tap.1, by decide, cp_Tap.2.1, cp_Tap.2.2.1, cp_Tap.2.2.2, rfl, rfl, cp_Tap.2.2.1 2 (by decide), Or.inl kw_2_72, fun _ => ⟨kw_2_72, rfl⟩⟩
theorem kw_2_73 : (Jvm.Cond.fieldLink "TapTerminal" (33 : Nat) "TapTerminal" "report" "LTapTerminal$Report;") ∈ am_kw := am_in2 (List.mem_of_getElem? (i := 73) rfl) rfl
theorem fp_8_33 : am_fP 8 33 (8, 3, (.object "TapTerminal$Report"), true) := ⟨"TapTerminal", F_Tap, 6, t_Tap, cp_Tap.1, by decide, cp_Tap.2.1, cp_Tap.2.2.1, cp_Tap.2.2.2, rfl, rfl, cp_Tap.2.2.1 3 (by decide), Or.inl kw_2_73, fun _ => ⟨kw_2_73, rfl⟩⟩
theorem kw_2_74 : (Jvm.Cond.fieldLink "TapTerminal" (42 : Nat) "TapTerminal" "command" "LTapTerminal$Row;") ∈ am_kw := am_in2 (List.mem_of_getElem? (i := 74) rfl) rfl
theorem fp_8_42 : am_fP 8 42 (8, 4, (.object "TapTerminal$Row"), true) := ⟨"TapTerminal", F_Tap, 6, t_Tap, cp_Tap.1, by decide, cp_Tap.2.1, cp_Tap.2.2.1, cp_Tap.2.2.2, rfl, rfl, cp_Tap.2.2.1 4 (by decide), Or.inl kw_2_74, fun _ => ⟨kw_2_74, rfl⟩⟩
theorem kw_2_75 : (Jvm.Cond.fieldLink "TapTerminal" (46 : Nat) "TapTerminal" "answer" "LTapTerminal$Row;") ∈ am_kw := am_in2 (List.mem_of_getElem? (i := 75) rfl) rfl
theorem fp_8_46 : am_fP 8 46 (8, 5, (.object "TapTerminal$Row"), true) := ⟨"TapTerminal", F_Tap, 6, t_Tap, cp_Tap.1, by decide, cp_Tap.2.1, cp_Tap.2.2.1, cp_Tap.2.2.2, rfl, rfl, cp_Tap.2.2.1 5 (by decide), Or.inl kw_2_75, fun _ => ⟨kw_2_75, rfl⟩⟩
def fls_8 : List (Nat × Nat × Nat × FieldType × Bool) := [(81, 0, 1, .int, false), (261, 2, 0, .boolean, false), (90, 2, 1, .boolean, false), (178, 2, 3, .int, false), (181, 2, 7, .int, false), (70, 2, 8, .int, false), (74, 2, 9, .int, false), (182, 2, 10, .int, false), (185, 2, 11, .int, false), (77, 2, 12, (.array (.object "TapTerminal$Row")), true), (116, 3, 0, (.array .int), true), (168, 3, 1, (.array .int), true), (171, 3, 2, (.array .int), true), (174, 3, 3, (.array .boolean), true), (158, 3, 4, .int, false), (159, 3, 5, .int, false), (57, 4, 0, (.array (.object "TapTerminal$Card")), true), (112, 4, 1, (.object "TapTerminal$Journal"), true), (218, 4, 2, .int, false), (94, 6, 0, .int, false), (97, 6, 1, .int, false), (100, 6, 2, .int, false), (103, 6, 3, .boolean, false), (106, 6, 4, .int, false), (109, 6, 5, .int, false), (247, 5, 0, (.array (.object "TapTerminal$Row")), true), (240, 5, 1, (.array .boolean), true), (237, 5, 2, .boolean, false), (140, 7, 0, .int, false), (143, 7, 1, .int, false), (146, 7, 2, .int, false), (149, 7, 3, .int, false), (152, 7, 4, .int, false), (155, 7, 5, .int, false), (162, 7, 6, .int, false), (165, 7, 7, .int, false), (10, 8, 0, (.object "TapTerminal$Air"), true), (19, 8, 1, (.object "TapTerminal$Settings"), true), (26, 8, 2, (.object "TapTerminal$Items"), true), (33, 8, 3, (.object "TapTerminal$Report"), true), (42, 8, 4, (.object "TapTerminal$Row"), true), (46, 8, 5, (.object "TapTerminal$Row"), true)]
set_option maxRecDepth 20000 in
theorem fls_8_ok : ∀ e ∈ fls_8, am_fP 8 e.1 e.2 := List.forall_mem_cons.mpr ⟨fp_8_81, List.forall_mem_cons.mpr ⟨fp_8_261, List.forall_mem_cons.mpr ⟨fp_8_90, List.forall_mem_cons.mpr ⟨fp_8_178, List.forall_mem_cons.mpr ⟨fp_8_181, List.forall_mem_cons.mpr ⟨fp_8_70, List.forall_mem_cons.mpr ⟨fp_8_74, List.forall_mem_cons.mpr ⟨fp_8_182, List.forall_mem_cons.mpr ⟨fp_8_185, List.forall_mem_cons.mpr ⟨fp_8_77, List.forall_mem_cons.mpr ⟨fp_8_116, List.forall_mem_cons.mpr ⟨fp_8_168, List.forall_mem_cons.mpr ⟨fp_8_171, List.forall_mem_cons.mpr ⟨fp_8_174, List.forall_mem_cons.mpr ⟨fp_8_158, List.forall_mem_cons.mpr ⟨fp_8_159, List.forall_mem_cons.mpr ⟨fp_8_57, List.forall_mem_cons.mpr ⟨fp_8_112, List.forall_mem_cons.mpr ⟨fp_8_218, List.forall_mem_cons.mpr ⟨fp_8_94, List.forall_mem_cons.mpr ⟨fp_8_97, List.forall_mem_cons.mpr ⟨fp_8_100, List.forall_mem_cons.mpr ⟨fp_8_103, List.forall_mem_cons.mpr ⟨fp_8_106, List.forall_mem_cons.mpr ⟨fp_8_109, List.forall_mem_cons.mpr ⟨fp_8_247, List.forall_mem_cons.mpr ⟨fp_8_240, List.forall_mem_cons.mpr ⟨fp_8_237, List.forall_mem_cons.mpr ⟨fp_8_140, List.forall_mem_cons.mpr ⟨fp_8_143, List.forall_mem_cons.mpr ⟨fp_8_146, List.forall_mem_cons.mpr ⟨fp_8_149, List.forall_mem_cons.mpr ⟨fp_8_152, List.forall_mem_cons.mpr ⟨fp_8_155, List.forall_mem_cons.mpr ⟨fp_8_162, List.forall_mem_cons.mpr ⟨fp_8_165, List.forall_mem_cons.mpr ⟨fp_8_10, List.forall_mem_cons.mpr ⟨fp_8_19, List.forall_mem_cons.mpr ⟨fp_8_26, List.forall_mem_cons.mpr ⟨fp_8_33, List.forall_mem_cons.mpr ⟨fp_8_42, List.forall_mem_cons.mpr ⟨fp_8_46, fun _ h => absurd h List.not_mem_nil⟩⟩⟩⟩⟩⟩⟩⟩⟩⟩⟩⟩⟩⟩⟩⟩⟩⟩⟩⟩⟩⟩⟩⟩⟩⟩⟩⟩⟩⟩⟩⟩⟩⟩⟩⟩⟩⟩⟩⟩⟩⟩
theorem kw_3_141 : (Jvm.Cond.fieldLink "TapTerminalModel" (7 : Nat) "TapTerminalModel" "there" "[Z") ∈ am_kw := am_in3 (List.mem_of_getElem? (i := 141) rfl) rfl
theorem fp_9_7 : am_fP 9 7 (9, 0, (.array .boolean), true) := ⟨"TapTerminalModel", F_Mod, 54, t_Mod, cp_Mod.1, by decide, cp_Mod.2.1, cp_Mod.2.2.1, cp_Mod.2.2.2, rfl, rfl, cp_Mod.2.2.1 0 (by decide), Or.inl kw_3_141, fun _ => ⟨kw_3_141, rfl⟩⟩
theorem kw_3_142 : (Jvm.Cond.fieldLink "TapTerminalModel" (13 : Nat) "TapTerminalModel" "inField" "[Z") ∈ am_kw := am_in3 (List.mem_of_getElem? (i := 142) rfl) rfl
theorem fp_9_13 : am_fP 9 13 (9, 1, (.array .boolean), true) := ⟨"TapTerminalModel", F_Mod, 54, t_Mod, cp_Mod.1, by decide, cp_Mod.2.1, cp_Mod.2.2.1, cp_Mod.2.2.2, rfl, rfl, cp_Mod.2.2.1 1 (by decide), Or.inl kw_3_142, fun _ => ⟨kw_3_142, rfl⟩⟩
theorem kw_3_143 : (Jvm.Cond.fieldLink "TapTerminalModel" (16 : Nat) "TapTerminalModel" "ready" "[Z") ∈ am_kw := am_in3 (List.mem_of_getElem? (i := 143) rfl) rfl
theorem fp_9_16 : am_fP 9 16 (9, 2, (.array .boolean), true) := ⟨"TapTerminalModel", F_Mod, 54, t_Mod, cp_Mod.1, by decide, cp_Mod.2.1, cp_Mod.2.2.1, cp_Mod.2.2.2, rfl, rfl, cp_Mod.2.2.1 2 (by decide), Or.inl kw_3_143, fun _ => ⟨kw_3_143, rfl⟩⟩
theorem kw_3_144 : (Jvm.Cond.fieldLink "TapTerminalModel" (19 : Nat) "TapTerminalModel" "address" "[I") ∈ am_kw := am_in3 (List.mem_of_getElem? (i := 144) rfl) rfl
theorem fp_9_19 : am_fP 9 19 (9, 3, (.array .int), true) := ⟨"TapTerminalModel", F_Mod, 54, t_Mod, cp_Mod.1, by decide, cp_Mod.2.1, cp_Mod.2.2.1, cp_Mod.2.2.2, rfl, rfl, cp_Mod.2.2.1 3 (by decide), Or.inl kw_3_144, fun _ => ⟨kw_3_144, rfl⟩⟩
theorem kw_3_145 : (Jvm.Cond.fieldLink "TapTerminalModel" (23 : Nat) "TapTerminalModel" "application" "[I") ∈ am_kw := am_in3 (List.mem_of_getElem? (i := 145) rfl) rfl
theorem fp_9_23 : am_fP 9 23 (9, 4, (.array .int), true) := ⟨"TapTerminalModel", F_Mod, 54, t_Mod, cp_Mod.1, by decide, cp_Mod.2.1, cp_Mod.2.2.1, cp_Mod.2.2.2, rfl, rfl, cp_Mod.2.2.1 4 (by decide), Or.inl kw_3_145, fun _ => ⟨kw_3_145, rfl⟩⟩
theorem kw_3_146 : (Jvm.Cond.fieldLink "TapTerminalModel" (26 : Nat) "TapTerminalModel" "key" "[I") ∈ am_kw := am_in3 (List.mem_of_getElem? (i := 146) rfl) rfl
theorem fp_9_26 : am_fP 9 26 (9, 5, (.array .int), true) := ⟨"TapTerminalModel", F_Mod, 54, t_Mod, cp_Mod.1, by decide, cp_Mod.2.1, cp_Mod.2.2.1, cp_Mod.2.2.2, rfl, rfl, cp_Mod.2.2.1 5 (by decide), Or.inl kw_3_146, fun _ => ⟨kw_3_146, rfl⟩⟩
theorem kw_3_147 : (Jvm.Cond.fieldLink "TapTerminalModel" (29 : Nat) "TapTerminalModel" "size" "[I") ∈ am_kw := am_in3 (List.mem_of_getElem? (i := 147) rfl) rfl
theorem fp_9_29 : am_fP 9 29 (9, 6, (.array .int), true) := ⟨"TapTerminalModel", F_Mod, 54, t_Mod, cp_Mod.1, by decide, cp_Mod.2.1, cp_Mod.2.2.1, cp_Mod.2.2.2, rfl, rfl, cp_Mod.2.2.1 6 (by decide), Or.inl kw_3_147, fun _ => ⟨kw_3_147, rfl⟩⟩
theorem kw_3_148 : (Jvm.Cond.fieldLink "TapTerminalModel" (32 : Nat) "TapTerminalModel" "counter" "[I") ∈ am_kw := am_in3 (List.mem_of_getElem? (i := 148) rfl) rfl
theorem fp_9_32 : am_fP 9 32 (9, 7, (.array .int), true) := ⟨"TapTerminalModel", F_Mod, 54, t_Mod, cp_Mod.1, by decide, cp_Mod.2.1, cp_Mod.2.2.1, cp_Mod.2.2.2, rfl, rfl, cp_Mod.2.2.1 7 (by decide), Or.inl kw_3_148, fun _ => ⟨kw_3_148, rfl⟩⟩
theorem kw_3_149 : (Jvm.Cond.fieldLink "TapTerminalModel" (35 : Nat) "TapTerminalModel" "cap" "[I") ∈ am_kw := am_in3 (List.mem_of_getElem? (i := 149) rfl) rfl
theorem fp_9_35 : am_fP 9 35 (9, 8, (.array .int), true) := ⟨"TapTerminalModel", F_Mod, 54, t_Mod, cp_Mod.1, by decide, cp_Mod.2.1, cp_Mod.2.2.1, cp_Mod.2.2.2, rfl, rfl, cp_Mod.2.2.1 8 (by decide), Or.inl kw_3_149, fun _ => ⟨kw_3_149, rfl⟩⟩
theorem kw_3_150 : (Jvm.Cond.fieldLink "TapTerminalModel" (38 : Nat) "TapTerminalModel" "limit" "[I") ∈ am_kw := am_in3 (List.mem_of_getElem? (i := 150) rfl) rfl
theorem fp_9_38 : am_fP 9 38 (9, 9, (.array .int), true) := ⟨"TapTerminalModel", F_Mod, 54, t_Mod, cp_Mod.1, by decide, cp_Mod.2.1, cp_Mod.2.2.1, cp_Mod.2.2.2, rfl, rfl, cp_Mod.2.2.1 9 (by decide), Or.inl kw_3_150, fun _ => ⟨kw_3_150, rfl⟩⟩
theorem kw_3_151 : (Jvm.Cond.fieldLink "TapTerminalModel" (41 : Nat) "TapTerminalModel" "runs" "[I") ∈ am_kw := am_in3 (List.mem_of_getElem? (i := 151) rfl) rfl
theorem fp_9_41 : am_fP 9 41 (9, 10, (.array .int), true) := ⟨"TapTerminalModel", F_Mod, 54, t_Mod, cp_Mod.1, by decide, cp_Mod.2.1, cp_Mod.2.2.1, cp_Mod.2.2.2, rfl, rfl, cp_Mod.2.2.1 10 (by decide), Or.inl kw_3_151, fun _ => ⟨kw_3_151, rfl⟩⟩
theorem kw_3_152 : (Jvm.Cond.fieldLink "TapTerminalModel" (44 : Nat) "TapTerminalModel" "commands" "[I") ∈ am_kw := am_in3 (List.mem_of_getElem? (i := 152) rfl) rfl
theorem fp_9_44 : am_fP 9 44 (9, 11, (.array .int), true) := ⟨"TapTerminalModel", F_Mod, 54, t_Mod, cp_Mod.1, by decide, cp_Mod.2.1, cp_Mod.2.2.1, cp_Mod.2.2.2, rfl, rfl, cp_Mod.2.2.1 11 (by decide), Or.inl kw_3_152, fun _ => ⟨kw_3_152, rfl⟩⟩
theorem kw_3_153 : (Jvm.Cond.fieldLink "TapTerminalModel" (47 : Nat) "TapTerminalModel" "records" "[I") ∈ am_kw := am_in3 (List.mem_of_getElem? (i := 153) rfl) rfl
theorem fp_9_47 : am_fP 9 47 (9, 12, (.array .int), true) := ⟨"TapTerminalModel", F_Mod, 54, t_Mod, cp_Mod.1, by decide, cp_Mod.2.1, cp_Mod.2.2.1, cp_Mod.2.2.2, rfl, rfl, cp_Mod.2.2.1 12 (by decide), Or.inl kw_3_153, fun _ => ⟨kw_3_153, rfl⟩⟩
theorem kw_3_154 : (Jvm.Cond.fieldLink "TapTerminalModel" (50 : Nat) "TapTerminalModel" "lengths" "[I") ∈ am_kw := am_in3 (List.mem_of_getElem? (i := 154) rfl) rfl
theorem fp_9_50 : am_fP 9 50 (9, 13, (.array .int), true) := ⟨"TapTerminalModel", F_Mod, 54, t_Mod, cp_Mod.1, by decide, cp_Mod.2.1, cp_Mod.2.2.1, cp_Mod.2.2.2, rfl, rfl, cp_Mod.2.2.1 13 (by decide), Or.inl kw_3_154, fun _ => ⟨kw_3_154, rfl⟩⟩
theorem kw_3_155 : (Jvm.Cond.fieldLink "TapTerminalModel" (116 : Nat) "TapTerminalModel" "place" "I") ∈ am_kw := am_in3 (List.mem_of_getElem? (i := 155) rfl) rfl
theorem fp_9_116 : am_fP 9 116 (9, 14, .int, false) := ⟨"TapTerminalModel", F_Mod, 54, t_Mod, cp_Mod.1, by decide, cp_Mod.2.1, cp_Mod.2.2.1, cp_Mod.2.2.2, rfl, rfl, cp_Mod.2.2.1 14 (by decide), Or.inl kw_3_155, fun _ => ⟨kw_3_155, rfl⟩⟩
theorem kw_3_156 : (Jvm.Cond.fieldLink "TapTerminalModel" (119 : Nat) "TapTerminalModel" "floor" "I") ∈ am_kw := am_in3 (List.mem_of_getElem? (i := 156) rfl) rfl
theorem fp_9_119 : am_fP 9 119 (9, 15, .int, false) := ⟨"TapTerminalModel", F_Mod, 54, t_Mod, cp_Mod.1, by decide, cp_Mod.2.1, cp_Mod.2.2.1, cp_Mod.2.2.2, rfl, rfl, cp_Mod.2.2.1 15 (by decide), Or.inl kw_3_156, fun _ => ⟨kw_3_156, rfl⟩⟩
theorem kw_3_157 : (Jvm.Cond.fieldLink "TapTerminalModel" (122 : Nat) "TapTerminalModel" "ways" "I") ∈ am_kw := am_in3 (List.mem_of_getElem? (i := 157) rfl) rfl
theorem fp_9_122 : am_fP 9 122 (9, 16, .int, false) := ⟨"TapTerminalModel", F_Mod, 54, t_Mod, cp_Mod.1, by decide, cp_Mod.2.1, cp_Mod.2.2.1, cp_Mod.2.2.2, rfl, rfl, cp_Mod.2.2.1 16 (by decide), Or.inl kw_3_157, fun _ => ⟨kw_3_157, rfl⟩⟩
theorem kw_3_158 : (Jvm.Cond.fieldLink "TapTerminalModel" (125 : Nat) "TapTerminalModel" "issuer" "I") ∈ am_kw := am_in3 (List.mem_of_getElem? (i := 158) rfl) rfl
theorem fp_9_125 : am_fP 9 125 (9, 17, .int, false) := ⟨"TapTerminalModel", F_Mod, 54, t_Mod, cp_Mod.1, by decide, cp_Mod.2.1, cp_Mod.2.2.1, cp_Mod.2.2.2, rfl, rfl, cp_Mod.2.2.1 17 (by decide), Or.inl kw_3_158, fun _ => ⟨kw_3_158, rfl⟩⟩
theorem kw_3_159 : (Jvm.Cond.fieldLink "TapTerminalModel" (128 : Nat) "TapTerminalModel" "applications" "I") ∈ am_kw := am_in3 (List.mem_of_getElem? (i := 159) rfl) rfl
theorem fp_9_128 : am_fP 9 128 (9, 18, .int, false) := ⟨"TapTerminalModel", F_Mod, 54, t_Mod, cp_Mod.1, by decide, cp_Mod.2.1, cp_Mod.2.2.1, cp_Mod.2.2.2, rfl, rfl, cp_Mod.2.2.1 18 (by decide), Or.inl kw_3_159, fun _ => ⟨kw_3_159, rfl⟩⟩
theorem kw_3_160 : (Jvm.Cond.fieldLink "TapTerminalModel" (53 : Nat) "TapTerminalModel" "online" "Z") ∈ am_kw := am_in3 (List.mem_of_getElem? (i := 160) rfl) rfl
theorem fp_9_53 : am_fP 9 53 (9, 19, .boolean, false) := ⟨"TapTerminalModel", F_Mod, 54, t_Mod, cp_Mod.1, by decide, cp_Mod.2.1, cp_Mod.2.2.1, cp_Mod.2.2.2, rfl, rfl, cp_Mod.2.2.1 19 (by decide), Or.inl kw_3_160, fun _ => ⟨kw_3_160, rfl⟩⟩
theorem kw_3_161 : (Jvm.Cond.fieldLink "TapTerminalModel" (57 : Nat) "TapTerminalModel" "faults" "[I") ∈ am_kw := am_in3 (List.mem_of_getElem? (i := 161) rfl) rfl
theorem fp_9_57 : am_fP 9 57 (9, 20, (.array .int), true) := ⟨"TapTerminalModel", F_Mod, 54, t_Mod, cp_Mod.1, by decide, cp_Mod.2.1, cp_Mod.2.2.1, cp_Mod.2.2.2, rfl, rfl, cp_Mod.2.2.1 20 (by decide), Or.inl kw_3_161, fun _ => ⟨kw_3_161, rfl⟩⟩
theorem kw_3_162 : (Jvm.Cond.fieldLink "TapTerminalModel" (60 : Nat) "TapTerminalModel" "kinds" "[I") ∈ am_kw := am_in3 (List.mem_of_getElem? (i := 162) rfl) rfl
theorem fp_9_60 : am_fP 9 60 (9, 21, (.array .int), true) := ⟨"TapTerminalModel", F_Mod, 54, t_Mod, cp_Mod.1, by decide, cp_Mod.2.1, cp_Mod.2.2.1, cp_Mod.2.2.2, rfl, rfl, cp_Mod.2.2.1 21 (by decide), Or.inl kw_3_162, fun _ => ⟨kw_3_162, rfl⟩⟩
theorem kw_3_163 : (Jvm.Cond.fieldLink "TapTerminalModel" (63 : Nat) "TapTerminalModel" "numbers" "[I") ∈ am_kw := am_in3 (List.mem_of_getElem? (i := 163) rfl) rfl
theorem fp_9_63 : am_fP 9 63 (9, 22, (.array .int), true) := ⟨"TapTerminalModel", F_Mod, 54, t_Mod, cp_Mod.1, by decide, cp_Mod.2.1, cp_Mod.2.2.1, cp_Mod.2.2.2, rfl, rfl, cp_Mod.2.2.1 22 (by decide), Or.inl kw_3_163, fun _ => ⟨kw_3_163, rfl⟩⟩
theorem kw_3_164 : (Jvm.Cond.fieldLink "TapTerminalModel" (66 : Nat) "TapTerminalModel" "answered" "[Z") ∈ am_kw := am_in3 (List.mem_of_getElem? (i := 164) rfl) rfl
theorem fp_9_66 : am_fP 9 66 (9, 23, (.array .boolean), true) := ⟨"TapTerminalModel", F_Mod, 54, t_Mod, cp_Mod.1, by decide, cp_Mod.2.1, cp_Mod.2.2.1, cp_Mod.2.2.2, rfl, rfl, cp_Mod.2.2.1 23 (by decide), Or.inl kw_3_164, fun _ => ⟨kw_3_164, rfl⟩⟩
theorem kw_3_165 : (Jvm.Cond.fieldLink "TapTerminalModel" (69 : Nat) "TapTerminalModel" "how" "I") ∈ am_kw := am_in3 (List.mem_of_getElem? (i := 165) rfl) rfl
theorem fp_9_69 : am_fP 9 69 (9, 24, .int, false) := ⟨"TapTerminalModel", F_Mod, 54, t_Mod, cp_Mod.1, by decide, cp_Mod.2.1, cp_Mod.2.2.1, cp_Mod.2.2.2, rfl, rfl, cp_Mod.2.2.1 24 (by decide), Or.inl kw_3_165, fun _ => ⟨kw_3_165, rfl⟩⟩
theorem kw_3_166 : (Jvm.Cond.fieldLink "TapTerminalModel" (73 : Nat) "TapTerminalModel" "chosen" "I") ∈ am_kw := am_in3 (List.mem_of_getElem? (i := 166) rfl) rfl
theorem fp_9_73 : am_fP 9 73 (9, 25, .int, false) := ⟨"TapTerminalModel", F_Mod, 54, t_Mod, cp_Mod.1, by decide, cp_Mod.2.1, cp_Mod.2.2.1, cp_Mod.2.2.2, rfl, rfl, cp_Mod.2.2.1 25 (by decide), Or.inl kw_3_166, fun _ => ⟨kw_3_166, rfl⟩⟩
theorem kw_3_167 : (Jvm.Cond.fieldLink "TapTerminalModel" (204 : Nat) "TapTerminalModel" "findings" "I") ∈ am_kw := am_in3 (List.mem_of_getElem? (i := 167) rfl) rfl
theorem fp_9_204 : am_fP 9 204 (9, 26, .int, false) := ⟨"TapTerminalModel", F_Mod, 54, t_Mod, cp_Mod.1, by decide, cp_Mod.2.1, cp_Mod.2.2.1, cp_Mod.2.2.2, rfl, rfl, cp_Mod.2.2.1 26 (by decide), Or.inl kw_3_167, fun _ => ⟨kw_3_167, rfl⟩⟩
theorem kw_3_168 : (Jvm.Cond.fieldLink "TapTerminalModel" (76 : Nat) "TapTerminalModel" "asked" "I") ∈ am_kw := am_in3 (List.mem_of_getElem? (i := 168) rfl) rfl
theorem fp_9_76 : am_fP 9 76 (9, 27, .int, false) := ⟨"TapTerminalModel", F_Mod, 54, t_Mod, cp_Mod.1, by decide, cp_Mod.2.1, cp_Mod.2.2.1, cp_Mod.2.2.2, rfl, rfl, cp_Mod.2.2.1 27 (by decide), Or.inl kw_3_168, fun _ => ⟨kw_3_168, rfl⟩⟩
theorem kw_3_169 : (Jvm.Cond.fieldLink "TapTerminalModel" (207 : Nat) "TapTerminalModel" "saidCounter" "I") ∈ am_kw := am_in3 (List.mem_of_getElem? (i := 169) rfl) rfl
theorem fp_9_207 : am_fP 9 207 (9, 28, .int, false) := ⟨"TapTerminalModel", F_Mod, 54, t_Mod, cp_Mod.1, by decide, cp_Mod.2.1, cp_Mod.2.2.1, cp_Mod.2.2.2, rfl, rfl, cp_Mod.2.2.1 28 (by decide), Or.inl kw_3_169, fun _ => ⟨kw_3_169, rfl⟩⟩
theorem kw_3_170 : (Jvm.Cond.fieldLink "TapTerminalModel" (210 : Nat) "TapTerminalModel" "saidMix" "I") ∈ am_kw := am_in3 (List.mem_of_getElem? (i := 170) rfl) rfl
theorem fp_9_210 : am_fP 9 210 (9, 29, .int, false) := ⟨"TapTerminalModel", F_Mod, 54, t_Mod, cp_Mod.1, by decide, cp_Mod.2.1, cp_Mod.2.2.1, cp_Mod.2.2.2, rfl, rfl, cp_Mod.2.2.1 29 (by decide), Or.inl kw_3_170, fun _ => ⟨kw_3_170, rfl⟩⟩
theorem kw_3_171 : (Jvm.Cond.fieldLink "TapTerminalModel" (131 : Nat) "TapTerminalModel" "exchanges" "I") ∈ am_kw := am_in3 (List.mem_of_getElem? (i := 171) rfl) rfl
theorem fp_9_131 : am_fP 9 131 (9, 30, .int, false) := ⟨"TapTerminalModel", F_Mod, 54, t_Mod, cp_Mod.1, by decide, cp_Mod.2.1, cp_Mod.2.2.1, cp_Mod.2.2.2, rfl, rfl, cp_Mod.2.2.1 30 (by decide), Or.inl kw_3_171, fun _ => ⟨kw_3_171, rfl⟩⟩
theorem kw_3_172 : (Jvm.Cond.fieldLink "TapTerminalModel" (137 : Nat) "TapTerminalModel" "silentOnes" "I") ∈ am_kw := am_in3 (List.mem_of_getElem? (i := 172) rfl) rfl
theorem fp_9_137 : am_fP 9 137 (9, 31, .int, false) := ⟨"TapTerminalModel", F_Mod, 54, t_Mod, cp_Mod.1, by decide, cp_Mod.2.1, cp_Mod.2.2.1, cp_Mod.2.2.2, rfl, rfl, cp_Mod.2.2.1 31 (by decide), Or.inl kw_3_172, fun _ => ⟨kw_3_172, rfl⟩⟩
theorem kw_3_173 : (Jvm.Cond.fieldLink "TapTerminalModel" (134 : Nat) "TapTerminalModel" "silent" "I") ∈ am_kw := am_in3 (List.mem_of_getElem? (i := 173) rfl) rfl
theorem fp_9_134 : am_fP 9 134 (9, 32, .int, false) := ⟨"TapTerminalModel", F_Mod, 54, t_Mod, cp_Mod.1, by decide, cp_Mod.2.1, cp_Mod.2.2.1, cp_Mod.2.2.2, rfl, rfl, cp_Mod.2.2.1 32 (by decide), Or.inl kw_3_173, fun _ => ⟨kw_3_173, rfl⟩⟩
theorem kw_3_174 : (Jvm.Cond.fieldLink "TapTerminalModel" (213 : Nat) "TapTerminalModel" "selected" "I") ∈ am_kw := am_in3 (List.mem_of_getElem? (i := 174) rfl) rfl
theorem fp_9_213 : am_fP 9 213 (9, 33, .int, false) := ⟨"TapTerminalModel", F_Mod, 54, t_Mod, cp_Mod.1, by decide, cp_Mod.2.1, cp_Mod.2.2.1, cp_Mod.2.2.2, rfl, rfl, cp_Mod.2.2.1 33 (by decide), Or.inl kw_3_174, fun _ => ⟨kw_3_174, rfl⟩⟩
theorem kw_3_175 : (Jvm.Cond.fieldLink "TapTerminalModel" (216 : Nat) "TapTerminalModel" "wholes" "I") ∈ am_kw := am_in3 (List.mem_of_getElem? (i := 175) rfl) rfl
theorem fp_9_216 : am_fP 9 216 (9, 34, .int, false) := ⟨"TapTerminalModel", F_Mod, 54, t_Mod, cp_Mod.1, by decide, cp_Mod.2.1, cp_Mod.2.2.1, cp_Mod.2.2.2, rfl, rfl, cp_Mod.2.2.1 34 (by decide), Or.inl kw_3_175, fun _ => ⟨kw_3_175, rfl⟩⟩
theorem kw_3_176 : (Jvm.Cond.fieldLink "TapTerminalModel" (79 : Nat) "TapTerminalModel" "row" "[I") ∈ am_kw := am_in3 (List.mem_of_getElem? (i := 176) rfl) rfl
theorem fp_9_79 : am_fP 9 79 (9, 35, (.array .int), true) := ⟨"TapTerminalModel", F_Mod, 54, t_Mod, cp_Mod.1, by decide, cp_Mod.2.1, cp_Mod.2.2.1, cp_Mod.2.2.2, rfl, rfl, cp_Mod.2.2.1 35 (by decide), Or.inl kw_3_176, fun _ => ⟨kw_3_176, rfl⟩⟩
theorem kw_3_177 : (Jvm.Cond.fieldLink "TapTerminalModel" (82 : Nat) "TapTerminalModel" "came" "[I") ∈ am_kw := am_in3 (List.mem_of_getElem? (i := 177) rfl) rfl
theorem fp_9_82 : am_fP 9 82 (9, 36, (.array .int), true) := ⟨"TapTerminalModel", F_Mod, 54, t_Mod, cp_Mod.1, by decide, cp_Mod.2.1, cp_Mod.2.2.1, cp_Mod.2.2.2, rfl, rfl, cp_Mod.2.2.1 36 (by decide), Or.inl kw_3_177, fun _ => ⟨kw_3_177, rfl⟩⟩
theorem kw_3_178 : (Jvm.Cond.fieldLink "TapTerminalModel" (85 : Nat) "TapTerminalModel" "reply" "[I") ∈ am_kw := am_in3 (List.mem_of_getElem? (i := 178) rfl) rfl
theorem fp_9_85 : am_fP 9 85 (9, 37, (.array .int), true) := ⟨"TapTerminalModel", F_Mod, 54, t_Mod, cp_Mod.1, by decide, cp_Mod.2.1, cp_Mod.2.2.1, cp_Mod.2.2.2, rfl, rfl, cp_Mod.2.2.1 37 (by decide), Or.inl kw_3_178, fun _ => ⟨kw_3_178, rfl⟩⟩
theorem kw_3_179 : (Jvm.Cond.fieldLink "TapTerminalModel" (88 : Nat) "TapTerminalModel" "got" "[I") ∈ am_kw := am_in3 (List.mem_of_getElem? (i := 179) rfl) rfl
theorem fp_9_88 : am_fP 9 88 (9, 38, (.array .int), true) := ⟨"TapTerminalModel", F_Mod, 54, t_Mod, cp_Mod.1, by decide, cp_Mod.2.1, cp_Mod.2.2.1, cp_Mod.2.2.2, rfl, rfl, cp_Mod.2.2.1 38 (by decide), Or.inl kw_3_179, fun _ => ⟨kw_3_179, rfl⟩⟩
theorem kw_3_180 : (Jvm.Cond.fieldLink "TapTerminalModel" (187 : Nat) "TapTerminalModel" "rowLength" "I") ∈ am_kw := am_in3 (List.mem_of_getElem? (i := 180) rfl) rfl
theorem fp_9_187 : am_fP 9 187 (9, 39, .int, false) := ⟨"TapTerminalModel", F_Mod, 54, t_Mod, cp_Mod.1, by decide, cp_Mod.2.1, cp_Mod.2.2.1, cp_Mod.2.2.2, rfl, rfl, cp_Mod.2.2.1 39 (by decide), Or.inl kw_3_180, fun _ => ⟨kw_3_180, rfl⟩⟩
theorem kw_3_181 : (Jvm.Cond.fieldLink "TapTerminalModel" (162 : Nat) "TapTerminalModel" "cameLength" "I") ∈ am_kw := am_in3 (List.mem_of_getElem? (i := 181) rfl) rfl
theorem fp_9_162 : am_fP 9 162 (9, 40, .int, false) := ⟨"TapTerminalModel", F_Mod, 54, t_Mod, cp_Mod.1, by decide, cp_Mod.2.1, cp_Mod.2.2.1, cp_Mod.2.2.2, rfl, rfl, cp_Mod.2.2.1 40 (by decide), Or.inl kw_3_181, fun _ => ⟨kw_3_181, rfl⟩⟩
theorem kw_3_182 : (Jvm.Cond.fieldLink "TapTerminalModel" (140 : Nat) "TapTerminalModel" "replyLength" "I") ∈ am_kw := am_in3 (List.mem_of_getElem? (i := 182) rfl) rfl
theorem fp_9_140 : am_fP 9 140 (9, 41, .int, false) := ⟨"TapTerminalModel", F_Mod, 54, t_Mod, cp_Mod.1, by decide, cp_Mod.2.1, cp_Mod.2.2.1, cp_Mod.2.2.2, rfl, rfl, cp_Mod.2.2.1 41 (by decide), Or.inl kw_3_182, fun _ => ⟨kw_3_182, rfl⟩⟩
theorem kw_3_183 : (Jvm.Cond.fieldLink "TapTerminalModel" (184 : Nat) "TapTerminalModel" "gotLength" "I") ∈ am_kw := am_in3 (List.mem_of_getElem? (i := 183) rfl) rfl
theorem fp_9_184 : am_fP 9 184 (9, 42, .int, false) := ⟨"TapTerminalModel", F_Mod, 54, t_Mod, cp_Mod.1, by decide, cp_Mod.2.1, cp_Mod.2.2.1, cp_Mod.2.2.2, rfl, rfl, cp_Mod.2.2.1 42 (by decide), Or.inl kw_3_183, fun _ => ⟨kw_3_183, rfl⟩⟩
theorem kw_3_184 : (Jvm.Cond.fieldLink "TapTerminalModel" (193 : Nat) "TapTerminalModel" "number" "I") ∈ am_kw := am_in3 (List.mem_of_getElem? (i := 184) rfl) rfl
theorem fp_9_193 : am_fP 9 193 (9, 43, .int, false) := ⟨"TapTerminalModel", F_Mod, 54, t_Mod, cp_Mod.1, by decide, cp_Mod.2.1, cp_Mod.2.2.1, cp_Mod.2.2.2, rfl, rfl, cp_Mod.2.2.1 43 (by decide), Or.inl kw_3_184, fun _ => ⟨kw_3_184, rfl⟩⟩
theorem kw_3_185 : (Jvm.Cond.fieldLink "TapTerminalModel" (149 : Nat) "TapTerminalModel" "own" "I") ∈ am_kw := am_in3 (List.mem_of_getElem? (i := 185) rfl) rfl
theorem fp_9_149 : am_fP 9 149 (9, 44, .int, false) := ⟨"TapTerminalModel", F_Mod, 54, t_Mod, cp_Mod.1, by decide, cp_Mod.2.1, cp_Mod.2.2.1, cp_Mod.2.2.2, rfl, rfl, cp_Mod.2.2.1 44 (by decide), Or.inl kw_3_185, fun _ => ⟨kw_3_185, rfl⟩⟩
theorem kw_3_186 : (Jvm.Cond.fieldLink "TapTerminalModel" (143 : Nat) "TapTerminalModel" "from" "I") ∈ am_kw := am_in3 (List.mem_of_getElem? (i := 186) rfl) rfl
theorem fp_9_143 : am_fP 9 143 (9, 45, .int, false) := ⟨"TapTerminalModel", F_Mod, 54, t_Mod, cp_Mod.1, by decide, cp_Mod.2.1, cp_Mod.2.2.1, cp_Mod.2.2.2, rfl, rfl, cp_Mod.2.2.1 45 (by decide), Or.inl kw_3_186, fun _ => ⟨kw_3_186, rfl⟩⟩
theorem kw_3_187 : (Jvm.Cond.fieldLink "TapTerminalModel" (155 : Nat) "TapTerminalModel" "last" "I") ∈ am_kw := am_in3 (List.mem_of_getElem? (i := 187) rfl) rfl
theorem fp_9_155 : am_fP 9 155 (9, 46, .int, false) := ⟨"TapTerminalModel", F_Mod, 54, t_Mod, cp_Mod.1, by decide, cp_Mod.2.1, cp_Mod.2.2.1, cp_Mod.2.2.2, rfl, rfl, cp_Mod.2.2.1 46 (by decide), Or.inl kw_3_187, fun _ => ⟨kw_3_187, rfl⟩⟩
theorem kw_3_188 : (Jvm.Cond.fieldLink "TapTerminalModel" (146 : Nat) "TapTerminalModel" "chosenNow" "I") ∈ am_kw := am_in3 (List.mem_of_getElem? (i := 188) rfl) rfl
theorem fp_9_146 : am_fP 9 146 (9, 47, .int, false) := ⟨"TapTerminalModel", F_Mod, 54, t_Mod, cp_Mod.1, by decide, cp_Mod.2.1, cp_Mod.2.2.1, cp_Mod.2.2.2, rfl, rfl, cp_Mod.2.2.1 47 (by decide), Or.inl kw_3_188, fun _ => ⟨kw_3_188, rfl⟩⟩
theorem kw_3_189 : (Jvm.Cond.fieldLink "TapTerminalModel" (152 : Nat) "TapTerminalModel" "saidAck" "Z") ∈ am_kw := am_in3 (List.mem_of_getElem? (i := 189) rfl) rfl
theorem fp_9_152 : am_fP 9 152 (9, 48, .boolean, false) := ⟨"TapTerminalModel", F_Mod, 54, t_Mod, cp_Mod.1, by decide, cp_Mod.2.1, cp_Mod.2.2.1, cp_Mod.2.2.2, rfl, rfl, cp_Mod.2.2.1 48 (by decide), Or.inl kw_3_189, fun _ => ⟨kw_3_189, rfl⟩⟩
theorem kw_3_190 : (Jvm.Cond.fieldLink "TapTerminalModel" (91 : Nat) "TapTerminalModel" "read" "[I") ∈ am_kw := am_in3 (List.mem_of_getElem? (i := 190) rfl) rfl
theorem fp_9_91 : am_fP 9 91 (9, 49, (.array .int), true) := ⟨"TapTerminalModel", F_Mod, 54, t_Mod, cp_Mod.1, by decide, cp_Mod.2.1, cp_Mod.2.2.1, cp_Mod.2.2.2, rfl, rfl, cp_Mod.2.2.1 49 (by decide), Or.inl kw_3_190, fun _ => ⟨kw_3_190, rfl⟩⟩
theorem kw_3_191 : (Jvm.Cond.fieldLink "TapTerminalModel" (94 : Nat) "TapTerminalModel" "readLength" "[I") ∈ am_kw := am_in3 (List.mem_of_getElem? (i := 191) rfl) rfl
theorem fp_9_94 : am_fP 9 94 (9, 50, (.array .int), true) := ⟨"TapTerminalModel", F_Mod, 54, t_Mod, cp_Mod.1, by decide, cp_Mod.2.1, cp_Mod.2.2.1, cp_Mod.2.2.2, rfl, rfl, cp_Mod.2.2.1 50 (by decide), Or.inl kw_3_191, fun _ => ⟨kw_3_191, rfl⟩⟩
theorem kw_3_192 : (Jvm.Cond.fieldLink "TapTerminalModel" (97 : Nat) "TapTerminalModel" "ends" "[I") ∈ am_kw := am_in3 (List.mem_of_getElem? (i := 192) rfl) rfl
theorem fp_9_97 : am_fP 9 97 (9, 51, (.array .int), true) := ⟨"TapTerminalModel", F_Mod, 54, t_Mod, cp_Mod.1, by decide, cp_Mod.2.1, cp_Mod.2.2.1, cp_Mod.2.2.2, rfl, rfl, cp_Mod.2.2.1 51 (by decide), Or.inl kw_3_192, fun _ => ⟨kw_3_192, rfl⟩⟩
theorem kw_3_193 : (Jvm.Cond.fieldLink "TapTerminalModel" (100 : Nat) "TapTerminalModel" "itemAt" "[I") ∈ am_kw := am_in3 (List.mem_of_getElem? (i := 193) rfl) rfl
theorem fp_9_100 : am_fP 9 100 (9, 52, (.array .int), true) := ⟨"TapTerminalModel", F_Mod, 54, t_Mod, cp_Mod.1, by decide, cp_Mod.2.1, cp_Mod.2.2.1, cp_Mod.2.2.2, rfl, rfl, cp_Mod.2.2.1 52 (by decide), Or.inl kw_3_193, fun _ => ⟨kw_3_193, rfl⟩⟩
theorem kw_3_194 : (Jvm.Cond.fieldLink "TapTerminalModel" (103 : Nat) "TapTerminalModel" "itemLength" "[I") ∈ am_kw := am_in3 (List.mem_of_getElem? (i := 194) rfl) rfl
theorem fp_9_103 : am_fP 9 103 (9, 53, (.array .int), true) := ⟨"TapTerminalModel", F_Mod, 54, t_Mod, cp_Mod.1, by decide, cp_Mod.2.1, cp_Mod.2.2.1, cp_Mod.2.2.2, rfl, rfl, cp_Mod.2.2.1 53 (by decide), Or.inl kw_3_194, fun _ => ⟨kw_3_194, rfl⟩⟩
def fls_9 : List (Nat × Nat × Nat × FieldType × Bool) := [(7, 9, 0, (.array .boolean), true), (13, 9, 1, (.array .boolean), true), (16, 9, 2, (.array .boolean), true), (19, 9, 3, (.array .int), true), (23, 9, 4, (.array .int), true), (26, 9, 5, (.array .int), true), (29, 9, 6, (.array .int), true), (32, 9, 7, (.array .int), true), (35, 9, 8, (.array .int), true), (38, 9, 9, (.array .int), true), (41, 9, 10, (.array .int), true), (44, 9, 11, (.array .int), true), (47, 9, 12, (.array .int), true), (50, 9, 13, (.array .int), true), (116, 9, 14, .int, false), (119, 9, 15, .int, false), (122, 9, 16, .int, false), (125, 9, 17, .int, false), (128, 9, 18, .int, false), (53, 9, 19, .boolean, false), (57, 9, 20, (.array .int), true), (60, 9, 21, (.array .int), true), (63, 9, 22, (.array .int), true), (66, 9, 23, (.array .boolean), true), (69, 9, 24, .int, false), (73, 9, 25, .int, false), (204, 9, 26, .int, false), (76, 9, 27, .int, false), (207, 9, 28, .int, false), (210, 9, 29, .int, false), (131, 9, 30, .int, false), (137, 9, 31, .int, false), (134, 9, 32, .int, false), (213, 9, 33, .int, false), (216, 9, 34, .int, false), (79, 9, 35, (.array .int), true), (82, 9, 36, (.array .int), true), (85, 9, 37, (.array .int), true), (88, 9, 38, (.array .int), true), (187, 9, 39, .int, false), (162, 9, 40, .int, false), (140, 9, 41, .int, false), (184, 9, 42, .int, false), (193, 9, 43, .int, false), (149, 9, 44, .int, false), (143, 9, 45, .int, false), (155, 9, 46, .int, false), (146, 9, 47, .int, false), (152, 9, 48, .boolean, false), (91, 9, 49, (.array .int), true), (94, 9, 50, (.array .int), true), (97, 9, 51, (.array .int), true), (100, 9, 52, (.array .int), true), (103, 9, 53, (.array .int), true)]
set_option maxRecDepth 20000 in
theorem fls_9_ok : ∀ e ∈ fls_9, am_fP 9 e.1 e.2 := List.forall_mem_cons.mpr ⟨fp_9_7, List.forall_mem_cons.mpr ⟨fp_9_13, List.forall_mem_cons.mpr ⟨fp_9_16, List.forall_mem_cons.mpr ⟨fp_9_19, List.forall_mem_cons.mpr ⟨fp_9_23, List.forall_mem_cons.mpr ⟨fp_9_26, List.forall_mem_cons.mpr ⟨fp_9_29, List.forall_mem_cons.mpr ⟨fp_9_32, List.forall_mem_cons.mpr ⟨fp_9_35, List.forall_mem_cons.mpr ⟨fp_9_38, List.forall_mem_cons.mpr ⟨fp_9_41, List.forall_mem_cons.mpr ⟨fp_9_44, List.forall_mem_cons.mpr ⟨fp_9_47, List.forall_mem_cons.mpr ⟨fp_9_50, List.forall_mem_cons.mpr ⟨fp_9_116, List.forall_mem_cons.mpr ⟨fp_9_119, List.forall_mem_cons.mpr ⟨fp_9_122, List.forall_mem_cons.mpr ⟨fp_9_125, List.forall_mem_cons.mpr ⟨fp_9_128, List.forall_mem_cons.mpr ⟨fp_9_53, List.forall_mem_cons.mpr ⟨fp_9_57, List.forall_mem_cons.mpr ⟨fp_9_60, List.forall_mem_cons.mpr ⟨fp_9_63, List.forall_mem_cons.mpr ⟨fp_9_66, List.forall_mem_cons.mpr ⟨fp_9_69, List.forall_mem_cons.mpr ⟨fp_9_73, List.forall_mem_cons.mpr ⟨fp_9_204, List.forall_mem_cons.mpr ⟨fp_9_76, List.forall_mem_cons.mpr ⟨fp_9_207, List.forall_mem_cons.mpr ⟨fp_9_210, List.forall_mem_cons.mpr ⟨fp_9_131, List.forall_mem_cons.mpr ⟨fp_9_137, List.forall_mem_cons.mpr ⟨fp_9_134, List.forall_mem_cons.mpr ⟨fp_9_213, List.forall_mem_cons.mpr ⟨fp_9_216, List.forall_mem_cons.mpr ⟨fp_9_79, List.forall_mem_cons.mpr ⟨fp_9_82, List.forall_mem_cons.mpr ⟨fp_9_85, List.forall_mem_cons.mpr ⟨fp_9_88, List.forall_mem_cons.mpr ⟨fp_9_187, List.forall_mem_cons.mpr ⟨fp_9_162, List.forall_mem_cons.mpr ⟨fp_9_140, List.forall_mem_cons.mpr ⟨fp_9_184, List.forall_mem_cons.mpr ⟨fp_9_193, List.forall_mem_cons.mpr ⟨fp_9_149, List.forall_mem_cons.mpr ⟨fp_9_143, List.forall_mem_cons.mpr ⟨fp_9_155, List.forall_mem_cons.mpr ⟨fp_9_146, List.forall_mem_cons.mpr ⟨fp_9_152, List.forall_mem_cons.mpr ⟨fp_9_91, List.forall_mem_cons.mpr ⟨fp_9_94, List.forall_mem_cons.mpr ⟨fp_9_97, List.forall_mem_cons.mpr ⟨fp_9_100, List.forall_mem_cons.mpr ⟨fp_9_103, fun _ h => absurd h List.not_mem_nil⟩⟩⟩⟩⟩⟩⟩⟩⟩⟩⟩⟩⟩⟩⟩⟩⟩⟩⟩⟩⟩⟩⟩⟩⟩⟩⟩⟩⟩⟩⟩⟩⟩⟩⟩⟩⟩⟩⟩⟩⟩⟩⟩⟩⟩⟩⟩⟩⟩⟩⟩⟩⟩⟩
def am_lk {α : Type} (l : List (Nat × α)) (k : Nat) : Option α := match l with
  | [] => none
  | e :: r => if e.1 = k then some e.2 else am_lk r k
theorem am_lk_mem {α : Type} {l : List (Nat × α)} {k : Nat} {v : α} (h : am_lk l k = some v) : (k, v) ∈ l := by
  induction l with
  | nil => cases h
  | cons e r ih =>
    unfold am_lk at h
    split at h
    · rename_i he; cases h; rw [← he]; exact List.mem_cons_self
    · exact List.mem_cons_of_mem _ (ih h)
def am_flt (oc : Nat) : List (Nat × Nat × Nat × FieldType × Bool) := match oc with
  | 0 => fls_0
  | 1 => fls_1
  | 2 => fls_2
  | 3 => fls_3
  | 4 => fls_4
  | 5 => fls_5
  | 6 => fls_6
  | 7 => fls_7
  | 8 => fls_8
  | 9 => fls_9
  | _ => []
def am_fl (oc idx : Nat) : Option (Nat × Nat × FieldType × Bool) := am_lk (am_flt oc) idx
theorem am_fl_ok (oc idx : Nat) (f : Nat × Nat × FieldType × Bool) (h : am_fl oc idx = some f) : am_fP oc idx f := by
  have hm := am_lk_mem h
  match oc, hm with
  | 0, hm => exact fls_0_ok _ hm
  | 1, hm => exact fls_1_ok _ hm
  | 2, hm => exact fls_2_ok _ hm
  | 3, hm => exact fls_3_ok _ hm
  | 4, hm => exact fls_4_ok _ hm
  | 5, hm => exact fls_5_ok _ hm
  | 6, hm => exact fls_6_ok _ hm
  | 7, hm => exact fls_7_ok _ hm
  | 8, hm => exact fls_8_ok _ hm
  | 9, hm => exact fls_9_ok _ hm
  | n + 10, hm => cases hm
def am_mP (oc idx : Nat) (f : Nat × Nat × Nat) : Prop := (f.2.1 < 6 → ∃ q : am_M, am_ms[f.1]? = some q ∧ (parseMethodDescriptor q.1.desc).map (fun d => d.parameters.length) = some f.2.2 ∧ (f.2.1 = 0 → Jvm.Cond.methodLink (am_cn oc) idx q.1 ∈ am_kw ∧ Jvm.Cond.instanceMethod q.1 ∈ am_kw ∧ Jvm.Cond.selects q.1.cls q.1 q.1 ∈ am_kw) ∧ (f.2.1 = 1 → (∃ host, Jvm.Cond.methodLinkNest (am_cn oc) idx q.1 host ∈ am_nest) ∧ Jvm.Cond.instanceMethod q.1 ∈ am_kw ∧ Jvm.Cond.selects q.1.cls q.1 q.1 ∈ am_kw) ∧ (f.2.1 = 2 → Jvm.Cond.methodLink (am_cn oc) idx q.1 ∈ am_kw ∧ Jvm.Cond.static q.1 ∈ am_kw) ∧ (f.2.1 = 3 → (∃ host, Jvm.Cond.methodLinkNest (am_cn oc) idx q.1 host ∈ am_nest) ∧ Jvm.Cond.static q.1 ∈ am_kw) ∧ (f.2.1 = 4 → Jvm.Cond.methodLink (am_cn oc) idx q.1 ∈ am_kw ∧ q.1.name = "<init>" ∧ Jvm.Cond.instanceMethod q.1 ∈ am_kw ∧ q.2.2.2.1 = none) ∧ (f.2.1 = 5 → (∃ host, Jvm.Cond.methodLinkNest (am_cn oc) idx q.1 host ∈ am_nest) ∧ q.1.name = "<init>" ∧ Jvm.Cond.instanceMethod q.1 ∈ am_kw ∧ q.2.2.2.1 = none)) ∧ (f.2.1 = 6 → Jvm.Cond.methodLink (am_cn oc) idx objectInit ∈ am_kw) ∧ (f.2.1 = 7 → Jvm.Cond.methodLink (am_cn oc) idx Lib.Math.min.name ∈ am_kw)
theorem am_m0 {oc idx y n : Nat} (q : am_M) (h1 : am_ms[y]? = some q) (h2 : (parseMethodDescriptor q.1.desc).map (fun d => d.parameters.length) = some n) (a : Jvm.Cond.methodLink (am_cn oc) idx q.1 ∈ am_kw) (b : Jvm.Cond.instanceMethod q.1 ∈ am_kw) (c : Jvm.Cond.selects q.1.cls q.1 q.1 ∈ am_kw) : am_mP oc idx (y, 0, n) := ⟨fun _ => ⟨q, h1, h2, fun _ => ⟨a, b, c⟩, fun h => by simp at h, fun h => by simp at h, fun h => by simp at h, fun h => by simp at h, fun h => by simp at h⟩, fun h => by simp at h, fun h => by simp at h⟩
theorem am_m2 {oc idx y n : Nat} (q : am_M) (h1 : am_ms[y]? = some q) (h2 : (parseMethodDescriptor q.1.desc).map (fun d => d.parameters.length) = some n) (a : Jvm.Cond.methodLink (am_cn oc) idx q.1 ∈ am_kw) (b : Jvm.Cond.static q.1 ∈ am_kw) : am_mP oc idx (y, 2, n) := ⟨fun _ => ⟨q, h1, h2, fun h => by simp at h, fun h => by simp at h, fun _ => ⟨a, b⟩, fun h => by simp at h, fun h => by simp at h, fun h => by simp at h⟩, fun h => by simp at h, fun h => by simp at h⟩
theorem am_m3 {oc idx y n : Nat} (q : am_M) (h1 : am_ms[y]? = some q) (h2 : (parseMethodDescriptor q.1.desc).map (fun d => d.parameters.length) = some n) (host : String) (a : Jvm.Cond.methodLinkNest (am_cn oc) idx q.1 host ∈ am_nest) (b : Jvm.Cond.static q.1 ∈ am_kw) : am_mP oc idx (y, 3, n) := ⟨fun _ => ⟨q, h1, h2, fun h => by simp at h, fun h => by simp at h, fun h => by simp at h, fun _ => ⟨⟨host, a⟩, b⟩, fun h => by simp at h, fun h => by simp at h⟩, fun h => by simp at h, fun h => by simp at h⟩
theorem am_m4 {oc idx y n : Nat} (q : am_M) (h1 : am_ms[y]? = some q) (h2 : (parseMethodDescriptor q.1.desc).map (fun d => d.parameters.length) = some n) (a : Jvm.Cond.methodLink (am_cn oc) idx q.1 ∈ am_kw) (b : q.1.name = "<init>") (c : Jvm.Cond.instanceMethod q.1 ∈ am_kw) (e : q.2.2.2.1 = none) : am_mP oc idx (y, 4, n) := ⟨fun _ => ⟨q, h1, h2, fun h => by simp at h, fun h => by simp at h, fun h => by simp at h, fun h => by simp at h, fun _ => ⟨a, b, c, e⟩, fun h => by simp at h⟩, fun h => by simp at h, fun h => by simp at h⟩
theorem am_m6 {oc idx y n : Nat} (a : Jvm.Cond.methodLink (am_cn oc) idx objectInit ∈ am_kw) : am_mP oc idx (y, 6, n) := ⟨fun h => by simp at h, fun _ => a, fun h => by simp at h⟩
theorem am_m7 {oc idx y n : Nat} (a : Jvm.Cond.methodLink (am_cn oc) idx Lib.Math.min.name ∈ am_kw) : am_mP oc idx (y, 7, n) := ⟨fun h => by simp at h, fun h => by simp at h, fun _ => a⟩
theorem kw_1_17 : (Jvm.Cond.methodLink "TapTerminal" (1 : Nat) ({ cls := "java/lang/Object", name := "<init>", desc := "()V" } : Jvm.MethodName)) ∈ am_kw := am_in1 (List.mem_of_getElem? (i := 17) rfl) rfl
theorem mp_8_1 : am_mP 8 1 (0, 6, 0) := am_m6 kw_1_17
theorem kw_1_22 : (Jvm.Cond.methodLink "TapTerminal" (9 : Nat) ({ cls := "TapTerminal$Air", name := "<init>", desc := "()V" } : Jvm.MethodName)) ∈ am_kw := am_in1 (List.mem_of_getElem? (i := 22) rfl) rfl
theorem kw_1_23 : (Jvm.Cond.instanceMethod ({ cls := "TapTerminal$Air", name := "<init>", desc := "()V" } : Jvm.MethodName)) ∈ am_kw := am_in1 (List.mem_of_getElem? (i := 23) rfl) rfl
theorem mp_8_9 : am_mP 8 9 (26, 4, 0) := am_m4 q_Air_init rfl (by decide +kernel) kw_1_22 rfl kw_1_23 rfl
theorem kw_1_25 : (Jvm.Cond.methodLink "TapTerminal$Air" (3 : Nat) ({ cls := "java/lang/Object", name := "<init>", desc := "()V" } : Jvm.MethodName)) ∈ am_kw := am_in1 (List.mem_of_getElem? (i := 25) rfl) rfl
theorem mp_4_3 : am_mP 4 3 (0, 6, 0) := am_m6 kw_1_25
theorem kw_1_29 : (Jvm.Cond.methodLink "TapTerminal$Air" (17 : Nat) ({ cls := "TapTerminal$Card", name := "<init>", desc := "()V" } : Jvm.MethodName)) ∈ am_kw := am_in1 (List.mem_of_getElem? (i := 29) rfl) rfl
theorem kw_1_30 : (Jvm.Cond.instanceMethod ({ cls := "TapTerminal$Card", name := "<init>", desc := "()V" } : Jvm.MethodName)) ∈ am_kw := am_in1 (List.mem_of_getElem? (i := 30) rfl) rfl
theorem mp_4_17 : am_mP 4 17 (12, 4, 0) := am_m4 q_Card_init rfl (by decide +kernel) kw_1_29 rfl kw_1_30 rfl
theorem kw_1_32 : (Jvm.Cond.methodLink "TapTerminal$Card" (3 : Nat) ({ cls := "java/lang/Object", name := "<init>", desc := "()V" } : Jvm.MethodName)) ∈ am_kw := am_in1 (List.mem_of_getElem? (i := 32) rfl) rfl
theorem mp_2_3 : am_mP 2 3 (0, 6, 0) := am_m6 kw_1_32
theorem kw_1_36 : (Jvm.Cond.methodLink "TapTerminal$Card" (17 : Nat) ({ cls := "TapTerminal$Row", name := "<init>", desc := "(I)V" } : Jvm.MethodName)) ∈ am_kw := am_in1 (List.mem_of_getElem? (i := 36) rfl) rfl
theorem kw_1_37 : (Jvm.Cond.instanceMethod ({ cls := "TapTerminal$Row", name := "<init>", desc := "(I)V" } : Jvm.MethodName)) ∈ am_kw := am_in1 (List.mem_of_getElem? (i := 37) rfl) rfl
theorem mp_2_17 : am_mP 2 17 (0, 4, 1) := am_m4 q_Row_init rfl (by decide +kernel) kw_1_36 rfl kw_1_37 rfl
theorem kw_1_39 : (Jvm.Cond.methodLink "TapTerminal$Row" (1 : Nat) ({ cls := "java/lang/Object", name := "<init>", desc := "()V" } : Jvm.MethodName)) ∈ am_kw := am_in1 (List.mem_of_getElem? (i := 39) rfl) rfl
theorem mp_0_1 : am_mP 0 1 (0, 6, 0) := am_m6 kw_1_39
theorem kw_1_56 : (Jvm.Cond.methodLink "TapTerminal$Card" (22 : Nat) ({ cls := "TapTerminal$Block", name := "<init>", desc := "()V" } : Jvm.MethodName)) ∈ am_kw := am_in1 (List.mem_of_getElem? (i := 56) rfl) rfl
theorem kw_1_57 : (Jvm.Cond.instanceMethod ({ cls := "TapTerminal$Block", name := "<init>", desc := "()V" } : Jvm.MethodName)) ∈ am_kw := am_in1 (List.mem_of_getElem? (i := 57) rfl) rfl
theorem mp_2_22 : am_mP 2 22 (9, 4, 0) := am_m4 q_Block_init rfl (by decide +kernel) kw_1_56 rfl kw_1_57 rfl
theorem kw_1_59 : (Jvm.Cond.methodLink "TapTerminal$Block" (3 : Nat) ({ cls := "java/lang/Object", name := "<init>", desc := "()V" } : Jvm.MethodName)) ∈ am_kw := am_in1 (List.mem_of_getElem? (i := 59) rfl) rfl
theorem mp_1_3 : am_mP 1 3 (0, 6, 0) := am_m6 kw_1_59
theorem kw_1_61 : (Jvm.Cond.methodLink "TapTerminal$Block" (11 : Nat) ({ cls := "TapTerminal$Row", name := "<init>", desc := "(I)V" } : Jvm.MethodName)) ∈ am_kw := am_in1 (List.mem_of_getElem? (i := 61) rfl) rfl
theorem mp_1_11 : am_mP 1 11 (0, 4, 1) := am_m4 q_Row_init rfl (by decide +kernel) kw_1_61 rfl kw_1_37 rfl
theorem kw_1_154 : (Jvm.Cond.methodLink "TapTerminal$Air" (20 : Nat) ({ cls := "TapTerminal$Journal", name := "<init>", desc := "()V" } : Jvm.MethodName)) ∈ am_kw := am_in1 (List.mem_of_getElem? (i := 154) rfl) rfl
theorem kw_1_155 : (Jvm.Cond.instanceMethod ({ cls := "TapTerminal$Journal", name := "<init>", desc := "()V" } : Jvm.MethodName)) ∈ am_kw := am_in1 (List.mem_of_getElem? (i := 155) rfl) rfl
theorem mp_4_20 : am_mP 4 20 (22, 4, 0) := am_m4 q_Journal_init rfl (by decide +kernel) kw_1_154 rfl kw_1_155 rfl
theorem kw_1_157 : (Jvm.Cond.methodLink "TapTerminal$Journal" (3 : Nat) ({ cls := "java/lang/Object", name := "<init>", desc := "()V" } : Jvm.MethodName)) ∈ am_kw := am_in1 (List.mem_of_getElem? (i := 157) rfl) rfl
theorem mp_3_3 : am_mP 3 3 (0, 6, 0) := am_m6 kw_1_157
theorem kw_1_185 : (Jvm.Cond.methodLink "TapTerminal$Air" (27 : Nat) ({ cls := "TapTerminal$Block", name := "<init>", desc := "()V" } : Jvm.MethodName)) ∈ am_kw := am_in1 (List.mem_of_getElem? (i := 185) rfl) rfl
theorem mp_4_27 : am_mP 4 27 (9, 4, 0) := am_m4 q_Block_init rfl (by decide +kernel) kw_1_185 rfl kw_1_57 rfl
theorem kw_1_210 : (Jvm.Cond.methodLink "TapTerminal" (18 : Nat) ({ cls := "TapTerminal$Settings", name := "<init>", desc := "()V" } : Jvm.MethodName)) ∈ am_kw := am_in1 (List.mem_of_getElem? (i := 210) rfl) rfl
theorem kw_1_211 : (Jvm.Cond.instanceMethod ({ cls := "TapTerminal$Settings", name := "<init>", desc := "()V" } : Jvm.MethodName)) ∈ am_kw := am_in1 (List.mem_of_getElem? (i := 211) rfl) rfl
theorem mp_8_18 : am_mP 8 18 (44, 4, 0) := am_m4 q_Settings_init rfl (by decide +kernel) kw_1_210 rfl kw_1_211 rfl
theorem kw_1_213 : (Jvm.Cond.methodLink "TapTerminal$Settings" (3 : Nat) ({ cls := "java/lang/Object", name := "<init>", desc := "()V" } : Jvm.MethodName)) ∈ am_kw := am_in1 (List.mem_of_getElem? (i := 213) rfl) rfl
theorem mp_6_3 : am_mP 6 3 (0, 6, 0) := am_m6 kw_1_213
theorem kw_2_1 : (Jvm.Cond.methodLink "TapTerminal" (25 : Nat) ({ cls := "TapTerminal$Items", name := "<init>", desc := "()V" } : Jvm.MethodName)) ∈ am_kw := am_in2 (List.mem_of_getElem? (i := 1) rfl) rfl
theorem kw_2_2 : (Jvm.Cond.instanceMethod ({ cls := "TapTerminal$Items", name := "<init>", desc := "()V" } : Jvm.MethodName)) ∈ am_kw := am_in2 (List.mem_of_getElem? (i := 2) rfl) rfl
theorem mp_8_25 : am_mP 8 25 (38, 4, 0) := am_m4 q_Items_init rfl (by decide +kernel) kw_2_1 rfl kw_2_2 rfl
theorem kw_2_4 : (Jvm.Cond.methodLink "TapTerminal$Items" (3 : Nat) ({ cls := "java/lang/Object", name := "<init>", desc := "()V" } : Jvm.MethodName)) ∈ am_kw := am_in2 (List.mem_of_getElem? (i := 4) rfl) rfl
theorem mp_5_3 : am_mP 5 3 (0, 6, 0) := am_m6 kw_2_4
theorem kw_2_6 : (Jvm.Cond.methodLink "TapTerminal$Items" (17 : Nat) ({ cls := "TapTerminal$Row", name := "<init>", desc := "(I)V" } : Jvm.MethodName)) ∈ am_kw := am_in2 (List.mem_of_getElem? (i := 6) rfl) rfl
theorem mp_5_17 : am_mP 5 17 (0, 4, 1) := am_m4 q_Row_init rfl (by decide +kernel) kw_2_6 rfl kw_1_37 rfl
theorem kw_2_27 : (Jvm.Cond.methodLink "TapTerminal" (32 : Nat) ({ cls := "TapTerminal$Report", name := "<init>", desc := "()V" } : Jvm.MethodName)) ∈ am_kw := am_in2 (List.mem_of_getElem? (i := 27) rfl) rfl
theorem kw_2_28 : (Jvm.Cond.instanceMethod ({ cls := "TapTerminal$Report", name := "<init>", desc := "()V" } : Jvm.MethodName)) ∈ am_kw := am_in2 (List.mem_of_getElem? (i := 28) rfl) rfl
theorem mp_8_32 : am_mP 8 32 (52, 4, 0) := am_m4 q_Report_init rfl (by decide +kernel) kw_2_27 rfl kw_2_28 rfl
theorem kw_2_30 : (Jvm.Cond.methodLink "TapTerminal$Report" (3 : Nat) ({ cls := "java/lang/Object", name := "<init>", desc := "()V" } : Jvm.MethodName)) ∈ am_kw := am_in2 (List.mem_of_getElem? (i := 30) rfl) rfl
theorem mp_7_3 : am_mP 7 3 (0, 6, 0) := am_m6 kw_2_30
theorem kw_2_31 : (Jvm.Cond.methodLink "TapTerminal$Report" (9 : Nat) ({ cls := "TapTerminal$Report", name := "clear", desc := "()V" } : Jvm.MethodName)) ∈ am_kw := am_in2 (List.mem_of_getElem? (i := 31) rfl) rfl
theorem kw_2_32 : (Jvm.Cond.instanceMethod ({ cls := "TapTerminal$Report", name := "clear", desc := "()V" } : Jvm.MethodName)) ∈ am_kw := am_in2 (List.mem_of_getElem? (i := 32) rfl) rfl
theorem kw_2_33 : (Jvm.Cond.selects "TapTerminal$Report" ({ cls := "TapTerminal$Report", name := "clear", desc := "()V" } : Jvm.MethodName) ({ cls := "TapTerminal$Report", name := "clear", desc := "()V" } : Jvm.MethodName)) ∈ am_kw := am_in2 (List.mem_of_getElem? (i := 33) rfl) rfl
theorem mp_7_9 : am_mP 7 9 (53, 0, 0) := am_m0 q_Report_clear rfl (by decide +kernel) kw_2_31 kw_2_32 kw_2_33
theorem kw_2_69 : (Jvm.Cond.methodLink "TapTerminal" (39 : Nat) ({ cls := "TapTerminal$Row", name := "<init>", desc := "(I)V" } : Jvm.MethodName)) ∈ am_kw := am_in2 (List.mem_of_getElem? (i := 69) rfl) rfl
theorem mp_8_39 : am_mP 8 39 (0, 4, 1) := am_m4 q_Row_init rfl (by decide +kernel) kw_2_69 rfl kw_1_37 rfl
theorem kw_2_94 : (Jvm.Cond.static ({ cls := "TapTerminal", name := "isWithin", desc := "(II)Z" } : Jvm.MethodName)) ∈ am_kw := am_in2 (List.mem_of_getElem? (i := 94) rfl) rfl
theorem kw_2_93 : (Jvm.Cond.methodLink "TapTerminal" (49 : Nat) ({ cls := "TapTerminal", name := "isWithin", desc := "(II)Z" } : Jvm.MethodName)) ∈ am_kw := am_in2 (List.mem_of_getElem? (i := 93) rfl) rfl
theorem mp_8_49 : am_mP 8 49 (72, 2, 2) := am_m2 q_Tap_isWithin rfl (by decide +kernel) kw_2_93 kw_2_94
theorem kw_2_97 : (Jvm.Cond.static ({ cls := "TapTerminal", name := "isOctet", desc := "(I)Z" } : Jvm.MethodName)) ∈ am_kw := am_in2 (List.mem_of_getElem? (i := 97) rfl) rfl
theorem kw_2_96 : (Jvm.Cond.methodLink "TapTerminal" (53 : Nat) ({ cls := "TapTerminal", name := "isOctet", desc := "(I)Z" } : Jvm.MethodName)) ∈ am_kw := am_in2 (List.mem_of_getElem? (i := 96) rfl) rfl
theorem mp_8_53 : am_mP 8 53 (73, 2, 1) := am_m2 q_Tap_isOctet rfl (by decide +kernel) kw_2_96 kw_2_97
theorem kw_2_99 : (Jvm.Cond.methodLink "TapTerminal" (61 : Nat) ({ cls := "TapTerminal$Card", name := "renew", desc := "(IIII)V" } : Jvm.MethodName)) ∈ am_kw := am_in2 (List.mem_of_getElem? (i := 99) rfl) rfl
theorem kw_2_100 : (Jvm.Cond.instanceMethod ({ cls := "TapTerminal$Card", name := "renew", desc := "(IIII)V" } : Jvm.MethodName)) ∈ am_kw := am_in2 (List.mem_of_getElem? (i := 100) rfl) rfl
theorem kw_2_101 : (Jvm.Cond.selects "TapTerminal$Card" ({ cls := "TapTerminal$Card", name := "renew", desc := "(IIII)V" } : Jvm.MethodName) ({ cls := "TapTerminal$Card", name := "renew", desc := "(IIII)V" } : Jvm.MethodName)) ∈ am_kw := am_in2 (List.mem_of_getElem? (i := 101) rfl) rfl
theorem mp_8_61 : am_mP 8 61 (13, 0, 4) := am_m0 q_Card_renew rfl (by decide +kernel) kw_2_99 kw_2_100 kw_2_101
theorem kw_2_104 : (Jvm.Cond.methodLink "TapTerminal$Card" (70 : Nat) ({ cls := "TapTerminal$Row", name := "clear", desc := "()V" } : Jvm.MethodName)) ∈ am_kw := am_in2 (List.mem_of_getElem? (i := 104) rfl) rfl
theorem kw_2_105 : (Jvm.Cond.instanceMethod ({ cls := "TapTerminal$Row", name := "clear", desc := "()V" } : Jvm.MethodName)) ∈ am_kw := am_in2 (List.mem_of_getElem? (i := 105) rfl) rfl
theorem kw_2_106 : (Jvm.Cond.selects "TapTerminal$Row" ({ cls := "TapTerminal$Row", name := "clear", desc := "()V" } : Jvm.MethodName) ({ cls := "TapTerminal$Row", name := "clear", desc := "()V" } : Jvm.MethodName)) ∈ am_kw := am_in2 (List.mem_of_getElem? (i := 106) rfl) rfl
theorem mp_2_70 : am_mP 2 70 (1, 0, 0) := am_m0 q_Row_clear rfl (by decide +kernel) kw_2_104 kw_2_105 kw_2_106
theorem kw_2_112 : (Jvm.Cond.methodLink "TapTerminal" (67 : Nat) ({ cls := "TapTerminal", name := "isCard", desc := "(I)Z" } : Jvm.MethodName)) ∈ am_kw := am_in2 (List.mem_of_getElem? (i := 112) rfl) rfl
theorem kw_2_114 : (Jvm.Cond.instanceMethod ({ cls := "TapTerminal", name := "isCard", desc := "(I)Z" } : Jvm.MethodName)) ∈ am_kw := am_in2 (List.mem_of_getElem? (i := 114) rfl) rfl
theorem kw_0_0 : (Jvm.Cond.selects "TapTerminal" ({ cls := "TapTerminal", name := "isCard", desc := "(I)Z" } : Jvm.MethodName) ({ cls := "TapTerminal", name := "isCard", desc := "(I)Z" } : Jvm.MethodName)) ∈ am_kw := am_in0 (List.mem_of_getElem? (i := 0) rfl) rfl
theorem mp_8_67 : am_mP 8 67 (71, 0, 1) := am_m0 q_Tap_isCard rfl (by decide +kernel) kw_2_112 kw_2_114 kw_0_0
theorem kw_2_120 : (Jvm.Cond.methodLink "TapTerminal" (84 : Nat) ({ cls := "TapTerminal$Row", name := "add", desc := "(I)V" } : Jvm.MethodName)) ∈ am_kw := am_in2 (List.mem_of_getElem? (i := 120) rfl) rfl
theorem kw_2_121 : (Jvm.Cond.instanceMethod ({ cls := "TapTerminal$Row", name := "add", desc := "(I)V" } : Jvm.MethodName)) ∈ am_kw := am_in2 (List.mem_of_getElem? (i := 121) rfl) rfl
theorem kw_2_122 : (Jvm.Cond.selects "TapTerminal$Row" ({ cls := "TapTerminal$Row", name := "add", desc := "(I)V" } : Jvm.MethodName) ({ cls := "TapTerminal$Row", name := "add", desc := "(I)V" } : Jvm.MethodName)) ∈ am_kw := am_in2 (List.mem_of_getElem? (i := 122) rfl) rfl
theorem mp_8_84 : am_mP 8 84 (2, 0, 1) := am_m0 q_Row_add rfl (by decide +kernel) kw_2_120 kw_2_121 kw_2_122
theorem kw_2_128 : (Jvm.Cond.methodLink "TapTerminal" (87 : Nat) ({ cls := "TapTerminal$Air", name := "isAddressTaken", desc := "(I)Z" } : Jvm.MethodName)) ∈ am_kw := am_in2 (List.mem_of_getElem? (i := 128) rfl) rfl
theorem kw_2_129 : (Jvm.Cond.instanceMethod ({ cls := "TapTerminal$Air", name := "isAddressTaken", desc := "(I)Z" } : Jvm.MethodName)) ∈ am_kw := am_in2 (List.mem_of_getElem? (i := 129) rfl) rfl
theorem kw_2_130 : (Jvm.Cond.selects "TapTerminal$Air" ({ cls := "TapTerminal$Air", name := "isAddressTaken", desc := "(I)Z" } : Jvm.MethodName) ({ cls := "TapTerminal$Air", name := "isAddressTaken", desc := "(I)Z" } : Jvm.MethodName)) ∈ am_kw := am_in2 (List.mem_of_getElem? (i := 130) rfl) rfl
theorem mp_8_87 : am_mP 8 87 (27, 0, 1) := am_m0 q_Air_isAddressTaken rfl (by decide +kernel) kw_2_128 kw_2_129 kw_2_130
theorem kw_2_148 : (Jvm.Cond.methodLink "TapTerminal" (122 : Nat) ({ cls := "TapTerminal$Report", name := "clear", desc := "()V" } : Jvm.MethodName)) ∈ am_kw := am_in2 (List.mem_of_getElem? (i := 148) rfl) rfl
theorem mp_8_122 : am_mP 8 122 (53, 0, 0) := am_m0 q_Report_clear rfl (by decide +kernel) kw_2_148 kw_2_32 kw_2_33
theorem kw_2_149 : (Jvm.Cond.methodLink "TapTerminal" (125 : Nat) ({ cls := "TapTerminal$Air", name := "begin", desc := "()V" } : Jvm.MethodName)) ∈ am_kw := am_in2 (List.mem_of_getElem? (i := 149) rfl) rfl
theorem kw_2_150 : (Jvm.Cond.instanceMethod ({ cls := "TapTerminal$Air", name := "begin", desc := "()V" } : Jvm.MethodName)) ∈ am_kw := am_in2 (List.mem_of_getElem? (i := 150) rfl) rfl
theorem kw_2_151 : (Jvm.Cond.selects "TapTerminal$Air" ({ cls := "TapTerminal$Air", name := "begin", desc := "()V" } : Jvm.MethodName) ({ cls := "TapTerminal$Air", name := "begin", desc := "()V" } : Jvm.MethodName)) ∈ am_kw := am_in2 (List.mem_of_getElem? (i := 151) rfl) rfl
theorem mp_8_125 : am_mP 8 125 (28, 0, 0) := am_m0 q_Air_begin rfl (by decide +kernel) kw_2_149 kw_2_150 kw_2_151
theorem kw_2_153 : (Jvm.Cond.methodLink "TapTerminal$Air" (40 : Nat) ({ cls := "TapTerminal$Journal", name := "clear", desc := "()V" } : Jvm.MethodName)) ∈ am_kw := am_in2 (List.mem_of_getElem? (i := 153) rfl) rfl
theorem kw_2_154 : (Jvm.Cond.instanceMethod ({ cls := "TapTerminal$Journal", name := "clear", desc := "()V" } : Jvm.MethodName)) ∈ am_kw := am_in2 (List.mem_of_getElem? (i := 154) rfl) rfl
theorem kw_2_155 : (Jvm.Cond.selects "TapTerminal$Journal" ({ cls := "TapTerminal$Journal", name := "clear", desc := "()V" } : Jvm.MethodName) ({ cls := "TapTerminal$Journal", name := "clear", desc := "()V" } : Jvm.MethodName)) ∈ am_kw := am_in2 (List.mem_of_getElem? (i := 155) rfl) rfl
theorem mp_4_40 : am_mP 4 40 (23, 0, 0) := am_m0 q_Journal_clear rfl (by decide +kernel) kw_2_153 kw_2_154 kw_2_155
theorem kw_2_157 : (Jvm.Cond.methodLink "TapTerminal" (128 : Nat) ({ cls := "TapTerminal", name := "chooseCard", desc := "()I" } : Jvm.MethodName)) ∈ am_kw := am_in2 (List.mem_of_getElem? (i := 157) rfl) rfl
theorem kw_2_159 : (Jvm.Cond.instanceMethod ({ cls := "TapTerminal", name := "chooseCard", desc := "()I" } : Jvm.MethodName)) ∈ am_kw := am_in2 (List.mem_of_getElem? (i := 159) rfl) rfl
theorem kw_0_1 : (Jvm.Cond.selects "TapTerminal" ({ cls := "TapTerminal", name := "chooseCard", desc := "()I" } : Jvm.MethodName) ({ cls := "TapTerminal", name := "chooseCard", desc := "()I" } : Jvm.MethodName)) ∈ am_kw := am_in0 (List.mem_of_getElem? (i := 1) rfl) rfl
theorem mp_8_128 : am_mP 8 128 (67, 0, 0) := am_m0 q_Tap_chooseCard rfl (by decide +kernel) kw_2_157 kw_2_159 kw_0_1
theorem kw_2_161 : (Jvm.Cond.methodLink "TapTerminal" (195 : Nat) ({ cls := "TapTerminal$Air", name := "wake", desc := "()Z" } : Jvm.MethodName)) ∈ am_kw := am_in2 (List.mem_of_getElem? (i := 161) rfl) rfl
theorem kw_2_162 : (Jvm.Cond.instanceMethod ({ cls := "TapTerminal$Air", name := "wake", desc := "()Z" } : Jvm.MethodName)) ∈ am_kw := am_in2 (List.mem_of_getElem? (i := 162) rfl) rfl
theorem kw_2_163 : (Jvm.Cond.selects "TapTerminal$Air" ({ cls := "TapTerminal$Air", name := "wake", desc := "()Z" } : Jvm.MethodName) ({ cls := "TapTerminal$Air", name := "wake", desc := "()Z" } : Jvm.MethodName)) ∈ am_kw := am_in2 (List.mem_of_getElem? (i := 163) rfl) rfl
theorem mp_8_195 : am_mP 8 195 (29, 0, 0) := am_m0 q_Air_wake rfl (by decide +kernel) kw_2_161 kw_2_162 kw_2_163
theorem kw_2_165 : (Jvm.Cond.methodLink "TapTerminal$Air" (46 : Nat) ({ cls := "TapTerminal$Air", name := "gather", desc := "(II)V" } : Jvm.MethodName)) ∈ am_kw := am_in2 (List.mem_of_getElem? (i := 165) rfl) rfl
theorem kw_2_167 : (Jvm.Cond.instanceMethod ({ cls := "TapTerminal$Air", name := "gather", desc := "(II)V" } : Jvm.MethodName)) ∈ am_kw := am_in2 (List.mem_of_getElem? (i := 167) rfl) rfl
theorem kw_0_2 : (Jvm.Cond.selects "TapTerminal$Air" ({ cls := "TapTerminal$Air", name := "gather", desc := "(II)V" } : Jvm.MethodName) ({ cls := "TapTerminal$Air", name := "gather", desc := "(II)V" } : Jvm.MethodName)) ∈ am_kw := am_in0 (List.mem_of_getElem? (i := 2) rfl) rfl
theorem mp_4_46 : am_mP 4 46 (35, 0, 2) := am_m0 q_Air_gather rfl (by decide +kernel) kw_2_165 kw_2_167 kw_0_2
theorem kw_2_169 : (Jvm.Cond.methodLink "TapTerminal$Air" (119 : Nat) ({ cls := "TapTerminal$Card", name := "beginsWith", desc := "(II)Z" } : Jvm.MethodName)) ∈ am_kw := am_in2 (List.mem_of_getElem? (i := 169) rfl) rfl
theorem kw_2_170 : (Jvm.Cond.instanceMethod ({ cls := "TapTerminal$Card", name := "beginsWith", desc := "(II)Z" } : Jvm.MethodName)) ∈ am_kw := am_in2 (List.mem_of_getElem? (i := 170) rfl) rfl
theorem kw_2_171 : (Jvm.Cond.selects "TapTerminal$Card" ({ cls := "TapTerminal$Card", name := "beginsWith", desc := "(II)Z" } : Jvm.MethodName) ({ cls := "TapTerminal$Card", name := "beginsWith", desc := "(II)Z" } : Jvm.MethodName)) ∈ am_kw := am_in2 (List.mem_of_getElem? (i := 171) rfl) rfl
theorem mp_4_119 : am_mP 4 119 (15, 0, 2) := am_m0 q_Card_beginsWith rfl (by decide +kernel) kw_2_169 kw_2_170 kw_2_171
theorem kw_2_173 : (Jvm.Cond.methodLink "TapTerminal$Air" (50 : Nat) ({ cls := "TapTerminal$Air", name := "call", desc := "(II)Z" } : Jvm.MethodName)) ∈ am_kw := am_in2 (List.mem_of_getElem? (i := 173) rfl) rfl
theorem kw_2_175 : (Jvm.Cond.instanceMethod ({ cls := "TapTerminal$Air", name := "call", desc := "(II)Z" } : Jvm.MethodName)) ∈ am_kw := am_in2 (List.mem_of_getElem? (i := 175) rfl) rfl
theorem kw_0_3 : (Jvm.Cond.selects "TapTerminal$Air" ({ cls := "TapTerminal$Air", name := "call", desc := "(II)Z" } : Jvm.MethodName) ({ cls := "TapTerminal$Air", name := "call", desc := "(II)Z" } : Jvm.MethodName)) ∈ am_kw := am_in0 (List.mem_of_getElem? (i := 3) rfl) rfl
theorem mp_4_50 : am_mP 4 50 (36, 0, 2) := am_m0 q_Air_call rfl (by decide +kernel) kw_2_173 kw_2_175 kw_0_3
theorem kw_2_177 : (Jvm.Cond.methodLink "TapTerminal$Air" (78 : Nat) ({ cls := "TapTerminal$Journal", name := "nextFault", desc := "()I" } : Jvm.MethodName)) ∈ am_kw := am_in2 (List.mem_of_getElem? (i := 177) rfl) rfl
theorem kw_2_178 : (Jvm.Cond.instanceMethod ({ cls := "TapTerminal$Journal", name := "nextFault", desc := "()I" } : Jvm.MethodName)) ∈ am_kw := am_in2 (List.mem_of_getElem? (i := 178) rfl) rfl
theorem kw_2_179 : (Jvm.Cond.selects "TapTerminal$Journal" ({ cls := "TapTerminal$Journal", name := "nextFault", desc := "()I" } : Jvm.MethodName) ({ cls := "TapTerminal$Journal", name := "nextFault", desc := "()I" } : Jvm.MethodName)) ∈ am_kw := am_in2 (List.mem_of_getElem? (i := 179) rfl) rfl
theorem mp_4_78 : am_mP 4 78 (24, 0, 0) := am_m0 q_Journal_nextFault rfl (by decide +kernel) kw_2_177 kw_2_178 kw_2_179
theorem kw_2_181 : (Jvm.Cond.methodLink "TapTerminal$Air" (122 : Nat) ({ cls := "TapTerminal$Card", name := "hearCall", desc := "(I)V" } : Jvm.MethodName)) ∈ am_kw := am_in2 (List.mem_of_getElem? (i := 181) rfl) rfl
theorem kw_2_182 : (Jvm.Cond.instanceMethod ({ cls := "TapTerminal$Card", name := "hearCall", desc := "(I)V" } : Jvm.MethodName)) ∈ am_kw := am_in2 (List.mem_of_getElem? (i := 182) rfl) rfl
theorem kw_2_183 : (Jvm.Cond.selects "TapTerminal$Card" ({ cls := "TapTerminal$Card", name := "hearCall", desc := "(I)V" } : Jvm.MethodName) ({ cls := "TapTerminal$Card", name := "hearCall", desc := "(I)V" } : Jvm.MethodName)) ∈ am_kw := am_in2 (List.mem_of_getElem? (i := 183) rfl) rfl
theorem mp_4_122 : am_mP 4 122 (16, 0, 1) := am_m0 q_Card_hearCall rfl (by decide +kernel) kw_2_181 kw_2_182 kw_2_183
theorem kw_2_185 : (Jvm.Cond.methodLink "TapTerminal$Air" (86 : Nat) ({ cls := "TapTerminal$Journal", name := "note", desc := "(IIZ)Z" } : Jvm.MethodName)) ∈ am_kw := am_in2 (List.mem_of_getElem? (i := 185) rfl) rfl
theorem kw_2_186 : (Jvm.Cond.instanceMethod ({ cls := "TapTerminal$Journal", name := "note", desc := "(IIZ)Z" } : Jvm.MethodName)) ∈ am_kw := am_in2 (List.mem_of_getElem? (i := 186) rfl) rfl
theorem kw_2_187 : (Jvm.Cond.selects "TapTerminal$Journal" ({ cls := "TapTerminal$Journal", name := "note", desc := "(IIZ)Z" } : Jvm.MethodName) ({ cls := "TapTerminal$Journal", name := "note", desc := "(IIZ)Z" } : Jvm.MethodName)) ∈ am_kw := am_in2 (List.mem_of_getElem? (i := 187) rfl) rfl
theorem mp_4_86 : am_mP 4 86 (25, 0, 3) := am_m0 q_Journal_note rfl (by decide +kernel) kw_2_185 kw_2_186 kw_2_187
theorem kw_2_189 : (Jvm.Cond.methodLink "TapTerminal" (199 : Nat) ({ cls := "TapTerminal$Air", name := "findAddress", desc := "()I" } : Jvm.MethodName)) ∈ am_kw := am_in2 (List.mem_of_getElem? (i := 189) rfl) rfl
theorem kw_2_190 : (Jvm.Cond.instanceMethod ({ cls := "TapTerminal$Air", name := "findAddress", desc := "()I" } : Jvm.MethodName)) ∈ am_kw := am_in2 (List.mem_of_getElem? (i := 190) rfl) rfl
theorem kw_2_191 : (Jvm.Cond.selects "TapTerminal$Air" ({ cls := "TapTerminal$Air", name := "findAddress", desc := "()I" } : Jvm.MethodName) ({ cls := "TapTerminal$Air", name := "findAddress", desc := "()I" } : Jvm.MethodName)) ∈ am_kw := am_in2 (List.mem_of_getElem? (i := 191) rfl) rfl
theorem mp_8_199 : am_mP 8 199 (30, 0, 0) := am_m0 q_Air_findAddress rfl (by decide +kernel) kw_2_189 kw_2_190 kw_2_191
theorem kw_2_194 : (Jvm.Cond.static ({ cls := "TapTerminal$Air", name := "leadingZeros", desc := "(I)I" } : Jvm.MethodName)) ∈ am_kw := am_in2 (List.mem_of_getElem? (i := 194) rfl) rfl
theorem kw_2_193 : (Jvm.Cond.methodLink "TapTerminal$Air" (57 : Nat) ({ cls := "TapTerminal$Air", name := "leadingZeros", desc := "(I)I" } : Jvm.MethodName)) ∈ am_kw := am_in2 (List.mem_of_getElem? (i := 193) rfl) rfl
theorem mp_4_57 : am_mP 4 57 (37, 2, 1) := am_m2 q_Air_leadingZeros rfl (by decide +kernel) kw_2_193 kw_2_194
theorem kw_2_196 : (Jvm.Cond.methodLink "TapTerminal" (202 : Nat) ({ cls := "TapTerminal$Air", name := "select", desc := "()Z" } : Jvm.MethodName)) ∈ am_kw := am_in2 (List.mem_of_getElem? (i := 196) rfl) rfl
theorem kw_2_197 : (Jvm.Cond.instanceMethod ({ cls := "TapTerminal$Air", name := "select", desc := "()Z" } : Jvm.MethodName)) ∈ am_kw := am_in2 (List.mem_of_getElem? (i := 197) rfl) rfl
theorem kw_2_198 : (Jvm.Cond.selects "TapTerminal$Air" ({ cls := "TapTerminal$Air", name := "select", desc := "()Z" } : Jvm.MethodName) ({ cls := "TapTerminal$Air", name := "select", desc := "()Z" } : Jvm.MethodName)) ∈ am_kw := am_in2 (List.mem_of_getElem? (i := 198) rfl) rfl
theorem mp_8_202 : am_mP 8 202 (31, 0, 0) := am_m0 q_Air_select rfl (by decide +kernel) kw_2_196 kw_2_197 kw_2_198
theorem kw_2_200 : (Jvm.Cond.methodLink "TapTerminal" (205 : Nat) ({ cls := "TapTerminal", name := "startCommand", desc := "(I)V" } : Jvm.MethodName)) ∈ am_kw := am_in2 (List.mem_of_getElem? (i := 200) rfl) rfl
theorem kw_2_202 : (Jvm.Cond.instanceMethod ({ cls := "TapTerminal", name := "startCommand", desc := "(I)V" } : Jvm.MethodName)) ∈ am_kw := am_in2 (List.mem_of_getElem? (i := 202) rfl) rfl
theorem kw_0_4 : (Jvm.Cond.selects "TapTerminal" ({ cls := "TapTerminal", name := "startCommand", desc := "(I)V" } : Jvm.MethodName) ({ cls := "TapTerminal", name := "startCommand", desc := "(I)V" } : Jvm.MethodName)) ∈ am_kw := am_in0 (List.mem_of_getElem? (i := 4) rfl) rfl
theorem mp_8_205 : am_mP 8 205 (70, 0, 1) := am_m0 q_Tap_startCommand rfl (by decide +kernel) kw_2_200 kw_2_202 kw_0_4
theorem kw_2_204 : (Jvm.Cond.methodLink "TapTerminal" (260 : Nat) ({ cls := "TapTerminal$Row", name := "clear", desc := "()V" } : Jvm.MethodName)) ∈ am_kw := am_in2 (List.mem_of_getElem? (i := 204) rfl) rfl
theorem mp_8_260 : am_mP 8 260 (1, 0, 0) := am_m0 q_Row_clear rfl (by decide +kernel) kw_2_204 kw_2_105 kw_2_106
theorem kw_2_205 : (Jvm.Cond.methodLink "TapTerminal" (208 : Nat) ({ cls := "TapTerminal$Air", name := "transmit", desc := "(LTapTerminal$Row;LTapTerminal$Row;)Z" } : Jvm.MethodName)) ∈ am_kw := am_in2 (List.mem_of_getElem? (i := 205) rfl) rfl
theorem kw_2_206 : (Jvm.Cond.instanceMethod ({ cls := "TapTerminal$Air", name := "transmit", desc := "(LTapTerminal$Row;LTapTerminal$Row;)Z" } : Jvm.MethodName)) ∈ am_kw := am_in2 (List.mem_of_getElem? (i := 206) rfl) rfl
theorem kw_2_207 : (Jvm.Cond.selects "TapTerminal$Air" ({ cls := "TapTerminal$Air", name := "transmit", desc := "(LTapTerminal$Row;LTapTerminal$Row;)Z" } : Jvm.MethodName) ({ cls := "TapTerminal$Air", name := "transmit", desc := "(LTapTerminal$Row;LTapTerminal$Row;)Z" } : Jvm.MethodName)) ∈ am_kw := am_in2 (List.mem_of_getElem? (i := 207) rfl) rfl
theorem mp_8_208 : am_mP 8 208 (33, 0, 2) := am_m0 q_Air_transmit rfl (by decide +kernel) kw_2_205 kw_2_206 kw_2_207
theorem kw_2_209 : (Jvm.Cond.methodLink "TapTerminal$Air" (67 : Nat) ({ cls := "TapTerminal$Row", name := "clear", desc := "()V" } : Jvm.MethodName)) ∈ am_kw := am_in2 (List.mem_of_getElem? (i := 209) rfl) rfl
theorem mp_4_67 : am_mP 4 67 (1, 0, 0) := am_m0 q_Row_clear rfl (by decide +kernel) kw_2_209 kw_2_105 kw_2_106
theorem kw_2_211 : (Jvm.Cond.methodLink "TapTerminal$Air" (74 : Nat) ({ cls := "TapTerminal$Air", name := "prepare", desc := "(ILTapTerminal$Row;II)V" } : Jvm.MethodName)) ∈ am_kw := am_in2 (List.mem_of_getElem? (i := 211) rfl) rfl
theorem kw_2_213 : (Jvm.Cond.instanceMethod ({ cls := "TapTerminal$Air", name := "prepare", desc := "(ILTapTerminal$Row;II)V" } : Jvm.MethodName)) ∈ am_kw := am_in2 (List.mem_of_getElem? (i := 213) rfl) rfl
theorem kw_0_5 : (Jvm.Cond.selects "TapTerminal$Air" ({ cls := "TapTerminal$Air", name := "prepare", desc := "(ILTapTerminal$Row;II)V" } : Jvm.MethodName) ({ cls := "TapTerminal$Air", name := "prepare", desc := "(ILTapTerminal$Row;II)V" } : Jvm.MethodName)) ∈ am_kw := am_in0 (List.mem_of_getElem? (i := 5) rfl) rfl
theorem mp_4_74 : am_mP 4 74 (34, 0, 4) := am_m0 q_Air_prepare rfl (by decide +kernel) kw_2_211 kw_2_213 kw_0_5
theorem kw_2_215 : (Jvm.Cond.methodLink "TapTerminal$Air" (113 : Nat) ({ cls := "TapTerminal$Block", name := "becomePart", desc := "(ILTapTerminal$Row;II)V" } : Jvm.MethodName)) ∈ am_kw := am_in2 (List.mem_of_getElem? (i := 215) rfl) rfl
theorem kw_2_216 : (Jvm.Cond.instanceMethod ({ cls := "TapTerminal$Block", name := "becomePart", desc := "(ILTapTerminal$Row;II)V" } : Jvm.MethodName)) ∈ am_kw := am_in2 (List.mem_of_getElem? (i := 216) rfl) rfl
theorem kw_2_217 : (Jvm.Cond.selects "TapTerminal$Block" ({ cls := "TapTerminal$Block", name := "becomePart", desc := "(ILTapTerminal$Row;II)V" } : Jvm.MethodName) ({ cls := "TapTerminal$Block", name := "becomePart", desc := "(ILTapTerminal$Row;II)V" } : Jvm.MethodName)) ∈ am_kw := am_in2 (List.mem_of_getElem? (i := 217) rfl) rfl
theorem mp_4_113 : am_mP 4 113 (11, 0, 4) := am_m0 q_Block_becomePart rfl (by decide +kernel) kw_2_215 kw_2_216 kw_2_217
theorem kw_2_219 : (Jvm.Cond.methodLink "TapTerminal$Block" (34 : Nat) ({ cls := "TapTerminal$Block", name := "becomePlain", desc := "(II)V" } : Jvm.MethodName)) ∈ am_kw := am_in2 (List.mem_of_getElem? (i := 219) rfl) rfl
theorem kw_2_220 : (Jvm.Cond.instanceMethod ({ cls := "TapTerminal$Block", name := "becomePlain", desc := "(II)V" } : Jvm.MethodName)) ∈ am_kw := am_in2 (List.mem_of_getElem? (i := 220) rfl) rfl
theorem kw_2_221 : (Jvm.Cond.selects "TapTerminal$Block" ({ cls := "TapTerminal$Block", name := "becomePlain", desc := "(II)V" } : Jvm.MethodName) ({ cls := "TapTerminal$Block", name := "becomePlain", desc := "(II)V" } : Jvm.MethodName)) ∈ am_kw := am_in2 (List.mem_of_getElem? (i := 221) rfl) rfl
theorem mp_1_34 : am_mP 1 34 (10, 0, 2) := am_m0 q_Block_becomePlain rfl (by decide +kernel) kw_2_219 kw_2_220 kw_2_221
theorem kw_2_223 : (Jvm.Cond.methodLink "TapTerminal$Block" (31 : Nat) ({ cls := "TapTerminal$Row", name := "clear", desc := "()V" } : Jvm.MethodName)) ∈ am_kw := am_in2 (List.mem_of_getElem? (i := 223) rfl) rfl
theorem mp_1_31 : am_mP 1 31 (1, 0, 0) := am_m0 q_Row_clear rfl (by decide +kernel) kw_2_223 kw_2_105 kw_2_106
theorem kw_2_224 : (Jvm.Cond.methodLink "TapTerminal$Block" (41 : Nat) ({ cls := "java/lang/Math", name := "min", desc := "(II)I" } : Jvm.MethodName)) ∈ am_kw := am_in2 (List.mem_of_getElem? (i := 224) rfl) rfl
theorem mp_1_41 : am_mP 1 41 (0, 7, 2) := am_m7 kw_2_224
theorem kw_2_227 : (Jvm.Cond.methodLink "TapTerminal$Block" (47 : Nat) ({ cls := "TapTerminal$Row", name := "addPart", desc := "(LTapTerminal$Row;II)V" } : Jvm.MethodName)) ∈ am_kw := am_in2 (List.mem_of_getElem? (i := 227) rfl) rfl
theorem kw_2_228 : (Jvm.Cond.instanceMethod ({ cls := "TapTerminal$Row", name := "addPart", desc := "(LTapTerminal$Row;II)V" } : Jvm.MethodName)) ∈ am_kw := am_in2 (List.mem_of_getElem? (i := 228) rfl) rfl
theorem kw_2_229 : (Jvm.Cond.selects "TapTerminal$Row" ({ cls := "TapTerminal$Row", name := "addPart", desc := "(LTapTerminal$Row;II)V" } : Jvm.MethodName) ({ cls := "TapTerminal$Row", name := "addPart", desc := "(LTapTerminal$Row;II)V" } : Jvm.MethodName)) ∈ am_kw := am_in2 (List.mem_of_getElem? (i := 229) rfl) rfl
theorem mp_1_47 : am_mP 1 47 (4, 0, 3) := am_m0 q_Row_addPart rfl (by decide +kernel) kw_2_227 kw_2_228 kw_2_229
theorem kw_2_231 : (Jvm.Cond.methodLink "TapTerminal$Row" (21 : Nat) ({ cls := "TapTerminal$Row", name := "at", desc := "(I)I" } : Jvm.MethodName)) ∈ am_kw := am_in2 (List.mem_of_getElem? (i := 231) rfl) rfl
theorem kw_2_232 : (Jvm.Cond.instanceMethod ({ cls := "TapTerminal$Row", name := "at", desc := "(I)I" } : Jvm.MethodName)) ∈ am_kw := am_in2 (List.mem_of_getElem? (i := 232) rfl) rfl
theorem kw_2_233 : (Jvm.Cond.selects "TapTerminal$Row" ({ cls := "TapTerminal$Row", name := "at", desc := "(I)I" } : Jvm.MethodName) ({ cls := "TapTerminal$Row", name := "at", desc := "(I)I" } : Jvm.MethodName)) ∈ am_kw := am_in2 (List.mem_of_getElem? (i := 233) rfl) rfl
theorem mp_0_21 : am_mP 0 21 (5, 0, 1) := am_m0 q_Row_at rfl (by decide +kernel) kw_2_231 kw_2_232 kw_2_233
theorem kw_2_235 : (Jvm.Cond.methodLink "TapTerminal$Row" (17 : Nat) ({ cls := "TapTerminal$Row", name := "add", desc := "(I)V" } : Jvm.MethodName)) ∈ am_kw := am_in2 (List.mem_of_getElem? (i := 235) rfl) rfl
theorem mp_0_17 : am_mP 0 17 (2, 0, 1) := am_m0 q_Row_add rfl (by decide +kernel) kw_2_235 kw_2_121 kw_2_122
theorem kw_2_236 : (Jvm.Cond.methodLink "TapTerminal$Air" (116 : Nat) ({ cls := "TapTerminal$Block", name := "becomePlain", desc := "(II)V" } : Jvm.MethodName)) ∈ am_kw := am_in2 (List.mem_of_getElem? (i := 236) rfl) rfl
theorem mp_4_116 : am_mP 4 116 (10, 0, 2) := am_m0 q_Block_becomePlain rfl (by decide +kernel) kw_2_236 kw_2_220 kw_2_221
theorem kw_2_237 : (Jvm.Cond.methodLink "TapTerminal$Air" (82 : Nat) ({ cls := "TapTerminal$Card", name := "hearBlock", desc := "(LTapTerminal$Block;)V" } : Jvm.MethodName)) ∈ am_kw := am_in2 (List.mem_of_getElem? (i := 237) rfl) rfl
theorem kw_2_238 : (Jvm.Cond.instanceMethod ({ cls := "TapTerminal$Card", name := "hearBlock", desc := "(LTapTerminal$Block;)V" } : Jvm.MethodName)) ∈ am_kw := am_in2 (List.mem_of_getElem? (i := 238) rfl) rfl
theorem kw_2_239 : (Jvm.Cond.selects "TapTerminal$Card" ({ cls := "TapTerminal$Card", name := "hearBlock", desc := "(LTapTerminal$Block;)V" } : Jvm.MethodName) ({ cls := "TapTerminal$Card", name := "hearBlock", desc := "(LTapTerminal$Block;)V" } : Jvm.MethodName)) ∈ am_kw := am_in2 (List.mem_of_getElem? (i := 239) rfl) rfl
theorem mp_4_82 : am_mP 4 82 (17, 0, 1) := am_m0 q_Card_hearBlock rfl (by decide +kernel) kw_2_237 kw_2_238 kw_2_239
theorem kw_3_1 : (Jvm.Cond.methodLink "TapTerminal$Card" (86 : Nat) ({ cls := "TapTerminal$Block", name := "becomePlain", desc := "(II)V" } : Jvm.MethodName)) ∈ am_kw := am_in3 (List.mem_of_getElem? (i := 1) rfl) rfl
theorem mp_2_86 : am_mP 2 86 (10, 0, 2) := am_m0 q_Block_becomePlain rfl (by decide +kernel) kw_3_1 kw_2_220 kw_2_221
theorem kw_3_2 : (Jvm.Cond.methodLink "TapTerminal$Card" (93 : Nat) ({ cls := "TapTerminal$Block", name := "becomePart", desc := "(ILTapTerminal$Row;II)V" } : Jvm.MethodName)) ∈ am_kw := am_in3 (List.mem_of_getElem? (i := 2) rfl) rfl
theorem mp_2_93 : am_mP 2 93 (11, 0, 4) := am_m0 q_Block_becomePart rfl (by decide +kernel) kw_3_2 kw_2_216 kw_2_217
theorem kw_3_3 : (Jvm.Cond.methodLink "TapTerminal$Card" (100 : Nat) ({ cls := "TapTerminal$Row", name := "addPart", desc := "(LTapTerminal$Row;II)V" } : Jvm.MethodName)) ∈ am_kw := am_in3 (List.mem_of_getElem? (i := 3) rfl) rfl
theorem mp_2_100 : am_mP 2 100 (4, 0, 3) := am_m0 q_Row_addPart rfl (by decide +kernel) kw_3_3 kw_2_228 kw_2_229
theorem kw_3_4 : (Jvm.Cond.methodLink "TapTerminal$Card" (107 : Nat) ({ cls := "TapTerminal$Card", name := "obey", desc := "()V" } : Jvm.MethodName)) ∈ am_kw := am_in3 (List.mem_of_getElem? (i := 4) rfl) rfl
theorem kw_3_6 : (Jvm.Cond.instanceMethod ({ cls := "TapTerminal$Card", name := "obey", desc := "()V" } : Jvm.MethodName)) ∈ am_kw := am_in3 (List.mem_of_getElem? (i := 6) rfl) rfl
theorem kw_0_6 : (Jvm.Cond.selects "TapTerminal$Card" ({ cls := "TapTerminal$Card", name := "obey", desc := "()V" } : Jvm.MethodName) ({ cls := "TapTerminal$Card", name := "obey", desc := "()V" } : Jvm.MethodName)) ∈ am_kw := am_in0 (List.mem_of_getElem? (i := 6) rfl) rfl
theorem mp_2_107 : am_mP 2 107 (18, 0, 0) := am_m0 q_Card_obey rfl (by decide +kernel) kw_3_4 kw_3_6 kw_0_6
theorem kw_3_8 : (Jvm.Cond.methodLink "TapTerminal$Card" (110 : Nat) ({ cls := "TapTerminal$Row", name := "at", desc := "(I)I" } : Jvm.MethodName)) ∈ am_kw := am_in3 (List.mem_of_getElem? (i := 8) rfl) rfl
theorem mp_2_110 : am_mP 2 110 (5, 0, 1) := am_m0 q_Row_at rfl (by decide +kernel) kw_3_8 kw_2_232 kw_2_233
theorem kw_3_9 : (Jvm.Cond.methodLink "TapTerminal$Card" (114 : Nat) ({ cls := "TapTerminal$Row", name := "add", desc := "(I)V" } : Jvm.MethodName)) ∈ am_kw := am_in3 (List.mem_of_getElem? (i := 9) rfl) rfl
theorem mp_2_114 : am_mP 2 114 (2, 0, 1) := am_m0 q_Row_add rfl (by decide +kernel) kw_3_9 kw_2_121 kw_2_122
theorem kw_3_10 : (Jvm.Cond.methodLink "TapTerminal$Card" (117 : Nat) ({ cls := "TapTerminal$Card", name := "countRecords", desc := "()I" } : Jvm.MethodName)) ∈ am_kw := am_in3 (List.mem_of_getElem? (i := 10) rfl) rfl
theorem kw_3_11 : (Jvm.Cond.instanceMethod ({ cls := "TapTerminal$Card", name := "countRecords", desc := "()I" } : Jvm.MethodName)) ∈ am_kw := am_in3 (List.mem_of_getElem? (i := 11) rfl) rfl
theorem kw_3_12 : (Jvm.Cond.selects "TapTerminal$Card" ({ cls := "TapTerminal$Card", name := "countRecords", desc := "()I" } : Jvm.MethodName) ({ cls := "TapTerminal$Card", name := "countRecords", desc := "()I" } : Jvm.MethodName)) ∈ am_kw := am_in3 (List.mem_of_getElem? (i := 12) rfl) rfl
theorem mp_2_117 : am_mP 2 117 (14, 0, 0) := am_m0 q_Card_countRecords rfl (by decide +kernel) kw_3_10 kw_3_11 kw_3_12
theorem kw_3_14 : (Jvm.Cond.methodLink "TapTerminal$Card" (121 : Nat) ({ cls := "TapTerminal$Card", name := "addRecord", desc := "(I)V" } : Jvm.MethodName)) ∈ am_kw := am_in3 (List.mem_of_getElem? (i := 14) rfl) rfl
theorem kw_3_16 : (Jvm.Cond.instanceMethod ({ cls := "TapTerminal$Card", name := "addRecord", desc := "(I)V" } : Jvm.MethodName)) ∈ am_kw := am_in3 (List.mem_of_getElem? (i := 16) rfl) rfl
theorem kw_0_7 : (Jvm.Cond.selects "TapTerminal$Card" ({ cls := "TapTerminal$Card", name := "addRecord", desc := "(I)V" } : Jvm.MethodName) ({ cls := "TapTerminal$Card", name := "addRecord", desc := "(I)V" } : Jvm.MethodName)) ∈ am_kw := am_in0 (List.mem_of_getElem? (i := 7) rfl) rfl
theorem mp_2_121 : am_mP 2 121 (19, 0, 1) := am_m0 q_Card_addRecord rfl (by decide +kernel) kw_3_14 kw_3_16 kw_0_7
theorem mp_2_138 : am_mP 2 138 (72, 3, 2) := am_m3 q_Tap_isWithin rfl (by decide +kernel) "TapTerminal" (List.mem_of_getElem? (i := 0) rfl) kw_2_94
theorem kw_3_19 : (Jvm.Cond.methodLink "TapTerminal$Card" (124 : Nat) ({ cls := "TapTerminal$Row", name := "intAt", desc := "(I)I" } : Jvm.MethodName)) ∈ am_kw := am_in3 (List.mem_of_getElem? (i := 19) rfl) rfl
theorem kw_3_20 : (Jvm.Cond.instanceMethod ({ cls := "TapTerminal$Row", name := "intAt", desc := "(I)I" } : Jvm.MethodName)) ∈ am_kw := am_in3 (List.mem_of_getElem? (i := 20) rfl) rfl
theorem kw_3_21 : (Jvm.Cond.selects "TapTerminal$Row" ({ cls := "TapTerminal$Row", name := "intAt", desc := "(I)I" } : Jvm.MethodName) ({ cls := "TapTerminal$Row", name := "intAt", desc := "(I)I" } : Jvm.MethodName)) ∈ am_kw := am_in3 (List.mem_of_getElem? (i := 21) rfl) rfl
theorem mp_2_124 : am_mP 2 124 (7, 0, 1) := am_m0 q_Row_intAt rfl (by decide +kernel) kw_3_19 kw_3_20 kw_3_21
theorem kw_3_23 : (Jvm.Cond.methodLink "TapTerminal$Card" (127 : Nat) ({ cls := "TapTerminal$Card", name := "decide", desc := "(II)I" } : Jvm.MethodName)) ∈ am_kw := am_in3 (List.mem_of_getElem? (i := 23) rfl) rfl
theorem kw_3_25 : (Jvm.Cond.instanceMethod ({ cls := "TapTerminal$Card", name := "decide", desc := "(II)I" } : Jvm.MethodName)) ∈ am_kw := am_in3 (List.mem_of_getElem? (i := 25) rfl) rfl
theorem kw_0_8 : (Jvm.Cond.selects "TapTerminal$Card" ({ cls := "TapTerminal$Card", name := "decide", desc := "(II)I" } : Jvm.MethodName) ({ cls := "TapTerminal$Card", name := "decide", desc := "(II)I" } : Jvm.MethodName)) ∈ am_kw := am_in0 (List.mem_of_getElem? (i := 8) rfl) rfl
theorem mp_2_127 : am_mP 2 127 (20, 0, 2) := am_m0 q_Card_decide rfl (by decide +kernel) kw_3_23 kw_3_25 kw_0_8
theorem kw_3_28 : (Jvm.Cond.methodLink "TapTerminal$Card" (131 : Nat) ({ cls := "TapTerminal$Card", name := "mixtureOf", desc := "(IIII)I" } : Jvm.MethodName)) ∈ am_kw := am_in3 (List.mem_of_getElem? (i := 28) rfl) rfl
theorem kw_3_30 : (Jvm.Cond.instanceMethod ({ cls := "TapTerminal$Card", name := "mixtureOf", desc := "(IIII)I" } : Jvm.MethodName)) ∈ am_kw := am_in3 (List.mem_of_getElem? (i := 30) rfl) rfl
theorem kw_0_9 : (Jvm.Cond.selects "TapTerminal$Card" ({ cls := "TapTerminal$Card", name := "mixtureOf", desc := "(IIII)I" } : Jvm.MethodName) ({ cls := "TapTerminal$Card", name := "mixtureOf", desc := "(IIII)I" } : Jvm.MethodName)) ∈ am_kw := am_in0 (List.mem_of_getElem? (i := 9) rfl) rfl
theorem mp_2_131 : am_mP 2 131 (21, 0, 4) := am_m0 q_Card_mixtureOf rfl (by decide +kernel) kw_3_28 kw_3_30 kw_0_9
theorem kw_3_33 : (Jvm.Cond.static ({ cls := "TapTerminal", name := "stir", desc := "(II)I" } : Jvm.MethodName)) ∈ am_kw := am_in3 (List.mem_of_getElem? (i := 33) rfl) rfl
theorem mp_2_143 : am_mP 2 143 (74, 3, 2) := am_m3 q_Tap_stir rfl (by decide +kernel) "TapTerminal" (List.mem_of_getElem? (i := 1) rfl) kw_3_33
theorem kw_3_36 : (Jvm.Cond.methodLink "TapTerminal$Card" (135 : Nat) ({ cls := "TapTerminal$Row", name := "addInt", desc := "(I)V" } : Jvm.MethodName)) ∈ am_kw := am_in3 (List.mem_of_getElem? (i := 36) rfl) rfl
theorem kw_3_37 : (Jvm.Cond.instanceMethod ({ cls := "TapTerminal$Row", name := "addInt", desc := "(I)V" } : Jvm.MethodName)) ∈ am_kw := am_in3 (List.mem_of_getElem? (i := 37) rfl) rfl
theorem kw_3_38 : (Jvm.Cond.selects "TapTerminal$Row" ({ cls := "TapTerminal$Row", name := "addInt", desc := "(I)V" } : Jvm.MethodName) ({ cls := "TapTerminal$Row", name := "addInt", desc := "(I)V" } : Jvm.MethodName)) ∈ am_kw := am_in3 (List.mem_of_getElem? (i := 38) rfl) rfl
theorem mp_2_135 : am_mP 2 135 (3, 0, 1) := am_m0 q_Row_addInt rfl (by decide +kernel) kw_3_36 kw_3_37 kw_3_38
theorem kw_3_40 : (Jvm.Cond.methodLink "TapTerminal$Air" (106 : Nat) ({ cls := "TapTerminal$Row", name := "addPart", desc := "(LTapTerminal$Row;II)V" } : Jvm.MethodName)) ∈ am_kw := am_in3 (List.mem_of_getElem? (i := 40) rfl) rfl
theorem mp_4_106 : am_mP 4 106 (4, 0, 3) := am_m0 q_Row_addPart rfl (by decide +kernel) kw_3_40 kw_2_228 kw_2_229
theorem kw_3_41 : (Jvm.Cond.methodLink "TapTerminal" (212 : Nat) ({ cls := "TapTerminal$Row", name := "at", desc := "(I)I" } : Jvm.MethodName)) ∈ am_kw := am_in3 (List.mem_of_getElem? (i := 41) rfl) rfl
theorem mp_8_212 : am_mP 8 212 (5, 0, 1) := am_m0 q_Row_at rfl (by decide +kernel) kw_3_41 kw_2_232 kw_2_233
theorem kw_3_42 : (Jvm.Cond.methodLink "TapTerminal" (215 : Nat) ({ cls := "TapTerminal$Settings", name := "takesApplication", desc := "(I)Z" } : Jvm.MethodName)) ∈ am_kw := am_in3 (List.mem_of_getElem? (i := 42) rfl) rfl
theorem kw_3_43 : (Jvm.Cond.instanceMethod ({ cls := "TapTerminal$Settings", name := "takesApplication", desc := "(I)Z" } : Jvm.MethodName)) ∈ am_kw := am_in3 (List.mem_of_getElem? (i := 43) rfl) rfl
theorem kw_3_44 : (Jvm.Cond.selects "TapTerminal$Settings" ({ cls := "TapTerminal$Settings", name := "takesApplication", desc := "(I)Z" } : Jvm.MethodName) ({ cls := "TapTerminal$Settings", name := "takesApplication", desc := "(I)Z" } : Jvm.MethodName)) ∈ am_kw := am_in3 (List.mem_of_getElem? (i := 44) rfl) rfl
theorem mp_8_215 : am_mP 8 215 (45, 0, 1) := am_m0 q_Settings_takesApplication rfl (by decide +kernel) kw_3_42 kw_3_43 kw_3_44
theorem kw_3_46 : (Jvm.Cond.methodLink "TapTerminal" (221 : Nat) ({ cls := "TapTerminal$Air", name := "putOff", desc := "()Z" } : Jvm.MethodName)) ∈ am_kw := am_in3 (List.mem_of_getElem? (i := 46) rfl) rfl
theorem kw_3_47 : (Jvm.Cond.instanceMethod ({ cls := "TapTerminal$Air", name := "putOff", desc := "()Z" } : Jvm.MethodName)) ∈ am_kw := am_in3 (List.mem_of_getElem? (i := 47) rfl) rfl
theorem kw_3_48 : (Jvm.Cond.selects "TapTerminal$Air" ({ cls := "TapTerminal$Air", name := "putOff", desc := "()Z" } : Jvm.MethodName) ({ cls := "TapTerminal$Air", name := "putOff", desc := "()Z" } : Jvm.MethodName)) ∈ am_kw := am_in3 (List.mem_of_getElem? (i := 48) rfl) rfl
theorem mp_8_221 : am_mP 8 221 (32, 0, 0) := am_m0 q_Air_putOff rfl (by decide +kernel) kw_3_46 kw_3_47 kw_3_48
theorem kw_3_50 : (Jvm.Cond.methodLink "TapTerminal" (132 : Nat) ({ cls := "TapTerminal", name := "readRecords", desc := "(I)I" } : Jvm.MethodName)) ∈ am_kw := am_in3 (List.mem_of_getElem? (i := 50) rfl) rfl
theorem kw_3_52 : (Jvm.Cond.instanceMethod ({ cls := "TapTerminal", name := "readRecords", desc := "(I)I" } : Jvm.MethodName)) ∈ am_kw := am_in3 (List.mem_of_getElem? (i := 52) rfl) rfl
theorem kw_0_10 : (Jvm.Cond.selects "TapTerminal" ({ cls := "TapTerminal", name := "readRecords", desc := "(I)I" } : Jvm.MethodName) ({ cls := "TapTerminal", name := "readRecords", desc := "(I)I" } : Jvm.MethodName)) ∈ am_kw := am_in0 (List.mem_of_getElem? (i := 10) rfl) rfl
theorem mp_8_132 : am_mP 8 132 (68, 0, 1) := am_m0 q_Tap_readRecords rfl (by decide +kernel) kw_3_50 kw_3_52 kw_0_10
theorem kw_3_54 : (Jvm.Cond.methodLink "TapTerminal" (224 : Nat) ({ cls := "TapTerminal$Row", name := "addInt", desc := "(I)V" } : Jvm.MethodName)) ∈ am_kw := am_in3 (List.mem_of_getElem? (i := 54) rfl) rfl
theorem mp_8_224 : am_mP 8 224 (3, 0, 1) := am_m0 q_Row_addInt rfl (by decide +kernel) kw_3_54 kw_3_37 kw_3_38
theorem kw_3_55 : (Jvm.Cond.methodLink "TapTerminal" (227 : Nat) ({ cls := "java/lang/Math", name := "min", desc := "(II)I" } : Jvm.MethodName)) ∈ am_kw := am_in3 (List.mem_of_getElem? (i := 55) rfl) rfl
theorem mp_8_227 : am_mP 8 227 (0, 7, 2) := am_m7 kw_3_55
theorem kw_3_56 : (Jvm.Cond.methodLink "TapTerminal" (232 : Nat) ({ cls := "TapTerminal$Items", name := "clear", desc := "()V" } : Jvm.MethodName)) ∈ am_kw := am_in3 (List.mem_of_getElem? (i := 56) rfl) rfl
theorem kw_3_57 : (Jvm.Cond.instanceMethod ({ cls := "TapTerminal$Items", name := "clear", desc := "()V" } : Jvm.MethodName)) ∈ am_kw := am_in3 (List.mem_of_getElem? (i := 57) rfl) rfl
theorem kw_3_58 : (Jvm.Cond.selects "TapTerminal$Items" ({ cls := "TapTerminal$Items", name := "clear", desc := "()V" } : Jvm.MethodName) ({ cls := "TapTerminal$Items", name := "clear", desc := "()V" } : Jvm.MethodName)) ∈ am_kw := am_in3 (List.mem_of_getElem? (i := 58) rfl) rfl
theorem mp_8_232 : am_mP 8 232 (39, 0, 0) := am_m0 q_Items_clear rfl (by decide +kernel) kw_3_56 kw_3_57 kw_3_58
theorem kw_3_60 : (Jvm.Cond.methodLink "TapTerminal$Items" (31 : Nat) ({ cls := "TapTerminal$Row", name := "clear", desc := "()V" } : Jvm.MethodName)) ∈ am_kw := am_in3 (List.mem_of_getElem? (i := 60) rfl) rfl
theorem mp_5_31 : am_mP 5 31 (1, 0, 0) := am_m0 q_Row_clear rfl (by decide +kernel) kw_3_60 kw_2_105 kw_2_106
theorem kw_3_61 : (Jvm.Cond.methodLink "TapTerminal" (233 : Nat) ({ cls := "TapTerminal$Items", name := "take", desc := "(LTapTerminal$Row;)V" } : Jvm.MethodName)) ∈ am_kw := am_in3 (List.mem_of_getElem? (i := 61) rfl) rfl
theorem kw_3_62 : (Jvm.Cond.instanceMethod ({ cls := "TapTerminal$Items", name := "take", desc := "(LTapTerminal$Row;)V" } : Jvm.MethodName)) ∈ am_kw := am_in3 (List.mem_of_getElem? (i := 62) rfl) rfl
theorem kw_3_63 : (Jvm.Cond.selects "TapTerminal$Items" ({ cls := "TapTerminal$Items", name := "take", desc := "(LTapTerminal$Row;)V" } : Jvm.MethodName) ({ cls := "TapTerminal$Items", name := "take", desc := "(LTapTerminal$Row;)V" } : Jvm.MethodName)) ∈ am_kw := am_in3 (List.mem_of_getElem? (i := 63) rfl) rfl
theorem mp_8_233 : am_mP 8 233 (40, 0, 1) := am_m0 q_Items_take rfl (by decide +kernel) kw_3_61 kw_3_62 kw_3_63
theorem kw_3_66 : (Jvm.Cond.static ({ cls := "TapTerminal$Items", name := "takePart", desc := "(LTapTerminal$Items;LTapTerminal$Row;III)Z" } : Jvm.MethodName)) ∈ am_kw := am_in3 (List.mem_of_getElem? (i := 66) rfl) rfl
theorem kw_3_65 : (Jvm.Cond.methodLink "TapTerminal$Items" (38 : Nat) ({ cls := "TapTerminal$Items", name := "takePart", desc := "(LTapTerminal$Items;LTapTerminal$Row;III)Z" } : Jvm.MethodName)) ∈ am_kw := am_in3 (List.mem_of_getElem? (i := 65) rfl) rfl
theorem mp_5_38 : am_mP 5 38 (41, 2, 5) := am_m2 q_Items_takePart rfl (by decide +kernel) kw_3_65 kw_3_66
theorem kw_3_68 : (Jvm.Cond.methodLink "TapTerminal$Items" (42 : Nat) ({ cls := "TapTerminal$Row", name := "at", desc := "(I)I" } : Jvm.MethodName)) ∈ am_kw := am_in3 (List.mem_of_getElem? (i := 68) rfl) rfl
theorem mp_5_42 : am_mP 5 42 (5, 0, 1) := am_m0 q_Row_at rfl (by decide +kernel) kw_3_68 kw_2_232 kw_2_233
theorem kw_3_69 : (Jvm.Cond.methodLink "TapTerminal$Items" (46 : Nat) ({ cls := "TapTerminal$Items", name := "keepFirst", desc := "(ILTapTerminal$Row;II)V" } : Jvm.MethodName)) ∈ am_kw := am_in3 (List.mem_of_getElem? (i := 69) rfl) rfl
theorem kw_3_71 : (Jvm.Cond.instanceMethod ({ cls := "TapTerminal$Items", name := "keepFirst", desc := "(ILTapTerminal$Row;II)V" } : Jvm.MethodName)) ∈ am_kw := am_in3 (List.mem_of_getElem? (i := 71) rfl) rfl
theorem kw_0_11 : (Jvm.Cond.selects "TapTerminal$Items" ({ cls := "TapTerminal$Items", name := "keepFirst", desc := "(ILTapTerminal$Row;II)V" } : Jvm.MethodName) ({ cls := "TapTerminal$Items", name := "keepFirst", desc := "(ILTapTerminal$Row;II)V" } : Jvm.MethodName)) ∈ am_kw := am_in0 (List.mem_of_getElem? (i := 11) rfl) rfl
theorem mp_5_46 : am_mP 5 46 (42, 0, 4) := am_m0 q_Items_keepFirst rfl (by decide +kernel) kw_3_69 kw_3_71 kw_0_11
theorem kw_3_74 : (Jvm.Cond.static ({ cls := "TapTerminal$Items", name := "isLength", desc := "(II)Z" } : Jvm.MethodName)) ∈ am_kw := am_in3 (List.mem_of_getElem? (i := 74) rfl) rfl
theorem kw_3_73 : (Jvm.Cond.methodLink "TapTerminal$Items" (50 : Nat) ({ cls := "TapTerminal$Items", name := "isLength", desc := "(II)Z" } : Jvm.MethodName)) ∈ am_kw := am_in3 (List.mem_of_getElem? (i := 73) rfl) rfl
theorem mp_5_50 : am_mP 5 50 (43, 2, 2) := am_m2 q_Items_isLength rfl (by decide +kernel) kw_3_73 kw_3_74
theorem kw_3_76 : (Jvm.Cond.methodLink "TapTerminal$Items" (54 : Nat) ({ cls := "TapTerminal$Row", name := "addPart", desc := "(LTapTerminal$Row;II)V" } : Jvm.MethodName)) ∈ am_kw := am_in3 (List.mem_of_getElem? (i := 76) rfl) rfl
theorem mp_5_54 : am_mP 5 54 (4, 0, 3) := am_m0 q_Row_addPart rfl (by decide +kernel) kw_3_76 kw_2_228 kw_2_229
theorem kw_3_77 : (Jvm.Cond.methodLink "TapTerminal" (136 : Nat) ({ cls := "TapTerminal", name := "settle", desc := "(III)I" } : Jvm.MethodName)) ∈ am_kw := am_in3 (List.mem_of_getElem? (i := 77) rfl) rfl
theorem kw_3_79 : (Jvm.Cond.instanceMethod ({ cls := "TapTerminal", name := "settle", desc := "(III)I" } : Jvm.MethodName)) ∈ am_kw := am_in3 (List.mem_of_getElem? (i := 79) rfl) rfl
theorem kw_0_12 : (Jvm.Cond.selects "TapTerminal" ({ cls := "TapTerminal", name := "settle", desc := "(III)I" } : Jvm.MethodName) ({ cls := "TapTerminal", name := "settle", desc := "(III)I" } : Jvm.MethodName)) ∈ am_kw := am_in0 (List.mem_of_getElem? (i := 12) rfl) rfl
theorem mp_8_136 : am_mP 8 136 (69, 0, 3) := am_m0 q_Tap_settle rfl (by decide +kernel) kw_3_77 kw_3_79 kw_0_12
theorem kw_3_81 : (Jvm.Cond.methodLink "TapTerminal" (243 : Nat) ({ cls := "TapTerminal$Settings", name := "findingsOf", desc := "(LTapTerminal$Items;III)I" } : Jvm.MethodName)) ∈ am_kw := am_in3 (List.mem_of_getElem? (i := 81) rfl) rfl
theorem kw_3_82 : (Jvm.Cond.instanceMethod ({ cls := "TapTerminal$Settings", name := "findingsOf", desc := "(LTapTerminal$Items;III)I" } : Jvm.MethodName)) ∈ am_kw := am_in3 (List.mem_of_getElem? (i := 82) rfl) rfl
theorem kw_3_83 : (Jvm.Cond.selects "TapTerminal$Settings" ({ cls := "TapTerminal$Settings", name := "findingsOf", desc := "(LTapTerminal$Items;III)I" } : Jvm.MethodName) ({ cls := "TapTerminal$Settings", name := "findingsOf", desc := "(LTapTerminal$Items;III)I" } : Jvm.MethodName)) ∈ am_kw := am_in3 (List.mem_of_getElem? (i := 83) rfl) rfl
theorem mp_8_243 : am_mP 8 243 (46, 0, 4) := am_m0 q_Settings_findingsOf rfl (by decide +kernel) kw_3_81 kw_3_82 kw_3_83
theorem kw_3_85 : (Jvm.Cond.methodLink "TapTerminal$Settings" (19 : Nat) ({ cls := "TapTerminal$Settings", name := "isSigned", desc := "(LTapTerminal$Items;)Z" } : Jvm.MethodName)) ∈ am_kw := am_in3 (List.mem_of_getElem? (i := 85) rfl) rfl
theorem kw_3_87 : (Jvm.Cond.instanceMethod ({ cls := "TapTerminal$Settings", name := "isSigned", desc := "(LTapTerminal$Items;)Z" } : Jvm.MethodName)) ∈ am_kw := am_in3 (List.mem_of_getElem? (i := 87) rfl) rfl
theorem kw_0_13 : (Jvm.Cond.selects "TapTerminal$Settings" ({ cls := "TapTerminal$Settings", name := "isSigned", desc := "(LTapTerminal$Items;)Z" } : Jvm.MethodName) ({ cls := "TapTerminal$Settings", name := "isSigned", desc := "(LTapTerminal$Items;)Z" } : Jvm.MethodName)) ∈ am_kw := am_in0 (List.mem_of_getElem? (i := 13) rfl) rfl
theorem mp_6_19 : am_mP 6 19 (48, 0, 1) := am_m0 q_Settings_isSigned rfl (by decide +kernel) kw_3_85 kw_3_87 kw_0_13
theorem kw_3_89 : (Jvm.Cond.methodLink "TapTerminal$Settings" (55 : Nat) ({ cls := "TapTerminal$Row", name := "stirInto", desc := "(I)I" } : Jvm.MethodName)) ∈ am_kw := am_in3 (List.mem_of_getElem? (i := 89) rfl) rfl
theorem kw_3_90 : (Jvm.Cond.instanceMethod ({ cls := "TapTerminal$Row", name := "stirInto", desc := "(I)I" } : Jvm.MethodName)) ∈ am_kw := am_in3 (List.mem_of_getElem? (i := 90) rfl) rfl
theorem kw_3_91 : (Jvm.Cond.selects "TapTerminal$Row" ({ cls := "TapTerminal$Row", name := "stirInto", desc := "(I)I" } : Jvm.MethodName) ({ cls := "TapTerminal$Row", name := "stirInto", desc := "(I)I" } : Jvm.MethodName)) ∈ am_kw := am_in3 (List.mem_of_getElem? (i := 91) rfl) rfl
theorem mp_6_55 : am_mP 6 55 (8, 0, 1) := am_m0 q_Row_stirInto rfl (by decide +kernel) kw_3_89 kw_3_90 kw_3_91
theorem mp_0_25 : am_mP 0 25 (74, 3, 2) := am_m3 q_Tap_stir rfl (by decide +kernel) "TapTerminal" (List.mem_of_getElem? (i := 2) rfl) kw_3_33
theorem kw_3_94 : (Jvm.Cond.methodLink "TapTerminal$Settings" (58 : Nat) ({ cls := "TapTerminal$Row", name := "intAt", desc := "(I)I" } : Jvm.MethodName)) ∈ am_kw := am_in3 (List.mem_of_getElem? (i := 94) rfl) rfl
theorem mp_6_58 : am_mP 6 58 (7, 0, 1) := am_m0 q_Row_intAt rfl (by decide +kernel) kw_3_94 kw_3_20 kw_3_21
theorem kw_3_95 : (Jvm.Cond.methodLink "TapTerminal$Settings" (29 : Nat) ({ cls := "TapTerminal$Row", name := "pairAt", desc := "(I)I" } : Jvm.MethodName)) ∈ am_kw := am_in3 (List.mem_of_getElem? (i := 95) rfl) rfl
theorem kw_3_96 : (Jvm.Cond.instanceMethod ({ cls := "TapTerminal$Row", name := "pairAt", desc := "(I)I" } : Jvm.MethodName)) ∈ am_kw := am_in3 (List.mem_of_getElem? (i := 96) rfl) rfl
theorem kw_3_97 : (Jvm.Cond.selects "TapTerminal$Row" ({ cls := "TapTerminal$Row", name := "pairAt", desc := "(I)I" } : Jvm.MethodName) ({ cls := "TapTerminal$Row", name := "pairAt", desc := "(I)I" } : Jvm.MethodName)) ∈ am_kw := am_in3 (List.mem_of_getElem? (i := 97) rfl) rfl
theorem mp_6_29 : am_mP 6 29 (6, 0, 1) := am_m0 q_Row_pairAt rfl (by decide +kernel) kw_3_95 kw_3_96 kw_3_97
theorem kw_3_99 : (Jvm.Cond.methodLink "TapTerminal$Settings" (39 : Nat) ({ cls := "TapTerminal$Row", name := "at", desc := "(I)I" } : Jvm.MethodName)) ∈ am_kw := am_in3 (List.mem_of_getElem? (i := 99) rfl) rfl
theorem mp_6_39 : am_mP 6 39 (5, 0, 1) := am_m0 q_Row_at rfl (by decide +kernel) kw_3_99 kw_2_232 kw_2_233
theorem kw_3_100 : (Jvm.Cond.methodLink "TapTerminal$Settings" (48 : Nat) ({ cls := "TapTerminal$Settings", name := "someWayGoes", desc := "(LTapTerminal$Row;Z)Z" } : Jvm.MethodName)) ∈ am_kw := am_in3 (List.mem_of_getElem? (i := 100) rfl) rfl
theorem kw_3_102 : (Jvm.Cond.instanceMethod ({ cls := "TapTerminal$Settings", name := "someWayGoes", desc := "(LTapTerminal$Row;Z)Z" } : Jvm.MethodName)) ∈ am_kw := am_in3 (List.mem_of_getElem? (i := 102) rfl) rfl
theorem kw_0_14 : (Jvm.Cond.selects "TapTerminal$Settings" ({ cls := "TapTerminal$Settings", name := "someWayGoes", desc := "(LTapTerminal$Row;Z)Z" } : Jvm.MethodName) ({ cls := "TapTerminal$Settings", name := "someWayGoes", desc := "(LTapTerminal$Row;Z)Z" } : Jvm.MethodName)) ∈ am_kw := am_in0 (List.mem_of_getElem? (i := 14) rfl) rfl
theorem mp_6_48 : am_mP 6 48 (49, 0, 2) := am_m0 q_Settings_someWayGoes rfl (by decide +kernel) kw_3_100 kw_3_102 kw_0_14
theorem kw_3_105 : (Jvm.Cond.static ({ cls := "TapTerminal$Settings", name := "isNow", desc := "(IZ)Z" } : Jvm.MethodName)) ∈ am_kw := am_in3 (List.mem_of_getElem? (i := 105) rfl) rfl
theorem kw_3_104 : (Jvm.Cond.methodLink "TapTerminal$Settings" (64 : Nat) ({ cls := "TapTerminal$Settings", name := "isNow", desc := "(IZ)Z" } : Jvm.MethodName)) ∈ am_kw := am_in3 (List.mem_of_getElem? (i := 104) rfl) rfl
theorem mp_6_64 : am_mP 6 64 (50, 2, 2) := am_m2 q_Settings_isNow rfl (by decide +kernel) kw_3_104 kw_3_105
theorem kw_3_107 : (Jvm.Cond.methodLink "TapTerminal$Settings" (68 : Nat) ({ cls := "TapTerminal$Settings", name := "hasWay", desc := "(I)Z" } : Jvm.MethodName)) ∈ am_kw := am_in3 (List.mem_of_getElem? (i := 107) rfl) rfl
theorem kw_3_109 : (Jvm.Cond.instanceMethod ({ cls := "TapTerminal$Settings", name := "hasWay", desc := "(I)Z" } : Jvm.MethodName)) ∈ am_kw := am_in3 (List.mem_of_getElem? (i := 109) rfl) rfl
theorem kw_0_15 : (Jvm.Cond.selects "TapTerminal$Settings" ({ cls := "TapTerminal$Settings", name := "hasWay", desc := "(I)Z" } : Jvm.MethodName) ({ cls := "TapTerminal$Settings", name := "hasWay", desc := "(I)Z" } : Jvm.MethodName)) ∈ am_kw := am_in0 (List.mem_of_getElem? (i := 15) rfl) rfl
theorem mp_6_68 : am_mP 6 68 (51, 0, 1) := am_m0 q_Settings_hasWay rfl (by decide +kernel) kw_3_107 kw_3_109 kw_0_15
theorem kw_3_111 : (Jvm.Cond.methodLink "TapTerminal" (250 : Nat) ({ cls := "TapTerminal$Settings", name := "typeFor", desc := "(ILTapTerminal$Row;)I" } : Jvm.MethodName)) ∈ am_kw := am_in3 (List.mem_of_getElem? (i := 111) rfl) rfl
theorem kw_3_112 : (Jvm.Cond.instanceMethod ({ cls := "TapTerminal$Settings", name := "typeFor", desc := "(ILTapTerminal$Row;)I" } : Jvm.MethodName)) ∈ am_kw := am_in3 (List.mem_of_getElem? (i := 112) rfl) rfl
theorem kw_3_113 : (Jvm.Cond.selects "TapTerminal$Settings" ({ cls := "TapTerminal$Settings", name := "typeFor", desc := "(ILTapTerminal$Row;)I" } : Jvm.MethodName) ({ cls := "TapTerminal$Settings", name := "typeFor", desc := "(ILTapTerminal$Row;)I" } : Jvm.MethodName)) ∈ am_kw := am_in3 (List.mem_of_getElem? (i := 113) rfl) rfl
theorem mp_8_250 : am_mP 8 250 (47, 0, 2) := am_m0 q_Settings_typeFor rfl (by decide +kernel) kw_3_111 kw_3_112 kw_3_113
theorem kw_3_115 : (Jvm.Cond.methodLink "TapTerminal" (254 : Nat) ({ cls := "TapTerminal$Row", name := "pairAt", desc := "(I)I" } : Jvm.MethodName)) ∈ am_kw := am_in3 (List.mem_of_getElem? (i := 115) rfl) rfl
theorem mp_8_254 : am_mP 8 254 (6, 0, 1) := am_m0 q_Row_pairAt rfl (by decide +kernel) kw_3_115 kw_3_96 kw_3_97
theorem kw_3_116 : (Jvm.Cond.methodLink "TapTerminal" (257 : Nat) ({ cls := "TapTerminal$Row", name := "intAt", desc := "(I)I" } : Jvm.MethodName)) ∈ am_kw := am_in3 (List.mem_of_getElem? (i := 116) rfl) rfl
theorem mp_8_257 : am_mP 8 257 (7, 0, 1) := am_m0 q_Row_intAt rfl (by decide +kernel) kw_3_116 kw_3_20 kw_3_21
theorem kw_3_129 : (Jvm.Cond.methodLink "TapTerminal" (188 : Nat) ({ cls := "TapTerminal$Card", name := "countRecords", desc := "()I" } : Jvm.MethodName)) ∈ am_kw := am_in3 (List.mem_of_getElem? (i := 129) rfl) rfl
theorem mp_8_188 : am_mP 8 188 (14, 0, 0) := am_m0 q_Card_countRecords rfl (by decide +kernel) kw_3_129 kw_3_11 kw_3_12
theorem kw_3_134 : (Jvm.Cond.methodLink "TapTerminal" (191 : Nat) ({ cls := "TapTerminal", name := "stir", desc := "(II)I" } : Jvm.MethodName)) ∈ am_kw := am_in3 (List.mem_of_getElem? (i := 134) rfl) rfl
theorem mp_8_191 : am_mP 8 191 (74, 2, 2) := am_m2 q_Tap_stir rfl (by decide +kernel) kw_3_134 kw_3_33
theorem kw_3_140 : (Jvm.Cond.methodLink "TapTerminalModel" (1 : Nat) ({ cls := "java/lang/Object", name := "<init>", desc := "()V" } : Jvm.MethodName)) ∈ am_kw := am_in3 (List.mem_of_getElem? (i := 140) rfl) rfl
theorem mp_9_1 : am_mP 9 1 (0, 6, 0) := am_m6 kw_3_140
theorem kw_4_69 : (Jvm.Cond.static ({ cls := "TapTerminalModel", name := "is", desc := "(III)Z" } : Jvm.MethodName)) ∈ am_kw := am_in4 (List.mem_of_getElem? (i := 69) rfl) rfl
theorem kw_4_68 : (Jvm.Cond.methodLink "TapTerminalModel" (106 : Nat) ({ cls := "TapTerminalModel", name := "is", desc := "(III)Z" } : Jvm.MethodName)) ∈ am_kw := am_in4 (List.mem_of_getElem? (i := 68) rfl) rfl
theorem mp_9_106 : am_mP 9 106 (76, 2, 3) := am_m2 q_Mod_is rfl (by decide +kernel) kw_4_68 kw_4_69
theorem kw_4_76 : (Jvm.Cond.methodLink "TapTerminalModel" (112 : Nat) ({ cls := "TapTerminalModel", name := "isCard", desc := "(I)Z" } : Jvm.MethodName)) ∈ am_kw := am_in4 (List.mem_of_getElem? (i := 76) rfl) rfl
theorem kw_4_78 : (Jvm.Cond.instanceMethod ({ cls := "TapTerminalModel", name := "isCard", desc := "(I)Z" } : Jvm.MethodName)) ∈ am_kw := am_in4 (List.mem_of_getElem? (i := 78) rfl) rfl
theorem kw_0_16 : (Jvm.Cond.selects "TapTerminalModel" ({ cls := "TapTerminalModel", name := "isCard", desc := "(I)Z" } : Jvm.MethodName) ({ cls := "TapTerminalModel", name := "isCard", desc := "(I)Z" } : Jvm.MethodName)) ∈ am_kw := am_in0 (List.mem_of_getElem? (i := 16) rfl) rfl
theorem mp_9_112 : am_mP 9 112 (77, 0, 1) := am_m0 q_Mod_isCard rfl (by decide +kernel) kw_4_76 kw_4_78 kw_0_16
theorem kw_4_104 : (Jvm.Cond.methodLink "TapTerminalModel" (219 : Nat) ({ cls := "TapTerminalModel", name := "goes", desc := "(III)I" } : Jvm.MethodName)) ∈ am_kw := am_in4 (List.mem_of_getElem? (i := 104) rfl) rfl
theorem kw_4_106 : (Jvm.Cond.instanceMethod ({ cls := "TapTerminalModel", name := "goes", desc := "(III)I" } : Jvm.MethodName)) ∈ am_kw := am_in4 (List.mem_of_getElem? (i := 106) rfl) rfl
theorem kw_0_17 : (Jvm.Cond.selects "TapTerminalModel" ({ cls := "TapTerminalModel", name := "goes", desc := "(III)I" } : Jvm.MethodName) ({ cls := "TapTerminalModel", name := "goes", desc := "(III)I" } : Jvm.MethodName)) ∈ am_kw := am_in0 (List.mem_of_getElem? (i := 17) rfl) rfl
theorem mp_9_219 : am_mP 9 219 (101, 0, 3) := am_m0 q_Mod_goes rfl (by decide +kernel) kw_4_104 kw_4_106 kw_0_17
theorem kw_4_108 : (Jvm.Cond.methodLink "TapTerminalModel" (223 : Nat) ({ cls := "TapTerminalModel", name := "wake", desc := "()Z" } : Jvm.MethodName)) ∈ am_kw := am_in4 (List.mem_of_getElem? (i := 108) rfl) rfl
theorem kw_4_110 : (Jvm.Cond.instanceMethod ({ cls := "TapTerminalModel", name := "wake", desc := "()Z" } : Jvm.MethodName)) ∈ am_kw := am_in4 (List.mem_of_getElem? (i := 110) rfl) rfl
theorem kw_0_18 : (Jvm.Cond.selects "TapTerminalModel" ({ cls := "TapTerminalModel", name := "wake", desc := "()Z" } : Jvm.MethodName) ({ cls := "TapTerminalModel", name := "wake", desc := "()Z" } : Jvm.MethodName)) ∈ am_kw := am_in0 (List.mem_of_getElem? (i := 18) rfl) rfl
theorem mp_9_223 : am_mP 9 223 (97, 0, 0) := am_m0 q_Mod_wake rfl (by decide +kernel) kw_4_108 kw_4_110 kw_0_18
theorem kw_4_112 : (Jvm.Cond.methodLink "TapTerminalModel" (190 : Nat) ({ cls := "TapTerminalModel", name := "faultNow", desc := "()I" } : Jvm.MethodName)) ∈ am_kw := am_in4 (List.mem_of_getElem? (i := 112) rfl) rfl
theorem kw_4_114 : (Jvm.Cond.instanceMethod ({ cls := "TapTerminalModel", name := "faultNow", desc := "()I" } : Jvm.MethodName)) ∈ am_kw := am_in4 (List.mem_of_getElem? (i := 114) rfl) rfl
theorem kw_0_19 : (Jvm.Cond.selects "TapTerminalModel" ({ cls := "TapTerminalModel", name := "faultNow", desc := "()I" } : Jvm.MethodName) ({ cls := "TapTerminalModel", name := "faultNow", desc := "()I" } : Jvm.MethodName)) ∈ am_kw := am_in0 (List.mem_of_getElem? (i := 19) rfl) rfl
theorem mp_9_190 : am_mP 9 190 (86, 0, 0) := am_m0 q_Mod_faultNow rfl (by decide +kernel) kw_4_112 kw_4_114 kw_0_19
theorem kw_4_116 : (Jvm.Cond.methodLink "TapTerminalModel" (200 : Nat) ({ cls := "TapTerminalModel", name := "note", desc := "(IIZ)Z" } : Jvm.MethodName)) ∈ am_kw := am_in4 (List.mem_of_getElem? (i := 116) rfl) rfl
theorem kw_4_118 : (Jvm.Cond.instanceMethod ({ cls := "TapTerminalModel", name := "note", desc := "(IIZ)Z" } : Jvm.MethodName)) ∈ am_kw := am_in4 (List.mem_of_getElem? (i := 118) rfl) rfl
theorem kw_0_20 : (Jvm.Cond.selects "TapTerminalModel" ({ cls := "TapTerminalModel", name := "note", desc := "(IIZ)Z" } : Jvm.MethodName) ({ cls := "TapTerminalModel", name := "note", desc := "(IIZ)Z" } : Jvm.MethodName)) ∈ am_kw := am_in0 (List.mem_of_getElem? (i := 20) rfl) rfl
theorem mp_9_200 : am_mP 9 200 (87, 0, 3) := am_m0 q_Mod_note rfl (by decide +kernel) kw_4_116 kw_4_118 kw_0_20
theorem kw_4_120 : (Jvm.Cond.methodLink "TapTerminalModel" (227 : Nat) ({ cls := "TapTerminalModel", name := "ask", desc := "()I" } : Jvm.MethodName)) ∈ am_kw := am_in4 (List.mem_of_getElem? (i := 120) rfl) rfl
theorem kw_4_122 : (Jvm.Cond.instanceMethod ({ cls := "TapTerminalModel", name := "ask", desc := "()I" } : Jvm.MethodName)) ∈ am_kw := am_in4 (List.mem_of_getElem? (i := 122) rfl) rfl
theorem kw_0_21 : (Jvm.Cond.selects "TapTerminalModel" ({ cls := "TapTerminalModel", name := "ask", desc := "()I" } : Jvm.MethodName) ({ cls := "TapTerminalModel", name := "ask", desc := "()I" } : Jvm.MethodName)) ∈ am_kw := am_in0 (List.mem_of_getElem? (i := 21) rfl) rfl
theorem mp_9_227 : am_mP 9 227 (98, 0, 0) := am_m0 q_Mod_ask rfl (by decide +kernel) kw_4_120 kw_4_122 kw_0_21
theorem kw_4_124 : (Jvm.Cond.methodLink "TapTerminalModel" (230 : Nat) ({ cls := "TapTerminalModel", name := "call", desc := "(II)Z" } : Jvm.MethodName)) ∈ am_kw := am_in4 (List.mem_of_getElem? (i := 124) rfl) rfl
theorem kw_4_126 : (Jvm.Cond.instanceMethod ({ cls := "TapTerminalModel", name := "call", desc := "(II)Z" } : Jvm.MethodName)) ∈ am_kw := am_in4 (List.mem_of_getElem? (i := 126) rfl) rfl
theorem kw_0_22 : (Jvm.Cond.selects "TapTerminalModel" ({ cls := "TapTerminalModel", name := "call", desc := "(II)Z" } : Jvm.MethodName) ({ cls := "TapTerminalModel", name := "call", desc := "(II)Z" } : Jvm.MethodName)) ∈ am_kw := am_in0 (List.mem_of_getElem? (i := 22) rfl) rfl
theorem mp_9_230 : am_mP 9 230 (99, 0, 2) := am_m0 q_Mod_call rfl (by decide +kernel) kw_4_124 kw_4_126 kw_0_22
theorem kw_4_128 : (Jvm.Cond.methodLink "TapTerminalModel" (234 : Nat) ({ cls := "TapTerminalModel", name := "talk", desc := "()Z" } : Jvm.MethodName)) ∈ am_kw := am_in4 (List.mem_of_getElem? (i := 128) rfl) rfl
theorem kw_4_130 : (Jvm.Cond.instanceMethod ({ cls := "TapTerminalModel", name := "talk", desc := "()Z" } : Jvm.MethodName)) ∈ am_kw := am_in4 (List.mem_of_getElem? (i := 130) rfl) rfl
theorem kw_0_23 : (Jvm.Cond.selects "TapTerminalModel" ({ cls := "TapTerminalModel", name := "talk", desc := "()Z" } : Jvm.MethodName) ({ cls := "TapTerminalModel", name := "talk", desc := "()Z" } : Jvm.MethodName)) ∈ am_kw := am_in0 (List.mem_of_getElem? (i := 23) rfl) rfl
theorem mp_9_234 : am_mP 9 234 (94, 0, 0) := am_m0 q_Mod_talk rfl (by decide +kernel) kw_4_128 kw_4_130 kw_0_23
theorem kw_4_132 : (Jvm.Cond.methodLink "TapTerminalModel" (196 : Nat) ({ cls := "TapTerminalModel", name := "hear", desc := "(IIIIZ)V" } : Jvm.MethodName)) ∈ am_kw := am_in4 (List.mem_of_getElem? (i := 132) rfl) rfl
theorem kw_4_134 : (Jvm.Cond.instanceMethod ({ cls := "TapTerminalModel", name := "hear", desc := "(IIIIZ)V" } : Jvm.MethodName)) ∈ am_kw := am_in4 (List.mem_of_getElem? (i := 134) rfl) rfl
theorem kw_0_24 : (Jvm.Cond.selects "TapTerminalModel" ({ cls := "TapTerminalModel", name := "hear", desc := "(IIIIZ)V" } : Jvm.MethodName) ({ cls := "TapTerminalModel", name := "hear", desc := "(IIIIZ)V" } : Jvm.MethodName)) ∈ am_kw := am_in0 (List.mem_of_getElem? (i := 24) rfl) rfl
theorem mp_9_196 : am_mP 9 196 (89, 0, 5) := am_m0 q_Mod_hear rfl (by decide +kernel) kw_4_132 kw_4_134 kw_0_24
theorem kw_4_136 : (Jvm.Cond.methodLink "TapTerminalModel" (158 : Nat) ({ cls := "TapTerminalModel", name := "saySize", desc := "()I" } : Jvm.MethodName)) ∈ am_kw := am_in4 (List.mem_of_getElem? (i := 136) rfl) rfl
theorem kw_4_138 : (Jvm.Cond.instanceMethod ({ cls := "TapTerminalModel", name := "saySize", desc := "()I" } : Jvm.MethodName)) ∈ am_kw := am_in4 (List.mem_of_getElem? (i := 138) rfl) rfl
theorem kw_0_25 : (Jvm.Cond.selects "TapTerminalModel" ({ cls := "TapTerminalModel", name := "saySize", desc := "()I" } : Jvm.MethodName) ({ cls := "TapTerminalModel", name := "saySize", desc := "()I" } : Jvm.MethodName)) ∈ am_kw := am_in0 (List.mem_of_getElem? (i := 25) rfl) rfl
theorem mp_9_158 : am_mP 9 158 (88, 0, 0) := am_m0 q_Mod_saySize rfl (by decide +kernel) kw_4_136 kw_4_138 kw_0_25
theorem kw_4_140 : (Jvm.Cond.methodLink "TapTerminalModel" (165 : Nat) ({ cls := "TapTerminalModel", name := "command", desc := "()V" } : Jvm.MethodName)) ∈ am_kw := am_in4 (List.mem_of_getElem? (i := 140) rfl) rfl
theorem kw_4_142 : (Jvm.Cond.instanceMethod ({ cls := "TapTerminalModel", name := "command", desc := "()V" } : Jvm.MethodName)) ∈ am_kw := am_in4 (List.mem_of_getElem? (i := 142) rfl) rfl
theorem kw_0_26 : (Jvm.Cond.selects "TapTerminalModel" ({ cls := "TapTerminalModel", name := "command", desc := "()V" } : Jvm.MethodName) ({ cls := "TapTerminalModel", name := "command", desc := "()V" } : Jvm.MethodName)) ∈ am_kw := am_in0 (List.mem_of_getElem? (i := 26) rfl) rfl
theorem mp_9_165 : am_mP 9 165 (91, 0, 0) := am_m0 q_Mod_command rfl (by decide +kernel) kw_4_140 kw_4_142 kw_0_26
theorem kw_4_144 : (Jvm.Cond.methodLink "TapTerminalModel" (168 : Nat) ({ cls := "TapTerminalModel", name := "manyOf", desc := "(I)I" } : Jvm.MethodName)) ∈ am_kw := am_in4 (List.mem_of_getElem? (i := 144) rfl) rfl
theorem kw_4_146 : (Jvm.Cond.instanceMethod ({ cls := "TapTerminalModel", name := "manyOf", desc := "(I)I" } : Jvm.MethodName)) ∈ am_kw := am_in4 (List.mem_of_getElem? (i := 146) rfl) rfl
theorem kw_0_27 : (Jvm.Cond.selects "TapTerminalModel" ({ cls := "TapTerminalModel", name := "manyOf", desc := "(I)I" } : Jvm.MethodName) ({ cls := "TapTerminalModel", name := "manyOf", desc := "(I)I" } : Jvm.MethodName)) ∈ am_kw := am_in0 (List.mem_of_getElem? (i := 27) rfl) rfl
theorem mp_9_168 : am_mP 9 168 (92, 0, 1) := am_m0 q_Mod_manyOf rfl (by decide +kernel) kw_4_144 kw_4_146 kw_0_27
theorem kw_4_148 : (Jvm.Cond.methodLink "TapTerminalModel" (172 : Nat) ({ cls := "TapTerminalModel", name := "decide", desc := "(I)V" } : Jvm.MethodName)) ∈ am_kw := am_in4 (List.mem_of_getElem? (i := 148) rfl) rfl
theorem kw_4_150 : (Jvm.Cond.instanceMethod ({ cls := "TapTerminalModel", name := "decide", desc := "(I)V" } : Jvm.MethodName)) ∈ am_kw := am_in4 (List.mem_of_getElem? (i := 150) rfl) rfl
theorem kw_0_28 : (Jvm.Cond.selects "TapTerminalModel" ({ cls := "TapTerminalModel", name := "decide", desc := "(I)V" } : Jvm.MethodName) ({ cls := "TapTerminalModel", name := "decide", desc := "(I)V" } : Jvm.MethodName)) ∈ am_kw := am_in0 (List.mem_of_getElem? (i := 28) rfl) rfl
theorem mp_9_172 : am_mP 9 172 (93, 0, 1) := am_m0 q_Mod_decide rfl (by decide +kernel) kw_4_148 kw_4_150 kw_0_28
theorem kw_4_152 : (Jvm.Cond.methodLink "TapTerminalModel" (176 : Nat) ({ cls := "TapTerminalModel", name := "four", desc := "(I)I" } : Jvm.MethodName)) ∈ am_kw := am_in4 (List.mem_of_getElem? (i := 152) rfl) rfl
theorem kw_4_154 : (Jvm.Cond.instanceMethod ({ cls := "TapTerminalModel", name := "four", desc := "(I)I" } : Jvm.MethodName)) ∈ am_kw := am_in4 (List.mem_of_getElem? (i := 154) rfl) rfl
theorem kw_0_29 : (Jvm.Cond.selects "TapTerminalModel" ({ cls := "TapTerminalModel", name := "four", desc := "(I)I" } : Jvm.MethodName) ({ cls := "TapTerminalModel", name := "four", desc := "(I)I" } : Jvm.MethodName)) ∈ am_kw := am_in0 (List.mem_of_getElem? (i := 29) rfl) rfl
theorem mp_9_176 : am_mP 9 176 (90, 0, 1) := am_m0 q_Mod_four rfl (by decide +kernel) kw_4_152 kw_4_154 kw_0_29
theorem kw_4_158 : (Jvm.Cond.static ({ cls := "TapTerminalModel", name := "stir", desc := "(II)I" } : Jvm.MethodName)) ∈ am_kw := am_in4 (List.mem_of_getElem? (i := 158) rfl) rfl
theorem kw_4_157 : (Jvm.Cond.methodLink "TapTerminalModel" (180 : Nat) ({ cls := "TapTerminalModel", name := "stir", desc := "(II)I" } : Jvm.MethodName)) ∈ am_kw := am_in4 (List.mem_of_getElem? (i := 157) rfl) rfl
theorem mp_9_180 : am_mP 9 180 (78, 2, 2) := am_m2 q_Mod_stir rfl (by decide +kernel) kw_4_157 kw_4_158
theorem kw_4_161 : (Jvm.Cond.methodLink "TapTerminalModel" (237 : Nat) ({ cls := "TapTerminalModel", name := "put", desc := "(I)V" } : Jvm.MethodName)) ∈ am_kw := am_in4 (List.mem_of_getElem? (i := 161) rfl) rfl
theorem kw_4_163 : (Jvm.Cond.instanceMethod ({ cls := "TapTerminalModel", name := "put", desc := "(I)V" } : Jvm.MethodName)) ∈ am_kw := am_in4 (List.mem_of_getElem? (i := 163) rfl) rfl
theorem kw_0_30 : (Jvm.Cond.selects "TapTerminalModel" ({ cls := "TapTerminalModel", name := "put", desc := "(I)V" } : Jvm.MethodName) ({ cls := "TapTerminalModel", name := "put", desc := "(I)V" } : Jvm.MethodName)) ∈ am_kw := am_in0 (List.mem_of_getElem? (i := 30) rfl) rfl
theorem mp_9_237 : am_mP 9 237 (96, 0, 1) := am_m0 q_Mod_put rfl (by decide +kernel) kw_4_161 kw_4_163 kw_0_30
theorem kw_4_165 : (Jvm.Cond.methodLink "TapTerminalModel" (240 : Nat) ({ cls := "TapTerminalModel", name := "say", desc := "(II)V" } : Jvm.MethodName)) ∈ am_kw := am_in4 (List.mem_of_getElem? (i := 165) rfl) rfl
theorem kw_4_167 : (Jvm.Cond.instanceMethod ({ cls := "TapTerminalModel", name := "say", desc := "(II)V" } : Jvm.MethodName)) ∈ am_kw := am_in4 (List.mem_of_getElem? (i := 167) rfl) rfl
theorem kw_0_31 : (Jvm.Cond.selects "TapTerminalModel" ({ cls := "TapTerminalModel", name := "say", desc := "(II)V" } : Jvm.MethodName) ({ cls := "TapTerminalModel", name := "say", desc := "(II)V" } : Jvm.MethodName)) ∈ am_kw := am_in0 (List.mem_of_getElem? (i := 31) rfl) rfl
theorem mp_9_240 : am_mP 9 240 (95, 0, 2) := am_m0 q_Mod_say rfl (by decide +kernel) kw_4_165 kw_4_167 kw_0_31
theorem kw_4_169 : (Jvm.Cond.methodLink "TapTerminalModel" (244 : Nat) ({ cls := "TapTerminalModel", name := "takeApart", desc := "(I)Z" } : Jvm.MethodName)) ∈ am_kw := am_in4 (List.mem_of_getElem? (i := 169) rfl) rfl
theorem kw_4_171 : (Jvm.Cond.instanceMethod ({ cls := "TapTerminalModel", name := "takeApart", desc := "(I)Z" } : Jvm.MethodName)) ∈ am_kw := am_in4 (List.mem_of_getElem? (i := 171) rfl) rfl
theorem kw_0_32 : (Jvm.Cond.selects "TapTerminalModel" ({ cls := "TapTerminalModel", name := "takeApart", desc := "(I)Z" } : Jvm.MethodName) ({ cls := "TapTerminalModel", name := "takeApart", desc := "(I)Z" } : Jvm.MethodName)) ∈ am_kw := am_in0 (List.mem_of_getElem? (i := 32) rfl) rfl
theorem mp_9_244 : am_mP 9 244 (102, 0, 1) := am_m0 q_Mod_takeApart rfl (by decide +kernel) kw_4_169 kw_4_171 kw_0_32
theorem kw_4_173 : (Jvm.Cond.methodLink "TapTerminalModel" (254 : Nat) ({ cls := "TapTerminalModel", name := "items", desc := "(I)Z" } : Jvm.MethodName)) ∈ am_kw := am_in4 (List.mem_of_getElem? (i := 173) rfl) rfl
theorem kw_4_175 : (Jvm.Cond.instanceMethod ({ cls := "TapTerminalModel", name := "items", desc := "(I)Z" } : Jvm.MethodName)) ∈ am_kw := am_in4 (List.mem_of_getElem? (i := 175) rfl) rfl
theorem kw_0_33 : (Jvm.Cond.selects "TapTerminalModel" ({ cls := "TapTerminalModel", name := "items", desc := "(I)Z" } : Jvm.MethodName) ({ cls := "TapTerminalModel", name := "items", desc := "(I)Z" } : Jvm.MethodName)) ∈ am_kw := am_in0 (List.mem_of_getElem? (i := 33) rfl) rfl
theorem mp_9_254 : am_mP 9 254 (103, 0, 1) := am_m0 q_Mod_items rfl (by decide +kernel) kw_4_173 kw_4_175 kw_0_33
theorem kw_4_177 : (Jvm.Cond.methodLink "TapTerminalModel" (247 : Nat) ({ cls := "TapTerminalModel", name := "find", desc := "(III)V" } : Jvm.MethodName)) ∈ am_kw := am_in4 (List.mem_of_getElem? (i := 177) rfl) rfl
theorem kw_4_179 : (Jvm.Cond.instanceMethod ({ cls := "TapTerminalModel", name := "find", desc := "(III)V" } : Jvm.MethodName)) ∈ am_kw := am_in4 (List.mem_of_getElem? (i := 179) rfl) rfl
theorem kw_0_34 : (Jvm.Cond.selects "TapTerminalModel" ({ cls := "TapTerminalModel", name := "find", desc := "(III)V" } : Jvm.MethodName) ({ cls := "TapTerminalModel", name := "find", desc := "(III)V" } : Jvm.MethodName)) ∈ am_kw := am_in0 (List.mem_of_getElem? (i := 34) rfl) rfl
theorem mp_9_247 : am_mP 9 247 (105, 0, 3) := am_m0 q_Mod_find rfl (by decide +kernel) kw_4_177 kw_4_179 kw_0_34
theorem kw_4_181 : (Jvm.Cond.methodLink "TapTerminalModel" (257 : Nat) ({ cls := "TapTerminalModel", name := "item", desc := "(II)I" } : Jvm.MethodName)) ∈ am_kw := am_in4 (List.mem_of_getElem? (i := 181) rfl) rfl
theorem kw_4_183 : (Jvm.Cond.instanceMethod ({ cls := "TapTerminalModel", name := "item", desc := "(II)I" } : Jvm.MethodName)) ∈ am_kw := am_in4 (List.mem_of_getElem? (i := 183) rfl) rfl
theorem kw_0_35 : (Jvm.Cond.selects "TapTerminalModel" ({ cls := "TapTerminalModel", name := "item", desc := "(II)I" } : Jvm.MethodName) ({ cls := "TapTerminalModel", name := "item", desc := "(II)I" } : Jvm.MethodName)) ∈ am_kw := am_in0 (List.mem_of_getElem? (i := 35) rfl) rfl
theorem mp_9_257 : am_mP 9 257 (104, 0, 2) := am_m0 q_Mod_item rfl (by decide +kernel) kw_4_181 kw_4_183 kw_0_35
theorem kw_4_185 : (Jvm.Cond.methodLink "TapTerminalModel" (260 : Nat) ({ cls := "TapTerminalModel", name := "wayGoes", desc := "(I)Z" } : Jvm.MethodName)) ∈ am_kw := am_in4 (List.mem_of_getElem? (i := 185) rfl) rfl
theorem kw_4_187 : (Jvm.Cond.instanceMethod ({ cls := "TapTerminalModel", name := "wayGoes", desc := "(I)Z" } : Jvm.MethodName)) ∈ am_kw := am_in4 (List.mem_of_getElem? (i := 187) rfl) rfl
theorem kw_0_36 : (Jvm.Cond.selects "TapTerminalModel" ({ cls := "TapTerminalModel", name := "wayGoes", desc := "(I)Z" } : Jvm.MethodName) ({ cls := "TapTerminalModel", name := "wayGoes", desc := "(I)Z" } : Jvm.MethodName)) ∈ am_kw := am_in0 (List.mem_of_getElem? (i := 36) rfl) rfl
theorem mp_9_260 : am_mP 9 260 (106, 0, 1) := am_m0 q_Mod_wayGoes rfl (by decide +kernel) kw_4_185 kw_4_187 kw_0_36
theorem kw_4_189 : (Jvm.Cond.methodLink "TapTerminalModel" (251 : Nat) ({ cls := "TapTerminalModel", name := "typeFor", desc := "()I" } : Jvm.MethodName)) ∈ am_kw := am_in4 (List.mem_of_getElem? (i := 189) rfl) rfl
theorem kw_4_191 : (Jvm.Cond.instanceMethod ({ cls := "TapTerminalModel", name := "typeFor", desc := "()I" } : Jvm.MethodName)) ∈ am_kw := am_in4 (List.mem_of_getElem? (i := 191) rfl) rfl
theorem kw_0_37 : (Jvm.Cond.selects "TapTerminalModel" ({ cls := "TapTerminalModel", name := "typeFor", desc := "()I" } : Jvm.MethodName) ({ cls := "TapTerminalModel", name := "typeFor", desc := "()I" } : Jvm.MethodName)) ∈ am_kw := am_in0 (List.mem_of_getElem? (i := 37) rfl) rfl
theorem mp_9_251 : am_mP 9 251 (107, 0, 0) := am_m0 q_Mod_typeFor rfl (by decide +kernel) kw_4_189 kw_4_191 kw_0_37
def mls_0 : List (Nat × Nat × Nat × Nat) := [(1, 0, 6, 0), (21, 5, 0, 1), (17, 2, 0, 1), (25, 74, 3, 2)]
set_option maxRecDepth 20000 in
theorem mls_0_ok : ∀ e ∈ mls_0, am_mP 0 e.1 e.2 := List.forall_mem_cons.mpr ⟨mp_0_1, List.forall_mem_cons.mpr ⟨mp_0_21, List.forall_mem_cons.mpr ⟨mp_0_17, List.forall_mem_cons.mpr ⟨mp_0_25, fun _ h => absurd h List.not_mem_nil⟩⟩⟩⟩
def mls_1 : List (Nat × Nat × Nat × Nat) := [(3, 0, 6, 0), (11, 0, 4, 1), (34, 10, 0, 2), (31, 1, 0, 0), (41, 0, 7, 2), (47, 4, 0, 3)]
set_option maxRecDepth 20000 in
theorem mls_1_ok : ∀ e ∈ mls_1, am_mP 1 e.1 e.2 := List.forall_mem_cons.mpr ⟨mp_1_3, List.forall_mem_cons.mpr ⟨mp_1_11, List.forall_mem_cons.mpr ⟨mp_1_34, List.forall_mem_cons.mpr ⟨mp_1_31, List.forall_mem_cons.mpr ⟨mp_1_41, List.forall_mem_cons.mpr ⟨mp_1_47, fun _ h => absurd h List.not_mem_nil⟩⟩⟩⟩⟩⟩
def mls_2 : List (Nat × Nat × Nat × Nat) := [(3, 0, 6, 0), (17, 0, 4, 1), (22, 9, 4, 0), (70, 1, 0, 0), (86, 10, 0, 2), (93, 11, 0, 4), (100, 4, 0, 3), (107, 18, 0, 0), (110, 5, 0, 1), (114, 2, 0, 1), (117, 14, 0, 0), (121, 19, 0, 1), (138, 72, 3, 2), (124, 7, 0, 1), (127, 20, 0, 2), (131, 21, 0, 4), (143, 74, 3, 2), (135, 3, 0, 1)]
set_option maxRecDepth 20000 in
theorem mls_2_ok : ∀ e ∈ mls_2, am_mP 2 e.1 e.2 := List.forall_mem_cons.mpr ⟨mp_2_3, List.forall_mem_cons.mpr ⟨mp_2_17, List.forall_mem_cons.mpr ⟨mp_2_22, List.forall_mem_cons.mpr ⟨mp_2_70, List.forall_mem_cons.mpr ⟨mp_2_86, List.forall_mem_cons.mpr ⟨mp_2_93, List.forall_mem_cons.mpr ⟨mp_2_100, List.forall_mem_cons.mpr ⟨mp_2_107, List.forall_mem_cons.mpr ⟨mp_2_110, List.forall_mem_cons.mpr ⟨mp_2_114, List.forall_mem_cons.mpr ⟨mp_2_117, List.forall_mem_cons.mpr ⟨mp_2_121, List.forall_mem_cons.mpr ⟨mp_2_138, List.forall_mem_cons.mpr ⟨mp_2_124, List.forall_mem_cons.mpr ⟨mp_2_127, List.forall_mem_cons.mpr ⟨mp_2_131, List.forall_mem_cons.mpr ⟨mp_2_143, List.forall_mem_cons.mpr ⟨mp_2_135, fun _ h => absurd h List.not_mem_nil⟩⟩⟩⟩⟩⟩⟩⟩⟩⟩⟩⟩⟩⟩⟩⟩⟩⟩
def mls_3 : List (Nat × Nat × Nat × Nat) := [(3, 0, 6, 0)]
set_option maxRecDepth 20000 in
theorem mls_3_ok : ∀ e ∈ mls_3, am_mP 3 e.1 e.2 := List.forall_mem_cons.mpr ⟨mp_3_3, fun _ h => absurd h List.not_mem_nil⟩
def mls_4 : List (Nat × Nat × Nat × Nat) := [(3, 0, 6, 0), (17, 12, 4, 0), (20, 22, 4, 0), (27, 9, 4, 0), (40, 23, 0, 0), (46, 35, 0, 2), (119, 15, 0, 2), (50, 36, 0, 2), (78, 24, 0, 0), (122, 16, 0, 1), (86, 25, 0, 3), (57, 37, 2, 1), (67, 1, 0, 0), (74, 34, 0, 4), (113, 11, 0, 4), (116, 10, 0, 2), (82, 17, 0, 1), (106, 4, 0, 3)]
set_option maxRecDepth 20000 in
theorem mls_4_ok : ∀ e ∈ mls_4, am_mP 4 e.1 e.2 := List.forall_mem_cons.mpr ⟨mp_4_3, List.forall_mem_cons.mpr ⟨mp_4_17, List.forall_mem_cons.mpr ⟨mp_4_20, List.forall_mem_cons.mpr ⟨mp_4_27, List.forall_mem_cons.mpr ⟨mp_4_40, List.forall_mem_cons.mpr ⟨mp_4_46, List.forall_mem_cons.mpr ⟨mp_4_119, List.forall_mem_cons.mpr ⟨mp_4_50, List.forall_mem_cons.mpr ⟨mp_4_78, List.forall_mem_cons.mpr ⟨mp_4_122, List.forall_mem_cons.mpr ⟨mp_4_86, List.forall_mem_cons.mpr ⟨mp_4_57, List.forall_mem_cons.mpr ⟨mp_4_67, List.forall_mem_cons.mpr ⟨mp_4_74, List.forall_mem_cons.mpr ⟨mp_4_113, List.forall_mem_cons.mpr ⟨mp_4_116, List.forall_mem_cons.mpr ⟨mp_4_82, List.forall_mem_cons.mpr ⟨mp_4_106, fun _ h => absurd h List.not_mem_nil⟩⟩⟩⟩⟩⟩⟩⟩⟩⟩⟩⟩⟩⟩⟩⟩⟩⟩
def mls_5 : List (Nat × Nat × Nat × Nat) := [(3, 0, 6, 0), (17, 0, 4, 1), (31, 1, 0, 0), (38, 41, 2, 5), (42, 5, 0, 1), (46, 42, 0, 4), (50, 43, 2, 2), (54, 4, 0, 3)]
set_option maxRecDepth 20000 in
theorem mls_5_ok : ∀ e ∈ mls_5, am_mP 5 e.1 e.2 := List.forall_mem_cons.mpr ⟨mp_5_3, List.forall_mem_cons.mpr ⟨mp_5_17, List.forall_mem_cons.mpr ⟨mp_5_31, List.forall_mem_cons.mpr ⟨mp_5_38, List.forall_mem_cons.mpr ⟨mp_5_42, List.forall_mem_cons.mpr ⟨mp_5_46, List.forall_mem_cons.mpr ⟨mp_5_50, List.forall_mem_cons.mpr ⟨mp_5_54, fun _ h => absurd h List.not_mem_nil⟩⟩⟩⟩⟩⟩⟩⟩
def mls_6 : List (Nat × Nat × Nat × Nat) := [(3, 0, 6, 0), (19, 48, 0, 1), (55, 8, 0, 1), (58, 7, 0, 1), (29, 6, 0, 1), (39, 5, 0, 1), (48, 49, 0, 2), (64, 50, 2, 2), (68, 51, 0, 1)]
set_option maxRecDepth 20000 in
theorem mls_6_ok : ∀ e ∈ mls_6, am_mP 6 e.1 e.2 := List.forall_mem_cons.mpr ⟨mp_6_3, List.forall_mem_cons.mpr ⟨mp_6_19, List.forall_mem_cons.mpr ⟨mp_6_55, List.forall_mem_cons.mpr ⟨mp_6_58, List.forall_mem_cons.mpr ⟨mp_6_29, List.forall_mem_cons.mpr ⟨mp_6_39, List.forall_mem_cons.mpr ⟨mp_6_48, List.forall_mem_cons.mpr ⟨mp_6_64, List.forall_mem_cons.mpr ⟨mp_6_68, fun _ h => absurd h List.not_mem_nil⟩⟩⟩⟩⟩⟩⟩⟩⟩
def mls_7 : List (Nat × Nat × Nat × Nat) := [(3, 0, 6, 0), (9, 53, 0, 0)]
set_option maxRecDepth 20000 in
theorem mls_7_ok : ∀ e ∈ mls_7, am_mP 7 e.1 e.2 := List.forall_mem_cons.mpr ⟨mp_7_3, List.forall_mem_cons.mpr ⟨mp_7_9, fun _ h => absurd h List.not_mem_nil⟩⟩
def mls_8 : List (Nat × Nat × Nat × Nat) := [(1, 0, 6, 0), (9, 26, 4, 0), (18, 44, 4, 0), (25, 38, 4, 0), (32, 52, 4, 0), (39, 0, 4, 1), (49, 72, 2, 2), (53, 73, 2, 1), (61, 13, 0, 4), (67, 71, 0, 1), (84, 2, 0, 1), (87, 27, 0, 1), (122, 53, 0, 0), (125, 28, 0, 0), (128, 67, 0, 0), (195, 29, 0, 0), (199, 30, 0, 0), (202, 31, 0, 0), (205, 70, 0, 1), (260, 1, 0, 0), (208, 33, 0, 2), (212, 5, 0, 1), (215, 45, 0, 1), (221, 32, 0, 0), (132, 68, 0, 1), (224, 3, 0, 1), (227, 0, 7, 2), (232, 39, 0, 0), (233, 40, 0, 1), (136, 69, 0, 3), (243, 46, 0, 4), (250, 47, 0, 2), (254, 6, 0, 1), (257, 7, 0, 1), (188, 14, 0, 0), (191, 74, 2, 2)]
set_option maxRecDepth 20000 in
theorem mls_8_ok : ∀ e ∈ mls_8, am_mP 8 e.1 e.2 := List.forall_mem_cons.mpr ⟨mp_8_1, List.forall_mem_cons.mpr ⟨mp_8_9, List.forall_mem_cons.mpr ⟨mp_8_18, List.forall_mem_cons.mpr ⟨mp_8_25, List.forall_mem_cons.mpr ⟨mp_8_32, List.forall_mem_cons.mpr ⟨mp_8_39, List.forall_mem_cons.mpr ⟨mp_8_49, List.forall_mem_cons.mpr ⟨mp_8_53, List.forall_mem_cons.mpr ⟨mp_8_61, List.forall_mem_cons.mpr ⟨mp_8_67, List.forall_mem_cons.mpr ⟨mp_8_84, List.forall_mem_cons.mpr ⟨mp_8_87, List.forall_mem_cons.mpr ⟨mp_8_122, List.forall_mem_cons.mpr ⟨mp_8_125, List.forall_mem_cons.mpr ⟨mp_8_128, List.forall_mem_cons.mpr ⟨mp_8_195, List.forall_mem_cons.mpr ⟨mp_8_199, List.forall_mem_cons.mpr ⟨mp_8_202, List.forall_mem_cons.mpr ⟨mp_8_205, List.forall_mem_cons.mpr ⟨mp_8_260, List.forall_mem_cons.mpr ⟨mp_8_208, List.forall_mem_cons.mpr ⟨mp_8_212, List.forall_mem_cons.mpr ⟨mp_8_215, List.forall_mem_cons.mpr ⟨mp_8_221, List.forall_mem_cons.mpr ⟨mp_8_132, List.forall_mem_cons.mpr ⟨mp_8_224, List.forall_mem_cons.mpr ⟨mp_8_227, List.forall_mem_cons.mpr ⟨mp_8_232, List.forall_mem_cons.mpr ⟨mp_8_233, List.forall_mem_cons.mpr ⟨mp_8_136, List.forall_mem_cons.mpr ⟨mp_8_243, List.forall_mem_cons.mpr ⟨mp_8_250, List.forall_mem_cons.mpr ⟨mp_8_254, List.forall_mem_cons.mpr ⟨mp_8_257, List.forall_mem_cons.mpr ⟨mp_8_188, List.forall_mem_cons.mpr ⟨mp_8_191, fun _ h => absurd h List.not_mem_nil⟩⟩⟩⟩⟩⟩⟩⟩⟩⟩⟩⟩⟩⟩⟩⟩⟩⟩⟩⟩⟩⟩⟩⟩⟩⟩⟩⟩⟩⟩⟩⟩⟩⟩⟩⟩
def mls_9 : List (Nat × Nat × Nat × Nat) := [(1, 0, 6, 0), (106, 76, 2, 3), (112, 77, 0, 1), (219, 101, 0, 3), (223, 97, 0, 0), (190, 86, 0, 0), (200, 87, 0, 3), (227, 98, 0, 0), (230, 99, 0, 2), (234, 94, 0, 0), (196, 89, 0, 5), (158, 88, 0, 0), (165, 91, 0, 0), (168, 92, 0, 1), (172, 93, 0, 1), (176, 90, 0, 1), (180, 78, 2, 2), (237, 96, 0, 1), (240, 95, 0, 2), (244, 102, 0, 1), (254, 103, 0, 1), (247, 105, 0, 3), (257, 104, 0, 2), (260, 106, 0, 1), (251, 107, 0, 0)]
set_option maxRecDepth 20000 in
theorem mls_9_ok : ∀ e ∈ mls_9, am_mP 9 e.1 e.2 := List.forall_mem_cons.mpr ⟨mp_9_1, List.forall_mem_cons.mpr ⟨mp_9_106, List.forall_mem_cons.mpr ⟨mp_9_112, List.forall_mem_cons.mpr ⟨mp_9_219, List.forall_mem_cons.mpr ⟨mp_9_223, List.forall_mem_cons.mpr ⟨mp_9_190, List.forall_mem_cons.mpr ⟨mp_9_200, List.forall_mem_cons.mpr ⟨mp_9_227, List.forall_mem_cons.mpr ⟨mp_9_230, List.forall_mem_cons.mpr ⟨mp_9_234, List.forall_mem_cons.mpr ⟨mp_9_196, List.forall_mem_cons.mpr ⟨mp_9_158, List.forall_mem_cons.mpr ⟨mp_9_165, List.forall_mem_cons.mpr ⟨mp_9_168, List.forall_mem_cons.mpr ⟨mp_9_172, List.forall_mem_cons.mpr ⟨mp_9_176, List.forall_mem_cons.mpr ⟨mp_9_180, List.forall_mem_cons.mpr ⟨mp_9_237, List.forall_mem_cons.mpr ⟨mp_9_240, List.forall_mem_cons.mpr ⟨mp_9_244, List.forall_mem_cons.mpr ⟨mp_9_254, List.forall_mem_cons.mpr ⟨mp_9_247, List.forall_mem_cons.mpr ⟨mp_9_257, List.forall_mem_cons.mpr ⟨mp_9_260, List.forall_mem_cons.mpr ⟨mp_9_251, fun _ h => absurd h List.not_mem_nil⟩⟩⟩⟩⟩⟩⟩⟩⟩⟩⟩⟩⟩⟩⟩⟩⟩⟩⟩⟩⟩⟩⟩⟩⟩
def am_mlt (oc : Nat) : List (Nat × Nat × Nat × Nat) := match oc with
  | 0 => mls_0
  | 1 => mls_1
  | 2 => mls_2
  | 3 => mls_3
  | 4 => mls_4
  | 5 => mls_5
  | 6 => mls_6
  | 7 => mls_7
  | 8 => mls_8
  | 9 => mls_9
  | _ => []
def am_ml (oc idx : Nat) : Option (Nat × Nat × Nat) := am_lk (am_mlt oc) idx
theorem am_ml_ok (oc idx : Nat) (f : Nat × Nat × Nat) (h : am_ml oc idx = some f) : am_mP oc idx f := by
  have hm := am_lk_mem h
  match oc, hm with
  | 0, hm => exact mls_0_ok _ hm
  | 1, hm => exact mls_1_ok _ hm
  | 2, hm => exact mls_2_ok _ hm
  | 3, hm => exact mls_3_ok _ hm
  | 4, hm => exact mls_4_ok _ hm
  | 5, hm => exact mls_5_ok _ hm
  | 6, hm => exact mls_6_ok _ hm
  | 7, hm => exact mls_7_ok _ hm
  | 8, hm => exact mls_8_ok _ hm
  | 9, hm => exact mls_9_ok _ hm
  | n + 10, hm => cases hm
def am_ats : List FieldType := [.int, .boolean, .object "TapTerminal$Row", .object "TapTerminal$Card"]
theorem am_ats_0 : am_ats[0]? = some .int := rfl
theorem am_ats_1 : am_ats[1]? = some .boolean := rfl
theorem kw_1_53 : (Jvm.Cond.arrayClass Jvm.ClassFile.FieldType.int) ∈ am_kw := am_in1 (List.mem_of_getElem? (i := 53) rfl) rfl
theorem am_kw_int : Jvm.Cond.arrayClass (newarray.typeOf .int) ∈ am_kw := kw_1_53
theorem kw_1_183 : (Jvm.Cond.arrayClass Jvm.ClassFile.FieldType.boolean) ∈ am_kw := am_in1 (List.mem_of_getElem? (i := 183) rfl) rfl
theorem am_kw_bool : Jvm.Cond.arrayClass (newarray.typeOf .boolean) ∈ am_kw := kw_1_183
def am_ac (t : Nat) : Option Nat := match t with
  | 2 => some 0
  | 3 => some 2
  | _ => none
theorem am_ac_ok (t ci : Nat) (h : am_ac t = some ci) : ∃ r, classes[ci]? = some r ∧ am_ats[t]? = some (.object r.1) := by
  unfold am_ac at h
  split at h
  · cases h; exact ⟨_, rfl, rfl⟩
  · cases h; exact ⟨_, rfl, rfl⟩
  · cases h
def am_aos : List String := ["TapTerminal$Row", "TapTerminal$Card"]
theorem ao_Row : (Jvm.Cond.arrayOver (Jvm.ClassFile.FieldType.object "TapTerminal$Row")) ∈ lw_tbl := List.mem_append_right _ (List.mem_append_left _ (List.mem_of_getElem? (i := 34) rfl))
theorem ao_Card : (Jvm.Cond.arrayOver (Jvm.ClassFile.FieldType.object "TapTerminal$Card")) ∈ lw_tbl := List.mem_append_right _ (List.mem_append_left _ (List.mem_of_getElem? (i := 27) rfl))
def am_df (c : Nat) : List Value := match c with
  | 0 => [.null, .int 0]
  | 1 => [.int 0, .int 0, .int 0, .null]
  | 2 => [.int 0, .int 0, .int 0, .int 0, .int 0, .int 0, .int 0, .int 0, .int 0, .int 0, .int 0, .int 0, .null, .null, .int 0, .null, .null, .int 0]
  | 3 => [.null, .null, .null, .null, .int 0, .int 0]
  | 4 => [.null, .null, .int 0, .int 0, .int 0, .null]
  | 5 => [.null, .null, .int 0, .null]
  | 6 => [.int 0, .int 0, .int 0, .int 0, .int 0, .int 0]
  | 7 => [.int 0, .int 0, .int 0, .int 0, .int 0, .int 0, .int 0, .int 0]
  | 8 => [.null, .null, .null, .null, .null, .null]
  | 9 => [.null, .null, .null, .null, .null, .null, .null, .null, .null, .null, .null, .null, .null, .null, .int 0, .int 0, .int 0, .int 0, .int 0, .int 0, .null, .null, .null, .null, .int 0, .int 0, .int 0, .int 0, .int 0, .int 0, .int 0, .int 0, .int 0, .int 0, .int 0, .null, .null, .null, .null, .int 0, .int 0, .int 0, .int 0, .int 0, .int 0, .int 0, .int 0, .int 0, .int 0, .null, .null, .null, .null, .null]
  | _ => []
def am_kP (oc idx ci : Nat) : Prop := ∃ (C : String) (T : u_T) (N : Nat) (t0 : Nat → FieldType), classes[ci]? = some (C, T, N) ∧ (∀ w ∈ u_ws C T N, w ∈ am_kw) ∧ (∀ k, k < N → parseFieldDescriptor (T k).2.2.1 = some (t0 k)) ∧ Jvm.Cond.classLink (am_cn oc) idx C ∈ am_kw ∧ Jvm.Cond.instantiable C N ∈ am_kw ∧ Jvm.Cond.initialized C ∈ am_kw ∧ (∀ j, j < N → defaultValue (t0 j) = vp_V (am_df ci) j) ∧ (am_df ci).length = N ∧ ∀ v ∈ am_df ci, v = .int 0 ∨ v = .null
theorem kw_1_20 : (Jvm.Cond.classLink "TapTerminal" (7 : Nat) "TapTerminal$Air") ∈ am_kw := am_in1 (List.mem_of_getElem? (i := 20) rfl) rfl
theorem kw_1_21 : (Jvm.Cond.instantiable "TapTerminal$Air" (6 : Nat)) ∈ am_kw := am_in1 (List.mem_of_getElem? (i := 21) rfl) rfl
theorem kp_8_7 : am_kP 8 7 4 := ⟨"TapTerminal$Air", F_Air, 6, t_Air, cp_Air.1, cp_Air.2.1, cp_Air.2.2.1, kw_1_20, kw_1_21, kw_1_2, by decide +kernel, rfl, by decide +kernel⟩
theorem kw_1_26 : (Jvm.Cond.classLink "TapTerminal$Air" (9 : Nat) "TapTerminal$Card") ∈ am_kw := am_in1 (List.mem_of_getElem? (i := 26) rfl) rfl
theorem kw_1_28 : (Jvm.Cond.instantiable "TapTerminal$Card" (18 : Nat)) ∈ am_kw := am_in1 (List.mem_of_getElem? (i := 28) rfl) rfl
theorem kp_4_9 : am_kP 4 9 2 := ⟨"TapTerminal$Card", F_Card, 18, t_Card, cp_Card.1, cp_Card.2.1, cp_Card.2.2.1, kw_1_26, kw_1_28, kw_1_3, by decide +kernel, rfl, by decide +kernel⟩
theorem kw_1_33 : (Jvm.Cond.classLink "TapTerminal$Card" (9 : Nat) "TapTerminal$Row") ∈ am_kw := am_in1 (List.mem_of_getElem? (i := 33) rfl) rfl
theorem kw_1_35 : (Jvm.Cond.instantiable "TapTerminal$Row" (2 : Nat)) ∈ am_kw := am_in1 (List.mem_of_getElem? (i := 35) rfl) rfl
theorem kp_2_9 : am_kP 2 9 0 := ⟨"TapTerminal$Row", F_Row, 2, t_Row, cp_Row.1, cp_Row.2.1, cp_Row.2.2.1, kw_1_33, kw_1_35, kw_1_4, by decide +kernel, rfl, by decide +kernel⟩
theorem kw_1_54 : (Jvm.Cond.classLink "TapTerminal$Card" (20 : Nat) "TapTerminal$Block") ∈ am_kw := am_in1 (List.mem_of_getElem? (i := 54) rfl) rfl
theorem kw_1_55 : (Jvm.Cond.instantiable "TapTerminal$Block" (4 : Nat)) ∈ am_kw := am_in1 (List.mem_of_getElem? (i := 55) rfl) rfl
theorem kp_2_20 : am_kP 2 20 1 := ⟨"TapTerminal$Block", F_Block, 4, t_Block, cp_Block.1, cp_Block.2.1, cp_Block.2.2.1, kw_1_54, kw_1_55, kw_1_5, by decide +kernel, rfl, by decide +kernel⟩
theorem kw_1_60 : (Jvm.Cond.classLink "TapTerminal$Block" (9 : Nat) "TapTerminal$Row") ∈ am_kw := am_in1 (List.mem_of_getElem? (i := 60) rfl) rfl
theorem kp_1_9 : am_kP 1 9 0 := ⟨"TapTerminal$Row", F_Row, 2, t_Row, cp_Row.1, cp_Row.2.1, cp_Row.2.2.1, kw_1_60, kw_1_35, kw_1_4, by decide +kernel, rfl, by decide +kernel⟩
theorem kw_1_152 : (Jvm.Cond.classLink "TapTerminal$Air" (18 : Nat) "TapTerminal$Journal") ∈ am_kw := am_in1 (List.mem_of_getElem? (i := 152) rfl) rfl
theorem kw_1_153 : (Jvm.Cond.instantiable "TapTerminal$Journal" (6 : Nat)) ∈ am_kw := am_in1 (List.mem_of_getElem? (i := 153) rfl) rfl
theorem kp_4_18 : am_kP 4 18 3 := ⟨"TapTerminal$Journal", F_Journal, 6, t_Journal, cp_Journal.1, cp_Journal.2.1, cp_Journal.2.2.1, kw_1_152, kw_1_153, kw_1_6, by decide +kernel, rfl, by decide +kernel⟩
theorem kw_1_184 : (Jvm.Cond.classLink "TapTerminal$Air" (25 : Nat) "TapTerminal$Block") ∈ am_kw := am_in1 (List.mem_of_getElem? (i := 184) rfl) rfl
theorem kp_4_25 : am_kP 4 25 1 := ⟨"TapTerminal$Block", F_Block, 4, t_Block, cp_Block.1, cp_Block.2.1, cp_Block.2.2.1, kw_1_184, kw_1_55, kw_1_5, by decide +kernel, rfl, by decide +kernel⟩
theorem kw_1_208 : (Jvm.Cond.classLink "TapTerminal" (16 : Nat) "TapTerminal$Settings") ∈ am_kw := am_in1 (List.mem_of_getElem? (i := 208) rfl) rfl
theorem kw_1_209 : (Jvm.Cond.instantiable "TapTerminal$Settings" (6 : Nat)) ∈ am_kw := am_in1 (List.mem_of_getElem? (i := 209) rfl) rfl
theorem kp_8_16 : am_kP 8 16 6 := ⟨"TapTerminal$Settings", F_Settings, 6, t_Settings, cp_Settings.1, cp_Settings.2.1, cp_Settings.2.2.1, kw_1_208, kw_1_209, kw_1_7, by decide +kernel, rfl, by decide +kernel⟩
theorem kw_1_239 : (Jvm.Cond.classLink "TapTerminal" (23 : Nat) "TapTerminal$Items") ∈ am_kw := am_in1 (List.mem_of_getElem? (i := 239) rfl) rfl
theorem kw_2_0 : (Jvm.Cond.instantiable "TapTerminal$Items" (4 : Nat)) ∈ am_kw := am_in2 (List.mem_of_getElem? (i := 0) rfl) rfl
theorem kp_8_23 : am_kP 8 23 5 := ⟨"TapTerminal$Items", F_Items, 4, t_Items, cp_Items.1, cp_Items.2.1, cp_Items.2.2.1, kw_1_239, kw_2_0, kw_1_8, by decide +kernel, rfl, by decide +kernel⟩
theorem kw_2_5 : (Jvm.Cond.classLink "TapTerminal$Items" (9 : Nat) "TapTerminal$Row") ∈ am_kw := am_in2 (List.mem_of_getElem? (i := 5) rfl) rfl
theorem kp_5_9 : am_kP 5 9 0 := ⟨"TapTerminal$Row", F_Row, 2, t_Row, cp_Row.1, cp_Row.2.1, cp_Row.2.2.1, kw_2_5, kw_1_35, kw_1_4, by decide +kernel, rfl, by decide +kernel⟩
theorem kw_2_25 : (Jvm.Cond.classLink "TapTerminal" (30 : Nat) "TapTerminal$Report") ∈ am_kw := am_in2 (List.mem_of_getElem? (i := 25) rfl) rfl
theorem kw_2_26 : (Jvm.Cond.instantiable "TapTerminal$Report" (8 : Nat)) ∈ am_kw := am_in2 (List.mem_of_getElem? (i := 26) rfl) rfl
theorem kp_8_30 : am_kP 8 30 7 := ⟨"TapTerminal$Report", F_Report, 8, t_Report, cp_Report.1, cp_Report.2.1, cp_Report.2.2.1, kw_2_25, kw_2_26, kw_1_9, by decide +kernel, rfl, by decide +kernel⟩
theorem kw_2_68 : (Jvm.Cond.classLink "TapTerminal" (37 : Nat) "TapTerminal$Row") ∈ am_kw := am_in2 (List.mem_of_getElem? (i := 68) rfl) rfl
theorem kp_8_37 : am_kP 8 37 0 := ⟨"TapTerminal$Row", F_Row, 2, t_Row, cp_Row.1, cp_Row.2.1, cp_Row.2.2.1, kw_2_68, kw_1_35, kw_1_4, by decide +kernel, rfl, by decide +kernel⟩
def am_cl (oc idx : Nat) : Option Nat := match oc, idx with
  | 1, 9 => some 0
  | 2, 9 => some 0
  | 2, 20 => some 1
  | 4, 9 => some 2
  | 4, 18 => some 3
  | 4, 25 => some 1
  | 5, 9 => some 0
  | 8, 7 => some 4
  | 8, 16 => some 6
  | 8, 23 => some 5
  | 8, 30 => some 7
  | 8, 37 => some 0
  | _, _ => none
theorem am_cl_ok0 (oc idx ci : Nat) (h : am_cl oc idx = some ci) : am_kP oc idx ci := by
  unfold am_cl at h
  split at h
  · cases h; exact kp_1_9
  · cases h; exact kp_2_9
  · cases h; exact kp_2_20
  · cases h; exact kp_4_9
  · cases h; exact kp_4_18
  · cases h; exact kp_4_25
  · cases h; exact kp_5_9
  · cases h; exact kp_8_7
  · cases h; exact kp_8_16
  · cases h; exact kp_8_23
  · cases h; exact kp_8_30
  · cases h; exact kp_8_37
  · cases h
def am_al (oc idx : Nat) : Option Nat := match oc, idx with
  | 2, 9 => some 2
  | 4, 9 => some 3
  | 5, 9 => some 2
  | _, _ => none
theorem am_al_ok (oc idx t : Nat) (h : am_al oc idx = some t) : ∃ C, am_ats[t]? = some (.object C) ∧ Jvm.Cond.classLink (am_cn oc) idx C ∈ am_kw ∧ C ∈ am_aos := by
  unfold am_al at h
  split at h
  · cases h; exact ⟨"TapTerminal$Row", rfl, kw_1_33, by decide⟩
  · cases h; exact ⟨"TapTerminal$Card", rfl, kw_1_26, by decide⟩
  · cases h; exact ⟨"TapTerminal$Row", rfl, kw_2_5, by decide⟩
  · cases h
theorem kw_2_103 : (Jvm.Cond.constant "TapTerminal$Card" (57 : Nat) (2147483647 : Int32)) ∈ am_kw := am_in2 (List.mem_of_getElem? (i := 103) rfl) rfl
theorem kw_2_210 : (Jvm.Cond.constant "TapTerminal$Air" (70 : Nat) (1000000 : Int32)) ∈ am_kw := am_in2 (List.mem_of_getElem? (i := 210) rfl) rfl
theorem kw_3_27 : (Jvm.Cond.constant "TapTerminal$Card" (142 : Nat) (65535 : Int32)) ∈ am_kw := am_in3 (List.mem_of_getElem? (i := 27) rfl) rfl
theorem kw_3_35 : (Jvm.Cond.constant "TapTerminal" (264 : Nat) (16777619 : Int32)) ∈ am_kw := am_in3 (List.mem_of_getElem? (i := 35) rfl) rfl
theorem kw_4_71 : (Jvm.Cond.constant "TapTerminalModel" (111 : Nat) (2147483647 : Int32)) ∈ am_kw := am_in4 (List.mem_of_getElem? (i := 71) rfl) rfl
theorem kw_4_156 : (Jvm.Cond.constant "TapTerminalModel" (179 : Nat) (65535 : Int32)) ∈ am_kw := am_in4 (List.mem_of_getElem? (i := 156) rfl) rfl
theorem kw_4_160 : (Jvm.Cond.constant "TapTerminalModel" (110 : Nat) (16777619 : Int32)) ∈ am_kw := am_in4 (List.mem_of_getElem? (i := 160) rfl) rfl
def am_kc (oc idx : Nat) : Option Int32 := match oc, idx with
  | 2, 57 => some (2147483647)
  | 4, 70 => some (1000000)
  | 2, 142 => some (65535)
  | 8, 264 => some (16777619)
  | 9, 111 => some (2147483647)
  | 9, 179 => some (65535)
  | 9, 110 => some (16777619)
  | _, _ => none
theorem am_kc_ok (oc idx : Nat) (v : Int32) (h : am_kc oc idx = some v) : Jvm.Cond.constant (am_cn oc) idx v ∈ am_kw := by
  unfold am_kc at h
  split at h
  · cases h; exact kw_2_103
  · cases h; exact kw_2_210
  · cases h; exact kw_3_27
  · cases h; exact kw_3_35
  · cases h; exact kw_4_71
  · cases h; exact kw_4_156
  · cases h; exact kw_4_160
  · cases h
theorem kw_1_18 : (Jvm.Cond.instanceMethod ({ cls := "java/lang/Object", name := "<init>", desc := "()V" } : Jvm.MethodName)) ∈ am_kw := am_in1 (List.mem_of_getElem? (i := 18) rfl) rfl
theorem kw_1_19 : (Jvm.Cond.code ({ cls := "java/lang/Object", name := "<init>", desc := "()V" } : Jvm.MethodName) object_method_1_code (1 : Nat) (Option.none : Option Jvm.ClassFile.FieldType)) ∈ am_kw := am_in1 (List.mem_of_getElem? (i := 19) rfl) rfl
theorem am_kw_obj : Jvm.Cond.instanceMethod objectInit ∈ am_kw ∧ Jvm.Cond.code objectInit ⟨#[0xb1]⟩ 1 none ∈ am_kw := ⟨kw_1_18, kw_1_19⟩
theorem kw_2_225 : (Jvm.Cond.static ({ cls := "java/lang/Math", name := "min", desc := "(II)I" } : Jvm.MethodName)) ∈ am_kw := am_in2 (List.mem_of_getElem? (i := 225) rfl) rfl
theorem kw_1_11 : (Jvm.Cond.initialized "java/lang/Math") ∈ am_kw := am_in1 (List.mem_of_getElem? (i := 11) rfl) rfl
theorem kw_2_226 : (Jvm.Cond.code ({ cls := "java/lang/Math", name := "min", desc := "(II)I" } : Jvm.MethodName) prog_12_method_69_code (2 : Nat) (Option.some Jvm.ClassFile.FieldType.int)) ∈ am_kw := am_in2 (List.mem_of_getElem? (i := 226) rfl) rfl
theorem am_kw_min : Jvm.Cond.static Lib.Math.min.name ∈ am_kw ∧ Jvm.Cond.initialized "java/lang/Math" ∈ am_kw ∧ Jvm.Cond.code Lib.Math.min.name Lib.Math.min.code 2 (some .int) ∈ am_kw := ⟨kw_2_225, kw_1_11, kw_2_226⟩
