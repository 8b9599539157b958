theorem kb_in {w : Cond} (h : w ∈ tables_1) (hg : goodWord w = true) : w ∈ kBw := List.mem_filter.mpr ⟨List.mem_append_right _ h, hg⟩
theorem kt1 {w : Cond} (h : w ∈ tables_1_1) : w ∈ tables_1 := List.mem_append_left _ h
theorem kt2 {w : Cond} (h : w ∈ tables_1_2) : w ∈ tables_1 := List.mem_append_right _ (List.mem_append_left _ h)
theorem kt3 {w : Cond} (h : w ∈ tables_1_3) : w ∈ tables_1 := List.mem_append_right _ (List.mem_append_right _ (List.mem_append_left _ h))
theorem kt4 {w : Cond} (h : w ∈ tables_1_4) : w ∈ tables_1 := List.mem_append_right _ (List.mem_append_right _ (List.mem_append_right _ (h)))
theorem kp1 {q : MethodName × Nat} (h : q ∈ lw_privs_1) : q ∈ lw_privs := List.mem_append_left _ h
theorem kp2 {q : MethodName × Nat} (h : q ∈ lw_privs_2) : q ∈ lw_privs := List.mem_append_right _ (List.mem_append_left _ h)
theorem kp3 {q : MethodName × Nat} (h : q ∈ lw_privs_3) : q ∈ lw_privs := List.mem_append_right _ (List.mem_append_right _ (List.mem_append_left _ h))
theorem kp4 {q : MethodName × Nat} (h : q ∈ lw_privs_4) : q ∈ lw_privs := List.mem_append_right _ (List.mem_append_right _ (List.mem_append_right _ (h)))
theorem kb_sel {y : MethodName} {n : Nat} (h : (y, n) ∈ lw_privs) (hg : goodWord (Cond.selects y.cls y y) = true) : Cond.selects y.cls y y ∈ kBw := List.mem_filter.mpr ⟨List.mem_append_left _ (List.mem_map.mpr ⟨(y, n), h, rfl⟩), hg⟩
def T_Acc : u_T := fun k => match k with
  | 0 => ("MappedProcessor$Accesses", "memory", "LMappedProcessor$Memory;", true)
  | 1 => ("MappedProcessor$Accesses", "state", "LMappedProcessor$State;", true)
  | _ => ("MappedProcessor$Accesses", "mapper", "LMappedProcessor$Mapper;", true)
def ty_Acc : Nat → FieldType := fun k => match k with
  | 0 => .object "MappedProcessor$Memory"
  | 1 => .object "MappedProcessor$State"
  | _ => .object "MappedProcessor$Mapper"
theorem nm_Acc : ∀ a, a < 3 → ∀ b, b < 3 → a ≠ b → (T_Acc a).2.1 ≠ (T_Acc b).2.1 := by decide +kernel
theorem ty_Acc_ok : ∀ k, k < 3 → parseFieldDescriptor (T_Acc k).2.2.1 = some (ty_Acc k) := by decide +kernel
def T_Ari : u_T := fun k => match k with
  | _ => ("MappedProcessor$Arithmetic", "state", "LMappedProcessor$State;", true)
def ty_Ari : Nat → FieldType := fun k => match k with
  | _ => .object "MappedProcessor$State"
theorem nm_Ari : ∀ a, a < 1 → ∀ b, b < 1 → a ≠ b → (T_Ari a).2.1 ≠ (T_Ari b).2.1 := by decide +kernel
theorem ty_Ari_ok : ∀ k, k < 1 → parseFieldDescriptor (T_Ari k).2.2.1 = some (ty_Ari k) := by decide +kernel
def T_Bra : u_T := fun k => match k with
  | _ => ("MappedProcessor$Branches", "state", "LMappedProcessor$State;", true)
def ty_Bra : Nat → FieldType := fun k => match k with
  | _ => .object "MappedProcessor$State"
theorem nm_Bra : ∀ a, a < 1 → ∀ b, b < 1 → a ≠ b → (T_Bra a).2.1 ≠ (T_Bra b).2.1 := by decide +kernel
theorem ty_Bra_ok : ∀ k, k < 1 → parseFieldDescriptor (T_Bra k).2.2.1 = some (ty_Bra k) := by decide +kernel
def T_Cmp : u_T := fun k => match k with
  | _ => ("MappedProcessor$Comparisons", "state", "LMappedProcessor$State;", true)
def ty_Cmp : Nat → FieldType := fun k => match k with
  | _ => .object "MappedProcessor$State"
theorem nm_Cmp : ∀ a, a < 1 → ∀ b, b < 1 → a ≠ b → (T_Cmp a).2.1 ≠ (T_Cmp b).2.1 := by decide +kernel
theorem ty_Cmp_ok : ∀ k, k < 1 → parseFieldDescriptor (T_Cmp k).2.2.1 = some (ty_Cmp k) := by decide +kernel
def T_Ctl : u_T := fun k => match k with
  | _ => ("MappedProcessor$Control", "state", "LMappedProcessor$State;", true)
def ty_Ctl : Nat → FieldType := fun k => match k with
  | _ => .object "MappedProcessor$State"
theorem nm_Ctl : ∀ a, a < 1 → ∀ b, b < 1 → a ≠ b → (T_Ctl a).2.1 ≠ (T_Ctl b).2.1 := by decide +kernel
theorem ty_Ctl_ok : ∀ k, k < 1 → parseFieldDescriptor (T_Ctl k).2.2.1 = some (ty_Ctl k) := by decide +kernel
def T_Ins : u_T := fun k => match k with
  | 0 => ("MappedProcessor$Instruction", "bits", "I", false)
  | 1 => ("MappedProcessor$Instruction", "op", "I", false)
  | 2 => ("MappedProcessor$Instruction", "d", "I", false)
  | 3 => ("MappedProcessor$Instruction", "a", "I", false)
  | 4 => ("MappedProcessor$Instruction", "b", "I", false)
  | 5 => ("MappedProcessor$Instruction", "x", "I", false)
  | 6 => ("MappedProcessor$Instruction", "s", "I", false)
  | _ => ("MappedProcessor$Instruction", "u", "I", false)
def ty_Ins : Nat → FieldType := fun k => match k with
  | 0 => .int
  | 1 => .int
  | 2 => .int
  | 3 => .int
  | 4 => .int
  | 5 => .int
  | 6 => .int
  | _ => .int
theorem nm_Ins : ∀ a, a < 8 → ∀ b, b < 8 → a ≠ b → (T_Ins a).2.1 ≠ (T_Ins b).2.1 := by decide +kernel
theorem ty_Ins_ok : ∀ k, k < 8 → parseFieldDescriptor (T_Ins k).2.2.1 = some (ty_Ins k) := by decide +kernel
def T_Log : u_T := fun k => match k with
  | _ => ("MappedProcessor$Logic", "state", "LMappedProcessor$State;", true)
def ty_Log : Nat → FieldType := fun k => match k with
  | _ => .object "MappedProcessor$State"
theorem nm_Log : ∀ a, a < 1 → ∀ b, b < 1 → a ≠ b → (T_Log a).2.1 ≠ (T_Log b).2.1 := by decide +kernel
theorem ty_Log_ok : ∀ k, k < 1 → parseFieldDescriptor (T_Log k).2.2.1 = some (ty_Log k) := by decide +kernel
def T_Map : u_T := fun k => match k with
  | 0 => ("MappedProcessor$Mapper", "memory", "LMappedProcessor$Memory;", true)
  | 1 => ("MappedProcessor$Mapper", "state", "LMappedProcessor$State;", true)
  | _ => ("MappedProcessor$Mapper", "entry", "I", false)
def ty_Map : Nat → FieldType := fun k => match k with
  | 0 => .object "MappedProcessor$Memory"
  | 1 => .object "MappedProcessor$State"
  | _ => .int
theorem nm_Map : ∀ a, a < 3 → ∀ b, b < 3 → a ≠ b → (T_Map a).2.1 ≠ (T_Map b).2.1 := by decide +kernel
theorem ty_Map_ok : ∀ k, k < 3 → parseFieldDescriptor (T_Map k).2.2.1 = some (ty_Map k) := by decide +kernel
def T_Mem : u_T := fun k => match k with
  | _ => ("MappedProcessor$Memory", "words", "[I", true)
def ty_Mem : Nat → FieldType := fun k => match k with
  | _ => .array .int
theorem nm_Mem : ∀ a, a < 1 → ∀ b, b < 1 → a ≠ b → (T_Mem a).2.1 ≠ (T_Mem b).2.1 := by decide +kernel
theorem ty_Mem_ok : ∀ k, k < 1 → parseFieldDescriptor (T_Mem k).2.2.1 = some (ty_Mem k) := by decide +kernel
def T_Sta : u_T := fun k => match k with
  | 0 => ("MappedProcessor$State", "generals", "[I", true)
  | 1 => ("MappedProcessor$State", "specials", "[I", true)
  | 2 => ("MappedProcessor$State", "next", "I", false)
  | 3 => ("MappedProcessor$State", "latestVector", "I", false)
  | 4 => ("MappedProcessor$State", "stepsMade", "I", false)
  | _ => ("MappedProcessor$State", "exceptions", "I", false)
def ty_Sta : Nat → FieldType := fun k => match k with
  | 0 => .array .int
  | 1 => .array .int
  | 2 => .int
  | 3 => .int
  | 4 => .int
  | _ => .int
theorem nm_Sta : ∀ a, a < 6 → ∀ b, b < 6 → a ≠ b → (T_Sta a).2.1 ≠ (T_Sta b).2.1 := by decide +kernel
theorem ty_Sta_ok : ∀ k, k < 6 → parseFieldDescriptor (T_Sta k).2.2.1 = some (ty_Sta k) := by decide +kernel
def T_Pro : u_T := fun k => match k with
  | 0 => ("MappedProcessor", "memory", "LMappedProcessor$Memory;", true)
  | 1 => ("MappedProcessor", "state", "LMappedProcessor$State;", true)
  | 2 => ("MappedProcessor", "mapper", "LMappedProcessor$Mapper;", true)
  | 3 => ("MappedProcessor", "instruction", "LMappedProcessor$Instruction;", true)
  | 4 => ("MappedProcessor", "comparisons", "LMappedProcessor$Comparisons;", true)
  | 5 => ("MappedProcessor", "arithmetic", "LMappedProcessor$Arithmetic;", true)
  | 6 => ("MappedProcessor", "logic", "LMappedProcessor$Logic;", true)
  | 7 => ("MappedProcessor", "branches", "LMappedProcessor$Branches;", true)
  | 8 => ("MappedProcessor", "control", "LMappedProcessor$Control;", true)
  | _ => ("MappedProcessor", "accesses", "LMappedProcessor$Accesses;", true)
def ty_Pro : Nat → FieldType := fun k => match k with
  | 0 => .object "MappedProcessor$Memory"
  | 1 => .object "MappedProcessor$State"
  | 2 => .object "MappedProcessor$Mapper"
  | 3 => .object "MappedProcessor$Instruction"
  | 4 => .object "MappedProcessor$Comparisons"
  | 5 => .object "MappedProcessor$Arithmetic"
  | 6 => .object "MappedProcessor$Logic"
  | 7 => .object "MappedProcessor$Branches"
  | 8 => .object "MappedProcessor$Control"
  | _ => .object "MappedProcessor$Accesses"
theorem nm_Pro : ∀ a, a < 10 → ∀ b, b < 10 → a ≠ b → (T_Pro a).2.1 ≠ (T_Pro b).2.1 := by decide +kernel
theorem ty_Pro_ok : ∀ k, k < 10 → parseFieldDescriptor (T_Pro k).2.2.1 = some (ty_Pro k) := by decide +kernel
def T_Ref : u_T := fun k => match k with
  | 0 => ("MappedProcessorModel", "g", "[I", true)
  | 1 => ("MappedProcessorModel", "sp", "[I", true)
  | 2 => ("MappedProcessorModel", "memory", "[I", true)
  | 3 => ("MappedProcessorModel", "latest", "I", false)
  | 4 => ("MappedProcessorModel", "made", "I", false)
  | 5 => ("MappedProcessorModel", "refusal", "I", false)
  | 6 => ("MappedProcessorModel", "entry", "I", false)
  | 7 => ("MappedProcessorModel", "code", "I", false)
  | 8 => ("MappedProcessorModel", "nd", "I", false)
  | 9 => ("MappedProcessorModel", "na", "I", false)
  | 10 => ("MappedProcessorModel", "nb", "I", false)
  | 11 => ("MappedProcessorModel", "next", "I", false)
  | 12 => ("MappedProcessorModel", "failed", "Z", false)
  | _ => ("MappedProcessorModel", "where", "I", false)
def ty_Ref : Nat → FieldType := fun k => match k with
  | 0 => .array .int
  | 1 => .array .int
  | 2 => .array .int
  | 3 => .int
  | 4 => .int
  | 5 => .int
  | 6 => .int
  | 7 => .int
  | 8 => .int
  | 9 => .int
  | 10 => .int
  | 11 => .int
  | 12 => .boolean
  | _ => .int
theorem nm_Ref : ∀ a, a < 14 → ∀ b, b < 14 → a ≠ b → (T_Ref a).2.1 ≠ (T_Ref b).2.1 := by decide +kernel
theorem ty_Ref_ok : ∀ k, k < 14 → parseFieldDescriptor (T_Ref k).2.2.1 = some (ty_Ref k) := by decide +kernel
def kCl : List vw_C := [("MappedProcessor$Accesses", T_Acc, 3), ("MappedProcessor$Arithmetic", T_Ari, 1), ("MappedProcessor$Branches", T_Bra, 1), ("MappedProcessor$Comparisons", T_Cmp, 1), ("MappedProcessor$Control", T_Ctl, 1), ("MappedProcessor$Instruction", T_Ins, 8), ("MappedProcessor$Logic", T_Log, 1), ("MappedProcessor$Mapper", T_Map, 3), ("MappedProcessor$Memory", T_Mem, 1), ("MappedProcessor$State", T_Sta, 6), ("MappedProcessor", T_Pro, 10), ("MappedProcessorModel", T_Ref, 14)]
set_option maxRecDepth 100000 in
theorem mw_1 : (Jvm.Cond.initialized "MappedProcessor") ∈ kBw := kb_in (kt1 (List.mem_of_getElem? (i := 1) rfl)) rfl
set_option maxRecDepth 100000 in
theorem mw_2 : (Jvm.Cond.initialized "MappedProcessor$Memory") ∈ kBw := kb_in (kt1 (List.mem_of_getElem? (i := 2) rfl)) rfl
set_option maxRecDepth 100000 in
theorem mw_3 : (Jvm.Cond.initialized "MappedProcessor$State") ∈ kBw := kb_in (kt1 (List.mem_of_getElem? (i := 3) rfl)) rfl
set_option maxRecDepth 100000 in
theorem mw_4 : (Jvm.Cond.initialized "MappedProcessor$Mapper") ∈ kBw := kb_in (kt1 (List.mem_of_getElem? (i := 4) rfl)) rfl
set_option maxRecDepth 100000 in
theorem mw_5 : (Jvm.Cond.initialized "MappedProcessor$Instruction") ∈ kBw := kb_in (kt1 (List.mem_of_getElem? (i := 5) rfl)) rfl
set_option maxRecDepth 100000 in
theorem mw_6 : (Jvm.Cond.initialized "MappedProcessor$Comparisons") ∈ kBw := kb_in (kt1 (List.mem_of_getElem? (i := 6) rfl)) rfl
set_option maxRecDepth 100000 in
theorem mw_7 : (Jvm.Cond.initialized "MappedProcessor$Arithmetic") ∈ kBw := kb_in (kt1 (List.mem_of_getElem? (i := 7) rfl)) rfl
set_option maxRecDepth 100000 in
theorem mw_8 : (Jvm.Cond.initialized "MappedProcessor$Logic") ∈ kBw := kb_in (kt1 (List.mem_of_getElem? (i := 8) rfl)) rfl
set_option maxRecDepth 100000 in
theorem mw_9 : (Jvm.Cond.initialized "MappedProcessor$Branches") ∈ kBw := kb_in (kt1 (List.mem_of_getElem? (i := 9) rfl)) rfl
set_option maxRecDepth 100000 in
theorem mw_10 : (Jvm.Cond.initialized "MappedProcessor$Control") ∈ kBw := kb_in (kt1 (List.mem_of_getElem? (i := 10) rfl)) rfl
set_option maxRecDepth 100000 in
theorem mw_11 : (Jvm.Cond.initialized "MappedProcessor$Accesses") ∈ kBw := kb_in (kt1 (List.mem_of_getElem? (i := 11) rfl)) rfl
set_option maxRecDepth 100000 in
theorem mw_12 : (Jvm.Cond.initialized "MappedProcessorModel") ∈ kBw := kb_in (kt1 (List.mem_of_getElem? (i := 12) rfl)) rfl
set_option maxRecDepth 100000 in
theorem mw_13 : (Jvm.Cond.initialized "java/lang/Integer") ∈ kBw := kb_in (kt1 (List.mem_of_getElem? (i := 13) rfl)) rfl
set_option maxRecDepth 100000 in
theorem mw_28 : (Jvm.Cond.fieldLink "MappedProcessor$Memory" (9 : Nat) "MappedProcessor$Memory" "words" "[I") ∈ kBw := kb_in (kt1 (List.mem_of_getElem? (i := 28) rfl)) rfl
set_option maxRecDepth 100000 in
theorem mw_29 : (Jvm.Cond.laysFinal "MappedProcessor$Memory" "MappedProcessor$Memory" "words" "[I") ∈ kBw := kb_in (kt1 (List.mem_of_getElem? (i := 29) rfl)) rfl
set_option maxRecDepth 100000 in
theorem mw_39 : (Jvm.Cond.fieldLink "MappedProcessor$State" (9 : Nat) "MappedProcessor$State" "generals" "[I") ∈ kBw := kb_in (kt1 (List.mem_of_getElem? (i := 39) rfl)) rfl
set_option maxRecDepth 100000 in
theorem mw_40 : (Jvm.Cond.fieldLink "MappedProcessor$State" (15 : Nat) "MappedProcessor$State" "specials" "[I") ∈ kBw := kb_in (kt1 (List.mem_of_getElem? (i := 40) rfl)) rfl
set_option maxRecDepth 100000 in
theorem mw_41 : (Jvm.Cond.fieldLink "MappedProcessor$State" (32 : Nat) "MappedProcessor$State" "next" "I") ∈ kBw := kb_in (kt1 (List.mem_of_getElem? (i := 41) rfl)) rfl
set_option maxRecDepth 100000 in
theorem mw_42 : (Jvm.Cond.fieldLink "MappedProcessor$State" (22 : Nat) "MappedProcessor$State" "latestVector" "I") ∈ kBw := kb_in (kt1 (List.mem_of_getElem? (i := 42) rfl)) rfl
set_option maxRecDepth 100000 in
theorem mw_43 : (Jvm.Cond.fieldLink "MappedProcessor$State" (26 : Nat) "MappedProcessor$State" "stepsMade" "I") ∈ kBw := kb_in (kt1 (List.mem_of_getElem? (i := 43) rfl)) rfl
set_option maxRecDepth 100000 in
theorem mw_44 : (Jvm.Cond.fieldLink "MappedProcessor$State" (29 : Nat) "MappedProcessor$State" "exceptions" "I") ∈ kBw := kb_in (kt1 (List.mem_of_getElem? (i := 44) rfl)) rfl
set_option maxRecDepth 100000 in
theorem mw_45 : (Jvm.Cond.laysFinal "MappedProcessor$State" "MappedProcessor$State" "generals" "[I") ∈ kBw := kb_in (kt1 (List.mem_of_getElem? (i := 45) rfl)) rfl
set_option maxRecDepth 100000 in
theorem mw_47 : (Jvm.Cond.laysFinal "MappedProcessor$State" "MappedProcessor$State" "specials" "[I") ∈ kBw := kb_in (kt1 (List.mem_of_getElem? (i := 47) rfl)) rfl
set_option maxRecDepth 100000 in
theorem mw_49 : (Jvm.Cond.lays "MappedProcessor$State" "MappedProcessor$State" "next" "I") ∈ kBw := kb_in (kt1 (List.mem_of_getElem? (i := 49) rfl)) rfl
set_option maxRecDepth 100000 in
theorem mw_51 : (Jvm.Cond.lays "MappedProcessor$State" "MappedProcessor$State" "latestVector" "I") ∈ kBw := kb_in (kt1 (List.mem_of_getElem? (i := 51) rfl)) rfl
set_option maxRecDepth 100000 in
theorem mw_53 : (Jvm.Cond.lays "MappedProcessor$State" "MappedProcessor$State" "stepsMade" "I") ∈ kBw := kb_in (kt1 (List.mem_of_getElem? (i := 53) rfl)) rfl
set_option maxRecDepth 100000 in
theorem mw_55 : (Jvm.Cond.lays "MappedProcessor$State" "MappedProcessor$State" "exceptions" "I") ∈ kBw := kb_in (kt1 (List.mem_of_getElem? (i := 55) rfl)) rfl
set_option maxRecDepth 100000 in
theorem mw_64 : (Jvm.Cond.fieldLink "MappedProcessor$Mapper" (9 : Nat) "MappedProcessor$Mapper" "memory" "LMappedProcessor$Memory;") ∈ kBw := kb_in (kt1 (List.mem_of_getElem? (i := 64) rfl)) rfl
set_option maxRecDepth 100000 in
theorem mw_65 : (Jvm.Cond.fieldLink "MappedProcessor$Mapper" (15 : Nat) "MappedProcessor$Mapper" "state" "LMappedProcessor$State;") ∈ kBw := kb_in (kt1 (List.mem_of_getElem? (i := 65) rfl)) rfl
set_option maxRecDepth 100000 in
theorem mw_66 : (Jvm.Cond.fieldLink "MappedProcessor$Mapper" (19 : Nat) "MappedProcessor$Mapper" "entry" "I") ∈ kBw := kb_in (kt1 (List.mem_of_getElem? (i := 66) rfl)) rfl
set_option maxRecDepth 100000 in
theorem mw_67 : (Jvm.Cond.laysFinal "MappedProcessor$Mapper" "MappedProcessor$Mapper" "memory" "LMappedProcessor$Memory;") ∈ kBw := kb_in (kt1 (List.mem_of_getElem? (i := 67) rfl)) rfl
set_option maxRecDepth 100000 in
theorem mw_69 : (Jvm.Cond.laysFinal "MappedProcessor$Mapper" "MappedProcessor$Mapper" "state" "LMappedProcessor$State;") ∈ kBw := kb_in (kt1 (List.mem_of_getElem? (i := 69) rfl)) rfl
set_option maxRecDepth 100000 in
theorem mw_71 : (Jvm.Cond.lays "MappedProcessor$Mapper" "MappedProcessor$Mapper" "entry" "I") ∈ kBw := kb_in (kt1 (List.mem_of_getElem? (i := 71) rfl)) rfl
set_option maxRecDepth 100000 in
theorem mw_80 : (Jvm.Cond.fieldLink "MappedProcessor$Instruction" (9 : Nat) "MappedProcessor$Instruction" "bits" "I") ∈ kBw := kb_in (kt1 (List.mem_of_getElem? (i := 80) rfl)) rfl
set_option maxRecDepth 100000 in
theorem mw_81 : (Jvm.Cond.fieldLink "MappedProcessor$Branches" (45 : Nat) "MappedProcessor$Instruction" "bits" "I") ∈ kBw := kb_in (kt1 (List.mem_of_getElem? (i := 81) rfl)) rfl
set_option maxRecDepth 100000 in
theorem mw_82 : (Jvm.Cond.fieldLink "MappedProcessor$Logic" (47 : Nat) "MappedProcessor$Instruction" "bits" "I") ∈ kBw := kb_in (kt1 (List.mem_of_getElem? (i := 82) rfl)) rfl
set_option maxRecDepth 100000 in
theorem mw_83 : (Jvm.Cond.fieldLink "MappedProcessor$Branches" (15 : Nat) "MappedProcessor$Instruction" "op" "I") ∈ kBw := kb_in (kt1 (List.mem_of_getElem? (i := 83) rfl)) rfl
set_option maxRecDepth 100000 in
theorem mw_84 : (Jvm.Cond.fieldLink "MappedProcessor$Accesses" (23 : Nat) "MappedProcessor$Instruction" "op" "I") ∈ kBw := kb_in (kt1 (List.mem_of_getElem? (i := 84) rfl)) rfl
set_option maxRecDepth 100000 in
theorem mw_85 : (Jvm.Cond.fieldLink "MappedProcessor$Instruction" (15 : Nat) "MappedProcessor$Instruction" "op" "I") ∈ kBw := kb_in (kt1 (List.mem_of_getElem? (i := 85) rfl)) rfl
set_option maxRecDepth 100000 in
theorem mw_86 : (Jvm.Cond.fieldLink "MappedProcessor$Comparisons" (27 : Nat) "MappedProcessor$Instruction" "op" "I") ∈ kBw := kb_in (kt1 (List.mem_of_getElem? (i := 86) rfl)) rfl
set_option maxRecDepth 100000 in
theorem mw_87 : (Jvm.Cond.fieldLink "MappedProcessor$Arithmetic" (25 : Nat) "MappedProcessor$Instruction" "op" "I") ∈ kBw := kb_in (kt1 (List.mem_of_getElem? (i := 87) rfl)) rfl
set_option maxRecDepth 100000 in
theorem mw_88 : (Jvm.Cond.fieldLink "MappedProcessor$Logic" (25 : Nat) "MappedProcessor$Instruction" "op" "I") ∈ kBw := kb_in (kt1 (List.mem_of_getElem? (i := 88) rfl)) rfl
set_option maxRecDepth 100000 in
theorem mw_89 : (Jvm.Cond.fieldLink "MappedProcessor" (151 : Nat) "MappedProcessor$Instruction" "op" "I") ∈ kBw := kb_in (kt1 (List.mem_of_getElem? (i := 89) rfl)) rfl
set_option maxRecDepth 100000 in
theorem mw_90 : (Jvm.Cond.fieldLink "MappedProcessor$Logic" (13 : Nat) "MappedProcessor$Instruction" "d" "I") ∈ kBw := kb_in (kt1 (List.mem_of_getElem? (i := 90) rfl)) rfl
set_option maxRecDepth 100000 in
theorem mw_91 : (Jvm.Cond.fieldLink "MappedProcessor$Instruction" (18 : Nat) "MappedProcessor$Instruction" "d" "I") ∈ kBw := kb_in (kt1 (List.mem_of_getElem? (i := 91) rfl)) rfl
set_option maxRecDepth 100000 in
theorem mw_92 : (Jvm.Cond.fieldLink "MappedProcessor$Branches" (21 : Nat) "MappedProcessor$Instruction" "d" "I") ∈ kBw := kb_in (kt1 (List.mem_of_getElem? (i := 92) rfl)) rfl
set_option maxRecDepth 100000 in
theorem mw_93 : (Jvm.Cond.fieldLink "MappedProcessor$Accesses" (52 : Nat) "MappedProcessor$Instruction" "d" "I") ∈ kBw := kb_in (kt1 (List.mem_of_getElem? (i := 93) rfl)) rfl
set_option maxRecDepth 100000 in
theorem mw_94 : (Jvm.Cond.fieldLink "MappedProcessor$Comparisons" (30 : Nat) "MappedProcessor$Instruction" "d" "I") ∈ kBw := kb_in (kt1 (List.mem_of_getElem? (i := 94) rfl)) rfl
set_option maxRecDepth 100000 in
theorem mw_95 : (Jvm.Cond.fieldLink "MappedProcessor$Control" (21 : Nat) "MappedProcessor$Instruction" "d" "I") ∈ kBw := kb_in (kt1 (List.mem_of_getElem? (i := 95) rfl)) rfl
set_option maxRecDepth 100000 in
theorem mw_96 : (Jvm.Cond.fieldLink "MappedProcessor$Arithmetic" (39 : Nat) "MappedProcessor$Instruction" "d" "I") ∈ kBw := kb_in (kt1 (List.mem_of_getElem? (i := 96) rfl)) rfl
set_option maxRecDepth 100000 in
theorem mw_97 : (Jvm.Cond.fieldLink "MappedProcessor$Comparisons" (15 : Nat) "MappedProcessor$Instruction" "a" "I") ∈ kBw := kb_in (kt1 (List.mem_of_getElem? (i := 97) rfl)) rfl
set_option maxRecDepth 100000 in
theorem mw_98 : (Jvm.Cond.fieldLink "MappedProcessor$Arithmetic" (13 : Nat) "MappedProcessor$Instruction" "a" "I") ∈ kBw := kb_in (kt1 (List.mem_of_getElem? (i := 98) rfl)) rfl
set_option maxRecDepth 100000 in
theorem mw_99 : (Jvm.Cond.fieldLink "MappedProcessor$Instruction" (21 : Nat) "MappedProcessor$Instruction" "a" "I") ∈ kBw := kb_in (kt1 (List.mem_of_getElem? (i := 99) rfl)) rfl
set_option maxRecDepth 100000 in
theorem mw_100 : (Jvm.Cond.fieldLink "MappedProcessor$Accesses" (41 : Nat) "MappedProcessor$Instruction" "a" "I") ∈ kBw := kb_in (kt1 (List.mem_of_getElem? (i := 100) rfl)) rfl
set_option maxRecDepth 100000 in
theorem mw_101 : (Jvm.Cond.fieldLink "MappedProcessor$Branches" (24 : Nat) "MappedProcessor$Instruction" "a" "I") ∈ kBw := kb_in (kt1 (List.mem_of_getElem? (i := 101) rfl)) rfl
set_option maxRecDepth 100000 in
theorem mw_102 : (Jvm.Cond.fieldLink "MappedProcessor$Logic" (31 : Nat) "MappedProcessor$Instruction" "a" "I") ∈ kBw := kb_in (kt1 (List.mem_of_getElem? (i := 102) rfl)) rfl
set_option maxRecDepth 100000 in
theorem mw_103 : (Jvm.Cond.fieldLink "MappedProcessor$Control" (59 : Nat) "MappedProcessor$Instruction" "a" "I") ∈ kBw := kb_in (kt1 (List.mem_of_getElem? (i := 103) rfl)) rfl
set_option maxRecDepth 100000 in
theorem mw_104 : (Jvm.Cond.fieldLink "MappedProcessor$Instruction" (24 : Nat) "MappedProcessor$Instruction" "b" "I") ∈ kBw := kb_in (kt1 (List.mem_of_getElem? (i := 104) rfl)) rfl
set_option maxRecDepth 100000 in
theorem mw_105 : (Jvm.Cond.fieldLink "MappedProcessor$Logic" (38 : Nat) "MappedProcessor$Instruction" "b" "I") ∈ kBw := kb_in (kt1 (List.mem_of_getElem? (i := 105) rfl)) rfl
set_option maxRecDepth 100000 in
theorem mw_106 : (Jvm.Cond.fieldLink "MappedProcessor$Comparisons" (56 : Nat) "MappedProcessor$Instruction" "b" "I") ∈ kBw := kb_in (kt1 (List.mem_of_getElem? (i := 106) rfl)) rfl
set_option maxRecDepth 100000 in
theorem mw_107 : (Jvm.Cond.fieldLink "MappedProcessor$Arithmetic" (46 : Nat) "MappedProcessor$Instruction" "b" "I") ∈ kBw := kb_in (kt1 (List.mem_of_getElem? (i := 107) rfl)) rfl
set_option maxRecDepth 100000 in
theorem mw_108 : (Jvm.Cond.fieldLink "MappedProcessor$Accesses" (69 : Nat) "MappedProcessor$Instruction" "b" "I") ∈ kBw := kb_in (kt1 (List.mem_of_getElem? (i := 108) rfl)) rfl
set_option maxRecDepth 100000 in
theorem mw_109 : (Jvm.Cond.fieldLink "MappedProcessor$Branches" (63 : Nat) "MappedProcessor$Instruction" "b" "I") ∈ kBw := kb_in (kt1 (List.mem_of_getElem? (i := 109) rfl)) rfl
set_option maxRecDepth 100000 in
theorem mw_110 : (Jvm.Cond.fieldLink "MappedProcessor$Control" (63 : Nat) "MappedProcessor$Instruction" "b" "I") ∈ kBw := kb_in (kt1 (List.mem_of_getElem? (i := 110) rfl)) rfl
set_option maxRecDepth 100000 in
theorem mw_111 : (Jvm.Cond.fieldLink "MappedProcessor$Control" (15 : Nat) "MappedProcessor$Instruction" "x" "I") ∈ kBw := kb_in (kt1 (List.mem_of_getElem? (i := 111) rfl)) rfl
set_option maxRecDepth 100000 in
theorem mw_112 : (Jvm.Cond.fieldLink "MappedProcessor$Instruction" (27 : Nat) "MappedProcessor$Instruction" "x" "I") ∈ kBw := kb_in (kt1 (List.mem_of_getElem? (i := 112) rfl)) rfl
set_option maxRecDepth 100000 in
theorem mw_113 : (Jvm.Cond.fieldLink "MappedProcessor$Branches" (48 : Nat) "MappedProcessor$Instruction" "x" "I") ∈ kBw := kb_in (kt1 (List.mem_of_getElem? (i := 113) rfl)) rfl
set_option maxRecDepth 100000 in
theorem mw_114 : (Jvm.Cond.fieldLink "MappedProcessor$Accesses" (63 : Nat) "MappedProcessor$Instruction" "x" "I") ∈ kBw := kb_in (kt1 (List.mem_of_getElem? (i := 114) rfl)) rfl
set_option maxRecDepth 100000 in
theorem mw_115 : (Jvm.Cond.fieldLink "MappedProcessor$Comparisons" (59 : Nat) "MappedProcessor$Instruction" "x" "I") ∈ kBw := kb_in (kt1 (List.mem_of_getElem? (i := 115) rfl)) rfl
set_option maxRecDepth 100000 in
theorem mw_116 : (Jvm.Cond.fieldLink "MappedProcessor$Arithmetic" (49 : Nat) "MappedProcessor$Instruction" "x" "I") ∈ kBw := kb_in (kt1 (List.mem_of_getElem? (i := 116) rfl)) rfl
set_option maxRecDepth 100000 in
theorem mw_117 : (Jvm.Cond.fieldLink "MappedProcessor$Logic" (57 : Nat) "MappedProcessor$Instruction" "x" "I") ∈ kBw := kb_in (kt1 (List.mem_of_getElem? (i := 117) rfl)) rfl
set_option maxRecDepth 100000 in
theorem mw_118 : (Jvm.Cond.fieldLink "MappedProcessor$Accesses" (49 : Nat) "MappedProcessor$Instruction" "s" "I") ∈ kBw := kb_in (kt1 (List.mem_of_getElem? (i := 118) rfl)) rfl
set_option maxRecDepth 100000 in
theorem mw_119 : (Jvm.Cond.fieldLink "MappedProcessor$Branches" (35 : Nat) "MappedProcessor$Instruction" "s" "I") ∈ kBw := kb_in (kt1 (List.mem_of_getElem? (i := 119) rfl)) rfl
set_option maxRecDepth 100000 in
theorem mw_120 : (Jvm.Cond.fieldLink "MappedProcessor$Comparisons" (33 : Nat) "MappedProcessor$Instruction" "s" "I") ∈ kBw := kb_in (kt1 (List.mem_of_getElem? (i := 120) rfl)) rfl
set_option maxRecDepth 100000 in
theorem mw_121 : (Jvm.Cond.fieldLink "MappedProcessor$Instruction" (30 : Nat) "MappedProcessor$Instruction" "s" "I") ∈ kBw := kb_in (kt1 (List.mem_of_getElem? (i := 121) rfl)) rfl
set_option maxRecDepth 100000 in
theorem mw_122 : (Jvm.Cond.fieldLink "MappedProcessor$Arithmetic" (28 : Nat) "MappedProcessor$Instruction" "s" "I") ∈ kBw := kb_in (kt1 (List.mem_of_getElem? (i := 122) rfl)) rfl
set_option maxRecDepth 100000 in
theorem mw_123 : (Jvm.Cond.fieldLink "MappedProcessor$Logic" (28 : Nat) "MappedProcessor$Instruction" "u" "I") ∈ kBw := kb_in (kt1 (List.mem_of_getElem? (i := 123) rfl)) rfl
set_option maxRecDepth 100000 in
theorem mw_124 : (Jvm.Cond.fieldLink "MappedProcessor$Instruction" (34 : Nat) "MappedProcessor$Instruction" "u" "I") ∈ kBw := kb_in (kt1 (List.mem_of_getElem? (i := 124) rfl)) rfl
set_option maxRecDepth 100000 in
theorem mw_125 : (Jvm.Cond.fieldLink "MappedProcessor$Comparisons" (40 : Nat) "MappedProcessor$Instruction" "u" "I") ∈ kBw := kb_in (kt1 (List.mem_of_getElem? (i := 125) rfl)) rfl
set_option maxRecDepth 100000 in
theorem mw_126 : (Jvm.Cond.lays "MappedProcessor$Instruction" "MappedProcessor$Instruction" "bits" "I") ∈ kBw := kb_in (kt1 (List.mem_of_getElem? (i := 126) rfl)) rfl
set_option maxRecDepth 100000 in
theorem mw_128 : (Jvm.Cond.lays "MappedProcessor$Instruction" "MappedProcessor$Instruction" "op" "I") ∈ kBw := kb_in (kt1 (List.mem_of_getElem? (i := 128) rfl)) rfl
set_option maxRecDepth 100000 in
theorem mw_130 : (Jvm.Cond.lays "MappedProcessor$Instruction" "MappedProcessor$Instruction" "d" "I") ∈ kBw := kb_in (kt1 (List.mem_of_getElem? (i := 130) rfl)) rfl
set_option maxRecDepth 100000 in
theorem mw_132 : (Jvm.Cond.lays "MappedProcessor$Instruction" "MappedProcessor$Instruction" "a" "I") ∈ kBw := kb_in (kt1 (List.mem_of_getElem? (i := 132) rfl)) rfl
set_option maxRecDepth 100000 in
theorem mw_134 : (Jvm.Cond.lays "MappedProcessor$Instruction" "MappedProcessor$Instruction" "b" "I") ∈ kBw := kb_in (kt1 (List.mem_of_getElem? (i := 134) rfl)) rfl
set_option maxRecDepth 100000 in
theorem mw_136 : (Jvm.Cond.lays "MappedProcessor$Instruction" "MappedProcessor$Instruction" "x" "I") ∈ kBw := kb_in (kt1 (List.mem_of_getElem? (i := 136) rfl)) rfl
set_option maxRecDepth 100000 in
theorem mw_138 : (Jvm.Cond.lays "MappedProcessor$Instruction" "MappedProcessor$Instruction" "s" "I") ∈ kBw := kb_in (kt1 (List.mem_of_getElem? (i := 138) rfl)) rfl
set_option maxRecDepth 100000 in
theorem mw_140 : (Jvm.Cond.lays "MappedProcessor$Instruction" "MappedProcessor$Instruction" "u" "I") ∈ kBw := kb_in (kt1 (List.mem_of_getElem? (i := 140) rfl)) rfl
set_option maxRecDepth 100000 in
theorem mw_149 : (Jvm.Cond.fieldLink "MappedProcessor$Comparisons" (9 : Nat) "MappedProcessor$Comparisons" "state" "LMappedProcessor$State;") ∈ kBw := kb_in (kt1 (List.mem_of_getElem? (i := 149) rfl)) rfl
set_option maxRecDepth 100000 in
theorem mw_150 : (Jvm.Cond.laysFinal "MappedProcessor$Comparisons" "MappedProcessor$Comparisons" "state" "LMappedProcessor$State;") ∈ kBw := kb_in (kt1 (List.mem_of_getElem? (i := 150) rfl)) rfl
set_option maxRecDepth 100000 in
theorem mw_159 : (Jvm.Cond.fieldLink "MappedProcessor$Arithmetic" (7 : Nat) "MappedProcessor$Arithmetic" "state" "LMappedProcessor$State;") ∈ kBw := kb_in (kt1 (List.mem_of_getElem? (i := 159) rfl)) rfl
set_option maxRecDepth 100000 in
theorem mw_160 : (Jvm.Cond.laysFinal "MappedProcessor$Arithmetic" "MappedProcessor$Arithmetic" "state" "LMappedProcessor$State;") ∈ kBw := kb_in (kt1 (List.mem_of_getElem? (i := 160) rfl)) rfl
set_option maxRecDepth 100000 in
theorem mw_169 : (Jvm.Cond.fieldLink "MappedProcessor$Logic" (7 : Nat) "MappedProcessor$Logic" "state" "LMappedProcessor$State;") ∈ kBw := kb_in (kt1 (List.mem_of_getElem? (i := 169) rfl)) rfl
set_option maxRecDepth 100000 in
theorem mw_170 : (Jvm.Cond.laysFinal "MappedProcessor$Logic" "MappedProcessor$Logic" "state" "LMappedProcessor$State;") ∈ kBw := kb_in (kt1 (List.mem_of_getElem? (i := 170) rfl)) rfl
set_option maxRecDepth 100000 in
theorem mw_179 : (Jvm.Cond.fieldLink "MappedProcessor$Branches" (9 : Nat) "MappedProcessor$Branches" "state" "LMappedProcessor$State;") ∈ kBw := kb_in (kt1 (List.mem_of_getElem? (i := 179) rfl)) rfl
set_option maxRecDepth 100000 in
theorem mw_180 : (Jvm.Cond.laysFinal "MappedProcessor$Branches" "MappedProcessor$Branches" "state" "LMappedProcessor$State;") ∈ kBw := kb_in (kt1 (List.mem_of_getElem? (i := 180) rfl)) rfl
set_option maxRecDepth 100000 in
theorem mw_189 : (Jvm.Cond.fieldLink "MappedProcessor$Control" (9 : Nat) "MappedProcessor$Control" "state" "LMappedProcessor$State;") ∈ kBw := kb_in (kt1 (List.mem_of_getElem? (i := 189) rfl)) rfl
set_option maxRecDepth 100000 in
theorem mw_190 : (Jvm.Cond.laysFinal "MappedProcessor$Control" "MappedProcessor$Control" "state" "LMappedProcessor$State;") ∈ kBw := kb_in (kt1 (List.mem_of_getElem? (i := 190) rfl)) rfl
set_option maxRecDepth 100000 in
theorem mw_199 : (Jvm.Cond.fieldLink "MappedProcessor$Accesses" (9 : Nat) "MappedProcessor$Accesses" "memory" "LMappedProcessor$Memory;") ∈ kBw := kb_in (kt1 (List.mem_of_getElem? (i := 199) rfl)) rfl
set_option maxRecDepth 100000 in
theorem mw_200 : (Jvm.Cond.fieldLink "MappedProcessor$Accesses" (15 : Nat) "MappedProcessor$Accesses" "state" "LMappedProcessor$State;") ∈ kBw := kb_in (kt1 (List.mem_of_getElem? (i := 200) rfl)) rfl
set_option maxRecDepth 100000 in
theorem mw_201 : (Jvm.Cond.fieldLink "MappedProcessor$Accesses" (19 : Nat) "MappedProcessor$Accesses" "mapper" "LMappedProcessor$Mapper;") ∈ kBw := kb_in (kt1 (List.mem_of_getElem? (i := 201) rfl)) rfl
set_option maxRecDepth 100000 in
theorem mw_202 : (Jvm.Cond.laysFinal "MappedProcessor$Accesses" "MappedProcessor$Accesses" "memory" "LMappedProcessor$Memory;") ∈ kBw := kb_in (kt1 (List.mem_of_getElem? (i := 202) rfl)) rfl
set_option maxRecDepth 100000 in
theorem mw_204 : (Jvm.Cond.laysFinal "MappedProcessor$Accesses" "MappedProcessor$Accesses" "state" "LMappedProcessor$State;") ∈ kBw := kb_in (kt1 (List.mem_of_getElem? (i := 204) rfl)) rfl
set_option maxRecDepth 100000 in
theorem mw_206 : (Jvm.Cond.laysFinal "MappedProcessor$Accesses" "MappedProcessor$Accesses" "mapper" "LMappedProcessor$Mapper;") ∈ kBw := kb_in (kt1 (List.mem_of_getElem? (i := 206) rfl)) rfl
set_option maxRecDepth 100000 in
theorem mw_209 : (Jvm.Cond.fieldLink "MappedProcessor" (10 : Nat) "MappedProcessor" "memory" "LMappedProcessor$Memory;") ∈ kBw := kb_in (kt1 (List.mem_of_getElem? (i := 209) rfl)) rfl
set_option maxRecDepth 100000 in
theorem mw_210 : (Jvm.Cond.fieldLink "MappedProcessor" (19 : Nat) "MappedProcessor" "state" "LMappedProcessor$State;") ∈ kBw := kb_in (kt1 (List.mem_of_getElem? (i := 210) rfl)) rfl
set_option maxRecDepth 100000 in
theorem mw_211 : (Jvm.Cond.fieldLink "MappedProcessor" (28 : Nat) "MappedProcessor" "mapper" "LMappedProcessor$Mapper;") ∈ kBw := kb_in (kt1 (List.mem_of_getElem? (i := 211) rfl)) rfl
set_option maxRecDepth 100000 in
theorem mw_212 : (Jvm.Cond.fieldLink "MappedProcessor" (35 : Nat) "MappedProcessor" "instruction" "LMappedProcessor$Instruction;") ∈ kBw := kb_in (kt1 (List.mem_of_getElem? (i := 212) rfl)) rfl
set_option maxRecDepth 100000 in
theorem mw_213 : (Jvm.Cond.fieldLink "MappedProcessor" (44 : Nat) "MappedProcessor" "comparisons" "LMappedProcessor$Comparisons;") ∈ kBw := kb_in (kt1 (List.mem_of_getElem? (i := 213) rfl)) rfl
set_option maxRecDepth 100000 in
theorem mw_214 : (Jvm.Cond.fieldLink "MappedProcessor" (51 : Nat) "MappedProcessor" "arithmetic" "LMappedProcessor$Arithmetic;") ∈ kBw := kb_in (kt1 (List.mem_of_getElem? (i := 214) rfl)) rfl
set_option maxRecDepth 100000 in
theorem mw_215 : (Jvm.Cond.fieldLink "MappedProcessor" (58 : Nat) "MappedProcessor" "logic" "LMappedProcessor$Logic;") ∈ kBw := kb_in (kt1 (List.mem_of_getElem? (i := 215) rfl)) rfl
set_option maxRecDepth 100000 in
theorem mw_216 : (Jvm.Cond.fieldLink "MappedProcessor" (65 : Nat) "MappedProcessor" "branches" "LMappedProcessor$Branches;") ∈ kBw := kb_in (kt1 (List.mem_of_getElem? (i := 216) rfl)) rfl
set_option maxRecDepth 100000 in
theorem mw_217 : (Jvm.Cond.fieldLink "MappedProcessor" (72 : Nat) "MappedProcessor" "control" "LMappedProcessor$Control;") ∈ kBw := kb_in (kt1 (List.mem_of_getElem? (i := 217) rfl)) rfl
set_option maxRecDepth 100000 in
theorem mw_218 : (Jvm.Cond.fieldLink "MappedProcessor" (81 : Nat) "MappedProcessor" "accesses" "LMappedProcessor$Accesses;") ∈ kBw := kb_in (kt1 (List.mem_of_getElem? (i := 218) rfl)) rfl
set_option maxRecDepth 100000 in
theorem mw_219 : (Jvm.Cond.laysFinal "MappedProcessor" "MappedProcessor" "memory" "LMappedProcessor$Memory;") ∈ kBw := kb_in (kt1 (List.mem_of_getElem? (i := 219) rfl)) rfl
set_option maxRecDepth 100000 in
theorem mw_221 : (Jvm.Cond.laysFinal "MappedProcessor" "MappedProcessor" "state" "LMappedProcessor$State;") ∈ kBw := kb_in (kt1 (List.mem_of_getElem? (i := 221) rfl)) rfl
set_option maxRecDepth 100000 in
theorem mw_223 : (Jvm.Cond.laysFinal "MappedProcessor" "MappedProcessor" "mapper" "LMappedProcessor$Mapper;") ∈ kBw := kb_in (kt1 (List.mem_of_getElem? (i := 223) rfl)) rfl
set_option maxRecDepth 100000 in
theorem mw_225 : (Jvm.Cond.laysFinal "MappedProcessor" "MappedProcessor" "instruction" "LMappedProcessor$Instruction;") ∈ kBw := kb_in (kt1 (List.mem_of_getElem? (i := 225) rfl)) rfl
set_option maxRecDepth 100000 in
theorem mw_227 : (Jvm.Cond.laysFinal "MappedProcessor" "MappedProcessor" "comparisons" "LMappedProcessor$Comparisons;") ∈ kBw := kb_in (kt1 (List.mem_of_getElem? (i := 227) rfl)) rfl
set_option maxRecDepth 100000 in
theorem mw_229 : (Jvm.Cond.laysFinal "MappedProcessor" "MappedProcessor" "arithmetic" "LMappedProcessor$Arithmetic;") ∈ kBw := kb_in (kt1 (List.mem_of_getElem? (i := 229) rfl)) rfl
set_option maxRecDepth 100000 in
theorem mw_231 : (Jvm.Cond.laysFinal "MappedProcessor" "MappedProcessor" "logic" "LMappedProcessor$Logic;") ∈ kBw := kb_in (kt1 (List.mem_of_getElem? (i := 231) rfl)) rfl
set_option maxRecDepth 100000 in
theorem mw_233 : (Jvm.Cond.laysFinal "MappedProcessor" "MappedProcessor" "branches" "LMappedProcessor$Branches;") ∈ kBw := kb_in (kt1 (List.mem_of_getElem? (i := 233) rfl)) rfl
set_option maxRecDepth 100000 in
theorem mw_235 : (Jvm.Cond.laysFinal "MappedProcessor" "MappedProcessor" "control" "LMappedProcessor$Control;") ∈ kBw := kb_in (kt1 (List.mem_of_getElem? (i := 235) rfl)) rfl
set_option maxRecDepth 100000 in
theorem mw_237 : (Jvm.Cond.laysFinal "MappedProcessor" "MappedProcessor" "accesses" "LMappedProcessor$Accesses;") ∈ kBw := kb_in (kt1 (List.mem_of_getElem? (i := 237) rfl)) rfl
set_option maxRecDepth 100000 in
theorem mw_241 : (Jvm.Cond.instanceMethod ({ cls := "MappedProcessor", name := "write", desc := "(II)Z" } : Jvm.MethodName)) ∈ kBw := kb_in (kt2 (List.mem_of_getElem? (i := 1) rfl)) rfl
set_option maxRecDepth 100000 in
theorem mw_242 : (Jvm.Cond.selects "MappedProcessor" ({ cls := "MappedProcessor", name := "write", desc := "(II)Z" } : Jvm.MethodName) ({ cls := "MappedProcessor", name := "write", desc := "(II)Z" } : Jvm.MethodName)) ∈ kBw := kb_in (kt2 (List.mem_of_getElem? (i := 2) rfl)) rfl
set_option maxRecDepth 100000 in
theorem mw_243 : (Jvm.Cond.code ({ cls := "MappedProcessor", name := "write", desc := "(II)Z" } : Jvm.MethodName) prog_1_method_2_code (3 : Nat) (Option.some Jvm.ClassFile.FieldType.boolean)) ∈ kBw := kb_in (kt2 (List.mem_of_getElem? (i := 3) rfl)) rfl
set_option maxRecDepth 100000 in
theorem mw_244 : (Jvm.Cond.methodLink "MappedProcessor" (85 : Nat) ({ cls := "MappedProcessor$Memory", name := "keep", desc := "(II)V" } : Jvm.MethodName)) ∈ kBw := kb_in (kt2 (List.mem_of_getElem? (i := 4) rfl)) rfl
set_option maxRecDepth 100000 in
theorem mw_245 : (Jvm.Cond.instanceMethod ({ cls := "MappedProcessor$Memory", name := "keep", desc := "(II)V" } : Jvm.MethodName)) ∈ kBw := kb_in (kt2 (List.mem_of_getElem? (i := 5) rfl)) rfl
set_option maxRecDepth 100000 in
theorem mw_246 : (Jvm.Cond.selects "MappedProcessor$Memory" ({ cls := "MappedProcessor$Memory", name := "keep", desc := "(II)V" } : Jvm.MethodName) ({ cls := "MappedProcessor$Memory", name := "keep", desc := "(II)V" } : Jvm.MethodName)) ∈ kBw := kb_in (kt2 (List.mem_of_getElem? (i := 6) rfl)) rfl
set_option maxRecDepth 100000 in
theorem mw_247 : (Jvm.Cond.code ({ cls := "MappedProcessor$Memory", name := "keep", desc := "(II)V" } : Jvm.MethodName) prog_10_method_3_code (3 : Nat) (Option.none : Option Jvm.ClassFile.FieldType)) ∈ kBw := kb_in (kt2 (List.mem_of_getElem? (i := 7) rfl)) rfl
set_option maxRecDepth 100000 in
theorem mw_248 : (Jvm.Cond.constant "MappedProcessor$Memory" (15 : Nat) (65535 : Int32)) ∈ kBw := kb_in (kt2 (List.mem_of_getElem? (i := 8) rfl)) rfl
set_option maxRecDepth 100000 in
theorem mw_250 : (Jvm.Cond.instanceMethod ({ cls := "MappedProcessor", name := "word", desc := "(I)I" } : Jvm.MethodName)) ∈ kBw := kb_in (kt2 (List.mem_of_getElem? (i := 10) rfl)) rfl
set_option maxRecDepth 100000 in
theorem mw_251 : (Jvm.Cond.selects "MappedProcessor" ({ cls := "MappedProcessor", name := "word", desc := "(I)I" } : Jvm.MethodName) ({ cls := "MappedProcessor", name := "word", desc := "(I)I" } : Jvm.MethodName)) ∈ kBw := kb_in (kt2 (List.mem_of_getElem? (i := 11) rfl)) rfl
set_option maxRecDepth 100000 in
theorem mw_252 : (Jvm.Cond.code ({ cls := "MappedProcessor", name := "word", desc := "(I)I" } : Jvm.MethodName) prog_1_method_3_code (2 : Nat) (Option.some Jvm.ClassFile.FieldType.int)) ∈ kBw := kb_in (kt2 (List.mem_of_getElem? (i := 12) rfl)) rfl
set_option maxRecDepth 100000 in
theorem mw_253 : (Jvm.Cond.methodLink "MappedProcessor" (89 : Nat) ({ cls := "MappedProcessor$Memory", name := "at", desc := "(I)I" } : Jvm.MethodName)) ∈ kBw := kb_in (kt2 (List.mem_of_getElem? (i := 13) rfl)) rfl
set_option maxRecDepth 100000 in
theorem mw_254 : (Jvm.Cond.instanceMethod ({ cls := "MappedProcessor$Memory", name := "at", desc := "(I)I" } : Jvm.MethodName)) ∈ kBw := kb_in (kt2 (List.mem_of_getElem? (i := 14) rfl)) rfl
set_option maxRecDepth 100000 in
theorem mw_255 : (Jvm.Cond.selects "MappedProcessor$Memory" ({ cls := "MappedProcessor$Memory", name := "at", desc := "(I)I" } : Jvm.MethodName) ({ cls := "MappedProcessor$Memory", name := "at", desc := "(I)I" } : Jvm.MethodName)) ∈ kBw := kb_in (kt2 (List.mem_of_getElem? (i := 15) rfl)) rfl
set_option maxRecDepth 100000 in
theorem mw_256 : (Jvm.Cond.code ({ cls := "MappedProcessor$Memory", name := "at", desc := "(I)I" } : Jvm.MethodName) prog_10_method_2_code (2 : Nat) (Option.some Jvm.ClassFile.FieldType.int)) ∈ kBw := kb_in (kt2 (List.mem_of_getElem? (i := 16) rfl)) rfl
set_option maxRecDepth 100000 in
theorem mw_258 : (Jvm.Cond.instanceMethod ({ cls := "MappedProcessor", name := "put", desc := "(II)Z" } : Jvm.MethodName)) ∈ kBw := kb_in (kt2 (List.mem_of_getElem? (i := 18) rfl)) rfl
set_option maxRecDepth 100000 in
theorem mw_259 : (Jvm.Cond.selects "MappedProcessor" ({ cls := "MappedProcessor", name := "put", desc := "(II)Z" } : Jvm.MethodName) ({ cls := "MappedProcessor", name := "put", desc := "(II)Z" } : Jvm.MethodName)) ∈ kBw := kb_in (kt2 (List.mem_of_getElem? (i := 19) rfl)) rfl
set_option maxRecDepth 100000 in
theorem mw_260 : (Jvm.Cond.code ({ cls := "MappedProcessor", name := "put", desc := "(II)Z" } : Jvm.MethodName) prog_1_method_4_code (3 : Nat) (Option.some Jvm.ClassFile.FieldType.boolean)) ∈ kBw := kb_in (kt2 (List.mem_of_getElem? (i := 20) rfl)) rfl
set_option maxRecDepth 100000 in
theorem mw_261 : (Jvm.Cond.methodLink "MappedProcessor" (93 : Nat) ({ cls := "MappedProcessor$State", name := "keepRegister", desc := "(II)V" } : Jvm.MethodName)) ∈ kBw := kb_in (kt2 (List.mem_of_getElem? (i := 21) rfl)) rfl
set_option maxRecDepth 100000 in
theorem mw_262 : (Jvm.Cond.instanceMethod ({ cls := "MappedProcessor$State", name := "keepRegister", desc := "(II)V" } : Jvm.MethodName)) ∈ kBw := kb_in (kt2 (List.mem_of_getElem? (i := 22) rfl)) rfl
set_option maxRecDepth 100000 in
theorem mw_263 : (Jvm.Cond.selects "MappedProcessor$State" ({ cls := "MappedProcessor$State", name := "keepRegister", desc := "(II)V" } : Jvm.MethodName) ({ cls := "MappedProcessor$State", name := "keepRegister", desc := "(II)V" } : Jvm.MethodName)) ∈ kBw := kb_in (kt2 (List.mem_of_getElem? (i := 23) rfl)) rfl
set_option maxRecDepth 100000 in
theorem mw_264 : (Jvm.Cond.code ({ cls := "MappedProcessor$State", name := "keepRegister", desc := "(II)V" } : Jvm.MethodName) prog_11_method_3_code (3 : Nat) (Option.none : Option Jvm.ClassFile.FieldType)) ∈ kBw := kb_in (kt2 (List.mem_of_getElem? (i := 24) rfl)) rfl
set_option maxRecDepth 100000 in
theorem mw_266 : (Jvm.Cond.instanceMethod ({ cls := "MappedProcessor", name := "general", desc := "(I)I" } : Jvm.MethodName)) ∈ kBw := kb_in (kt2 (List.mem_of_getElem? (i := 26) rfl)) rfl
set_option maxRecDepth 100000 in
theorem mw_267 : (Jvm.Cond.selects "MappedProcessor" ({ cls := "MappedProcessor", name := "general", desc := "(I)I" } : Jvm.MethodName) ({ cls := "MappedProcessor", name := "general", desc := "(I)I" } : Jvm.MethodName)) ∈ kBw := kb_in (kt2 (List.mem_of_getElem? (i := 27) rfl)) rfl
set_option maxRecDepth 100000 in
theorem mw_268 : (Jvm.Cond.code ({ cls := "MappedProcessor", name := "general", desc := "(I)I" } : Jvm.MethodName) prog_1_method_5_code (2 : Nat) (Option.some Jvm.ClassFile.FieldType.int)) ∈ kBw := kb_in (kt2 (List.mem_of_getElem? (i := 28) rfl)) rfl
set_option maxRecDepth 100000 in
theorem mw_269 : (Jvm.Cond.methodLink "MappedProcessor" (96 : Nat) ({ cls := "MappedProcessor$State", name := "register", desc := "(I)I" } : Jvm.MethodName)) ∈ kBw := kb_in (kt2 (List.mem_of_getElem? (i := 29) rfl)) rfl
set_option maxRecDepth 100000 in
theorem mw_270 : (Jvm.Cond.instanceMethod ({ cls := "MappedProcessor$State", name := "register", desc := "(I)I" } : Jvm.MethodName)) ∈ kBw := kb_in (kt2 (List.mem_of_getElem? (i := 30) rfl)) rfl
set_option maxRecDepth 100000 in
theorem mw_271 : (Jvm.Cond.selects "MappedProcessor$State" ({ cls := "MappedProcessor$State", name := "register", desc := "(I)I" } : Jvm.MethodName) ({ cls := "MappedProcessor$State", name := "register", desc := "(I)I" } : Jvm.MethodName)) ∈ kBw := kb_in (kt2 (List.mem_of_getElem? (i := 31) rfl)) rfl
set_option maxRecDepth 100000 in
theorem mw_272 : (Jvm.Cond.code ({ cls := "MappedProcessor$State", name := "register", desc := "(I)I" } : Jvm.MethodName) prog_11_method_2_code (2 : Nat) (Option.some Jvm.ClassFile.FieldType.int)) ∈ kBw := kb_in (kt2 (List.mem_of_getElem? (i := 32) rfl)) rfl
set_option maxRecDepth 100000 in
theorem mw_274 : (Jvm.Cond.instanceMethod ({ cls := "MappedProcessor", name := "set", desc := "(II)Z" } : Jvm.MethodName)) ∈ kBw := kb_in (kt2 (List.mem_of_getElem? (i := 34) rfl)) rfl
set_option maxRecDepth 100000 in
theorem mw_275 : (Jvm.Cond.selects "MappedProcessor" ({ cls := "MappedProcessor", name := "set", desc := "(II)Z" } : Jvm.MethodName) ({ cls := "MappedProcessor", name := "set", desc := "(II)Z" } : Jvm.MethodName)) ∈ kBw := kb_in (kt2 (List.mem_of_getElem? (i := 35) rfl)) rfl
set_option maxRecDepth 100000 in
theorem mw_276 : (Jvm.Cond.code ({ cls := "MappedProcessor", name := "set", desc := "(II)Z" } : Jvm.MethodName) prog_1_method_6_code (3 : Nat) (Option.some Jvm.ClassFile.FieldType.boolean)) ∈ kBw := kb_in (kt2 (List.mem_of_getElem? (i := 36) rfl)) rfl
set_option maxRecDepth 100000 in
theorem mw_277 : (Jvm.Cond.methodLink "MappedProcessor" (99 : Nat) ({ cls := "MappedProcessor", name := "isSpecial", desc := "(I)Z" } : Jvm.MethodName)) ∈ kBw := kb_in (kt2 (List.mem_of_getElem? (i := 37) rfl)) rfl
set_option maxRecDepth 100000 in
theorem mw_278 : (Jvm.Cond.static ({ cls := "MappedProcessor", name := "isSpecial", desc := "(I)Z" } : Jvm.MethodName)) ∈ kBw := kb_in (kt2 (List.mem_of_getElem? (i := 38) rfl)) rfl
set_option maxRecDepth 100000 in
theorem mw_279 : (Jvm.Cond.code ({ cls := "MappedProcessor", name := "isSpecial", desc := "(I)Z" } : Jvm.MethodName) prog_1_method_12_code (1 : Nat) (Option.some Jvm.ClassFile.FieldType.boolean)) ∈ kBw := kb_in (kt2 (List.mem_of_getElem? (i := 39) rfl)) rfl
set_option maxRecDepth 100000 in
theorem mw_280 : (Jvm.Cond.methodLink "MappedProcessor" (103 : Nat) ({ cls := "MappedProcessor$State", name := "keep", desc := "(II)V" } : Jvm.MethodName)) ∈ kBw := kb_in (kt2 (List.mem_of_getElem? (i := 40) rfl)) rfl
set_option maxRecDepth 100000 in
theorem mw_281 : (Jvm.Cond.instanceMethod ({ cls := "MappedProcessor$State", name := "keep", desc := "(II)V" } : Jvm.MethodName)) ∈ kBw := kb_in (kt2 (List.mem_of_getElem? (i := 41) rfl)) rfl
set_option maxRecDepth 100000 in
theorem mw_282 : (Jvm.Cond.selects "MappedProcessor$State" ({ cls := "MappedProcessor$State", name := "keep", desc := "(II)V" } : Jvm.MethodName) ({ cls := "MappedProcessor$State", name := "keep", desc := "(II)V" } : Jvm.MethodName)) ∈ kBw := kb_in (kt2 (List.mem_of_getElem? (i := 42) rfl)) rfl
set_option maxRecDepth 100000 in
theorem mw_283 : (Jvm.Cond.code ({ cls := "MappedProcessor$State", name := "keep", desc := "(II)V" } : Jvm.MethodName) prog_11_method_6_code (3 : Nat) (Option.none : Option Jvm.ClassFile.FieldType)) ∈ kBw := kb_in (kt2 (List.mem_of_getElem? (i := 43) rfl)) rfl
set_option maxRecDepth 100000 in
theorem mw_285 : (Jvm.Cond.instanceMethod ({ cls := "MappedProcessor", name := "special", desc := "(I)I" } : Jvm.MethodName)) ∈ kBw := kb_in (kt2 (List.mem_of_getElem? (i := 45) rfl)) rfl
set_option maxRecDepth 100000 in
theorem mw_286 : (Jvm.Cond.selects "MappedProcessor" ({ cls := "MappedProcessor", name := "special", desc := "(I)I" } : Jvm.MethodName) ({ cls := "MappedProcessor", name := "special", desc := "(I)I" } : Jvm.MethodName)) ∈ kBw := kb_in (kt2 (List.mem_of_getElem? (i := 46) rfl)) rfl
set_option maxRecDepth 100000 in
theorem mw_287 : (Jvm.Cond.code ({ cls := "MappedProcessor", name := "special", desc := "(I)I" } : Jvm.MethodName) prog_1_method_7_code (2 : Nat) (Option.some Jvm.ClassFile.FieldType.int)) ∈ kBw := kb_in (kt2 (List.mem_of_getElem? (i := 47) rfl)) rfl
set_option maxRecDepth 100000 in
theorem mw_288 : (Jvm.Cond.methodLink "MappedProcessor" (104 : Nat) ({ cls := "MappedProcessor$State", name := "read", desc := "(I)I" } : Jvm.MethodName)) ∈ kBw := kb_in (kt2 (List.mem_of_getElem? (i := 48) rfl)) rfl
set_option maxRecDepth 100000 in
theorem mw_289 : (Jvm.Cond.instanceMethod ({ cls := "MappedProcessor$State", name := "read", desc := "(I)I" } : Jvm.MethodName)) ∈ kBw := kb_in (kt2 (List.mem_of_getElem? (i := 49) rfl)) rfl
set_option maxRecDepth 100000 in
theorem mw_290 : (Jvm.Cond.selects "MappedProcessor$State" ({ cls := "MappedProcessor$State", name := "read", desc := "(I)I" } : Jvm.MethodName) ({ cls := "MappedProcessor$State", name := "read", desc := "(I)I" } : Jvm.MethodName)) ∈ kBw := kb_in (kt2 (List.mem_of_getElem? (i := 50) rfl)) rfl
set_option maxRecDepth 100000 in
theorem mw_291 : (Jvm.Cond.code ({ cls := "MappedProcessor$State", name := "read", desc := "(I)I" } : Jvm.MethodName) prog_11_method_5_code (2 : Nat) (Option.some Jvm.ClassFile.FieldType.int)) ∈ kBw := kb_in (kt2 (List.mem_of_getElem? (i := 51) rfl)) rfl
set_option maxRecDepth 100000 in
theorem mw_293 : (Jvm.Cond.instanceMethod ({ cls := "MappedProcessor", name := "step", desc := "(I)I" } : Jvm.MethodName)) ∈ kBw := kb_in (kt2 (List.mem_of_getElem? (i := 53) rfl)) rfl
set_option maxRecDepth 100000 in
theorem mw_294 : (Jvm.Cond.selects "MappedProcessor" ({ cls := "MappedProcessor", name := "step", desc := "(I)I" } : Jvm.MethodName) ({ cls := "MappedProcessor", name := "step", desc := "(I)I" } : Jvm.MethodName)) ∈ kBw := kb_in (kt2 (List.mem_of_getElem? (i := 54) rfl)) rfl
set_option maxRecDepth 100000 in
theorem mw_295 : (Jvm.Cond.code ({ cls := "MappedProcessor", name := "step", desc := "(I)I" } : Jvm.MethodName) prog_1_method_8_code (4 : Nat) (Option.some Jvm.ClassFile.FieldType.int)) ∈ kBw := kb_in (kt2 (List.mem_of_getElem? (i := 55) rfl)) rfl
set_option maxRecDepth 100000 in
theorem mw_296 : (Jvm.Cond.methodLink "MappedProcessor" (107 : Nat) ({ cls := "MappedProcessor$State", name := "exceptions", desc := "()I" } : Jvm.MethodName)) ∈ kBw := kb_in (kt2 (List.mem_of_getElem? (i := 56) rfl)) rfl
set_option maxRecDepth 100000 in
theorem mw_297 : (Jvm.Cond.instanceMethod ({ cls := "MappedProcessor$State", name := "exceptions", desc := "()I" } : Jvm.MethodName)) ∈ kBw := kb_in (kt2 (List.mem_of_getElem? (i := 57) rfl)) rfl
set_option maxRecDepth 100000 in
theorem mw_298 : (Jvm.Cond.selects "MappedProcessor$State" ({ cls := "MappedProcessor$State", name := "exceptions", desc := "()I" } : Jvm.MethodName) ({ cls := "MappedProcessor$State", name := "exceptions", desc := "()I" } : Jvm.MethodName)) ∈ kBw := kb_in (kt2 (List.mem_of_getElem? (i := 58) rfl)) rfl
set_option maxRecDepth 100000 in
theorem mw_299 : (Jvm.Cond.code ({ cls := "MappedProcessor$State", name := "exceptions", desc := "()I" } : Jvm.MethodName) prog_11_method_10_code (1 : Nat) (Option.some Jvm.ClassFile.FieldType.int)) ∈ kBw := kb_in (kt2 (List.mem_of_getElem? (i := 59) rfl)) rfl
set_option maxRecDepth 100000 in
theorem mw_300 : (Jvm.Cond.methodLink "MappedProcessor" (111 : Nat) ({ cls := "MappedProcessor$State", name := "begin", desc := "()V" } : Jvm.MethodName)) ∈ kBw := kb_in (kt2 (List.mem_of_getElem? (i := 60) rfl)) rfl
set_option maxRecDepth 100000 in
theorem mw_301 : (Jvm.Cond.instanceMethod ({ cls := "MappedProcessor$State", name := "begin", desc := "()V" } : Jvm.MethodName)) ∈ kBw := kb_in (kt2 (List.mem_of_getElem? (i := 61) rfl)) rfl
set_option maxRecDepth 100000 in
theorem mw_302 : (Jvm.Cond.selects "MappedProcessor$State" ({ cls := "MappedProcessor$State", name := "begin", desc := "()V" } : Jvm.MethodName) ({ cls := "MappedProcessor$State", name := "begin", desc := "()V" } : Jvm.MethodName)) ∈ kBw := kb_in (kt2 (List.mem_of_getElem? (i := 62) rfl)) rfl
set_option maxRecDepth 100000 in
theorem mw_303 : (Jvm.Cond.code ({ cls := "MappedProcessor$State", name := "begin", desc := "()V" } : Jvm.MethodName) prog_11_method_11_code (1 : Nat) (Option.none : Option Jvm.ClassFile.FieldType)) ∈ kBw := kb_in (kt2 (List.mem_of_getElem? (i := 63) rfl)) rfl
set_option maxRecDepth 100000 in
theorem mw_304 : (Jvm.Cond.methodLink "MappedProcessor" (114 : Nat) ({ cls := "MappedProcessor", name := "fetches", desc := "()Z" } : Jvm.MethodName)) ∈ kBw := kb_in (kt2 (List.mem_of_getElem? (i := 64) rfl)) rfl
set_option maxRecDepth 100000 in
theorem mw_306 : (Jvm.Cond.instanceMethod ({ cls := "MappedProcessor", name := "fetches", desc := "()Z" } : Jvm.MethodName)) ∈ kBw := kb_in (kt2 (List.mem_of_getElem? (i := 66) rfl)) rfl
set_option maxRecDepth 100000 in
theorem mw_307 : (Jvm.Cond.code ({ cls := "MappedProcessor", name := "fetches", desc := "()Z" } : Jvm.MethodName) prog_1_method_14_code (2 : Nat) (Option.some Jvm.ClassFile.FieldType.boolean)) ∈ kBw := kb_in (kt2 (List.mem_of_getElem? (i := 67) rfl)) rfl
set_option maxRecDepth 100000 in
theorem mw_308 : (Jvm.Cond.methodLink "MappedProcessor" (128 : Nat) ({ cls := "MappedProcessor$Mapper", name := "locate", desc := "(II)I" } : Jvm.MethodName)) ∈ kBw := kb_in (kt2 (List.mem_of_getElem? (i := 68) rfl)) rfl
set_option maxRecDepth 100000 in
theorem mw_309 : (Jvm.Cond.instanceMethod ({ cls := "MappedProcessor$Mapper", name := "locate", desc := "(II)I" } : Jvm.MethodName)) ∈ kBw := kb_in (kt2 (List.mem_of_getElem? (i := 69) rfl)) rfl
set_option maxRecDepth 100000 in
theorem mw_310 : (Jvm.Cond.selects "MappedProcessor$Mapper" ({ cls := "MappedProcessor$Mapper", name := "locate", desc := "(II)I" } : Jvm.MethodName) ({ cls := "MappedProcessor$Mapper", name := "locate", desc := "(II)I" } : Jvm.MethodName)) ∈ kBw := kb_in (kt2 (List.mem_of_getElem? (i := 70) rfl)) rfl
set_option maxRecDepth 100000 in
theorem mw_311 : (Jvm.Cond.code ({ cls := "MappedProcessor$Mapper", name := "locate", desc := "(II)I" } : Jvm.MethodName) prog_9_method_2_code (6 : Nat) (Option.some Jvm.ClassFile.FieldType.int)) ∈ kBw := kb_in (kt2 (List.mem_of_getElem? (i := 71) rfl)) rfl
set_option maxRecDepth 100000 in
theorem mw_312 : (Jvm.Cond.methodLink "MappedProcessor$Mapper" (23 : Nat) ({ cls := "MappedProcessor$State", name := "has", desc := "(II)Z" } : Jvm.MethodName)) ∈ kBw := kb_in (kt2 (List.mem_of_getElem? (i := 72) rfl)) rfl
set_option maxRecDepth 100000 in
theorem mw_313 : (Jvm.Cond.instanceMethod ({ cls := "MappedProcessor$State", name := "has", desc := "(II)Z" } : Jvm.MethodName)) ∈ kBw := kb_in (kt2 (List.mem_of_getElem? (i := 73) rfl)) rfl
set_option maxRecDepth 100000 in
theorem mw_314 : (Jvm.Cond.selects "MappedProcessor$State" ({ cls := "MappedProcessor$State", name := "has", desc := "(II)Z" } : Jvm.MethodName) ({ cls := "MappedProcessor$State", name := "has", desc := "(II)Z" } : Jvm.MethodName)) ∈ kBw := kb_in (kt2 (List.mem_of_getElem? (i := 74) rfl)) rfl
set_option maxRecDepth 100000 in
theorem mw_315 : (Jvm.Cond.code ({ cls := "MappedProcessor$State", name := "has", desc := "(II)Z" } : Jvm.MethodName) prog_11_method_7_code (3 : Nat) (Option.some Jvm.ClassFile.FieldType.boolean)) ∈ kBw := kb_in (kt2 (List.mem_of_getElem? (i := 75) rfl)) rfl
set_option maxRecDepth 100000 in
theorem mw_316 : (Jvm.Cond.constant "MappedProcessor$Mapper" (29 : Nat) (65535 : Int32)) ∈ kBw := kb_in (kt2 (List.mem_of_getElem? (i := 76) rfl)) rfl
set_option maxRecDepth 100000 in
theorem mw_317 : (Jvm.Cond.methodLink "MappedProcessor$Mapper" (30 : Nat) ({ cls := "MappedProcessor$Mapper", name := "matchingBlock", desc := "(II)I" } : Jvm.MethodName)) ∈ kBw := kb_in (kt2 (List.mem_of_getElem? (i := 77) rfl)) rfl
set_option maxRecDepth 100000 in
theorem mw_319 : (Jvm.Cond.instanceMethod ({ cls := "MappedProcessor$Mapper", name := "matchingBlock", desc := "(II)I" } : Jvm.MethodName)) ∈ kBw := kb_in (kt2 (List.mem_of_getElem? (i := 79) rfl)) rfl
set_option maxRecDepth 100000 in
theorem mw_320 : (Jvm.Cond.code ({ cls := "MappedProcessor$Mapper", name := "matchingBlock", desc := "(II)I" } : Jvm.MethodName) prog_9_method_4_code (7 : Nat) (Option.some Jvm.ClassFile.FieldType.int)) ∈ kBw := kb_in (kt2 (List.mem_of_getElem? (i := 80) rfl)) rfl
set_option maxRecDepth 100000 in
theorem mw_321 : (Jvm.Cond.methodLink "MappedProcessor$Mapper" (38 : Nat) ({ cls := "MappedProcessor$State", name := "read", desc := "(I)I" } : Jvm.MethodName)) ∈ kBw := kb_in (kt2 (List.mem_of_getElem? (i := 81) rfl)) rfl
set_option maxRecDepth 100000 in
theorem mw_322 : (Jvm.Cond.methodLink "MappedProcessor$Mapper" (60 : Nat) ({ cls := "MappedProcessor$Mapper", name := "freeBits", desc := "(I)I" } : Jvm.MethodName)) ∈ kBw := kb_in (kt2 (List.mem_of_getElem? (i := 82) rfl)) rfl
set_option maxRecDepth 100000 in
theorem mw_323 : (Jvm.Cond.static ({ cls := "MappedProcessor$Mapper", name := "freeBits", desc := "(I)I" } : Jvm.MethodName)) ∈ kBw := kb_in (kt2 (List.mem_of_getElem? (i := 83) rfl)) rfl
set_option maxRecDepth 100000 in
theorem mw_324 : (Jvm.Cond.code ({ cls := "MappedProcessor$Mapper", name := "freeBits", desc := "(I)I" } : Jvm.MethodName) prog_9_method_5_code (1 : Nat) (Option.some Jvm.ClassFile.FieldType.int)) ∈ kBw := kb_in (kt2 (List.mem_of_getElem? (i := 84) rfl)) rfl
set_option maxRecDepth 100000 in
theorem mw_325 : (Jvm.Cond.methodLink "MappedProcessor$Mapper" (34 : Nat) ({ cls := "MappedProcessor$Mapper", name := "throughBlock", desc := "(III)I" } : Jvm.MethodName)) ∈ kBw := kb_in (kt2 (List.mem_of_getElem? (i := 85) rfl)) rfl
set_option maxRecDepth 100000 in
theorem mw_327 : (Jvm.Cond.instanceMethod ({ cls := "MappedProcessor$Mapper", name := "throughBlock", desc := "(III)I" } : Jvm.MethodName)) ∈ kBw := kb_in (kt2 (List.mem_of_getElem? (i := 87) rfl)) rfl
set_option maxRecDepth 100000 in
theorem mw_328 : (Jvm.Cond.code ({ cls := "MappedProcessor$Mapper", name := "throughBlock", desc := "(III)I" } : Jvm.MethodName) prog_9_method_6_code (7 : Nat) (Option.some Jvm.ClassFile.FieldType.int)) ∈ kBw := kb_in (kt2 (List.mem_of_getElem? (i := 88) rfl)) rfl
set_option maxRecDepth 100000 in
theorem mw_329 : (Jvm.Cond.constant "MappedProcessor$Mapper" (42 : Nat) (268435456 : Int32)) ∈ kBw := kb_in (kt2 (List.mem_of_getElem? (i := 89) rfl)) rfl
set_option maxRecDepth 100000 in
theorem mw_330 : (Jvm.Cond.constant "MappedProcessor$Mapper" (43 : Nat) (16777215 : Int32)) ∈ kBw := kb_in (kt2 (List.mem_of_getElem? (i := 90) rfl)) rfl
set_option maxRecDepth 100000 in
theorem mw_331 : (Jvm.Cond.methodLink "MappedProcessor$Mapper" (44 : Nat) ({ cls := "MappedProcessor$Mapper", name := "findEntry", desc := "(II)I" } : Jvm.MethodName)) ∈ kBw := kb_in (kt2 (List.mem_of_getElem? (i := 91) rfl)) rfl
set_option maxRecDepth 100000 in
theorem mw_333 : (Jvm.Cond.instanceMethod ({ cls := "MappedProcessor$Mapper", name := "findEntry", desc := "(II)I" } : Jvm.MethodName)) ∈ kBw := kb_in (kt2 (List.mem_of_getElem? (i := 93) rfl)) rfl
set_option maxRecDepth 100000 in
theorem mw_334 : (Jvm.Cond.code ({ cls := "MappedProcessor$Mapper", name := "findEntry", desc := "(II)I" } : Jvm.MethodName) prog_9_method_7_code (10 : Nat) (Option.some Jvm.ClassFile.FieldType.int)) ∈ kBw := kb_in (kt2 (List.mem_of_getElem? (i := 94) rfl)) rfl
set_option maxRecDepth 100000 in
theorem mw_335 : (Jvm.Cond.constant "MappedProcessor$Mapper" (63 : Nat) (524287 : Int32)) ∈ kBw := kb_in (kt2 (List.mem_of_getElem? (i := 95) rfl)) rfl
set_option maxRecDepth 100000 in
theorem mw_336 : (Jvm.Cond.constant "MappedProcessor$Mapper" (64 : Nat) (-2147483648 : Int32)) ∈ kBw := kb_in (kt2 (List.mem_of_getElem? (i := 96) rfl)) rfl
set_option maxRecDepth 100000 in
theorem mw_337 : (Jvm.Cond.constant "MappedProcessor$Mapper" (65 : Nat) (64512 : Int32)) ∈ kBw := kb_in (kt2 (List.mem_of_getElem? (i := 97) rfl)) rfl
set_option maxRecDepth 100000 in
theorem mw_338 : (Jvm.Cond.methodLink "MappedProcessor$Mapper" (51 : Nat) ({ cls := "MappedProcessor$Memory", name := "at", desc := "(I)I" } : Jvm.MethodName)) ∈ kBw := kb_in (kt2 (List.mem_of_getElem? (i := 98) rfl)) rfl
set_option maxRecDepth 100000 in
theorem mw_339 : (Jvm.Cond.methodLink "MappedProcessor$Mapper" (47 : Nat) ({ cls := "MappedProcessor$Mapper", name := "throughEntry", desc := "(IIII)I" } : Jvm.MethodName)) ∈ kBw := kb_in (kt2 (List.mem_of_getElem? (i := 99) rfl)) rfl
set_option maxRecDepth 100000 in
theorem mw_341 : (Jvm.Cond.instanceMethod ({ cls := "MappedProcessor$Mapper", name := "throughEntry", desc := "(IIII)I" } : Jvm.MethodName)) ∈ kBw := kb_in (kt2 (List.mem_of_getElem? (i := 101) rfl)) rfl
set_option maxRecDepth 100000 in
theorem mw_342 : (Jvm.Cond.code ({ cls := "MappedProcessor$Mapper", name := "throughEntry", desc := "(IIII)I" } : Jvm.MethodName) prog_9_method_8_code (7 : Nat) (Option.some Jvm.ClassFile.FieldType.int)) ∈ kBw := kb_in (kt2 (List.mem_of_getElem? (i := 102) rfl)) rfl
set_option maxRecDepth 100000 in
theorem mw_343 : (Jvm.Cond.constant "MappedProcessor$Mapper" (66 : Nat) (536870912 : Int32)) ∈ kBw := kb_in (kt2 (List.mem_of_getElem? (i := 103) rfl)) rfl
set_option maxRecDepth 100000 in
theorem mw_344 : (Jvm.Cond.constant "MappedProcessor$Mapper" (67 : Nat) (1073741824 : Int32)) ∈ kBw := kb_in (kt2 (List.mem_of_getElem? (i := 104) rfl)) rfl
set_option maxRecDepth 100000 in
theorem mw_345 : (Jvm.Cond.methodLink "MappedProcessor$Mapper" (68 : Nat) ({ cls := "MappedProcessor$Mapper", name := "refuses", desc := "(IIZ)Z" } : Jvm.MethodName)) ∈ kBw := kb_in (kt2 (List.mem_of_getElem? (i := 105) rfl)) rfl
set_option maxRecDepth 100000 in
theorem mw_346 : (Jvm.Cond.static ({ cls := "MappedProcessor$Mapper", name := "refuses", desc := "(IIZ)Z" } : Jvm.MethodName)) ∈ kBw := kb_in (kt2 (List.mem_of_getElem? (i := 106) rfl)) rfl
set_option maxRecDepth 100000 in
theorem mw_347 : (Jvm.Cond.code ({ cls := "MappedProcessor$Mapper", name := "refuses", desc := "(IIZ)Z" } : Jvm.MethodName) prog_9_method_9_code (3 : Nat) (Option.some Jvm.ClassFile.FieldType.boolean)) ∈ kBw := kb_in (kt2 (List.mem_of_getElem? (i := 107) rfl)) rfl
set_option maxRecDepth 100000 in
theorem mw_348 : (Jvm.Cond.methodLink "MappedProcessor" (141 : Nat) ({ cls := "MappedProcessor", name := "causeBit", desc := "(I)I" } : Jvm.MethodName)) ∈ kBw := kb_in (kt2 (List.mem_of_getElem? (i := 108) rfl)) rfl
set_option maxRecDepth 100000 in
theorem mw_349 : (Jvm.Cond.static ({ cls := "MappedProcessor", name := "causeBit", desc := "(I)I" } : Jvm.MethodName)) ∈ kBw := kb_in (kt2 (List.mem_of_getElem? (i := 109) rfl)) rfl
set_option maxRecDepth 100000 in
theorem mw_350 : (Jvm.Cond.code ({ cls := "MappedProcessor", name := "causeBit", desc := "(I)I" } : Jvm.MethodName) prog_1_method_13_code (1 : Nat) (Option.some Jvm.ClassFile.FieldType.int)) ∈ kBw := kb_in (kt2 (List.mem_of_getElem? (i := 110) rfl)) rfl
set_option maxRecDepth 100000 in
theorem mw_351 : (Jvm.Cond.constant "MappedProcessor" (138 : Nat) (1073741824 : Int32)) ∈ kBw := kb_in (kt2 (List.mem_of_getElem? (i := 111) rfl)) rfl
set_option maxRecDepth 100000 in
theorem mw_352 : (Jvm.Cond.constant "MappedProcessor" (139 : Nat) (134217728 : Int32)) ∈ kBw := kb_in (kt2 (List.mem_of_getElem? (i := 112) rfl)) rfl
set_option maxRecDepth 100000 in
theorem mw_353 : (Jvm.Cond.constant "MappedProcessor" (140 : Nat) (268435456 : Int32)) ∈ kBw := kb_in (kt2 (List.mem_of_getElem? (i := 113) rfl)) rfl
set_option maxRecDepth 100000 in
theorem mw_354 : (Jvm.Cond.methodLink "MappedProcessor" (122 : Nat) ({ cls := "MappedProcessor$State", name := "raise", desc := "(II)V" } : Jvm.MethodName)) ∈ kBw := kb_in (kt2 (List.mem_of_getElem? (i := 114) rfl)) rfl
set_option maxRecDepth 100000 in
theorem mw_355 : (Jvm.Cond.instanceMethod ({ cls := "MappedProcessor$State", name := "raise", desc := "(II)V" } : Jvm.MethodName)) ∈ kBw := kb_in (kt2 (List.mem_of_getElem? (i := 115) rfl)) rfl
set_option maxRecDepth 100000 in
theorem mw_356 : (Jvm.Cond.selects "MappedProcessor$State" ({ cls := "MappedProcessor$State", name := "raise", desc := "(II)V" } : Jvm.MethodName) ({ cls := "MappedProcessor$State", name := "raise", desc := "(II)V" } : Jvm.MethodName)) ∈ kBw := kb_in (kt2 (List.mem_of_getElem? (i := 116) rfl)) rfl
set_option maxRecDepth 100000 in
theorem mw_357 : (Jvm.Cond.code ({ cls := "MappedProcessor$State", name := "raise", desc := "(II)V" } : Jvm.MethodName) prog_11_method_14_code (3 : Nat) (Option.none : Option Jvm.ClassFile.FieldType)) ∈ kBw := kb_in (kt2 (List.mem_of_getElem? (i := 117) rfl)) rfl
set_option maxRecDepth 100000 in
theorem mw_358 : (Jvm.Cond.constant "MappedProcessor$State" (35 : Nat) (65535 : Int32)) ∈ kBw := kb_in (kt2 (List.mem_of_getElem? (i := 118) rfl)) rfl
set_option maxRecDepth 100000 in
theorem mw_359 : (Jvm.Cond.constant "MappedProcessor$State" (36 : Nat) (-49201 : Int32)) ∈ kBw := kb_in (kt2 (List.mem_of_getElem? (i := 119) rfl)) rfl
set_option maxRecDepth 100000 in
theorem mw_360 : (Jvm.Cond.methodLink "MappedProcessor" (144 : Nat) ({ cls := "MappedProcessor$Mapper", name := "mark", desc := "(I)V" } : Jvm.MethodName)) ∈ kBw := kb_in (kt2 (List.mem_of_getElem? (i := 120) rfl)) rfl
set_option maxRecDepth 100000 in
theorem mw_361 : (Jvm.Cond.instanceMethod ({ cls := "MappedProcessor$Mapper", name := "mark", desc := "(I)V" } : Jvm.MethodName)) ∈ kBw := kb_in (kt2 (List.mem_of_getElem? (i := 121) rfl)) rfl
set_option maxRecDepth 100000 in
theorem mw_362 : (Jvm.Cond.selects "MappedProcessor$Mapper" ({ cls := "MappedProcessor$Mapper", name := "mark", desc := "(I)V" } : Jvm.MethodName) ({ cls := "MappedProcessor$Mapper", name := "mark", desc := "(I)V" } : Jvm.MethodName)) ∈ kBw := kb_in (kt2 (List.mem_of_getElem? (i := 122) rfl)) rfl
set_option maxRecDepth 100000 in
theorem mw_363 : (Jvm.Cond.code ({ cls := "MappedProcessor$Mapper", name := "mark", desc := "(I)V" } : Jvm.MethodName) prog_9_method_3_code (3 : Nat) (Option.none : Option Jvm.ClassFile.FieldType)) ∈ kBw := kb_in (kt2 (List.mem_of_getElem? (i := 123) rfl)) rfl
set_option maxRecDepth 100000 in
theorem mw_364 : (Jvm.Cond.methodLink "MappedProcessor$Mapper" (56 : Nat) ({ cls := "MappedProcessor$Memory", name := "keep", desc := "(II)V" } : Jvm.MethodName)) ∈ kBw := kb_in (kt2 (List.mem_of_getElem? (i := 124) rfl)) rfl
set_option maxRecDepth 100000 in
theorem mw_365 : (Jvm.Cond.methodLink "MappedProcessor" (148 : Nat) ({ cls := "MappedProcessor$Instruction", name := "take", desc := "(I)V" } : Jvm.MethodName)) ∈ kBw := kb_in (kt2 (List.mem_of_getElem? (i := 125) rfl)) rfl
set_option maxRecDepth 100000 in
theorem mw_366 : (Jvm.Cond.instanceMethod ({ cls := "MappedProcessor$Instruction", name := "take", desc := "(I)V" } : Jvm.MethodName)) ∈ kBw := kb_in (kt2 (List.mem_of_getElem? (i := 126) rfl)) rfl
set_option maxRecDepth 100000 in
theorem mw_367 : (Jvm.Cond.selects "MappedProcessor$Instruction" ({ cls := "MappedProcessor$Instruction", name := "take", desc := "(I)V" } : Jvm.MethodName) ({ cls := "MappedProcessor$Instruction", name := "take", desc := "(I)V" } : Jvm.MethodName)) ∈ kBw := kb_in (kt2 (List.mem_of_getElem? (i := 127) rfl)) rfl
set_option maxRecDepth 100000 in
theorem mw_368 : (Jvm.Cond.code ({ cls := "MappedProcessor$Instruction", name := "take", desc := "(I)V" } : Jvm.MethodName) prog_7_method_2_code (2 : Nat) (Option.none : Option Jvm.ClassFile.FieldType)) ∈ kBw := kb_in (kt2 (List.mem_of_getElem? (i := 128) rfl)) rfl
set_option maxRecDepth 100000 in
theorem mw_369 : (Jvm.Cond.constant "MappedProcessor$Instruction" (33 : Nat) (65535 : Int32)) ∈ kBw := kb_in (kt2 (List.mem_of_getElem? (i := 129) rfl)) rfl
set_option maxRecDepth 100000 in
theorem mw_370 : (Jvm.Cond.methodLink "MappedProcessor" (118 : Nat) ({ cls := "MappedProcessor", name := "performs", desc := "()Z" } : Jvm.MethodName)) ∈ kBw := kb_in (kt2 (List.mem_of_getElem? (i := 130) rfl)) rfl
set_option maxRecDepth 100000 in
theorem mw_372 : (Jvm.Cond.instanceMethod ({ cls := "MappedProcessor", name := "performs", desc := "()Z" } : Jvm.MethodName)) ∈ kBw := kb_in (kt2 (List.mem_of_getElem? (i := 132) rfl)) rfl
set_option maxRecDepth 100000 in
theorem mw_373 : (Jvm.Cond.code ({ cls := "MappedProcessor", name := "performs", desc := "()Z" } : Jvm.MethodName) prog_1_method_15_code (2 : Nat) (Option.some Jvm.ClassFile.FieldType.boolean)) ∈ kBw := kb_in (kt2 (List.mem_of_getElem? (i := 133) rfl)) rfl
set_option maxRecDepth 100000 in
theorem mw_374 : (Jvm.Cond.methodLink "MappedProcessor" (155 : Nat) ({ cls := "MappedProcessor$Comparisons", name := "runsImmediate", desc := "(LMappedProcessor$Instruction;)Z" } : Jvm.MethodName)) ∈ kBw := kb_in (kt2 (List.mem_of_getElem? (i := 134) rfl)) rfl
set_option maxRecDepth 100000 in
theorem mw_375 : (Jvm.Cond.instanceMethod ({ cls := "MappedProcessor$Comparisons", name := "runsImmediate", desc := "(LMappedProcessor$Instruction;)Z" } : Jvm.MethodName)) ∈ kBw := kb_in (kt2 (List.mem_of_getElem? (i := 135) rfl)) rfl
set_option maxRecDepth 100000 in
theorem mw_376 : (Jvm.Cond.selects "MappedProcessor$Comparisons" ({ cls := "MappedProcessor$Comparisons", name := "runsImmediate", desc := "(LMappedProcessor$Instruction;)Z" } : Jvm.MethodName) ({ cls := "MappedProcessor$Comparisons", name := "runsImmediate", desc := "(LMappedProcessor$Instruction;)Z" } : Jvm.MethodName)) ∈ kBw := kb_in (kt2 (List.mem_of_getElem? (i := 136) rfl)) rfl
set_option maxRecDepth 100000 in
theorem mw_377 : (Jvm.Cond.code ({ cls := "MappedProcessor$Comparisons", name := "runsImmediate", desc := "(LMappedProcessor$Instruction;)Z" } : Jvm.MethodName) prog_5_method_2_code (3 : Nat) (Option.some Jvm.ClassFile.FieldType.boolean)) ∈ kBw := kb_in (kt2 (List.mem_of_getElem? (i := 137) rfl)) rfl
set_option maxRecDepth 100000 in
theorem mw_378 : (Jvm.Cond.methodLink "MappedProcessor$Comparisons" (21 : Nat) ({ cls := "MappedProcessor$State", name := "register", desc := "(I)I" } : Jvm.MethodName)) ∈ kBw := kb_in (kt2 (List.mem_of_getElem? (i := 138) rfl)) rfl
set_option maxRecDepth 100000 in
theorem mw_379 : (Jvm.Cond.methodLink "MappedProcessor$Comparisons" (36 : Nat) ({ cls := "MappedProcessor$Comparisons", name := "trap", desc := "(III)V" } : Jvm.MethodName)) ∈ kBw := kb_in (kt2 (List.mem_of_getElem? (i := 139) rfl)) rfl
set_option maxRecDepth 100000 in
theorem mw_381 : (Jvm.Cond.instanceMethod ({ cls := "MappedProcessor$Comparisons", name := "trap", desc := "(III)V" } : Jvm.MethodName)) ∈ kBw := kb_in (kt2 (List.mem_of_getElem? (i := 141) rfl)) rfl
set_option maxRecDepth 100000 in
theorem mw_382 : (Jvm.Cond.code ({ cls := "MappedProcessor$Comparisons", name := "trap", desc := "(III)V" } : Jvm.MethodName) prog_5_method_4_code (7 : Nat) (Option.none : Option Jvm.ClassFile.FieldType)) ∈ kBw := kb_in (kt2 (List.mem_of_getElem? (i := 142) rfl)) rfl
set_option maxRecDepth 100000 in
theorem mw_383 : (Jvm.Cond.methodLink "MappedProcessor$Comparisons" (53 : Nat) ({ cls := "java/lang/Integer", name := "compare", desc := "(II)I" } : Jvm.MethodName)) ∈ kBw := kb_in (kt2 (List.mem_of_getElem? (i := 143) rfl)) rfl
set_option maxRecDepth 100000 in
theorem mw_384 : (Jvm.Cond.static ({ cls := "java/lang/Integer", name := "compare", desc := "(II)I" } : Jvm.MethodName)) ∈ kBw := kb_in (kt2 (List.mem_of_getElem? (i := 144) rfl)) rfl
set_option maxRecDepth 100000 in
theorem mw_385 : (Jvm.Cond.code ({ cls := "java/lang/Integer", name := "compare", desc := "(II)I" } : Jvm.MethodName) prog_14_method_40_code (2 : Nat) (Option.some Jvm.ClassFile.FieldType.int)) ∈ kBw := kb_in (kt2 (List.mem_of_getElem? (i := 145) rfl)) rfl
set_option maxRecDepth 100000 in
theorem mw_386 : (Jvm.Cond.methodLink "MappedProcessor$Comparisons" (43 : Nat) ({ cls := "java/lang/Integer", name := "compareUnsigned", desc := "(II)I" } : Jvm.MethodName)) ∈ kBw := kb_in (kt2 (List.mem_of_getElem? (i := 146) rfl)) rfl
set_option maxRecDepth 100000 in
theorem mw_387 : (Jvm.Cond.static ({ cls := "java/lang/Integer", name := "compareUnsigned", desc := "(II)I" } : Jvm.MethodName)) ∈ kBw := kb_in (kt2 (List.mem_of_getElem? (i := 147) rfl)) rfl
set_option maxRecDepth 100000 in
theorem mw_388 : (Jvm.Cond.code ({ cls := "java/lang/Integer", name := "compareUnsigned", desc := "(II)I" } : Jvm.MethodName) prog_14_method_41_code (2 : Nat) (Option.some Jvm.ClassFile.FieldType.int)) ∈ kBw := kb_in (kt2 (List.mem_of_getElem? (i := 148) rfl)) rfl
set_option maxRecDepth 100000 in
theorem mw_389 : (Jvm.Cond.constant "java/lang/Integer" (127 : Nat) (-2147483648 : Int32)) ∈ kBw := kb_in (kt2 (List.mem_of_getElem? (i := 149) rfl)) rfl
set_option maxRecDepth 100000 in
theorem mw_390 : (Jvm.Cond.methodLink "java/lang/Integer" (259 : Nat) ({ cls := "java/lang/Integer", name := "compare", desc := "(II)I" } : Jvm.MethodName)) ∈ kBw := kb_in (kt2 (List.mem_of_getElem? (i := 150) rfl)) rfl
set_option maxRecDepth 100000 in
theorem mw_391 : (Jvm.Cond.constant "MappedProcessor$Comparisons" (62 : Nat) (131072 : Int32)) ∈ kBw := kb_in (kt2 (List.mem_of_getElem? (i := 151) rfl)) rfl
set_option maxRecDepth 100000 in
theorem mw_392 : (Jvm.Cond.methodLink "MappedProcessor$Comparisons" (63 : Nat) ({ cls := "MappedProcessor$State", name := "raise", desc := "(II)V" } : Jvm.MethodName)) ∈ kBw := kb_in (kt2 (List.mem_of_getElem? (i := 152) rfl)) rfl
set_option maxRecDepth 100000 in
theorem mw_393 : (Jvm.Cond.methodLink "MappedProcessor$Comparisons" (49 : Nat) ({ cls := "MappedProcessor$State", name := "keepOrder", desc := "(II)V" } : Jvm.MethodName)) ∈ kBw := kb_in (kt2 (List.mem_of_getElem? (i := 153) rfl)) rfl
set_option maxRecDepth 100000 in
theorem mw_394 : (Jvm.Cond.instanceMethod ({ cls := "MappedProcessor$State", name := "keepOrder", desc := "(II)V" } : Jvm.MethodName)) ∈ kBw := kb_in (kt2 (List.mem_of_getElem? (i := 154) rfl)) rfl
set_option maxRecDepth 100000 in
theorem mw_395 : (Jvm.Cond.selects "MappedProcessor$State" ({ cls := "MappedProcessor$State", name := "keepOrder", desc := "(II)V" } : Jvm.MethodName) ({ cls := "MappedProcessor$State", name := "keepOrder", desc := "(II)V" } : Jvm.MethodName)) ∈ kBw := kb_in (kt2 (List.mem_of_getElem? (i := 155) rfl)) rfl
set_option maxRecDepth 100000 in
theorem mw_396 : (Jvm.Cond.code ({ cls := "MappedProcessor$State", name := "keepOrder", desc := "(II)V" } : Jvm.MethodName) prog_11_method_18_code (9 : Nat) (Option.none : Option Jvm.ClassFile.FieldType)) ∈ kBw := kb_in (kt2 (List.mem_of_getElem? (i := 156) rfl)) rfl
set_option maxRecDepth 100000 in
theorem mw_397 : (Jvm.Cond.methodLink "MappedProcessor" (159 : Nat) ({ cls := "MappedProcessor$Arithmetic", name := "runsImmediate", desc := "(LMappedProcessor$Instruction;)Z" } : Jvm.MethodName)) ∈ kBw := kb_in (kt2 (List.mem_of_getElem? (i := 157) rfl)) rfl
set_option maxRecDepth 100000 in
theorem mw_398 : (Jvm.Cond.instanceMethod ({ cls := "MappedProcessor$Arithmetic", name := "runsImmediate", desc := "(LMappedProcessor$Instruction;)Z" } : Jvm.MethodName)) ∈ kBw := kb_in (kt2 (List.mem_of_getElem? (i := 158) rfl)) rfl
set_option maxRecDepth 100000 in
theorem mw_399 : (Jvm.Cond.selects "MappedProcessor$Arithmetic" ({ cls := "MappedProcessor$Arithmetic", name := "runsImmediate", desc := "(LMappedProcessor$Instruction;)Z" } : Jvm.MethodName) ({ cls := "MappedProcessor$Arithmetic", name := "runsImmediate", desc := "(LMappedProcessor$Instruction;)Z" } : Jvm.MethodName)) ∈ kBw := kb_in (kt2 (List.mem_of_getElem? (i := 159) rfl)) rfl
set_option maxRecDepth 100000 in
theorem mw_400 : (Jvm.Cond.code ({ cls := "MappedProcessor$Arithmetic", name := "runsImmediate", desc := "(LMappedProcessor$Instruction;)Z" } : Jvm.MethodName) prog_3_method_2_code (4 : Nat) (Option.some Jvm.ClassFile.FieldType.boolean)) ∈ kBw := kb_in (kt2 (List.mem_of_getElem? (i := 160) rfl)) rfl
set_option maxRecDepth 100000 in
theorem mw_401 : (Jvm.Cond.methodLink "MappedProcessor$Arithmetic" (19 : Nat) ({ cls := "MappedProcessor$State", name := "register", desc := "(I)I" } : Jvm.MethodName)) ∈ kBw := kb_in (kt2 (List.mem_of_getElem? (i := 161) rfl)) rfl
set_option maxRecDepth 100000 in
theorem mw_402 : (Jvm.Cond.methodLink "MappedProcessor$Arithmetic" (31 : Nat) ({ cls := "MappedProcessor$Arithmetic", name := "sumWithCarry", desc := "(III)I" } : Jvm.MethodName)) ∈ kBw := kb_in (kt2 (List.mem_of_getElem? (i := 162) rfl)) rfl
set_option maxRecDepth 100000 in
theorem mw_404 : (Jvm.Cond.instanceMethod ({ cls := "MappedProcessor$Arithmetic", name := "sumWithCarry", desc := "(III)I" } : Jvm.MethodName)) ∈ kBw := kb_in (kt2 (List.mem_of_getElem? (i := 164) rfl)) rfl
set_option maxRecDepth 100000 in
theorem mw_405 : (Jvm.Cond.code ({ cls := "MappedProcessor$Arithmetic", name := "sumWithCarry", desc := "(III)I" } : Jvm.MethodName) prog_3_method_5_code (6 : Nat) (Option.some Jvm.ClassFile.FieldType.int)) ∈ kBw := kb_in (kt2 (List.mem_of_getElem? (i := 165) rfl)) rfl
set_option maxRecDepth 100000 in
theorem mw_406 : (Jvm.Cond.constantLong "MappedProcessor$Arithmetic" (52 : Nat) (4294967295 : Int64)) ∈ kBw := kb_in (kt2 (List.mem_of_getElem? (i := 166) rfl)) rfl
set_option maxRecDepth 100000 in
theorem mw_407 : (Jvm.Cond.methodLink "MappedProcessor$Arithmetic" (67 : Nat) ({ cls := "MappedProcessor$State", name := "keepCarry", desc := "(Z)V" } : Jvm.MethodName)) ∈ kBw := kb_in (kt2 (List.mem_of_getElem? (i := 167) rfl)) rfl
set_option maxRecDepth 100000 in
theorem mw_408 : (Jvm.Cond.instanceMethod ({ cls := "MappedProcessor$State", name := "keepCarry", desc := "(Z)V" } : Jvm.MethodName)) ∈ kBw := kb_in (kt2 (List.mem_of_getElem? (i := 168) rfl)) rfl
set_option maxRecDepth 100000 in
theorem mw_409 : (Jvm.Cond.selects "MappedProcessor$State" ({ cls := "MappedProcessor$State", name := "keepCarry", desc := "(Z)V" } : Jvm.MethodName) ({ cls := "MappedProcessor$State", name := "keepCarry", desc := "(Z)V" } : Jvm.MethodName)) ∈ kBw := kb_in (kt2 (List.mem_of_getElem? (i := 169) rfl)) rfl
set_option maxRecDepth 100000 in
theorem mw_410 : (Jvm.Cond.code ({ cls := "MappedProcessor$State", name := "keepCarry", desc := "(Z)V" } : Jvm.MethodName) prog_11_method_17_code (2 : Nat) (Option.none : Option Jvm.ClassFile.FieldType)) ∈ kBw := kb_in (kt2 (List.mem_of_getElem? (i := 170) rfl)) rfl
set_option maxRecDepth 100000 in
theorem mw_411 : (Jvm.Cond.constant "MappedProcessor$State" (46 : Nat) (536870912 : Int32)) ∈ kBw := kb_in (kt2 (List.mem_of_getElem? (i := 171) rfl)) rfl
set_option maxRecDepth 100000 in
theorem mw_412 : (Jvm.Cond.constant "MappedProcessor$State" (47 : Nat) (-536870913 : Int32)) ∈ kBw := kb_in (kt2 (List.mem_of_getElem? (i := 172) rfl)) rfl
set_option maxRecDepth 100000 in
theorem mw_413 : (Jvm.Cond.methodLink "MappedProcessor$Arithmetic" (35 : Nat) ({ cls := "MappedProcessor$State", name := "registerOrZero", desc := "(I)I" } : Jvm.MethodName)) ∈ kBw := kb_in (kt2 (List.mem_of_getElem? (i := 173) rfl)) rfl
set_option maxRecDepth 100000 in
theorem mw_414 : (Jvm.Cond.instanceMethod ({ cls := "MappedProcessor$State", name := "registerOrZero", desc := "(I)I" } : Jvm.MethodName)) ∈ kBw := kb_in (kt2 (List.mem_of_getElem? (i := 174) rfl)) rfl
set_option maxRecDepth 100000 in
theorem mw_415 : (Jvm.Cond.selects "MappedProcessor$State" ({ cls := "MappedProcessor$State", name := "registerOrZero", desc := "(I)I" } : Jvm.MethodName) ({ cls := "MappedProcessor$State", name := "registerOrZero", desc := "(I)I" } : Jvm.MethodName)) ∈ kBw := kb_in (kt2 (List.mem_of_getElem? (i := 175) rfl)) rfl
set_option maxRecDepth 100000 in
theorem mw_416 : (Jvm.Cond.code ({ cls := "MappedProcessor$State", name := "registerOrZero", desc := "(I)I" } : Jvm.MethodName) prog_11_method_4_code (2 : Nat) (Option.some Jvm.ClassFile.FieldType.int)) ∈ kBw := kb_in (kt2 (List.mem_of_getElem? (i := 176) rfl)) rfl
set_option maxRecDepth 100000 in
theorem mw_417 : (Jvm.Cond.methodLink "MappedProcessor$State" (18 : Nat) ({ cls := "MappedProcessor$State", name := "register", desc := "(I)I" } : Jvm.MethodName)) ∈ kBw := kb_in (kt2 (List.mem_of_getElem? (i := 177) rfl)) rfl
set_option maxRecDepth 100000 in
theorem mw_418 : (Jvm.Cond.constant "MappedProcessor$Arithmetic" (38 : Nat) (65536 : Int32)) ∈ kBw := kb_in (kt2 (List.mem_of_getElem? (i := 178) rfl)) rfl
set_option maxRecDepth 100000 in
theorem mw_419 : (Jvm.Cond.methodLink "MappedProcessor$Arithmetic" (42 : Nat) ({ cls := "MappedProcessor$State", name := "keepResult", desc := "(IIZ)V" } : Jvm.MethodName)) ∈ kBw := kb_in (kt2 (List.mem_of_getElem? (i := 179) rfl)) rfl
set_option maxRecDepth 100000 in
theorem mw_420 : (Jvm.Cond.instanceMethod ({ cls := "MappedProcessor$State", name := "keepResult", desc := "(IIZ)V" } : Jvm.MethodName)) ∈ kBw := kb_in (kt2 (List.mem_of_getElem? (i := 180) rfl)) rfl
set_option maxRecDepth 100000 in
theorem mw_421 : (Jvm.Cond.selects "MappedProcessor$State" ({ cls := "MappedProcessor$State", name := "keepResult", desc := "(IIZ)V" } : Jvm.MethodName) ({ cls := "MappedProcessor$State", name := "keepResult", desc := "(IIZ)V" } : Jvm.MethodName)) ∈ kBw := kb_in (kt2 (List.mem_of_getElem? (i := 181) rfl)) rfl
set_option maxRecDepth 100000 in
theorem mw_422 : (Jvm.Cond.code ({ cls := "MappedProcessor$State", name := "keepResult", desc := "(IIZ)V" } : Jvm.MethodName) prog_11_method_19_code (4 : Nat) (Option.none : Option Jvm.ClassFile.FieldType)) ∈ kBw := kb_in (kt2 (List.mem_of_getElem? (i := 182) rfl)) rfl
set_option maxRecDepth 100000 in
theorem mw_423 : (Jvm.Cond.methodLink "MappedProcessor$State" (48 : Nat) ({ cls := "MappedProcessor$State", name := "keepOrder", desc := "(II)V" } : Jvm.MethodName)) ∈ kBw := kb_in (kt2 (List.mem_of_getElem? (i := 183) rfl)) rfl
set_option maxRecDepth 100000 in
theorem mw_424 : (Jvm.Cond.methodLink "MappedProcessor" (160 : Nat) ({ cls := "MappedProcessor$Branches", name := "runs", desc := "(LMappedProcessor$Instruction;)Z" } : Jvm.MethodName)) ∈ kBw := kb_in (kt2 (List.mem_of_getElem? (i := 184) rfl)) rfl
set_option maxRecDepth 100000 in
theorem mw_425 : (Jvm.Cond.instanceMethod ({ cls := "MappedProcessor$Branches", name := "runs", desc := "(LMappedProcessor$Instruction;)Z" } : Jvm.MethodName)) ∈ kBw := kb_in (kt2 (List.mem_of_getElem? (i := 185) rfl)) rfl
set_option maxRecDepth 100000 in
theorem mw_426 : (Jvm.Cond.selects "MappedProcessor$Branches" ({ cls := "MappedProcessor$Branches", name := "runs", desc := "(LMappedProcessor$Instruction;)Z" } : Jvm.MethodName) ({ cls := "MappedProcessor$Branches", name := "runs", desc := "(LMappedProcessor$Instruction;)Z" } : Jvm.MethodName)) ∈ kBw := kb_in (kt2 (List.mem_of_getElem? (i := 186) rfl)) rfl
set_option maxRecDepth 100000 in
theorem mw_427 : (Jvm.Cond.code ({ cls := "MappedProcessor$Branches", name := "runs", desc := "(LMappedProcessor$Instruction;)Z" } : Jvm.MethodName) prog_4_method_2_code (2 : Nat) (Option.some Jvm.ClassFile.FieldType.boolean)) ∈ kBw := kb_in (kt2 (List.mem_of_getElem? (i := 187) rfl)) rfl
set_option maxRecDepth 100000 in
theorem mw_428 : (Jvm.Cond.methodLink "MappedProcessor$Branches" (27 : Nat) ({ cls := "MappedProcessor$Branches", name := "taken", desc := "(II)Z" } : Jvm.MethodName)) ∈ kBw := kb_in (kt2 (List.mem_of_getElem? (i := 188) rfl)) rfl
set_option maxRecDepth 100000 in
theorem mw_430 : (Jvm.Cond.instanceMethod ({ cls := "MappedProcessor$Branches", name := "taken", desc := "(II)Z" } : Jvm.MethodName)) ∈ kBw := kb_in (kt2 (List.mem_of_getElem? (i := 190) rfl)) rfl
set_option maxRecDepth 100000 in
theorem mw_431 : (Jvm.Cond.code ({ cls := "MappedProcessor$Branches", name := "taken", desc := "(II)Z" } : Jvm.MethodName) prog_4_method_5_code (5 : Nat) (Option.some Jvm.ClassFile.FieldType.boolean)) ∈ kBw := kb_in (kt2 (List.mem_of_getElem? (i := 191) rfl)) rfl
set_option maxRecDepth 100000 in
theorem mw_432 : (Jvm.Cond.methodLink "MappedProcessor$Branches" (51 : Nat) ({ cls := "MappedProcessor$State", name := "read", desc := "(I)I" } : Jvm.MethodName)) ∈ kBw := kb_in (kt2 (List.mem_of_getElem? (i := 192) rfl)) rfl
set_option maxRecDepth 100000 in
theorem mw_433 : (Jvm.Cond.methodLink "MappedProcessor$Branches" (74 : Nat) ({ cls := "MappedProcessor$State", name := "keep", desc := "(II)V" } : Jvm.MethodName)) ∈ kBw := kb_in (kt2 (List.mem_of_getElem? (i := 193) rfl)) rfl
set_option maxRecDepth 100000 in
theorem mw_434 : (Jvm.Cond.methodLink "MappedProcessor$Branches" (60 : Nat) ({ cls := "MappedProcessor$State", name := "conditionBit", desc := "(I)I" } : Jvm.MethodName)) ∈ kBw := kb_in (kt2 (List.mem_of_getElem? (i := 194) rfl)) rfl
set_option maxRecDepth 100000 in
theorem mw_435 : (Jvm.Cond.instanceMethod ({ cls := "MappedProcessor$State", name := "conditionBit", desc := "(I)I" } : Jvm.MethodName)) ∈ kBw := kb_in (kt2 (List.mem_of_getElem? (i := 195) rfl)) rfl
set_option maxRecDepth 100000 in
theorem mw_436 : (Jvm.Cond.selects "MappedProcessor$State" ({ cls := "MappedProcessor$State", name := "conditionBit", desc := "(I)I" } : Jvm.MethodName) ({ cls := "MappedProcessor$State", name := "conditionBit", desc := "(I)I" } : Jvm.MethodName)) ∈ kBw := kb_in (kt2 (List.mem_of_getElem? (i := 196) rfl)) rfl
set_option maxRecDepth 100000 in
theorem mw_437 : (Jvm.Cond.code ({ cls := "MappedProcessor$State", name := "conditionBit", desc := "(I)I" } : Jvm.MethodName) prog_11_method_20_code (2 : Nat) (Option.some Jvm.ClassFile.FieldType.int)) ∈ kBw := kb_in (kt2 (List.mem_of_getElem? (i := 197) rfl)) rfl
set_option maxRecDepth 100000 in
theorem mw_438 : (Jvm.Cond.methodLink "MappedProcessor$Branches" (31 : Nat) ({ cls := "MappedProcessor$Branches", name := "origin", desc := "(LMappedProcessor$Instruction;)I" } : Jvm.MethodName)) ∈ kBw := kb_in (kt2 (List.mem_of_getElem? (i := 198) rfl)) rfl
set_option maxRecDepth 100000 in
theorem mw_440 : (Jvm.Cond.instanceMethod ({ cls := "MappedProcessor$Branches", name := "origin", desc := "(LMappedProcessor$Instruction;)I" } : Jvm.MethodName)) ∈ kBw := kb_in (kt2 (List.mem_of_getElem? (i := 200) rfl)) rfl
set_option maxRecDepth 100000 in
theorem mw_441 : (Jvm.Cond.code ({ cls := "MappedProcessor$Branches", name := "origin", desc := "(LMappedProcessor$Instruction;)I" } : Jvm.MethodName) prog_4_method_4_code (2 : Nat) (Option.some Jvm.ClassFile.FieldType.int)) ∈ kBw := kb_in (kt2 (List.mem_of_getElem? (i := 201) rfl)) rfl
set_option maxRecDepth 100000 in
theorem mw_442 : (Jvm.Cond.methodLink "MappedProcessor$Branches" (70 : Nat) ({ cls := "MappedProcessor$Instruction", name := "has", desc := "(I)Z" } : Jvm.MethodName)) ∈ kBw := kb_in (kt2 (List.mem_of_getElem? (i := 202) rfl)) rfl
set_option maxRecDepth 100000 in
theorem mw_443 : (Jvm.Cond.instanceMethod ({ cls := "MappedProcessor$Instruction", name := "has", desc := "(I)Z" } : Jvm.MethodName)) ∈ kBw := kb_in (kt2 (List.mem_of_getElem? (i := 203) rfl)) rfl
set_option maxRecDepth 100000 in
theorem mw_444 : (Jvm.Cond.selects "MappedProcessor$Instruction" ({ cls := "MappedProcessor$Instruction", name := "has", desc := "(I)Z" } : Jvm.MethodName) ({ cls := "MappedProcessor$Instruction", name := "has", desc := "(I)Z" } : Jvm.MethodName)) ∈ kBw := kb_in (kt2 (List.mem_of_getElem? (i := 204) rfl)) rfl
set_option maxRecDepth 100000 in
theorem mw_445 : (Jvm.Cond.code ({ cls := "MappedProcessor$Instruction", name := "has", desc := "(I)Z" } : Jvm.MethodName) prog_7_method_3_code (2 : Nat) (Option.some Jvm.ClassFile.FieldType.boolean)) ∈ kBw := kb_in (kt2 (List.mem_of_getElem? (i := 205) rfl)) rfl
set_option maxRecDepth 100000 in
theorem mw_446 : (Jvm.Cond.methodLink "MappedProcessor$Branches" (38 : Nat) ({ cls := "MappedProcessor$Branches", name := "branch", desc := "(LMappedProcessor$Instruction;ZI)V" } : Jvm.MethodName)) ∈ kBw := kb_in (kt2 (List.mem_of_getElem? (i := 206) rfl)) rfl
set_option maxRecDepth 100000 in
theorem mw_448 : (Jvm.Cond.instanceMethod ({ cls := "MappedProcessor$Branches", name := "branch", desc := "(LMappedProcessor$Instruction;ZI)V" } : Jvm.MethodName)) ∈ kBw := kb_in (kt2 (List.mem_of_getElem? (i := 208) rfl)) rfl
set_option maxRecDepth 100000 in
theorem mw_449 : (Jvm.Cond.code ({ cls := "MappedProcessor$Branches", name := "branch", desc := "(LMappedProcessor$Instruction;ZI)V" } : Jvm.MethodName) prog_4_method_6_code (4 : Nat) (Option.none : Option Jvm.ClassFile.FieldType)) ∈ kBw := kb_in (kt2 (List.mem_of_getElem? (i := 209) rfl)) rfl
set_option maxRecDepth 100000 in
theorem mw_450 : (Jvm.Cond.methodLink "MappedProcessor$Branches" (77 : Nat) ({ cls := "MappedProcessor$State", name := "goTo", desc := "(I)V" } : Jvm.MethodName)) ∈ kBw := kb_in (kt2 (List.mem_of_getElem? (i := 210) rfl)) rfl
set_option maxRecDepth 100000 in
theorem mw_451 : (Jvm.Cond.instanceMethod ({ cls := "MappedProcessor$State", name := "goTo", desc := "(I)V" } : Jvm.MethodName)) ∈ kBw := kb_in (kt2 (List.mem_of_getElem? (i := 211) rfl)) rfl
set_option maxRecDepth 100000 in
theorem mw_452 : (Jvm.Cond.selects "MappedProcessor$State" ({ cls := "MappedProcessor$State", name := "goTo", desc := "(I)V" } : Jvm.MethodName) ({ cls := "MappedProcessor$State", name := "goTo", desc := "(I)V" } : Jvm.MethodName)) ∈ kBw := kb_in (kt2 (List.mem_of_getElem? (i := 212) rfl)) rfl
set_option maxRecDepth 100000 in
theorem mw_453 : (Jvm.Cond.code ({ cls := "MappedProcessor$State", name := "goTo", desc := "(I)V" } : Jvm.MethodName) prog_11_method_13_code (2 : Nat) (Option.none : Option Jvm.ClassFile.FieldType)) ∈ kBw := kb_in (kt2 (List.mem_of_getElem? (i := 213) rfl)) rfl
set_option maxRecDepth 100000 in
theorem mw_454 : (Jvm.Cond.methodLink "MappedProcessor$Branches" (42 : Nat) ({ cls := "MappedProcessor$Branches", name := "callSystem", desc := "()V" } : Jvm.MethodName)) ∈ kBw := kb_in (kt2 (List.mem_of_getElem? (i := 214) rfl)) rfl
set_option maxRecDepth 100000 in
theorem mw_456 : (Jvm.Cond.instanceMethod ({ cls := "MappedProcessor$Branches", name := "callSystem", desc := "()V" } : Jvm.MethodName)) ∈ kBw := kb_in (kt2 (List.mem_of_getElem? (i := 216) rfl)) rfl
set_option maxRecDepth 100000 in
theorem mw_457 : (Jvm.Cond.code ({ cls := "MappedProcessor$Branches", name := "callSystem", desc := "()V" } : Jvm.MethodName) prog_4_method_7_code (1 : Nat) (Option.none : Option Jvm.ClassFile.FieldType)) ∈ kBw := kb_in (kt2 (List.mem_of_getElem? (i := 217) rfl)) rfl
set_option maxRecDepth 100000 in
theorem mw_458 : (Jvm.Cond.methodLink "MappedProcessor$Branches" (81 : Nat) ({ cls := "MappedProcessor$State", name := "raise", desc := "(II)V" } : Jvm.MethodName)) ∈ kBw := kb_in (kt2 (List.mem_of_getElem? (i := 218) rfl)) rfl
set_option maxRecDepth 100000 in
theorem mw_459 : (Jvm.Cond.methodLink "MappedProcessor" (163 : Nat) ({ cls := "MappedProcessor$Branches", name := "runsExtended", desc := "(LMappedProcessor$Instruction;)Z" } : Jvm.MethodName)) ∈ kBw := kb_in (kt2 (List.mem_of_getElem? (i := 219) rfl)) rfl
set_option maxRecDepth 100000 in
theorem mw_460 : (Jvm.Cond.instanceMethod ({ cls := "MappedProcessor$Branches", name := "runsExtended", desc := "(LMappedProcessor$Instruction;)Z" } : Jvm.MethodName)) ∈ kBw := kb_in (kt2 (List.mem_of_getElem? (i := 220) rfl)) rfl
set_option maxRecDepth 100000 in
theorem mw_461 : (Jvm.Cond.selects "MappedProcessor$Branches" ({ cls := "MappedProcessor$Branches", name := "runsExtended", desc := "(LMappedProcessor$Instruction;)Z" } : Jvm.MethodName) ({ cls := "MappedProcessor$Branches", name := "runsExtended", desc := "(LMappedProcessor$Instruction;)Z" } : Jvm.MethodName)) ∈ kBw := kb_in (kt2 (List.mem_of_getElem? (i := 221) rfl)) rfl
set_option maxRecDepth 100000 in
theorem mw_462 : (Jvm.Cond.code ({ cls := "MappedProcessor$Branches", name := "runsExtended", desc := "(LMappedProcessor$Instruction;)Z" } : Jvm.MethodName) prog_4_method_3_code (2 : Nat) (Option.some Jvm.ClassFile.FieldType.boolean)) ∈ kBw := kb_in (kt2 (List.mem_of_getElem? (i := 222) rfl)) rfl
set_option maxRecDepth 100000 in
theorem mw_463 : (Jvm.Cond.methodLink "MappedProcessor$Branches" (57 : Nat) ({ cls := "MappedProcessor$Branches", name := "returnFromException", desc := "()V" } : Jvm.MethodName)) ∈ kBw := kb_in (kt2 (List.mem_of_getElem? (i := 223) rfl)) rfl
set_option maxRecDepth 100000 in
theorem mw_465 : (Jvm.Cond.instanceMethod ({ cls := "MappedProcessor$Branches", name := "returnFromException", desc := "()V" } : Jvm.MethodName)) ∈ kBw := kb_in (kt2 (List.mem_of_getElem? (i := 225) rfl)) rfl
set_option maxRecDepth 100000 in
theorem mw_466 : (Jvm.Cond.code ({ cls := "MappedProcessor$Branches", name := "returnFromException", desc := "()V" } : Jvm.MethodName) prog_4_method_8_code (1 : Nat) (Option.none : Option Jvm.ClassFile.FieldType)) ∈ kBw := kb_in (kt2 (List.mem_of_getElem? (i := 226) rfl)) rfl
set_option maxRecDepth 100000 in
theorem mw_467 : (Jvm.Cond.methodLink "MappedProcessor$Branches" (84 : Nat) ({ cls := "MappedProcessor$State", name := "refusesPrivileged", desc := "()Z" } : Jvm.MethodName)) ∈ kBw := kb_in (kt2 (List.mem_of_getElem? (i := 227) rfl)) rfl
set_option maxRecDepth 100000 in
theorem mw_468 : (Jvm.Cond.instanceMethod ({ cls := "MappedProcessor$State", name := "refusesPrivileged", desc := "()Z" } : Jvm.MethodName)) ∈ kBw := kb_in (kt2 (List.mem_of_getElem? (i := 228) rfl)) rfl
set_option maxRecDepth 100000 in
theorem mw_469 : (Jvm.Cond.selects "MappedProcessor$State" ({ cls := "MappedProcessor$State", name := "refusesPrivileged", desc := "()Z" } : Jvm.MethodName) ({ cls := "MappedProcessor$State", name := "refusesPrivileged", desc := "()Z" } : Jvm.MethodName)) ∈ kBw := kb_in (kt2 (List.mem_of_getElem? (i := 229) rfl)) rfl
set_option maxRecDepth 100000 in
theorem mw_470 : (Jvm.Cond.code ({ cls := "MappedProcessor$State", name := "refusesPrivileged", desc := "()Z" } : Jvm.MethodName) prog_11_method_15_code (1 : Nat) (Option.some Jvm.ClassFile.FieldType.boolean)) ∈ kBw := kb_in (kt2 (List.mem_of_getElem? (i := 230) rfl)) rfl
set_option maxRecDepth 100000 in
theorem mw_471 : (Jvm.Cond.methodLink "MappedProcessor$State" (37 : Nat) ({ cls := "MappedProcessor$State", name := "has", desc := "(II)Z" } : Jvm.MethodName)) ∈ kBw := kb_in (kt2 (List.mem_of_getElem? (i := 231) rfl)) rfl
set_option maxRecDepth 100000 in
theorem mw_472 : (Jvm.Cond.constant "MappedProcessor$State" (41 : Nat) (262144 : Int32)) ∈ kBw := kb_in (kt2 (List.mem_of_getElem? (i := 232) rfl)) rfl
set_option maxRecDepth 100000 in
theorem mw_473 : (Jvm.Cond.methodLink "MappedProcessor$State" (42 : Nat) ({ cls := "MappedProcessor$State", name := "raise", desc := "(II)V" } : Jvm.MethodName)) ∈ kBw := kb_in (kt2 (List.mem_of_getElem? (i := 233) rfl)) rfl
set_option maxRecDepth 100000 in
theorem mw_474 : (Jvm.Cond.constant "MappedProcessor$Branches" (88 : Nat) (65535 : Int32)) ∈ kBw := kb_in (kt2 (List.mem_of_getElem? (i := 234) rfl)) rfl
set_option maxRecDepth 100000 in
theorem mw_475 : (Jvm.Cond.methodLink "MappedProcessor$Branches" (66 : Nat) ({ cls := "MappedProcessor$State", name := "keepConditionBit", desc := "(II)V" } : Jvm.MethodName)) ∈ kBw := kb_in (kt2 (List.mem_of_getElem? (i := 235) rfl)) rfl
set_option maxRecDepth 100000 in
theorem mw_476 : (Jvm.Cond.instanceMethod ({ cls := "MappedProcessor$State", name := "keepConditionBit", desc := "(II)V" } : Jvm.MethodName)) ∈ kBw := kb_in (kt2 (List.mem_of_getElem? (i := 236) rfl)) rfl
set_option maxRecDepth 100000 in
theorem mw_477 : (Jvm.Cond.selects "MappedProcessor$State" ({ cls := "MappedProcessor$State", name := "keepConditionBit", desc := "(II)V" } : Jvm.MethodName) ({ cls := "MappedProcessor$State", name := "keepConditionBit", desc := "(II)V" } : Jvm.MethodName)) ∈ kBw := kb_in (kt2 (List.mem_of_getElem? (i := 237) rfl)) rfl
set_option maxRecDepth 100000 in
theorem mw_478 : (Jvm.Cond.code ({ cls := "MappedProcessor$State", name := "keepConditionBit", desc := "(II)V" } : Jvm.MethodName) prog_11_method_21_code (4 : Nat) (Option.none : Option Jvm.ClassFile.FieldType)) ∈ kBw := kb_in (kt2 (List.mem_of_getElem? (i := 238) rfl)) rfl
set_option maxRecDepth 100000 in
theorem mw_479 : (Jvm.Cond.methodLink "MappedProcessor" (166 : Nat) ({ cls := "MappedProcessor$Logic", name := "runsRotation", desc := "(LMappedProcessor$Instruction;)Z" } : Jvm.MethodName)) ∈ kBw := kb_in (kt2 (List.mem_of_getElem? (i := 239) rfl)) rfl
set_option maxRecDepth 100000 in
theorem mw_480 : (Jvm.Cond.instanceMethod ({ cls := "MappedProcessor$Logic", name := "runsRotation", desc := "(LMappedProcessor$Instruction;)Z" } : Jvm.MethodName)) ∈ kBw := kb_in (kt3 (List.mem_of_getElem? (i := 0) rfl)) rfl
set_option maxRecDepth 100000 in
theorem mw_481 : (Jvm.Cond.selects "MappedProcessor$Logic" ({ cls := "MappedProcessor$Logic", name := "runsRotation", desc := "(LMappedProcessor$Instruction;)Z" } : Jvm.MethodName) ({ cls := "MappedProcessor$Logic", name := "runsRotation", desc := "(LMappedProcessor$Instruction;)Z" } : Jvm.MethodName)) ∈ kBw := kb_in (kt3 (List.mem_of_getElem? (i := 1) rfl)) rfl
set_option maxRecDepth 100000 in
theorem mw_482 : (Jvm.Cond.code ({ cls := "MappedProcessor$Logic", name := "runsRotation", desc := "(LMappedProcessor$Instruction;)Z" } : Jvm.MethodName) prog_8_method_3_code (6 : Nat) (Option.some Jvm.ClassFile.FieldType.boolean)) ∈ kBw := kb_in (kt3 (List.mem_of_getElem? (i := 2) rfl)) rfl
set_option maxRecDepth 100000 in
theorem mw_483 : (Jvm.Cond.methodLink "MappedProcessor$Logic" (19 : Nat) ({ cls := "MappedProcessor$State", name := "register", desc := "(I)I" } : Jvm.MethodName)) ∈ kBw := kb_in (kt3 (List.mem_of_getElem? (i := 3) rfl)) rfl
set_option maxRecDepth 100000 in
theorem mw_484 : (Jvm.Cond.methodLink "MappedProcessor$Logic" (41 : Nat) ({ cls := "java/lang/Integer", name := "rotateLeft", desc := "(II)I" } : Jvm.MethodName)) ∈ kBw := kb_in (kt3 (List.mem_of_getElem? (i := 4) rfl)) rfl
set_option maxRecDepth 100000 in
theorem mw_485 : (Jvm.Cond.static ({ cls := "java/lang/Integer", name := "rotateLeft", desc := "(II)I" } : Jvm.MethodName)) ∈ kBw := kb_in (kt3 (List.mem_of_getElem? (i := 5) rfl)) rfl
set_option maxRecDepth 100000 in
theorem mw_486 : (Jvm.Cond.code ({ cls := "java/lang/Integer", name := "rotateLeft", desc := "(II)I" } : Jvm.MethodName) prog_14_method_50_code (2 : Nat) (Option.some Jvm.ClassFile.FieldType.int)) ∈ kBw := kb_in (kt3 (List.mem_of_getElem? (i := 6) rfl)) rfl
set_option maxRecDepth 100000 in
theorem mw_487 : (Jvm.Cond.methodLink "MappedProcessor$Logic" (50 : Nat) ({ cls := "MappedProcessor$Logic", name := "mask", desc := "(II)I" } : Jvm.MethodName)) ∈ kBw := kb_in (kt3 (List.mem_of_getElem? (i := 7) rfl)) rfl
set_option maxRecDepth 100000 in
theorem mw_488 : (Jvm.Cond.static ({ cls := "MappedProcessor$Logic", name := "mask", desc := "(II)I" } : Jvm.MethodName)) ∈ kBw := kb_in (kt3 (List.mem_of_getElem? (i := 8) rfl)) rfl
set_option maxRecDepth 100000 in
theorem mw_489 : (Jvm.Cond.code ({ cls := "MappedProcessor$Logic", name := "mask", desc := "(II)I" } : Jvm.MethodName) prog_8_method_7_code (4 : Nat) (Option.some Jvm.ClassFile.FieldType.int)) ∈ kBw := kb_in (kt3 (List.mem_of_getElem? (i := 9) rfl)) rfl
set_option maxRecDepth 100000 in
theorem mw_490 : (Jvm.Cond.methodLink "MappedProcessor$Logic" (53 : Nat) ({ cls := "MappedProcessor$Instruction", name := "has", desc := "(I)Z" } : Jvm.MethodName)) ∈ kBw := kb_in (kt3 (List.mem_of_getElem? (i := 10) rfl)) rfl
set_option maxRecDepth 100000 in
theorem mw_491 : (Jvm.Cond.methodLink "MappedProcessor$Logic" (34 : Nat) ({ cls := "MappedProcessor$State", name := "keepResult", desc := "(IIZ)V" } : Jvm.MethodName)) ∈ kBw := kb_in (kt3 (List.mem_of_getElem? (i := 11) rfl)) rfl
set_option maxRecDepth 100000 in
theorem mw_492 : (Jvm.Cond.methodLink "MappedProcessor" (169 : Nat) ({ cls := "MappedProcessor$Logic", name := "runsImmediate", desc := "(LMappedProcessor$Instruction;)Z" } : Jvm.MethodName)) ∈ kBw := kb_in (kt3 (List.mem_of_getElem? (i := 12) rfl)) rfl
set_option maxRecDepth 100000 in
theorem mw_493 : (Jvm.Cond.instanceMethod ({ cls := "MappedProcessor$Logic", name := "runsImmediate", desc := "(LMappedProcessor$Instruction;)Z" } : Jvm.MethodName)) ∈ kBw := kb_in (kt3 (List.mem_of_getElem? (i := 13) rfl)) rfl
set_option maxRecDepth 100000 in
theorem mw_494 : (Jvm.Cond.selects "MappedProcessor$Logic" ({ cls := "MappedProcessor$Logic", name := "runsImmediate", desc := "(LMappedProcessor$Instruction;)Z" } : Jvm.MethodName) ({ cls := "MappedProcessor$Logic", name := "runsImmediate", desc := "(LMappedProcessor$Instruction;)Z" } : Jvm.MethodName)) ∈ kBw := kb_in (kt3 (List.mem_of_getElem? (i := 14) rfl)) rfl
set_option maxRecDepth 100000 in
theorem mw_495 : (Jvm.Cond.code ({ cls := "MappedProcessor$Logic", name := "runsImmediate", desc := "(LMappedProcessor$Instruction;)Z" } : Jvm.MethodName) prog_8_method_2_code (4 : Nat) (Option.some Jvm.ClassFile.FieldType.boolean)) ∈ kBw := kb_in (kt3 (List.mem_of_getElem? (i := 15) rfl)) rfl
set_option maxRecDepth 100000 in
theorem mw_496 : (Jvm.Cond.methodLink "MappedProcessor" (170 : Nat) ({ cls := "MappedProcessor$Comparisons", name := "runsExtended", desc := "(LMappedProcessor$Instruction;)Z" } : Jvm.MethodName)) ∈ kBw := kb_in (kt3 (List.mem_of_getElem? (i := 16) rfl)) rfl
set_option maxRecDepth 100000 in
theorem mw_497 : (Jvm.Cond.instanceMethod ({ cls := "MappedProcessor$Comparisons", name := "runsExtended", desc := "(LMappedProcessor$Instruction;)Z" } : Jvm.MethodName)) ∈ kBw := kb_in (kt3 (List.mem_of_getElem? (i := 17) rfl)) rfl
set_option maxRecDepth 100000 in
theorem mw_498 : (Jvm.Cond.selects "MappedProcessor$Comparisons" ({ cls := "MappedProcessor$Comparisons", name := "runsExtended", desc := "(LMappedProcessor$Instruction;)Z" } : Jvm.MethodName) ({ cls := "MappedProcessor$Comparisons", name := "runsExtended", desc := "(LMappedProcessor$Instruction;)Z" } : Jvm.MethodName)) ∈ kBw := kb_in (kt3 (List.mem_of_getElem? (i := 18) rfl)) rfl
set_option maxRecDepth 100000 in
theorem mw_499 : (Jvm.Cond.code ({ cls := "MappedProcessor$Comparisons", name := "runsExtended", desc := "(LMappedProcessor$Instruction;)Z" } : Jvm.MethodName) prog_5_method_3_code (4 : Nat) (Option.some Jvm.ClassFile.FieldType.boolean)) ∈ kBw := kb_in (kt3 (List.mem_of_getElem? (i := 19) rfl)) rfl
set_option maxRecDepth 100000 in
theorem mw_500 : (Jvm.Cond.methodLink "MappedProcessor" (171 : Nat) ({ cls := "MappedProcessor$Arithmetic", name := "runsExtended", desc := "(LMappedProcessor$Instruction;)Z" } : Jvm.MethodName)) ∈ kBw := kb_in (kt3 (List.mem_of_getElem? (i := 20) rfl)) rfl
set_option maxRecDepth 100000 in
theorem mw_501 : (Jvm.Cond.instanceMethod ({ cls := "MappedProcessor$Arithmetic", name := "runsExtended", desc := "(LMappedProcessor$Instruction;)Z" } : Jvm.MethodName)) ∈ kBw := kb_in (kt3 (List.mem_of_getElem? (i := 21) rfl)) rfl
set_option maxRecDepth 100000 in
theorem mw_502 : (Jvm.Cond.selects "MappedProcessor$Arithmetic" ({ cls := "MappedProcessor$Arithmetic", name := "runsExtended", desc := "(LMappedProcessor$Instruction;)Z" } : Jvm.MethodName) ({ cls := "MappedProcessor$Arithmetic", name := "runsExtended", desc := "(LMappedProcessor$Instruction;)Z" } : Jvm.MethodName)) ∈ kBw := kb_in (kt3 (List.mem_of_getElem? (i := 22) rfl)) rfl
set_option maxRecDepth 100000 in
theorem mw_503 : (Jvm.Cond.code ({ cls := "MappedProcessor$Arithmetic", name := "runsExtended", desc := "(LMappedProcessor$Instruction;)Z" } : Jvm.MethodName) prog_3_method_3_code (5 : Nat) (Option.some Jvm.ClassFile.FieldType.boolean)) ∈ kBw := kb_in (kt3 (List.mem_of_getElem? (i := 23) rfl)) rfl
set_option maxRecDepth 100000 in
theorem mw_504 : (Jvm.Cond.methodLink "MappedProcessor$Arithmetic" (54 : Nat) ({ cls := "MappedProcessor$State", name := "carry", desc := "()I" } : Jvm.MethodName)) ∈ kBw := kb_in (kt3 (List.mem_of_getElem? (i := 24) rfl)) rfl
set_option maxRecDepth 100000 in
theorem mw_505 : (Jvm.Cond.instanceMethod ({ cls := "MappedProcessor$State", name := "carry", desc := "()I" } : Jvm.MethodName)) ∈ kBw := kb_in (kt3 (List.mem_of_getElem? (i := 25) rfl)) rfl
set_option maxRecDepth 100000 in
theorem mw_506 : (Jvm.Cond.selects "MappedProcessor$State" ({ cls := "MappedProcessor$State", name := "carry", desc := "()I" } : Jvm.MethodName) ({ cls := "MappedProcessor$State", name := "carry", desc := "()I" } : Jvm.MethodName)) ∈ kBw := kb_in (kt3 (List.mem_of_getElem? (i := 26) rfl)) rfl
set_option maxRecDepth 100000 in
theorem mw_507 : (Jvm.Cond.code ({ cls := "MappedProcessor$State", name := "carry", desc := "()I" } : Jvm.MethodName) prog_11_method_16_code (1 : Nat) (Option.some Jvm.ClassFile.FieldType.int)) ∈ kBw := kb_in (kt3 (List.mem_of_getElem? (i := 27) rfl)) rfl
set_option maxRecDepth 100000 in
theorem mw_508 : (Jvm.Cond.methodLink "MappedProcessor$Arithmetic" (58 : Nat) ({ cls := "MappedProcessor$Arithmetic", name := "quotient", desc := "(II)I" } : Jvm.MethodName)) ∈ kBw := kb_in (kt3 (List.mem_of_getElem? (i := 28) rfl)) rfl
set_option maxRecDepth 100000 in
theorem mw_509 : (Jvm.Cond.static ({ cls := "MappedProcessor$Arithmetic", name := "quotient", desc := "(II)I" } : Jvm.MethodName)) ∈ kBw := kb_in (kt3 (List.mem_of_getElem? (i := 29) rfl)) rfl
set_option maxRecDepth 100000 in
theorem mw_510 : (Jvm.Cond.code ({ cls := "MappedProcessor$Arithmetic", name := "quotient", desc := "(II)I" } : Jvm.MethodName) prog_3_method_4_code (2 : Nat) (Option.some Jvm.ClassFile.FieldType.int)) ∈ kBw := kb_in (kt3 (List.mem_of_getElem? (i := 30) rfl)) rfl
set_option maxRecDepth 100000 in
theorem mw_511 : (Jvm.Cond.constant "MappedProcessor$Arithmetic" (66 : Nat) (-2147483648 : Int32)) ∈ kBw := kb_in (kt3 (List.mem_of_getElem? (i := 31) rfl)) rfl
set_option maxRecDepth 100000 in
theorem mw_512 : (Jvm.Cond.methodLink "MappedProcessor$Arithmetic" (62 : Nat) ({ cls := "MappedProcessor$Instruction", name := "has", desc := "(I)Z" } : Jvm.MethodName)) ∈ kBw := kb_in (kt3 (List.mem_of_getElem? (i := 32) rfl)) rfl
set_option maxRecDepth 100000 in
theorem mw_513 : (Jvm.Cond.methodLink "MappedProcessor" (172 : Nat) ({ cls := "MappedProcessor$Logic", name := "runsExtended", desc := "(LMappedProcessor$Instruction;)Z" } : Jvm.MethodName)) ∈ kBw := kb_in (kt3 (List.mem_of_getElem? (i := 33) rfl)) rfl
set_option maxRecDepth 100000 in
theorem mw_514 : (Jvm.Cond.instanceMethod ({ cls := "MappedProcessor$Logic", name := "runsExtended", desc := "(LMappedProcessor$Instruction;)Z" } : Jvm.MethodName)) ∈ kBw := kb_in (kt3 (List.mem_of_getElem? (i := 34) rfl)) rfl
set_option maxRecDepth 100000 in
theorem mw_515 : (Jvm.Cond.selects "MappedProcessor$Logic" ({ cls := "MappedProcessor$Logic", name := "runsExtended", desc := "(LMappedProcessor$Instruction;)Z" } : Jvm.MethodName) ({ cls := "MappedProcessor$Logic", name := "runsExtended", desc := "(LMappedProcessor$Instruction;)Z" } : Jvm.MethodName)) ∈ kBw := kb_in (kt3 (List.mem_of_getElem? (i := 35) rfl)) rfl
set_option maxRecDepth 100000 in
theorem mw_516 : (Jvm.Cond.code ({ cls := "MappedProcessor$Logic", name := "runsExtended", desc := "(LMappedProcessor$Instruction;)Z" } : Jvm.MethodName) prog_8_method_4_code (5 : Nat) (Option.some Jvm.ClassFile.FieldType.boolean)) ∈ kBw := kb_in (kt3 (List.mem_of_getElem? (i := 36) rfl)) rfl
set_option maxRecDepth 100000 in
theorem mw_517 : (Jvm.Cond.methodLink "MappedProcessor$Logic" (60 : Nat) ({ cls := "java/lang/Integer", name := "numberOfLeadingZeros", desc := "(I)I" } : Jvm.MethodName)) ∈ kBw := kb_in (kt3 (List.mem_of_getElem? (i := 37) rfl)) rfl
set_option maxRecDepth 100000 in
theorem mw_518 : (Jvm.Cond.static ({ cls := "java/lang/Integer", name := "numberOfLeadingZeros", desc := "(I)I" } : Jvm.MethodName)) ∈ kBw := kb_in (kt3 (List.mem_of_getElem? (i := 38) rfl)) rfl
set_option maxRecDepth 100000 in
theorem mw_519 : (Jvm.Cond.code ({ cls := "java/lang/Integer", name := "numberOfLeadingZeros", desc := "(I)I" } : Jvm.MethodName) prog_14_method_47_code (2 : Nat) (Option.some Jvm.ClassFile.FieldType.int)) ∈ kBw := kb_in (kt3 (List.mem_of_getElem? (i := 39) rfl)) rfl
set_option maxRecDepth 100000 in
theorem mw_520 : (Jvm.Cond.constant "java/lang/Integer" (264 : Nat) (65536 : Int32)) ∈ kBw := kb_in (kt3 (List.mem_of_getElem? (i := 40) rfl)) rfl
set_option maxRecDepth 100000 in
theorem mw_521 : (Jvm.Cond.methodLink "MappedProcessor" (173 : Nat) ({ cls := "MappedProcessor$Logic", name := "runsShift", desc := "(LMappedProcessor$Instruction;)Z" } : Jvm.MethodName)) ∈ kBw := kb_in (kt3 (List.mem_of_getElem? (i := 41) rfl)) rfl
set_option maxRecDepth 100000 in
theorem mw_522 : (Jvm.Cond.instanceMethod ({ cls := "MappedProcessor$Logic", name := "runsShift", desc := "(LMappedProcessor$Instruction;)Z" } : Jvm.MethodName)) ∈ kBw := kb_in (kt3 (List.mem_of_getElem? (i := 42) rfl)) rfl
set_option maxRecDepth 100000 in
theorem mw_523 : (Jvm.Cond.selects "MappedProcessor$Logic" ({ cls := "MappedProcessor$Logic", name := "runsShift", desc := "(LMappedProcessor$Instruction;)Z" } : Jvm.MethodName) ({ cls := "MappedProcessor$Logic", name := "runsShift", desc := "(LMappedProcessor$Instruction;)Z" } : Jvm.MethodName)) ∈ kBw := kb_in (kt3 (List.mem_of_getElem? (i := 43) rfl)) rfl
set_option maxRecDepth 100000 in
theorem mw_524 : (Jvm.Cond.code ({ cls := "MappedProcessor$Logic", name := "runsShift", desc := "(LMappedProcessor$Instruction;)Z" } : Jvm.MethodName) prog_8_method_5_code (5 : Nat) (Option.some Jvm.ClassFile.FieldType.boolean)) ∈ kBw := kb_in (kt3 (List.mem_of_getElem? (i := 44) rfl)) rfl
set_option maxRecDepth 100000 in
theorem mw_525 : (Jvm.Cond.methodLink "MappedProcessor$Logic" (63 : Nat) ({ cls := "MappedProcessor$Logic", name := "signedShift", desc := "(II)I" } : Jvm.MethodName)) ∈ kBw := kb_in (kt3 (List.mem_of_getElem? (i := 45) rfl)) rfl
set_option maxRecDepth 100000 in
theorem mw_527 : (Jvm.Cond.instanceMethod ({ cls := "MappedProcessor$Logic", name := "signedShift", desc := "(II)I" } : Jvm.MethodName)) ∈ kBw := kb_in (kt3 (List.mem_of_getElem? (i := 47) rfl)) rfl
set_option maxRecDepth 100000 in
theorem mw_528 : (Jvm.Cond.code ({ cls := "MappedProcessor$Logic", name := "signedShift", desc := "(II)I" } : Jvm.MethodName) prog_8_method_6_code (4 : Nat) (Option.some Jvm.ClassFile.FieldType.int)) ∈ kBw := kb_in (kt3 (List.mem_of_getElem? (i := 48) rfl)) rfl
set_option maxRecDepth 100000 in
theorem mw_529 : (Jvm.Cond.methodLink "MappedProcessor$Logic" (66 : Nat) ({ cls := "MappedProcessor$State", name := "keepCarry", desc := "(Z)V" } : Jvm.MethodName)) ∈ kBw := kb_in (kt3 (List.mem_of_getElem? (i := 49) rfl)) rfl
set_option maxRecDepth 100000 in
theorem mw_530 : (Jvm.Cond.methodLink "MappedProcessor" (176 : Nat) ({ cls := "MappedProcessor$Control", name := "runs", desc := "(LMappedProcessor$Instruction;)Z" } : Jvm.MethodName)) ∈ kBw := kb_in (kt3 (List.mem_of_getElem? (i := 50) rfl)) rfl
set_option maxRecDepth 100000 in
theorem mw_531 : (Jvm.Cond.instanceMethod ({ cls := "MappedProcessor$Control", name := "runs", desc := "(LMappedProcessor$Instruction;)Z" } : Jvm.MethodName)) ∈ kBw := kb_in (kt3 (List.mem_of_getElem? (i := 51) rfl)) rfl
set_option maxRecDepth 100000 in
theorem mw_532 : (Jvm.Cond.selects "MappedProcessor$Control" ({ cls := "MappedProcessor$Control", name := "runs", desc := "(LMappedProcessor$Instruction;)Z" } : Jvm.MethodName) ({ cls := "MappedProcessor$Control", name := "runs", desc := "(LMappedProcessor$Instruction;)Z" } : Jvm.MethodName)) ∈ kBw := kb_in (kt3 (List.mem_of_getElem? (i := 52) rfl)) rfl
set_option maxRecDepth 100000 in
theorem mw_533 : (Jvm.Cond.code ({ cls := "MappedProcessor$Control", name := "runs", desc := "(LMappedProcessor$Instruction;)Z" } : Jvm.MethodName) prog_6_method_2_code (2 : Nat) (Option.some Jvm.ClassFile.FieldType.boolean)) ∈ kBw := kb_in (kt3 (List.mem_of_getElem? (i := 53) rfl)) rfl
set_option maxRecDepth 100000 in
theorem mw_534 : (Jvm.Cond.methodLink "MappedProcessor$Control" (24 : Nat) ({ cls := "MappedProcessor$State", name := "read", desc := "(I)I" } : Jvm.MethodName)) ∈ kBw := kb_in (kt3 (List.mem_of_getElem? (i := 54) rfl)) rfl
set_option maxRecDepth 100000 in
theorem mw_535 : (Jvm.Cond.methodLink "MappedProcessor$Control" (30 : Nat) ({ cls := "MappedProcessor$State", name := "keepRegister", desc := "(II)V" } : Jvm.MethodName)) ∈ kBw := kb_in (kt3 (List.mem_of_getElem? (i := 55) rfl)) rfl
set_option maxRecDepth 100000 in
theorem mw_536 : (Jvm.Cond.methodLink "MappedProcessor$Control" (34 : Nat) ({ cls := "MappedProcessor$Control", name := "keepFields", desc := "(LMappedProcessor$Instruction;)V" } : Jvm.MethodName)) ∈ kBw := kb_in (kt3 (List.mem_of_getElem? (i := 56) rfl)) rfl
set_option maxRecDepth 100000 in
theorem mw_538 : (Jvm.Cond.instanceMethod ({ cls := "MappedProcessor$Control", name := "keepFields", desc := "(LMappedProcessor$Instruction;)V" } : Jvm.MethodName)) ∈ kBw := kb_in (kt3 (List.mem_of_getElem? (i := 58) rfl)) rfl
set_option maxRecDepth 100000 in
theorem mw_539 : (Jvm.Cond.code ({ cls := "MappedProcessor$Control", name := "keepFields", desc := "(LMappedProcessor$Instruction;)V" } : Jvm.MethodName) prog_6_method_3_code (4 : Nat) (Option.none : Option Jvm.ClassFile.FieldType)) ∈ kBw := kb_in (kt3 (List.mem_of_getElem? (i := 59) rfl)) rfl
set_option maxRecDepth 100000 in
theorem mw_540 : (Jvm.Cond.methodLink "MappedProcessor$Control" (49 : Nat) ({ cls := "MappedProcessor$Instruction", name := "has", desc := "(I)Z" } : Jvm.MethodName)) ∈ kBw := kb_in (kt3 (List.mem_of_getElem? (i := 60) rfl)) rfl
set_option maxRecDepth 100000 in
theorem mw_541 : (Jvm.Cond.methodLink "MappedProcessor$Control" (53 : Nat) ({ cls := "MappedProcessor$State", name := "register", desc := "(I)I" } : Jvm.MethodName)) ∈ kBw := kb_in (kt3 (List.mem_of_getElem? (i := 61) rfl)) rfl
set_option maxRecDepth 100000 in
theorem mw_542 : (Jvm.Cond.methodLink "MappedProcessor$Control" (56 : Nat) ({ cls := "MappedProcessor$State", name := "keep", desc := "(II)V" } : Jvm.MethodName)) ∈ kBw := kb_in (kt3 (List.mem_of_getElem? (i := 62) rfl)) rfl
set_option maxRecDepth 100000 in
theorem mw_543 : (Jvm.Cond.methodLink "MappedProcessor$Control" (38 : Nat) ({ cls := "MappedProcessor$Control", name := "movesSpecial", desc := "(LMappedProcessor$Instruction;)Z" } : Jvm.MethodName)) ∈ kBw := kb_in (kt3 (List.mem_of_getElem? (i := 63) rfl)) rfl
set_option maxRecDepth 100000 in
theorem mw_545 : (Jvm.Cond.instanceMethod ({ cls := "MappedProcessor$Control", name := "movesSpecial", desc := "(LMappedProcessor$Instruction;)Z" } : Jvm.MethodName)) ∈ kBw := kb_in (kt3 (List.mem_of_getElem? (i := 65) rfl)) rfl
set_option maxRecDepth 100000 in
theorem mw_546 : (Jvm.Cond.code ({ cls := "MappedProcessor$Control", name := "movesSpecial", desc := "(LMappedProcessor$Instruction;)Z" } : Jvm.MethodName) prog_6_method_5_code (4 : Nat) (Option.some Jvm.ClassFile.FieldType.boolean)) ∈ kBw := kb_in (kt3 (List.mem_of_getElem? (i := 66) rfl)) rfl
set_option maxRecDepth 100000 in
theorem mw_547 : (Jvm.Cond.methodLink "MappedProcessor$Control" (66 : Nat) ({ cls := "MappedProcessor$Control", name := "specialOf", desc := "(I)I" } : Jvm.MethodName)) ∈ kBw := kb_in (kt3 (List.mem_of_getElem? (i := 67) rfl)) rfl
set_option maxRecDepth 100000 in
theorem mw_548 : (Jvm.Cond.static ({ cls := "MappedProcessor$Control", name := "specialOf", desc := "(I)I" } : Jvm.MethodName)) ∈ kBw := kb_in (kt3 (List.mem_of_getElem? (i := 68) rfl)) rfl
set_option maxRecDepth 100000 in
theorem mw_549 : (Jvm.Cond.code ({ cls := "MappedProcessor$Control", name := "specialOf", desc := "(I)I" } : Jvm.MethodName) prog_6_method_6_code (1 : Nat) (Option.some Jvm.ClassFile.FieldType.int)) ∈ kBw := kb_in (kt3 (List.mem_of_getElem? (i := 69) rfl)) rfl
set_option maxRecDepth 100000 in
theorem mw_550 : (Jvm.Cond.methodLink "MappedProcessor$Control" (42 : Nat) ({ cls := "MappedProcessor$State", name := "refusesPrivileged", desc := "()Z" } : Jvm.MethodName)) ∈ kBw := kb_in (kt3 (List.mem_of_getElem? (i := 70) rfl)) rfl
set_option maxRecDepth 100000 in
theorem mw_551 : (Jvm.Cond.methodLink "MappedProcessor$Control" (46 : Nat) ({ cls := "MappedProcessor$Control", name := "movePrivileged", desc := "(LMappedProcessor$Instruction;)V" } : Jvm.MethodName)) ∈ kBw := kb_in (kt3 (List.mem_of_getElem? (i := 71) rfl)) rfl
set_option maxRecDepth 100000 in
theorem mw_553 : (Jvm.Cond.instanceMethod ({ cls := "MappedProcessor$Control", name := "movePrivileged", desc := "(LMappedProcessor$Instruction;)V" } : Jvm.MethodName)) ∈ kBw := kb_in (kt3 (List.mem_of_getElem? (i := 73) rfl)) rfl
set_option maxRecDepth 100000 in
theorem mw_554 : (Jvm.Cond.code ({ cls := "MappedProcessor$Control", name := "movePrivileged", desc := "(LMappedProcessor$Instruction;)V" } : Jvm.MethodName) prog_6_method_4_code (3 : Nat) (Option.none : Option Jvm.ClassFile.FieldType)) ∈ kBw := kb_in (kt3 (List.mem_of_getElem? (i := 74) rfl)) rfl
set_option maxRecDepth 100000 in
theorem mw_555 : (Jvm.Cond.constant "MappedProcessor$Control" (62 : Nat) (65535 : Int32)) ∈ kBw := kb_in (kt3 (List.mem_of_getElem? (i := 75) rfl)) rfl
set_option maxRecDepth 100000 in
theorem mw_556 : (Jvm.Cond.methodLink "MappedProcessor" (177 : Nat) ({ cls := "MappedProcessor$Accesses", name := "runsIndexed", desc := "(LMappedProcessor$Instruction;)Z" } : Jvm.MethodName)) ∈ kBw := kb_in (kt3 (List.mem_of_getElem? (i := 76) rfl)) rfl
set_option maxRecDepth 100000 in
theorem mw_557 : (Jvm.Cond.instanceMethod ({ cls := "MappedProcessor$Accesses", name := "runsIndexed", desc := "(LMappedProcessor$Instruction;)Z" } : Jvm.MethodName)) ∈ kBw := kb_in (kt3 (List.mem_of_getElem? (i := 77) rfl)) rfl
set_option maxRecDepth 100000 in
theorem mw_558 : (Jvm.Cond.selects "MappedProcessor$Accesses" ({ cls := "MappedProcessor$Accesses", name := "runsIndexed", desc := "(LMappedProcessor$Instruction;)Z" } : Jvm.MethodName) ({ cls := "MappedProcessor$Accesses", name := "runsIndexed", desc := "(LMappedProcessor$Instruction;)Z" } : Jvm.MethodName)) ∈ kBw := kb_in (kt3 (List.mem_of_getElem? (i := 78) rfl)) rfl
set_option maxRecDepth 100000 in
theorem mw_559 : (Jvm.Cond.code ({ cls := "MappedProcessor$Accesses", name := "runsIndexed", desc := "(LMappedProcessor$Instruction;)Z" } : Jvm.MethodName) prog_2_method_3_code (3 : Nat) (Option.some Jvm.ClassFile.FieldType.boolean)) ∈ kBw := kb_in (kt3 (List.mem_of_getElem? (i := 79) rfl)) rfl
set_option maxRecDepth 100000 in
theorem mw_560 : (Jvm.Cond.methodLink "MappedProcessor$Accesses" (66 : Nat) ({ cls := "MappedProcessor$Accesses", name := "plainForm", desc := "(I)I" } : Jvm.MethodName)) ∈ kBw := kb_in (kt3 (List.mem_of_getElem? (i := 80) rfl)) rfl
set_option maxRecDepth 100000 in
theorem mw_561 : (Jvm.Cond.static ({ cls := "MappedProcessor$Accesses", name := "plainForm", desc := "(I)I" } : Jvm.MethodName)) ∈ kBw := kb_in (kt3 (List.mem_of_getElem? (i := 81) rfl)) rfl
set_option maxRecDepth 100000 in
theorem mw_562 : (Jvm.Cond.code ({ cls := "MappedProcessor$Accesses", name := "plainForm", desc := "(I)I" } : Jvm.MethodName) prog_2_method_4_code (1 : Nat) (Option.some Jvm.ClassFile.FieldType.int)) ∈ kBw := kb_in (kt3 (List.mem_of_getElem? (i := 82) rfl)) rfl
set_option maxRecDepth 100000 in
theorem mw_563 : (Jvm.Cond.methodLink "MappedProcessor$Accesses" (44 : Nat) ({ cls := "MappedProcessor$State", name := "registerOrZero", desc := "(I)I" } : Jvm.MethodName)) ∈ kBw := kb_in (kt3 (List.mem_of_getElem? (i := 83) rfl)) rfl
set_option maxRecDepth 100000 in
theorem mw_564 : (Jvm.Cond.methodLink "MappedProcessor$Accesses" (72 : Nat) ({ cls := "MappedProcessor$State", name := "register", desc := "(I)I" } : Jvm.MethodName)) ∈ kBw := kb_in (kt3 (List.mem_of_getElem? (i := 84) rfl)) rfl
set_option maxRecDepth 100000 in
theorem mw_565 : (Jvm.Cond.methodLink "MappedProcessor$Accesses" (55 : Nat) ({ cls := "MappedProcessor$Accesses", name := "moves", desc := "(III)Z" } : Jvm.MethodName)) ∈ kBw := kb_in (kt3 (List.mem_of_getElem? (i := 85) rfl)) rfl
set_option maxRecDepth 100000 in
theorem mw_567 : (Jvm.Cond.instanceMethod ({ cls := "MappedProcessor$Accesses", name := "moves", desc := "(III)Z" } : Jvm.MethodName)) ∈ kBw := kb_in (kt3 (List.mem_of_getElem? (i := 87) rfl)) rfl
set_option maxRecDepth 100000 in
theorem mw_568 : (Jvm.Cond.code ({ cls := "MappedProcessor$Accesses", name := "moves", desc := "(III)Z" } : Jvm.MethodName) prog_2_method_9_code (8 : Nat) (Option.some Jvm.ClassFile.FieldType.boolean)) ∈ kBw := kb_in (kt3 (List.mem_of_getElem? (i := 88) rfl)) rfl
set_option maxRecDepth 100000 in
theorem mw_569 : (Jvm.Cond.methodLink "MappedProcessor$Accesses" (29 : Nat) ({ cls := "MappedProcessor$Accesses", name := "sizeOf", desc := "(I)I" } : Jvm.MethodName)) ∈ kBw := kb_in (kt3 (List.mem_of_getElem? (i := 89) rfl)) rfl
set_option maxRecDepth 100000 in
theorem mw_570 : (Jvm.Cond.static ({ cls := "MappedProcessor$Accesses", name := "sizeOf", desc := "(I)I" } : Jvm.MethodName)) ∈ kBw := kb_in (kt3 (List.mem_of_getElem? (i := 90) rfl)) rfl
set_option maxRecDepth 100000 in
theorem mw_571 : (Jvm.Cond.code ({ cls := "MappedProcessor$Accesses", name := "sizeOf", desc := "(I)I" } : Jvm.MethodName) prog_2_method_5_code (1 : Nat) (Option.some Jvm.ClassFile.FieldType.int)) ∈ kBw := kb_in (kt3 (List.mem_of_getElem? (i := 91) rfl)) rfl
set_option maxRecDepth 100000 in
theorem mw_572 : (Jvm.Cond.methodLink "MappedProcessor$Accesses" (78 : Nat) ({ cls := "MappedProcessor$State", name := "raise", desc := "(II)V" } : Jvm.MethodName)) ∈ kBw := kb_in (kt3 (List.mem_of_getElem? (i := 92) rfl)) rfl
set_option maxRecDepth 100000 in
theorem mw_573 : (Jvm.Cond.methodLink "MappedProcessor$Accesses" (81 : Nat) ({ cls := "MappedProcessor$State", name := "keep", desc := "(II)V" } : Jvm.MethodName)) ∈ kBw := kb_in (kt3 (List.mem_of_getElem? (i := 93) rfl)) rfl
set_option maxRecDepth 100000 in
theorem mw_574 : (Jvm.Cond.methodLink "MappedProcessor$Accesses" (75 : Nat) ({ cls := "MappedProcessor$Accesses", name := "stores", desc := "(I)Z" } : Jvm.MethodName)) ∈ kBw := kb_in (kt3 (List.mem_of_getElem? (i := 94) rfl)) rfl
set_option maxRecDepth 100000 in
theorem mw_575 : (Jvm.Cond.static ({ cls := "MappedProcessor$Accesses", name := "stores", desc := "(I)Z" } : Jvm.MethodName)) ∈ kBw := kb_in (kt3 (List.mem_of_getElem? (i := 95) rfl)) rfl
set_option maxRecDepth 100000 in
theorem mw_576 : (Jvm.Cond.code ({ cls := "MappedProcessor$Accesses", name := "stores", desc := "(I)Z" } : Jvm.MethodName) prog_2_method_6_code (1 : Nat) (Option.some Jvm.ClassFile.FieldType.boolean)) ∈ kBw := kb_in (kt3 (List.mem_of_getElem? (i := 96) rfl)) rfl
set_option maxRecDepth 100000 in
theorem mw_577 : (Jvm.Cond.methodLink "MappedProcessor$Accesses" (84 : Nat) ({ cls := "MappedProcessor$Mapper", name := "locate", desc := "(II)I" } : Jvm.MethodName)) ∈ kBw := kb_in (kt3 (List.mem_of_getElem? (i := 97) rfl)) rfl
set_option maxRecDepth 100000 in
theorem mw_578 : (Jvm.Cond.methodLink "MappedProcessor$Accesses" (90 : Nat) ({ cls := "MappedProcessor$Accesses", name := "refuse", desc := "(III)V" } : Jvm.MethodName)) ∈ kBw := kb_in (kt3 (List.mem_of_getElem? (i := 98) rfl)) rfl
set_option maxRecDepth 100000 in
theorem mw_580 : (Jvm.Cond.instanceMethod ({ cls := "MappedProcessor$Accesses", name := "refuse", desc := "(III)V" } : Jvm.MethodName)) ∈ kBw := kb_in (kt3 (List.mem_of_getElem? (i := 100) rfl)) rfl
set_option maxRecDepth 100000 in
theorem mw_581 : (Jvm.Cond.code ({ cls := "MappedProcessor$Accesses", name := "refuse", desc := "(III)V" } : Jvm.MethodName) prog_2_method_10_code (4 : Nat) (Option.none : Option Jvm.ClassFile.FieldType)) ∈ kBw := kb_in (kt3 (List.mem_of_getElem? (i := 101) rfl)) rfl
set_option maxRecDepth 100000 in
theorem mw_583 : (Jvm.Cond.constant "MappedProcessor$Accesses" (109 : Nat) (33554432 : Int32)) ∈ kBw := kb_in (kt3 (List.mem_of_getElem? (i := 103) rfl)) rfl
set_option maxRecDepth 100000 in
theorem mw_584 : (Jvm.Cond.methodLink "MappedProcessor$Accesses" (94 : Nat) ({ cls := "MappedProcessor$Mapper", name := "mark", desc := "(I)V" } : Jvm.MethodName)) ∈ kBw := kb_in (kt3 (List.mem_of_getElem? (i := 104) rfl)) rfl
set_option maxRecDepth 100000 in
theorem mw_585 : (Jvm.Cond.methodLink "MappedProcessor$Accesses" (98 : Nat) ({ cls := "MappedProcessor$Memory", name := "keepPart", desc := "(III)V" } : Jvm.MethodName)) ∈ kBw := kb_in (kt3 (List.mem_of_getElem? (i := 105) rfl)) rfl
set_option maxRecDepth 100000 in
theorem mw_586 : (Jvm.Cond.instanceMethod ({ cls := "MappedProcessor$Memory", name := "keepPart", desc := "(III)V" } : Jvm.MethodName)) ∈ kBw := kb_in (kt3 (List.mem_of_getElem? (i := 106) rfl)) rfl
set_option maxRecDepth 100000 in
theorem mw_587 : (Jvm.Cond.selects "MappedProcessor$Memory" ({ cls := "MappedProcessor$Memory", name := "keepPart", desc := "(III)V" } : Jvm.MethodName) ({ cls := "MappedProcessor$Memory", name := "keepPart", desc := "(III)V" } : Jvm.MethodName)) ∈ kBw := kb_in (kt3 (List.mem_of_getElem? (i := 107) rfl)) rfl
set_option maxRecDepth 100000 in
theorem mw_588 : (Jvm.Cond.code ({ cls := "MappedProcessor$Memory", name := "keepPart", desc := "(III)V" } : Jvm.MethodName) prog_10_method_5_code (6 : Nat) (Option.none : Option Jvm.ClassFile.FieldType)) ∈ kBw := kb_in (kt3 (List.mem_of_getElem? (i := 108) rfl)) rfl
set_option maxRecDepth 100000 in
theorem mw_589 : (Jvm.Cond.methodLink "MappedProcessor$Memory" (20 : Nat) ({ cls := "MappedProcessor$Memory", name := "shift", desc := "(II)I" } : Jvm.MethodName)) ∈ kBw := kb_in (kt3 (List.mem_of_getElem? (i := 109) rfl)) rfl
set_option maxRecDepth 100000 in
theorem mw_590 : (Jvm.Cond.static ({ cls := "MappedProcessor$Memory", name := "shift", desc := "(II)I" } : Jvm.MethodName)) ∈ kBw := kb_in (kt3 (List.mem_of_getElem? (i := 110) rfl)) rfl
set_option maxRecDepth 100000 in
theorem mw_591 : (Jvm.Cond.code ({ cls := "MappedProcessor$Memory", name := "shift", desc := "(II)I" } : Jvm.MethodName) prog_10_method_6_code (2 : Nat) (Option.some Jvm.ClassFile.FieldType.int)) ∈ kBw := kb_in (kt3 (List.mem_of_getElem? (i := 111) rfl)) rfl
set_option maxRecDepth 100000 in
theorem mw_592 : (Jvm.Cond.methodLink "MappedProcessor$Memory" (24 : Nat) ({ cls := "MappedProcessor$Memory", name := "mask", desc := "(I)I" } : Jvm.MethodName)) ∈ kBw := kb_in (kt3 (List.mem_of_getElem? (i := 112) rfl)) rfl
set_option maxRecDepth 100000 in
theorem mw_593 : (Jvm.Cond.static ({ cls := "MappedProcessor$Memory", name := "mask", desc := "(I)I" } : Jvm.MethodName)) ∈ kBw := kb_in (kt3 (List.mem_of_getElem? (i := 113) rfl)) rfl
set_option maxRecDepth 100000 in
theorem mw_594 : (Jvm.Cond.code ({ cls := "MappedProcessor$Memory", name := "mask", desc := "(I)I" } : Jvm.MethodName) prog_10_method_7_code (1 : Nat) (Option.some Jvm.ClassFile.FieldType.int)) ∈ kBw := kb_in (kt3 (List.mem_of_getElem? (i := 114) rfl)) rfl
set_option maxRecDepth 100000 in
theorem mw_595 : (Jvm.Cond.methodLink "MappedProcessor$Memory" (16 : Nat) ({ cls := "MappedProcessor$Memory", name := "at", desc := "(I)I" } : Jvm.MethodName)) ∈ kBw := kb_in (kt3 (List.mem_of_getElem? (i := 115) rfl)) rfl
set_option maxRecDepth 100000 in
theorem mw_596 : (Jvm.Cond.methodLink "MappedProcessor$Memory" (27 : Nat) ({ cls := "MappedProcessor$Memory", name := "keep", desc := "(II)V" } : Jvm.MethodName)) ∈ kBw := kb_in (kt3 (List.mem_of_getElem? (i := 116) rfl)) rfl
set_option maxRecDepth 100000 in
theorem mw_597 : (Jvm.Cond.methodLink "MappedProcessor$Accesses" (103 : Nat) ({ cls := "MappedProcessor$Memory", name := "part", desc := "(II)I" } : Jvm.MethodName)) ∈ kBw := kb_in (kt3 (List.mem_of_getElem? (i := 117) rfl)) rfl
set_option maxRecDepth 100000 in
theorem mw_598 : (Jvm.Cond.instanceMethod ({ cls := "MappedProcessor$Memory", name := "part", desc := "(II)I" } : Jvm.MethodName)) ∈ kBw := kb_in (kt3 (List.mem_of_getElem? (i := 118) rfl)) rfl
set_option maxRecDepth 100000 in
theorem mw_599 : (Jvm.Cond.selects "MappedProcessor$Memory" ({ cls := "MappedProcessor$Memory", name := "part", desc := "(II)I" } : Jvm.MethodName) ({ cls := "MappedProcessor$Memory", name := "part", desc := "(II)I" } : Jvm.MethodName)) ∈ kBw := kb_in (kt3 (List.mem_of_getElem? (i := 119) rfl)) rfl
set_option maxRecDepth 100000 in
theorem mw_600 : (Jvm.Cond.code ({ cls := "MappedProcessor$Memory", name := "part", desc := "(II)I" } : Jvm.MethodName) prog_10_method_4_code (3 : Nat) (Option.some Jvm.ClassFile.FieldType.int)) ∈ kBw := kb_in (kt3 (List.mem_of_getElem? (i := 120) rfl)) rfl
set_option maxRecDepth 100000 in
theorem mw_601 : (Jvm.Cond.methodLink "MappedProcessor$Accesses" (59 : Nat) ({ cls := "MappedProcessor$State", name := "keepRegister", desc := "(II)V" } : Jvm.MethodName)) ∈ kBw := kb_in (kt3 (List.mem_of_getElem? (i := 121) rfl)) rfl
set_option maxRecDepth 100000 in
theorem mw_602 : (Jvm.Cond.methodLink "MappedProcessor" (180 : Nat) ({ cls := "MappedProcessor$Accesses", name := "runs", desc := "(LMappedProcessor$Instruction;)Z" } : Jvm.MethodName)) ∈ kBw := kb_in (kt3 (List.mem_of_getElem? (i := 122) rfl)) rfl
set_option maxRecDepth 100000 in
theorem mw_603 : (Jvm.Cond.instanceMethod ({ cls := "MappedProcessor$Accesses", name := "runs", desc := "(LMappedProcessor$Instruction;)Z" } : Jvm.MethodName)) ∈ kBw := kb_in (kt3 (List.mem_of_getElem? (i := 123) rfl)) rfl
set_option maxRecDepth 100000 in
theorem mw_604 : (Jvm.Cond.selects "MappedProcessor$Accesses" ({ cls := "MappedProcessor$Accesses", name := "runs", desc := "(LMappedProcessor$Instruction;)Z" } : Jvm.MethodName) ({ cls := "MappedProcessor$Accesses", name := "runs", desc := "(LMappedProcessor$Instruction;)Z" } : Jvm.MethodName)) ∈ kBw := kb_in (kt3 (List.mem_of_getElem? (i := 124) rfl)) rfl
set_option maxRecDepth 100000 in
theorem mw_605 : (Jvm.Cond.code ({ cls := "MappedProcessor$Accesses", name := "runs", desc := "(LMappedProcessor$Instruction;)Z" } : Jvm.MethodName) prog_2_method_2_code (3 : Nat) (Option.some Jvm.ClassFile.FieldType.boolean)) ∈ kBw := kb_in (kt3 (List.mem_of_getElem? (i := 125) rfl)) rfl
set_option maxRecDepth 100000 in
theorem mw_606 : (Jvm.Cond.methodLink "MappedProcessor$Accesses" (33 : Nat) ({ cls := "MappedProcessor$Accesses", name := "updates", desc := "(I)Z" } : Jvm.MethodName)) ∈ kBw := kb_in (kt3 (List.mem_of_getElem? (i := 126) rfl)) rfl
set_option maxRecDepth 100000 in
theorem mw_607 : (Jvm.Cond.static ({ cls := "MappedProcessor$Accesses", name := "updates", desc := "(I)Z" } : Jvm.MethodName)) ∈ kBw := kb_in (kt3 (List.mem_of_getElem? (i := 127) rfl)) rfl
set_option maxRecDepth 100000 in
theorem mw_608 : (Jvm.Cond.code ({ cls := "MappedProcessor$Accesses", name := "updates", desc := "(I)Z" } : Jvm.MethodName) prog_2_method_7_code (1 : Nat) (Option.some Jvm.ClassFile.FieldType.boolean)) ∈ kBw := kb_in (kt3 (List.mem_of_getElem? (i := 128) rfl)) rfl
set_option maxRecDepth 100000 in
theorem mw_609 : (Jvm.Cond.methodLink "MappedProcessor$Accesses" (37 : Nat) ({ cls := "MappedProcessor$Accesses", name := "canUpdate", desc := "(LMappedProcessor$Instruction;)Z" } : Jvm.MethodName)) ∈ kBw := kb_in (kt3 (List.mem_of_getElem? (i := 129) rfl)) rfl
set_option maxRecDepth 100000 in
theorem mw_610 : (Jvm.Cond.static ({ cls := "MappedProcessor$Accesses", name := "canUpdate", desc := "(LMappedProcessor$Instruction;)Z" } : Jvm.MethodName)) ∈ kBw := kb_in (kt3 (List.mem_of_getElem? (i := 130) rfl)) rfl
set_option maxRecDepth 100000 in
theorem mw_611 : (Jvm.Cond.code ({ cls := "MappedProcessor$Accesses", name := "canUpdate", desc := "(LMappedProcessor$Instruction;)Z" } : Jvm.MethodName) prog_2_method_8_code (1 : Nat) (Option.some Jvm.ClassFile.FieldType.boolean)) ∈ kBw := kb_in (kt3 (List.mem_of_getElem? (i := 131) rfl)) rfl
set_option maxRecDepth 100000 in
theorem mw_612 : (Jvm.Cond.constant "MappedProcessor" (121 : Nat) (524288 : Int32)) ∈ kBw := kb_in (kt3 (List.mem_of_getElem? (i := 132) rfl)) rfl
set_option maxRecDepth 100000 in
theorem mw_613 : (Jvm.Cond.methodLink "MappedProcessor" (125 : Nat) ({ cls := "MappedProcessor$State", name := "finish", desc := "()V" } : Jvm.MethodName)) ∈ kBw := kb_in (kt3 (List.mem_of_getElem? (i := 133) rfl)) rfl
set_option maxRecDepth 100000 in
theorem mw_614 : (Jvm.Cond.instanceMethod ({ cls := "MappedProcessor$State", name := "finish", desc := "()V" } : Jvm.MethodName)) ∈ kBw := kb_in (kt3 (List.mem_of_getElem? (i := 134) rfl)) rfl
set_option maxRecDepth 100000 in
theorem mw_615 : (Jvm.Cond.selects "MappedProcessor$State" ({ cls := "MappedProcessor$State", name := "finish", desc := "()V" } : Jvm.MethodName) ({ cls := "MappedProcessor$State", name := "finish", desc := "()V" } : Jvm.MethodName)) ∈ kBw := kb_in (kt3 (List.mem_of_getElem? (i := 135) rfl)) rfl
set_option maxRecDepth 100000 in
theorem mw_616 : (Jvm.Cond.code ({ cls := "MappedProcessor$State", name := "finish", desc := "()V" } : Jvm.MethodName) prog_11_method_12_code (1 : Nat) (Option.none : Option Jvm.ClassFile.FieldType)) ∈ kBw := kb_in (kt3 (List.mem_of_getElem? (i := 136) rfl)) rfl
set_option maxRecDepth 100000 in
theorem mw_618 : (Jvm.Cond.instanceMethod ({ cls := "MappedProcessor", name := "translate", desc := "(II)I" } : Jvm.MethodName)) ∈ kBw := kb_in (kt3 (List.mem_of_getElem? (i := 138) rfl)) rfl
set_option maxRecDepth 100000 in
theorem mw_619 : (Jvm.Cond.selects "MappedProcessor" ({ cls := "MappedProcessor", name := "translate", desc := "(II)I" } : Jvm.MethodName) ({ cls := "MappedProcessor", name := "translate", desc := "(II)I" } : Jvm.MethodName)) ∈ kBw := kb_in (kt3 (List.mem_of_getElem? (i := 139) rfl)) rfl
set_option maxRecDepth 100000 in
theorem mw_620 : (Jvm.Cond.code ({ cls := "MappedProcessor", name := "translate", desc := "(II)I" } : Jvm.MethodName) prog_1_method_9_code (3 : Nat) (Option.some Jvm.ClassFile.FieldType.int)) ∈ kBw := kb_in (kt3 (List.mem_of_getElem? (i := 140) rfl)) rfl
set_option maxRecDepth 100000 in
theorem mw_622 : (Jvm.Cond.instanceMethod ({ cls := "MappedProcessor", name := "vector", desc := "()I" } : Jvm.MethodName)) ∈ kBw := kb_in (kt3 (List.mem_of_getElem? (i := 142) rfl)) rfl
set_option maxRecDepth 100000 in
theorem mw_623 : (Jvm.Cond.selects "MappedProcessor" ({ cls := "MappedProcessor", name := "vector", desc := "()I" } : Jvm.MethodName) ({ cls := "MappedProcessor", name := "vector", desc := "()I" } : Jvm.MethodName)) ∈ kBw := kb_in (kt3 (List.mem_of_getElem? (i := 143) rfl)) rfl
set_option maxRecDepth 100000 in
theorem mw_624 : (Jvm.Cond.code ({ cls := "MappedProcessor", name := "vector", desc := "()I" } : Jvm.MethodName) prog_1_method_10_code (1 : Nat) (Option.some Jvm.ClassFile.FieldType.int)) ∈ kBw := kb_in (kt3 (List.mem_of_getElem? (i := 144) rfl)) rfl
set_option maxRecDepth 100000 in
theorem mw_625 : (Jvm.Cond.methodLink "MappedProcessor" (132 : Nat) ({ cls := "MappedProcessor$State", name := "latestVector", desc := "()I" } : Jvm.MethodName)) ∈ kBw := kb_in (kt3 (List.mem_of_getElem? (i := 145) rfl)) rfl
set_option maxRecDepth 100000 in
theorem mw_626 : (Jvm.Cond.instanceMethod ({ cls := "MappedProcessor$State", name := "latestVector", desc := "()I" } : Jvm.MethodName)) ∈ kBw := kb_in (kt3 (List.mem_of_getElem? (i := 146) rfl)) rfl
set_option maxRecDepth 100000 in
theorem mw_627 : (Jvm.Cond.selects "MappedProcessor$State" ({ cls := "MappedProcessor$State", name := "latestVector", desc := "()I" } : Jvm.MethodName) ({ cls := "MappedProcessor$State", name := "latestVector", desc := "()I" } : Jvm.MethodName)) ∈ kBw := kb_in (kt3 (List.mem_of_getElem? (i := 147) rfl)) rfl
set_option maxRecDepth 100000 in
theorem mw_628 : (Jvm.Cond.code ({ cls := "MappedProcessor$State", name := "latestVector", desc := "()I" } : Jvm.MethodName) prog_11_method_8_code (1 : Nat) (Option.some Jvm.ClassFile.FieldType.int)) ∈ kBw := kb_in (kt3 (List.mem_of_getElem? (i := 148) rfl)) rfl
set_option maxRecDepth 100000 in
theorem mw_630 : (Jvm.Cond.instanceMethod ({ cls := "MappedProcessor", name := "steps", desc := "()I" } : Jvm.MethodName)) ∈ kBw := kb_in (kt3 (List.mem_of_getElem? (i := 150) rfl)) rfl
set_option maxRecDepth 100000 in
theorem mw_631 : (Jvm.Cond.selects "MappedProcessor" ({ cls := "MappedProcessor", name := "steps", desc := "()I" } : Jvm.MethodName) ({ cls := "MappedProcessor", name := "steps", desc := "()I" } : Jvm.MethodName)) ∈ kBw := kb_in (kt3 (List.mem_of_getElem? (i := 151) rfl)) rfl
set_option maxRecDepth 100000 in
theorem mw_632 : (Jvm.Cond.code ({ cls := "MappedProcessor", name := "steps", desc := "()I" } : Jvm.MethodName) prog_1_method_11_code (1 : Nat) (Option.some Jvm.ClassFile.FieldType.int)) ∈ kBw := kb_in (kt3 (List.mem_of_getElem? (i := 152) rfl)) rfl
set_option maxRecDepth 100000 in
theorem mw_633 : (Jvm.Cond.methodLink "MappedProcessor" (135 : Nat) ({ cls := "MappedProcessor$State", name := "stepsMade", desc := "()I" } : Jvm.MethodName)) ∈ kBw := kb_in (kt3 (List.mem_of_getElem? (i := 153) rfl)) rfl
set_option maxRecDepth 100000 in
theorem mw_634 : (Jvm.Cond.instanceMethod ({ cls := "MappedProcessor$State", name := "stepsMade", desc := "()I" } : Jvm.MethodName)) ∈ kBw := kb_in (kt3 (List.mem_of_getElem? (i := 154) rfl)) rfl
set_option maxRecDepth 100000 in
theorem mw_635 : (Jvm.Cond.selects "MappedProcessor$State" ({ cls := "MappedProcessor$State", name := "stepsMade", desc := "()I" } : Jvm.MethodName) ({ cls := "MappedProcessor$State", name := "stepsMade", desc := "()I" } : Jvm.MethodName)) ∈ kBw := kb_in (kt3 (List.mem_of_getElem? (i := 155) rfl)) rfl
set_option maxRecDepth 100000 in
theorem mw_636 : (Jvm.Cond.code ({ cls := "MappedProcessor$State", name := "stepsMade", desc := "()I" } : Jvm.MethodName) prog_11_method_9_code (1 : Nat) (Option.some Jvm.ClassFile.FieldType.int)) ∈ kBw := kb_in (kt3 (List.mem_of_getElem? (i := 156) rfl)) rfl
set_option maxRecDepth 100000 in
theorem mw_643 : (Jvm.Cond.fieldLink "MappedProcessorModel" (7 : Nat) "MappedProcessorModel" "g" "[I") ∈ kBw := kb_in (kt3 (List.mem_of_getElem? (i := 163) rfl)) rfl
set_option maxRecDepth 100000 in
theorem mw_644 : (Jvm.Cond.fieldLink "MappedProcessorModel" (13 : Nat) "MappedProcessorModel" "sp" "[I") ∈ kBw := kb_in (kt3 (List.mem_of_getElem? (i := 164) rfl)) rfl
set_option maxRecDepth 100000 in
theorem mw_645 : (Jvm.Cond.fieldLink "MappedProcessorModel" (16 : Nat) "MappedProcessorModel" "memory" "[I") ∈ kBw := kb_in (kt3 (List.mem_of_getElem? (i := 165) rfl)) rfl
set_option maxRecDepth 100000 in
theorem mw_646 : (Jvm.Cond.fieldLink "MappedProcessorModel" (53 : Nat) "MappedProcessorModel" "latest" "I") ∈ kBw := kb_in (kt3 (List.mem_of_getElem? (i := 166) rfl)) rfl
set_option maxRecDepth 100000 in
theorem mw_647 : (Jvm.Cond.fieldLink "MappedProcessorModel" (66 : Nat) "MappedProcessorModel" "made" "I") ∈ kBw := kb_in (kt3 (List.mem_of_getElem? (i := 167) rfl)) rfl
set_option maxRecDepth 100000 in
theorem mw_648 : (Jvm.Cond.fieldLink "MappedProcessorModel" (21 : Nat) "MappedProcessorModel" "refusal" "I") ∈ kBw := kb_in (kt3 (List.mem_of_getElem? (i := 168) rfl)) rfl
set_option maxRecDepth 100000 in
theorem mw_649 : (Jvm.Cond.fieldLink "MappedProcessorModel" (25 : Nat) "MappedProcessorModel" "entry" "I") ∈ kBw := kb_in (kt3 (List.mem_of_getElem? (i := 169) rfl)) rfl
set_option maxRecDepth 100000 in
theorem mw_650 : (Jvm.Cond.fieldLink "MappedProcessorModel" (79 : Nat) "MappedProcessorModel" "code" "I") ∈ kBw := kb_in (kt3 (List.mem_of_getElem? (i := 170) rfl)) rfl
set_option maxRecDepth 100000 in
theorem mw_651 : (Jvm.Cond.fieldLink "MappedProcessorModel" (82 : Nat) "MappedProcessorModel" "nd" "I") ∈ kBw := kb_in (kt3 (List.mem_of_getElem? (i := 171) rfl)) rfl
set_option maxRecDepth 100000 in
theorem mw_652 : (Jvm.Cond.fieldLink "MappedProcessorModel" (85 : Nat) "MappedProcessorModel" "na" "I") ∈ kBw := kb_in (kt3 (List.mem_of_getElem? (i := 172) rfl)) rfl
set_option maxRecDepth 100000 in
theorem mw_653 : (Jvm.Cond.fieldLink "MappedProcessorModel" (88 : Nat) "MappedProcessorModel" "nb" "I") ∈ kBw := kb_in (kt3 (List.mem_of_getElem? (i := 173) rfl)) rfl
set_option maxRecDepth 100000 in
theorem mw_654 : (Jvm.Cond.fieldLink "MappedProcessorModel" (50 : Nat) "MappedProcessorModel" "next" "I") ∈ kBw := kb_in (kt3 (List.mem_of_getElem? (i := 174) rfl)) rfl
set_option maxRecDepth 100000 in
theorem mw_655 : (Jvm.Cond.fieldLink "MappedProcessorModel" (56 : Nat) "MappedProcessorModel" "failed" "Z") ∈ kBw := kb_in (kt3 (List.mem_of_getElem? (i := 175) rfl)) rfl
set_option maxRecDepth 100000 in
theorem mw_656 : (Jvm.Cond.fieldLink "MappedProcessorModel" (214 : Nat) "MappedProcessorModel" "where" "I") ∈ kBw := kb_in (kt3 (List.mem_of_getElem? (i := 176) rfl)) rfl
set_option maxRecDepth 100000 in
theorem mw_657 : (Jvm.Cond.laysFinal "MappedProcessorModel" "MappedProcessorModel" "g" "[I") ∈ kBw := kb_in (kt3 (List.mem_of_getElem? (i := 177) rfl)) rfl
set_option maxRecDepth 100000 in
theorem mw_659 : (Jvm.Cond.laysFinal "MappedProcessorModel" "MappedProcessorModel" "sp" "[I") ∈ kBw := kb_in (kt3 (List.mem_of_getElem? (i := 179) rfl)) rfl
set_option maxRecDepth 100000 in
theorem mw_661 : (Jvm.Cond.laysFinal "MappedProcessorModel" "MappedProcessorModel" "memory" "[I") ∈ kBw := kb_in (kt3 (List.mem_of_getElem? (i := 181) rfl)) rfl
set_option maxRecDepth 100000 in
theorem mw_663 : (Jvm.Cond.lays "MappedProcessorModel" "MappedProcessorModel" "latest" "I") ∈ kBw := kb_in (kt3 (List.mem_of_getElem? (i := 183) rfl)) rfl
set_option maxRecDepth 100000 in
theorem mw_665 : (Jvm.Cond.lays "MappedProcessorModel" "MappedProcessorModel" "made" "I") ∈ kBw := kb_in (kt3 (List.mem_of_getElem? (i := 185) rfl)) rfl
set_option maxRecDepth 100000 in
theorem mw_667 : (Jvm.Cond.lays "MappedProcessorModel" "MappedProcessorModel" "refusal" "I") ∈ kBw := kb_in (kt3 (List.mem_of_getElem? (i := 187) rfl)) rfl
set_option maxRecDepth 100000 in
theorem mw_669 : (Jvm.Cond.lays "MappedProcessorModel" "MappedProcessorModel" "entry" "I") ∈ kBw := kb_in (kt3 (List.mem_of_getElem? (i := 189) rfl)) rfl
set_option maxRecDepth 100000 in
theorem mw_671 : (Jvm.Cond.lays "MappedProcessorModel" "MappedProcessorModel" "code" "I") ∈ kBw := kb_in (kt3 (List.mem_of_getElem? (i := 191) rfl)) rfl
set_option maxRecDepth 100000 in
theorem mw_673 : (Jvm.Cond.lays "MappedProcessorModel" "MappedProcessorModel" "nd" "I") ∈ kBw := kb_in (kt3 (List.mem_of_getElem? (i := 193) rfl)) rfl
set_option maxRecDepth 100000 in
theorem mw_675 : (Jvm.Cond.lays "MappedProcessorModel" "MappedProcessorModel" "na" "I") ∈ kBw := kb_in (kt3 (List.mem_of_getElem? (i := 195) rfl)) rfl
set_option maxRecDepth 100000 in
theorem mw_677 : (Jvm.Cond.lays "MappedProcessorModel" "MappedProcessorModel" "nb" "I") ∈ kBw := kb_in (kt3 (List.mem_of_getElem? (i := 197) rfl)) rfl
set_option maxRecDepth 100000 in
theorem mw_679 : (Jvm.Cond.lays "MappedProcessorModel" "MappedProcessorModel" "next" "I") ∈ kBw := kb_in (kt3 (List.mem_of_getElem? (i := 199) rfl)) rfl
set_option maxRecDepth 100000 in
theorem mw_681 : (Jvm.Cond.lays "MappedProcessorModel" "MappedProcessorModel" "failed" "Z") ∈ kBw := kb_in (kt3 (List.mem_of_getElem? (i := 201) rfl)) rfl
set_option maxRecDepth 100000 in
theorem mw_683 : (Jvm.Cond.lays "MappedProcessorModel" "MappedProcessorModel" "where" "I") ∈ kBw := kb_in (kt3 (List.mem_of_getElem? (i := 203) rfl)) rfl
set_option maxRecDepth 100000 in
theorem mw_687 : (Jvm.Cond.instanceMethod ({ cls := "MappedProcessorModel", name := "write", desc := "(II)Z" } : Jvm.MethodName)) ∈ kBw := kb_in (kt3 (List.mem_of_getElem? (i := 207) rfl)) rfl
set_option maxRecDepth 100000 in
theorem mw_688 : (Jvm.Cond.selects "MappedProcessorModel" ({ cls := "MappedProcessorModel", name := "write", desc := "(II)Z" } : Jvm.MethodName) ({ cls := "MappedProcessorModel", name := "write", desc := "(II)Z" } : Jvm.MethodName)) ∈ kBw := kb_in (kt3 (List.mem_of_getElem? (i := 208) rfl)) rfl
set_option maxRecDepth 100000 in
theorem mw_689 : (Jvm.Cond.code ({ cls := "MappedProcessorModel", name := "write", desc := "(II)Z" } : Jvm.MethodName) prog_13_method_48_code (3 : Nat) (Option.some Jvm.ClassFile.FieldType.boolean)) ∈ kBw := kb_in (kt3 (List.mem_of_getElem? (i := 209) rfl)) rfl
set_option maxRecDepth 100000 in
theorem mw_691 : (Jvm.Cond.instanceMethod ({ cls := "MappedProcessorModel", name := "word", desc := "(I)I" } : Jvm.MethodName)) ∈ kBw := kb_in (kt3 (List.mem_of_getElem? (i := 211) rfl)) rfl
set_option maxRecDepth 100000 in
theorem mw_692 : (Jvm.Cond.selects "MappedProcessorModel" ({ cls := "MappedProcessorModel", name := "word", desc := "(I)I" } : Jvm.MethodName) ({ cls := "MappedProcessorModel", name := "word", desc := "(I)I" } : Jvm.MethodName)) ∈ kBw := kb_in (kt3 (List.mem_of_getElem? (i := 212) rfl)) rfl
set_option maxRecDepth 100000 in
theorem mw_693 : (Jvm.Cond.code ({ cls := "MappedProcessorModel", name := "word", desc := "(I)I" } : Jvm.MethodName) prog_13_method_49_code (2 : Nat) (Option.some Jvm.ClassFile.FieldType.int)) ∈ kBw := kb_in (kt3 (List.mem_of_getElem? (i := 213) rfl)) rfl
set_option maxRecDepth 100000 in
theorem mw_695 : (Jvm.Cond.instanceMethod ({ cls := "MappedProcessorModel", name := "put", desc := "(II)Z" } : Jvm.MethodName)) ∈ kBw := kb_in (kt3 (List.mem_of_getElem? (i := 215) rfl)) rfl
set_option maxRecDepth 100000 in
theorem mw_696 : (Jvm.Cond.selects "MappedProcessorModel" ({ cls := "MappedProcessorModel", name := "put", desc := "(II)Z" } : Jvm.MethodName) ({ cls := "MappedProcessorModel", name := "put", desc := "(II)Z" } : Jvm.MethodName)) ∈ kBw := kb_in (kt3 (List.mem_of_getElem? (i := 216) rfl)) rfl
set_option maxRecDepth 100000 in
theorem mw_697 : (Jvm.Cond.code ({ cls := "MappedProcessorModel", name := "put", desc := "(II)Z" } : Jvm.MethodName) prog_13_method_50_code (3 : Nat) (Option.some Jvm.ClassFile.FieldType.boolean)) ∈ kBw := kb_in (kt3 (List.mem_of_getElem? (i := 217) rfl)) rfl
set_option maxRecDepth 100000 in
theorem mw_699 : (Jvm.Cond.instanceMethod ({ cls := "MappedProcessorModel", name := "general", desc := "(I)I" } : Jvm.MethodName)) ∈ kBw := kb_in (kt3 (List.mem_of_getElem? (i := 219) rfl)) rfl
set_option maxRecDepth 100000 in
theorem mw_700 : (Jvm.Cond.selects "MappedProcessorModel" ({ cls := "MappedProcessorModel", name := "general", desc := "(I)I" } : Jvm.MethodName) ({ cls := "MappedProcessorModel", name := "general", desc := "(I)I" } : Jvm.MethodName)) ∈ kBw := kb_in (kt3 (List.mem_of_getElem? (i := 220) rfl)) rfl
set_option maxRecDepth 100000 in
theorem mw_701 : (Jvm.Cond.code ({ cls := "MappedProcessorModel", name := "general", desc := "(I)I" } : Jvm.MethodName) prog_13_method_51_code (2 : Nat) (Option.some Jvm.ClassFile.FieldType.int)) ∈ kBw := kb_in (kt3 (List.mem_of_getElem? (i := 221) rfl)) rfl
set_option maxRecDepth 100000 in
theorem mw_703 : (Jvm.Cond.instanceMethod ({ cls := "MappedProcessorModel", name := "set", desc := "(II)Z" } : Jvm.MethodName)) ∈ kBw := kb_in (kt3 (List.mem_of_getElem? (i := 223) rfl)) rfl
set_option maxRecDepth 100000 in
theorem mw_704 : (Jvm.Cond.selects "MappedProcessorModel" ({ cls := "MappedProcessorModel", name := "set", desc := "(II)Z" } : Jvm.MethodName) ({ cls := "MappedProcessorModel", name := "set", desc := "(II)Z" } : Jvm.MethodName)) ∈ kBw := kb_in (kt3 (List.mem_of_getElem? (i := 224) rfl)) rfl
set_option maxRecDepth 100000 in
theorem mw_705 : (Jvm.Cond.code ({ cls := "MappedProcessorModel", name := "set", desc := "(II)Z" } : Jvm.MethodName) prog_13_method_53_code (3 : Nat) (Option.some Jvm.ClassFile.FieldType.boolean)) ∈ kBw := kb_in (kt3 (List.mem_of_getElem? (i := 225) rfl)) rfl
set_option maxRecDepth 100000 in
theorem mw_706 : (Jvm.Cond.methodLink "MappedProcessorModel" (227 : Nat) ({ cls := "MappedProcessorModel", name := "isSpecial", desc := "(I)Z" } : Jvm.MethodName)) ∈ kBw := kb_in (kt3 (List.mem_of_getElem? (i := 226) rfl)) rfl
set_option maxRecDepth 100000 in
theorem mw_707 : (Jvm.Cond.static ({ cls := "MappedProcessorModel", name := "isSpecial", desc := "(I)Z" } : Jvm.MethodName)) ∈ kBw := kb_in (kt3 (List.mem_of_getElem? (i := 227) rfl)) rfl
set_option maxRecDepth 100000 in
theorem mw_708 : (Jvm.Cond.code ({ cls := "MappedProcessorModel", name := "isSpecial", desc := "(I)Z" } : Jvm.MethodName) prog_13_method_52_code (1 : Nat) (Option.some Jvm.ClassFile.FieldType.boolean)) ∈ kBw := kb_in (kt3 (List.mem_of_getElem? (i := 228) rfl)) rfl
set_option maxRecDepth 100000 in
theorem mw_710 : (Jvm.Cond.instanceMethod ({ cls := "MappedProcessorModel", name := "special", desc := "(I)I" } : Jvm.MethodName)) ∈ kBw := kb_in (kt3 (List.mem_of_getElem? (i := 230) rfl)) rfl
set_option maxRecDepth 100000 in
theorem mw_711 : (Jvm.Cond.selects "MappedProcessorModel" ({ cls := "MappedProcessorModel", name := "special", desc := "(I)I" } : Jvm.MethodName) ({ cls := "MappedProcessorModel", name := "special", desc := "(I)I" } : Jvm.MethodName)) ∈ kBw := kb_in (kt3 (List.mem_of_getElem? (i := 231) rfl)) rfl
set_option maxRecDepth 100000 in
theorem mw_712 : (Jvm.Cond.code ({ cls := "MappedProcessorModel", name := "special", desc := "(I)I" } : Jvm.MethodName) prog_13_method_54_code (2 : Nat) (Option.some Jvm.ClassFile.FieldType.int)) ∈ kBw := kb_in (kt3 (List.mem_of_getElem? (i := 232) rfl)) rfl
set_option maxRecDepth 100000 in
theorem mw_714 : (Jvm.Cond.instanceMethod ({ cls := "MappedProcessorModel", name := "step", desc := "(I)I" } : Jvm.MethodName)) ∈ kBw := kb_in (kt3 (List.mem_of_getElem? (i := 234) rfl)) rfl
set_option maxRecDepth 100000 in
theorem mw_715 : (Jvm.Cond.selects "MappedProcessorModel" ({ cls := "MappedProcessorModel", name := "step", desc := "(I)I" } : Jvm.MethodName) ({ cls := "MappedProcessorModel", name := "step", desc := "(I)I" } : Jvm.MethodName)) ∈ kBw := kb_in (kt3 (List.mem_of_getElem? (i := 235) rfl)) rfl
set_option maxRecDepth 100000 in
theorem mw_716 : (Jvm.Cond.code ({ cls := "MappedProcessorModel", name := "step", desc := "(I)I" } : Jvm.MethodName) prog_13_method_55_code (4 : Nat) (Option.some Jvm.ClassFile.FieldType.int)) ∈ kBw := kb_in (kt3 (List.mem_of_getElem? (i := 236) rfl)) rfl
set_option maxRecDepth 100000 in
theorem mw_717 : (Jvm.Cond.methodLink "MappedProcessorModel" (230 : Nat) ({ cls := "MappedProcessorModel", name := "one", desc := "()Z" } : Jvm.MethodName)) ∈ kBw := kb_in (kt3 (List.mem_of_getElem? (i := 237) rfl)) rfl
set_option maxRecDepth 100000 in
theorem mw_719 : (Jvm.Cond.instanceMethod ({ cls := "MappedProcessorModel", name := "one", desc := "()Z" } : Jvm.MethodName)) ∈ kBw := kb_in (kt3 (List.mem_of_getElem? (i := 239) rfl)) rfl
set_option maxRecDepth 100000 in
theorem mw_720 : (Jvm.Cond.code ({ cls := "MappedProcessorModel", name := "one", desc := "()Z" } : Jvm.MethodName) prog_13_method_12_code (2 : Nat) (Option.some Jvm.ClassFile.FieldType.boolean)) ∈ kBw := kb_in (kt4 (List.mem_of_getElem? (i := 0) rfl)) rfl
set_option maxRecDepth 100000 in
theorem mw_721 : (Jvm.Cond.methodLink "MappedProcessorModel" (69 : Nat) ({ cls := "MappedProcessorModel", name := "resolve", desc := "(II)I" } : Jvm.MethodName)) ∈ kBw := kb_in (kt4 (List.mem_of_getElem? (i := 1) rfl)) rfl
set_option maxRecDepth 100000 in
theorem mw_723 : (Jvm.Cond.instanceMethod ({ cls := "MappedProcessorModel", name := "resolve", desc := "(II)I" } : Jvm.MethodName)) ∈ kBw := kb_in (kt4 (List.mem_of_getElem? (i := 3) rfl)) rfl
set_option maxRecDepth 100000 in
theorem mw_724 : (Jvm.Cond.code ({ cls := "MappedProcessorModel", name := "resolve", desc := "(II)I" } : Jvm.MethodName) prog_13_method_4_code (7 : Nat) (Option.some Jvm.ClassFile.FieldType.int)) ∈ kBw := kb_in (kt4 (List.mem_of_getElem? (i := 4) rfl)) rfl
set_option maxRecDepth 100000 in
theorem mw_725 : (Jvm.Cond.methodLink "MappedProcessorModel" (28 : Nat) ({ cls := "MappedProcessorModel", name := "bit", desc := "(II)Z" } : Jvm.MethodName)) ∈ kBw := kb_in (kt4 (List.mem_of_getElem? (i := 5) rfl)) rfl
set_option maxRecDepth 100000 in
theorem mw_726 : (Jvm.Cond.static ({ cls := "MappedProcessorModel", name := "bit", desc := "(II)Z" } : Jvm.MethodName)) ∈ kBw := kb_in (kt4 (List.mem_of_getElem? (i := 6) rfl)) rfl
set_option maxRecDepth 100000 in
theorem mw_727 : (Jvm.Cond.code ({ cls := "MappedProcessorModel", name := "bit", desc := "(II)Z" } : Jvm.MethodName) prog_13_method_2_code (2 : Nat) (Option.some Jvm.ClassFile.FieldType.boolean)) ∈ kBw := kb_in (kt4 (List.mem_of_getElem? (i := 7) rfl)) rfl
set_option maxRecDepth 100000 in
theorem mw_728 : (Jvm.Cond.methodLink "MappedProcessorModel" (32 : Nat) ({ cls := "MappedProcessorModel", name := "block", desc := "(IIII)I" } : Jvm.MethodName)) ∈ kBw := kb_in (kt4 (List.mem_of_getElem? (i := 8) rfl)) rfl
set_option maxRecDepth 100000 in
theorem mw_730 : (Jvm.Cond.instanceMethod ({ cls := "MappedProcessorModel", name := "block", desc := "(IIII)I" } : Jvm.MethodName)) ∈ kBw := kb_in (kt4 (List.mem_of_getElem? (i := 10) rfl)) rfl
set_option maxRecDepth 100000 in
theorem mw_731 : (Jvm.Cond.code ({ cls := "MappedProcessorModel", name := "block", desc := "(IIII)I" } : Jvm.MethodName) prog_13_method_5_code (6 : Nat) (Option.some Jvm.ClassFile.FieldType.int)) ∈ kBw := kb_in (kt4 (List.mem_of_getElem? (i := 11) rfl)) rfl
set_option maxRecDepth 100000 in
theorem mw_732 : (Jvm.Cond.methodLink "MappedProcessorModel" (36 : Nat) ({ cls := "MappedProcessorModel", name := "paged", desc := "(IIZ)I" } : Jvm.MethodName)) ∈ kBw := kb_in (kt4 (List.mem_of_getElem? (i := 12) rfl)) rfl
set_option maxRecDepth 100000 in
theorem mw_734 : (Jvm.Cond.instanceMethod ({ cls := "MappedProcessorModel", name := "paged", desc := "(IIZ)I" } : Jvm.MethodName)) ∈ kBw := kb_in (kt4 (List.mem_of_getElem? (i := 14) rfl)) rfl
set_option maxRecDepth 100000 in
theorem mw_735 : (Jvm.Cond.code ({ cls := "MappedProcessorModel", name := "paged", desc := "(IIZ)I" } : Jvm.MethodName) prog_13_method_7_code (13 : Nat) (Option.some Jvm.ClassFile.FieldType.int)) ∈ kBw := kb_in (kt4 (List.mem_of_getElem? (i := 15) rfl)) rfl
set_option maxRecDepth 100000 in
theorem mw_736 : (Jvm.Cond.constant "MappedProcessorModel" (41 : Nat) (16777215 : Int32)) ∈ kBw := kb_in (kt4 (List.mem_of_getElem? (i := 16) rfl)) rfl
set_option maxRecDepth 100000 in
theorem mw_737 : (Jvm.Cond.constant "MappedProcessorModel" (42 : Nat) (65535 : Int32)) ∈ kBw := kb_in (kt4 (List.mem_of_getElem? (i := 17) rfl)) rfl
set_option maxRecDepth 100000 in
theorem mw_738 : (Jvm.Cond.constant "MappedProcessorModel" (43 : Nat) (524287 : Int32)) ∈ kBw := kb_in (kt4 (List.mem_of_getElem? (i := 18) rfl)) rfl
set_option maxRecDepth 100000 in
theorem mw_739 : (Jvm.Cond.constant "MappedProcessorModel" (44 : Nat) (-2147483648 : Int32)) ∈ kBw := kb_in (kt4 (List.mem_of_getElem? (i := 19) rfl)) rfl
set_option maxRecDepth 100000 in
theorem mw_740 : (Jvm.Cond.methodLink "MappedProcessorModel" (45 : Nat) ({ cls := "MappedProcessorModel", name := "search", desc := "(II)I" } : Jvm.MethodName)) ∈ kBw := kb_in (kt4 (List.mem_of_getElem? (i := 20) rfl)) rfl
set_option maxRecDepth 100000 in
theorem mw_742 : (Jvm.Cond.instanceMethod ({ cls := "MappedProcessorModel", name := "search", desc := "(II)I" } : Jvm.MethodName)) ∈ kBw := kb_in (kt4 (List.mem_of_getElem? (i := 22) rfl)) rfl
set_option maxRecDepth 100000 in
theorem mw_743 : (Jvm.Cond.code ({ cls := "MappedProcessorModel", name := "search", desc := "(II)I" } : Jvm.MethodName) prog_13_method_6_code (5 : Nat) (Option.some Jvm.ClassFile.FieldType.int)) ∈ kBw := kb_in (kt4 (List.mem_of_getElem? (i := 23) rfl)) rfl
set_option maxRecDepth 100000 in
theorem mw_744 : (Jvm.Cond.constant "MappedProcessorModel" (40 : Nat) (64512 : Int32)) ∈ kBw := kb_in (kt4 (List.mem_of_getElem? (i := 24) rfl)) rfl
set_option maxRecDepth 100000 in
theorem mw_745 : (Jvm.Cond.constant "MappedProcessorModel" (72 : Nat) (1073741824 : Int32)) ∈ kBw := kb_in (kt4 (List.mem_of_getElem? (i := 25) rfl)) rfl
set_option maxRecDepth 100000 in
theorem mw_746 : (Jvm.Cond.constant "MappedProcessorModel" (73 : Nat) (134217728 : Int32)) ∈ kBw := kb_in (kt4 (List.mem_of_getElem? (i := 26) rfl)) rfl
set_option maxRecDepth 100000 in
theorem mw_747 : (Jvm.Cond.constant "MappedProcessorModel" (74 : Nat) (268435456 : Int32)) ∈ kBw := kb_in (kt4 (List.mem_of_getElem? (i := 27) rfl)) rfl
set_option maxRecDepth 100000 in
theorem mw_748 : (Jvm.Cond.methodLink "MappedProcessorModel" (61 : Nat) ({ cls := "MappedProcessorModel", name := "exception", desc := "(II)V" } : Jvm.MethodName)) ∈ kBw := kb_in (kt4 (List.mem_of_getElem? (i := 28) rfl)) rfl
set_option maxRecDepth 100000 in
theorem mw_750 : (Jvm.Cond.instanceMethod ({ cls := "MappedProcessorModel", name := "exception", desc := "(II)V" } : Jvm.MethodName)) ∈ kBw := kb_in (kt4 (List.mem_of_getElem? (i := 30) rfl)) rfl
set_option maxRecDepth 100000 in
theorem mw_751 : (Jvm.Cond.code ({ cls := "MappedProcessorModel", name := "exception", desc := "(II)V" } : Jvm.MethodName) prog_13_method_9_code (3 : Nat) (Option.none : Option Jvm.ClassFile.FieldType)) ∈ kBw := kb_in (kt4 (List.mem_of_getElem? (i := 31) rfl)) rfl
set_option maxRecDepth 100000 in
theorem mw_752 : (Jvm.Cond.constant "MappedProcessorModel" (49 : Nat) (-49201 : Int32)) ∈ kBw := kb_in (kt4 (List.mem_of_getElem? (i := 32) rfl)) rfl
set_option maxRecDepth 100000 in
theorem mw_753 : (Jvm.Cond.methodLink "MappedProcessorModel" (75 : Nat) ({ cls := "MappedProcessorModel", name := "touch", desc := "(I)V" } : Jvm.MethodName)) ∈ kBw := kb_in (kt4 (List.mem_of_getElem? (i := 33) rfl)) rfl
set_option maxRecDepth 100000 in
theorem mw_755 : (Jvm.Cond.instanceMethod ({ cls := "MappedProcessorModel", name := "touch", desc := "(I)V" } : Jvm.MethodName)) ∈ kBw := kb_in (kt4 (List.mem_of_getElem? (i := 35) rfl)) rfl
set_option maxRecDepth 100000 in
theorem mw_756 : (Jvm.Cond.code ({ cls := "MappedProcessorModel", name := "touch", desc := "(I)V" } : Jvm.MethodName) prog_13_method_8_code (2 : Nat) (Option.none : Option Jvm.ClassFile.FieldType)) ∈ kBw := kb_in (kt4 (List.mem_of_getElem? (i := 36) rfl)) rfl
set_option maxRecDepth 100000 in
theorem mw_757 : (Jvm.Cond.methodLink "MappedProcessorModel" (91 : Nat) ({ cls := "MappedProcessorModel", name := "execute", desc := "(I)V" } : Jvm.MethodName)) ∈ kBw := kb_in (kt4 (List.mem_of_getElem? (i := 37) rfl)) rfl
set_option maxRecDepth 100000 in
theorem mw_759 : (Jvm.Cond.instanceMethod ({ cls := "MappedProcessorModel", name := "execute", desc := "(I)V" } : Jvm.MethodName)) ∈ kBw := kb_in (kt4 (List.mem_of_getElem? (i := 39) rfl)) rfl
set_option maxRecDepth 100000 in
theorem mw_760 : (Jvm.Cond.code ({ cls := "MappedProcessorModel", name := "execute", desc := "(I)V" } : Jvm.MethodName) prog_13_method_24_code (3 : Nat) (Option.none : Option Jvm.ClassFile.FieldType)) ∈ kBw := kb_in (kt4 (List.mem_of_getElem? (i := 40) rfl)) rfl
set_option maxRecDepth 100000 in
theorem mw_761 : (Jvm.Cond.methodLink "MappedProcessorModel" (116 : Nat) ({ cls := "MappedProcessorModel", name := "signed16", desc := "()I" } : Jvm.MethodName)) ∈ kBw := kb_in (kt4 (List.mem_of_getElem? (i := 41) rfl)) rfl
set_option maxRecDepth 100000 in
theorem mw_763 : (Jvm.Cond.instanceMethod ({ cls := "MappedProcessorModel", name := "signed16", desc := "()I" } : Jvm.MethodName)) ∈ kBw := kb_in (kt4 (List.mem_of_getElem? (i := 43) rfl)) rfl
set_option maxRecDepth 100000 in
theorem mw_764 : (Jvm.Cond.code ({ cls := "MappedProcessorModel", name := "signed16", desc := "()I" } : Jvm.MethodName) prog_13_method_21_code (1 : Nat) (Option.some Jvm.ClassFile.FieldType.int)) ∈ kBw := kb_in (kt4 (List.mem_of_getElem? (i := 44) rfl)) rfl
set_option maxRecDepth 100000 in
theorem mw_765 : (Jvm.Cond.methodLink "MappedProcessorModel" (120 : Nat) ({ cls := "MappedProcessorModel", name := "trap", desc := "(I)V" } : Jvm.MethodName)) ∈ kBw := kb_in (kt4 (List.mem_of_getElem? (i := 45) rfl)) rfl
set_option maxRecDepth 100000 in
theorem mw_767 : (Jvm.Cond.instanceMethod ({ cls := "MappedProcessorModel", name := "trap", desc := "(I)V" } : Jvm.MethodName)) ∈ kBw := kb_in (kt4 (List.mem_of_getElem? (i := 47) rfl)) rfl
set_option maxRecDepth 100000 in
theorem mw_768 : (Jvm.Cond.code ({ cls := "MappedProcessorModel", name := "trap", desc := "(I)V" } : Jvm.MethodName) prog_13_method_25_code (8 : Nat) (Option.none : Option Jvm.ClassFile.FieldType)) ∈ kBw := kb_in (kt4 (List.mem_of_getElem? (i := 48) rfl)) rfl
set_option maxRecDepth 100000 in
theorem mw_769 : (Jvm.Cond.methodLink "MappedProcessorModel" (103 : Nat) ({ cls := "MappedProcessorModel", name := "unsigned", desc := "(I)J" } : Jvm.MethodName)) ∈ kBw := kb_in (kt4 (List.mem_of_getElem? (i := 49) rfl)) rfl
set_option maxRecDepth 100000 in
theorem mw_770 : (Jvm.Cond.static ({ cls := "MappedProcessorModel", name := "unsigned", desc := "(I)J" } : Jvm.MethodName)) ∈ kBw := kb_in (kt4 (List.mem_of_getElem? (i := 50) rfl)) rfl
set_option maxRecDepth 100000 in
theorem mw_771 : (Jvm.Cond.code ({ cls := "MappedProcessorModel", name := "unsigned", desc := "(I)J" } : Jvm.MethodName) prog_13_method_3_code (1 : Nat) (Option.some Jvm.ClassFile.FieldType.long)) ∈ kBw := kb_in (kt4 (List.mem_of_getElem? (i := 51) rfl)) rfl
set_option maxRecDepth 100000 in
theorem mw_772 : (Jvm.Cond.constantLong "MappedProcessorModel" (19 : Nat) (4294967295 : Int64)) ∈ kBw := kb_in (kt4 (List.mem_of_getElem? (i := 52) rfl)) rfl
set_option maxRecDepth 100000 in
theorem mw_773 : (Jvm.Cond.constant "MappedProcessorModel" (148 : Nat) (131072 : Int32)) ∈ kBw := kb_in (kt4 (List.mem_of_getElem? (i := 53) rfl)) rfl
set_option maxRecDepth 100000 in
theorem mw_774 : (Jvm.Cond.methodLink "MappedProcessorModel" (123 : Nat) ({ cls := "MappedProcessorModel", name := "immediate", desc := "(II)V" } : Jvm.MethodName)) ∈ kBw := kb_in (kt4 (List.mem_of_getElem? (i := 54) rfl)) rfl
set_option maxRecDepth 100000 in
theorem mw_776 : (Jvm.Cond.instanceMethod ({ cls := "MappedProcessorModel", name := "immediate", desc := "(II)V" } : Jvm.MethodName)) ∈ kBw := kb_in (kt4 (List.mem_of_getElem? (i := 56) rfl)) rfl
set_option maxRecDepth 100000 in
theorem mw_777 : (Jvm.Cond.code ({ cls := "MappedProcessorModel", name := "immediate", desc := "(II)V" } : Jvm.MethodName) prog_13_method_26_code (4 : Nat) (Option.none : Option Jvm.ClassFile.FieldType)) ∈ kBw := kb_in (kt4 (List.mem_of_getElem? (i := 57) rfl)) rfl
set_option maxRecDepth 100000 in
theorem mw_778 : (Jvm.Cond.methodLink "MappedProcessorModel" (149 : Nat) ({ cls := "MappedProcessorModel", name := "sum", desc := "(III)I" } : Jvm.MethodName)) ∈ kBw := kb_in (kt4 (List.mem_of_getElem? (i := 58) rfl)) rfl
set_option maxRecDepth 100000 in
theorem mw_780 : (Jvm.Cond.instanceMethod ({ cls := "MappedProcessorModel", name := "sum", desc := "(III)I" } : Jvm.MethodName)) ∈ kBw := kb_in (kt4 (List.mem_of_getElem? (i := 60) rfl)) rfl
set_option maxRecDepth 100000 in
theorem mw_781 : (Jvm.Cond.code ({ cls := "MappedProcessorModel", name := "sum", desc := "(III)I" } : Jvm.MethodName) prog_13_method_18_code (6 : Nat) (Option.some Jvm.ClassFile.FieldType.int)) ∈ kBw := kb_in (kt4 (List.mem_of_getElem? (i := 61) rfl)) rfl
set_option maxRecDepth 100000 in
theorem mw_782 : (Jvm.Cond.constantLong "MappedProcessorModel" (107 : Nat) (4294967296 : Int64)) ∈ kBw := kb_in (kt4 (List.mem_of_getElem? (i := 62) rfl)) rfl
set_option maxRecDepth 100000 in
theorem mw_783 : (Jvm.Cond.methodLink "MappedProcessorModel" (109 : Nat) ({ cls := "MappedProcessorModel", name := "carry", desc := "(Z)V" } : Jvm.MethodName)) ∈ kBw := kb_in (kt4 (List.mem_of_getElem? (i := 63) rfl)) rfl
set_option maxRecDepth 100000 in
theorem mw_785 : (Jvm.Cond.instanceMethod ({ cls := "MappedProcessorModel", name := "carry", desc := "(Z)V" } : Jvm.MethodName)) ∈ kBw := kb_in (kt4 (List.mem_of_getElem? (i := 65) rfl)) rfl
set_option maxRecDepth 100000 in
theorem mw_786 : (Jvm.Cond.code ({ cls := "MappedProcessorModel", name := "carry", desc := "(Z)V" } : Jvm.MethodName) prog_13_method_16_code (2 : Nat) (Option.none : Option Jvm.ClassFile.FieldType)) ∈ kBw := kb_in (kt4 (List.mem_of_getElem? (i := 66) rfl)) rfl
set_option maxRecDepth 100000 in
theorem mw_787 : (Jvm.Cond.constant "MappedProcessorModel" (101 : Nat) (536870912 : Int32)) ∈ kBw := kb_in (kt4 (List.mem_of_getElem? (i := 67) rfl)) rfl
set_option maxRecDepth 100000 in
theorem mw_788 : (Jvm.Cond.constant "MappedProcessorModel" (102 : Nat) (-536870913 : Int32)) ∈ kBw := kb_in (kt4 (List.mem_of_getElem? (i := 68) rfl)) rfl
set_option maxRecDepth 100000 in
theorem mw_789 : (Jvm.Cond.methodLink "MappedProcessorModel" (97 : Nat) ({ cls := "MappedProcessorModel", name := "compare", desc := "(IJJ)V" } : Jvm.MethodName)) ∈ kBw := kb_in (kt4 (List.mem_of_getElem? (i := 69) rfl)) rfl
set_option maxRecDepth 100000 in
theorem mw_791 : (Jvm.Cond.instanceMethod ({ cls := "MappedProcessorModel", name := "compare", desc := "(IJJ)V" } : Jvm.MethodName)) ∈ kBw := kb_in (kt4 (List.mem_of_getElem? (i := 71) rfl)) rfl
set_option maxRecDepth 100000 in
theorem mw_792 : (Jvm.Cond.code ({ cls := "MappedProcessorModel", name := "compare", desc := "(IJJ)V" } : Jvm.MethodName) prog_13_method_14_code (7 : Nat) (Option.none : Option Jvm.ClassFile.FieldType)) ∈ kBw := kb_in (kt4 (List.mem_of_getElem? (i := 72) rfl)) rfl
set_option maxRecDepth 100000 in
theorem mw_793 : (Jvm.Cond.methodLink "MappedProcessorModel" (94 : Nat) ({ cls := "MappedProcessorModel", name := "fieldSet", desc := "(II)V" } : Jvm.MethodName)) ∈ kBw := kb_in (kt4 (List.mem_of_getElem? (i := 73) rfl)) rfl
set_option maxRecDepth 100000 in
theorem mw_795 : (Jvm.Cond.instanceMethod ({ cls := "MappedProcessorModel", name := "fieldSet", desc := "(II)V" } : Jvm.MethodName)) ∈ kBw := kb_in (kt4 (List.mem_of_getElem? (i := 75) rfl)) rfl
set_option maxRecDepth 100000 in
theorem mw_796 : (Jvm.Cond.code ({ cls := "MappedProcessorModel", name := "fieldSet", desc := "(II)V" } : Jvm.MethodName) prog_13_method_13_code (4 : Nat) (Option.none : Option Jvm.ClassFile.FieldType)) ∈ kBw := kb_in (kt4 (List.mem_of_getElem? (i := 76) rfl)) rfl
set_option maxRecDepth 100000 in
theorem mw_797 : (Jvm.Cond.methodLink "MappedProcessorModel" (113 : Nat) ({ cls := "MappedProcessorModel", name := "noteResult", desc := "(I)V" } : Jvm.MethodName)) ∈ kBw := kb_in (kt4 (List.mem_of_getElem? (i := 77) rfl)) rfl
set_option maxRecDepth 100000 in
theorem mw_799 : (Jvm.Cond.instanceMethod ({ cls := "MappedProcessorModel", name := "noteResult", desc := "(I)V" } : Jvm.MethodName)) ∈ kBw := kb_in (kt4 (List.mem_of_getElem? (i := 79) rfl)) rfl
set_option maxRecDepth 100000 in
theorem mw_800 : (Jvm.Cond.code ({ cls := "MappedProcessorModel", name := "noteResult", desc := "(I)V" } : Jvm.MethodName) prog_13_method_15_code (2 : Nat) (Option.none : Option Jvm.ClassFile.FieldType)) ∈ kBw := kb_in (kt4 (List.mem_of_getElem? (i := 80) rfl)) rfl
set_option maxRecDepth 100000 in
theorem mw_801 : (Jvm.Cond.methodLink "MappedProcessorModel" (153 : Nat) ({ cls := "MappedProcessorModel", name := "a0", desc := "()I" } : Jvm.MethodName)) ∈ kBw := kb_in (kt4 (List.mem_of_getElem? (i := 81) rfl)) rfl
set_option maxRecDepth 100000 in
theorem mw_803 : (Jvm.Cond.instanceMethod ({ cls := "MappedProcessorModel", name := "a0", desc := "()I" } : Jvm.MethodName)) ∈ kBw := kb_in (kt4 (List.mem_of_getElem? (i := 83) rfl)) rfl
set_option maxRecDepth 100000 in
theorem mw_804 : (Jvm.Cond.code ({ cls := "MappedProcessorModel", name := "a0", desc := "()I" } : Jvm.MethodName) prog_13_method_22_code (1 : Nat) (Option.some Jvm.ClassFile.FieldType.int)) ∈ kBw := kb_in (kt4 (List.mem_of_getElem? (i := 84) rfl)) rfl
set_option maxRecDepth 100000 in
theorem mw_805 : (Jvm.Cond.constant "MappedProcessorModel" (156 : Nat) (65536 : Int32)) ∈ kBw := kb_in (kt4 (List.mem_of_getElem? (i := 85) rfl)) rfl
set_option maxRecDepth 100000 in
theorem mw_806 : (Jvm.Cond.methodLink "MappedProcessorModel" (126 : Nat) ({ cls := "MappedProcessorModel", name := "branch", desc := "(IIZ)V" } : Jvm.MethodName)) ∈ kBw := kb_in (kt4 (List.mem_of_getElem? (i := 86) rfl)) rfl
set_option maxRecDepth 100000 in
theorem mw_808 : (Jvm.Cond.instanceMethod ({ cls := "MappedProcessorModel", name := "branch", desc := "(IIZ)V" } : Jvm.MethodName)) ∈ kBw := kb_in (kt4 (List.mem_of_getElem? (i := 88) rfl)) rfl
set_option maxRecDepth 100000 in
theorem mw_809 : (Jvm.Cond.code ({ cls := "MappedProcessorModel", name := "branch", desc := "(IIZ)V" } : Jvm.MethodName) prog_13_method_27_code (5 : Nat) (Option.none : Option Jvm.ClassFile.FieldType)) ∈ kBw := kb_in (kt4 (List.mem_of_getElem? (i := 89) rfl)) rfl
set_option maxRecDepth 100000 in
theorem mw_810 : (Jvm.Cond.methodLink "MappedProcessorModel" (157 : Nat) ({ cls := "MappedProcessorModel", name := "crBit", desc := "(I)Z" } : Jvm.MethodName)) ∈ kBw := kb_in (kt4 (List.mem_of_getElem? (i := 90) rfl)) rfl
set_option maxRecDepth 100000 in
theorem mw_812 : (Jvm.Cond.instanceMethod ({ cls := "MappedProcessorModel", name := "crBit", desc := "(I)Z" } : Jvm.MethodName)) ∈ kBw := kb_in (kt4 (List.mem_of_getElem? (i := 92) rfl)) rfl
set_option maxRecDepth 100000 in
theorem mw_813 : (Jvm.Cond.code ({ cls := "MappedProcessorModel", name := "crBit", desc := "(I)Z" } : Jvm.MethodName) prog_13_method_19_code (2 : Nat) (Option.some Jvm.ClassFile.FieldType.boolean)) ∈ kBw := kb_in (kt4 (List.mem_of_getElem? (i := 93) rfl)) rfl
set_option maxRecDepth 100000 in
theorem mw_814 : (Jvm.Cond.methodLink "MappedProcessorModel" (130 : Nat) ({ cls := "MappedProcessorModel", name := "conditions", desc := "(I)V" } : Jvm.MethodName)) ∈ kBw := kb_in (kt4 (List.mem_of_getElem? (i := 94) rfl)) rfl
set_option maxRecDepth 100000 in
theorem mw_816 : (Jvm.Cond.instanceMethod ({ cls := "MappedProcessorModel", name := "conditions", desc := "(I)V" } : Jvm.MethodName)) ∈ kBw := kb_in (kt4 (List.mem_of_getElem? (i := 96) rfl)) rfl
set_option maxRecDepth 100000 in
theorem mw_817 : (Jvm.Cond.code ({ cls := "MappedProcessorModel", name := "conditions", desc := "(I)V" } : Jvm.MethodName) prog_13_method_28_code (4 : Nat) (Option.none : Option Jvm.ClassFile.FieldType)) ∈ kBw := kb_in (kt4 (List.mem_of_getElem? (i := 97) rfl)) rfl
set_option maxRecDepth 100000 in
theorem mw_818 : (Jvm.Cond.methodLink "MappedProcessorModel" (161 : Nat) ({ cls := "MappedProcessorModel", name := "crSet", desc := "(IZ)V" } : Jvm.MethodName)) ∈ kBw := kb_in (kt4 (List.mem_of_getElem? (i := 98) rfl)) rfl
set_option maxRecDepth 100000 in
theorem mw_820 : (Jvm.Cond.instanceMethod ({ cls := "MappedProcessorModel", name := "crSet", desc := "(IZ)V" } : Jvm.MethodName)) ∈ kBw := kb_in (kt4 (List.mem_of_getElem? (i := 100) rfl)) rfl
set_option maxRecDepth 100000 in
theorem mw_821 : (Jvm.Cond.code ({ cls := "MappedProcessorModel", name := "crSet", desc := "(IZ)V" } : Jvm.MethodName) prog_13_method_20_code (4 : Nat) (Option.none : Option Jvm.ClassFile.FieldType)) ∈ kBw := kb_in (kt4 (List.mem_of_getElem? (i := 101) rfl)) rfl
set_option maxRecDepth 100000 in
theorem mw_822 : (Jvm.Cond.methodLink "MappedProcessorModel" (165 : Nat) ({ cls := "MappedProcessorModel", name := "barred", desc := "()Z" } : Jvm.MethodName)) ∈ kBw := kb_in (kt4 (List.mem_of_getElem? (i := 102) rfl)) rfl
set_option maxRecDepth 100000 in
theorem mw_824 : (Jvm.Cond.instanceMethod ({ cls := "MappedProcessorModel", name := "barred", desc := "()Z" } : Jvm.MethodName)) ∈ kBw := kb_in (kt4 (List.mem_of_getElem? (i := 104) rfl)) rfl
set_option maxRecDepth 100000 in
theorem mw_825 : (Jvm.Cond.code ({ cls := "MappedProcessorModel", name := "barred", desc := "()Z" } : Jvm.MethodName) prog_13_method_11_code (1 : Nat) (Option.some Jvm.ClassFile.FieldType.boolean)) ∈ kBw := kb_in (kt4 (List.mem_of_getElem? (i := 105) rfl)) rfl
set_option maxRecDepth 100000 in
theorem mw_826 : (Jvm.Cond.constant "MappedProcessorModel" (65 : Nat) (262144 : Int32)) ∈ kBw := kb_in (kt4 (List.mem_of_getElem? (i := 106) rfl)) rfl
set_option maxRecDepth 100000 in
theorem mw_827 : (Jvm.Cond.methodLink "MappedProcessorModel" (145 : Nat) ({ cls := "MappedProcessorModel", name := "unlisted", desc := "()V" } : Jvm.MethodName)) ∈ kBw := kb_in (kt4 (List.mem_of_getElem? (i := 107) rfl)) rfl
set_option maxRecDepth 100000 in
theorem mw_829 : (Jvm.Cond.instanceMethod ({ cls := "MappedProcessorModel", name := "unlisted", desc := "()V" } : Jvm.MethodName)) ∈ kBw := kb_in (kt4 (List.mem_of_getElem? (i := 109) rfl)) rfl
set_option maxRecDepth 100000 in
theorem mw_830 : (Jvm.Cond.code ({ cls := "MappedProcessorModel", name := "unlisted", desc := "()V" } : Jvm.MethodName) prog_13_method_10_code (1 : Nat) (Option.none : Option Jvm.ClassFile.FieldType)) ∈ kBw := kb_in (kt4 (List.mem_of_getElem? (i := 110) rfl)) rfl
set_option maxRecDepth 100000 in
theorem mw_831 : (Jvm.Cond.constant "MappedProcessorModel" (60 : Nat) (524288 : Int32)) ∈ kBw := kb_in (kt4 (List.mem_of_getElem? (i := 111) rfl)) rfl
set_option maxRecDepth 100000 in
theorem mw_832 : (Jvm.Cond.methodLink "MappedProcessorModel" (133 : Nat) ({ cls := "MappedProcessorModel", name := "rotate", desc := "(I)V" } : Jvm.MethodName)) ∈ kBw := kb_in (kt4 (List.mem_of_getElem? (i := 112) rfl)) rfl
set_option maxRecDepth 100000 in
theorem mw_834 : (Jvm.Cond.instanceMethod ({ cls := "MappedProcessorModel", name := "rotate", desc := "(I)V" } : Jvm.MethodName)) ∈ kBw := kb_in (kt4 (List.mem_of_getElem? (i := 114) rfl)) rfl
set_option maxRecDepth 100000 in
theorem mw_835 : (Jvm.Cond.code ({ cls := "MappedProcessorModel", name := "rotate", desc := "(I)V" } : Jvm.MethodName) prog_13_method_31_code (4 : Nat) (Option.none : Option Jvm.ClassFile.FieldType)) ∈ kBw := kb_in (kt4 (List.mem_of_getElem? (i := 115) rfl)) rfl
set_option maxRecDepth 100000 in
theorem mw_836 : (Jvm.Cond.methodLink "MappedProcessorModel" (169 : Nat) ({ cls := "MappedProcessorModel", name := "mask", desc := "(II)I" } : Jvm.MethodName)) ∈ kBw := kb_in (kt4 (List.mem_of_getElem? (i := 116) rfl)) rfl
set_option maxRecDepth 100000 in
theorem mw_837 : (Jvm.Cond.static ({ cls := "MappedProcessorModel", name := "mask", desc := "(II)I" } : Jvm.MethodName)) ∈ kBw := kb_in (kt4 (List.mem_of_getElem? (i := 117) rfl)) rfl
set_option maxRecDepth 100000 in
theorem mw_838 : (Jvm.Cond.code ({ cls := "MappedProcessorModel", name := "mask", desc := "(II)I" } : Jvm.MethodName) prog_13_method_29_code (5 : Nat) (Option.some Jvm.ClassFile.FieldType.int)) ∈ kBw := kb_in (kt4 (List.mem_of_getElem? (i := 118) rfl)) rfl
set_option maxRecDepth 100000 in
theorem mw_839 : (Jvm.Cond.methodLink "MappedProcessorModel" (172 : Nat) ({ cls := "MappedProcessorModel", name := "turned", desc := "(II)I" } : Jvm.MethodName)) ∈ kBw := kb_in (kt4 (List.mem_of_getElem? (i := 119) rfl)) rfl
set_option maxRecDepth 100000 in
theorem mw_840 : (Jvm.Cond.static ({ cls := "MappedProcessorModel", name := "turned", desc := "(II)I" } : Jvm.MethodName)) ∈ kBw := kb_in (kt4 (List.mem_of_getElem? (i := 120) rfl)) rfl
set_option maxRecDepth 100000 in
theorem mw_841 : (Jvm.Cond.code ({ cls := "MappedProcessorModel", name := "turned", desc := "(II)I" } : Jvm.MethodName) prog_13_method_30_code (4 : Nat) (Option.some Jvm.ClassFile.FieldType.int)) ∈ kBw := kb_in (kt4 (List.mem_of_getElem? (i := 121) rfl)) rfl
set_option maxRecDepth 100000 in
theorem mw_842 : (Jvm.Cond.methodLink "MappedProcessorModel" (175 : Nat) ({ cls := "MappedProcessorModel", name := "result", desc := "(II)V" } : Jvm.MethodName)) ∈ kBw := kb_in (kt4 (List.mem_of_getElem? (i := 122) rfl)) rfl
set_option maxRecDepth 100000 in
theorem mw_844 : (Jvm.Cond.instanceMethod ({ cls := "MappedProcessorModel", name := "result", desc := "(II)V" } : Jvm.MethodName)) ∈ kBw := kb_in (kt4 (List.mem_of_getElem? (i := 124) rfl)) rfl
set_option maxRecDepth 100000 in
theorem mw_845 : (Jvm.Cond.code ({ cls := "MappedProcessorModel", name := "result", desc := "(II)V" } : Jvm.MethodName) prog_13_method_23_code (3 : Nat) (Option.none : Option Jvm.ClassFile.FieldType)) ∈ kBw := kb_in (kt4 (List.mem_of_getElem? (i := 125) rfl)) rfl
set_option maxRecDepth 100000 in
theorem mw_846 : (Jvm.Cond.methodLink "MappedProcessorModel" (136 : Nat) ({ cls := "MappedProcessorModel", name := "logical", desc := "(I)V" } : Jvm.MethodName)) ∈ kBw := kb_in (kt4 (List.mem_of_getElem? (i := 126) rfl)) rfl
set_option maxRecDepth 100000 in
theorem mw_848 : (Jvm.Cond.instanceMethod ({ cls := "MappedProcessorModel", name := "logical", desc := "(I)V" } : Jvm.MethodName)) ∈ kBw := kb_in (kt4 (List.mem_of_getElem? (i := 128) rfl)) rfl
set_option maxRecDepth 100000 in
theorem mw_849 : (Jvm.Cond.code ({ cls := "MappedProcessorModel", name := "logical", desc := "(I)V" } : Jvm.MethodName) prog_13_method_32_code (5 : Nat) (Option.none : Option Jvm.ClassFile.FieldType)) ∈ kBw := kb_in (kt4 (List.mem_of_getElem? (i := 129) rfl)) rfl
set_option maxRecDepth 100000 in
theorem mw_850 : (Jvm.Cond.methodLink "MappedProcessorModel" (139 : Nat) ({ cls := "MappedProcessorModel", name := "extended", desc := "(I)V" } : Jvm.MethodName)) ∈ kBw := kb_in (kt4 (List.mem_of_getElem? (i := 130) rfl)) rfl
set_option maxRecDepth 100000 in
theorem mw_852 : (Jvm.Cond.instanceMethod ({ cls := "MappedProcessorModel", name := "extended", desc := "(I)V" } : Jvm.MethodName)) ∈ kBw := kb_in (kt4 (List.mem_of_getElem? (i := 132) rfl)) rfl
set_option maxRecDepth 100000 in
theorem mw_853 : (Jvm.Cond.code ({ cls := "MappedProcessorModel", name := "extended", desc := "(I)V" } : Jvm.MethodName) prog_13_method_33_code (3 : Nat) (Option.none : Option Jvm.ClassFile.FieldType)) ∈ kBw := kb_in (kt4 (List.mem_of_getElem? (i := 133) rfl)) rfl
set_option maxRecDepth 100000 in
theorem mw_854 : (Jvm.Cond.methodLink "MappedProcessorModel" (178 : Nat) ({ cls := "MappedProcessorModel", name := "reached", desc := "(IIIZ)Z" } : Jvm.MethodName)) ∈ kBw := kb_in (kt4 (List.mem_of_getElem? (i := 134) rfl)) rfl
set_option maxRecDepth 100000 in
theorem mw_856 : (Jvm.Cond.instanceMethod ({ cls := "MappedProcessorModel", name := "reached", desc := "(IIIZ)Z" } : Jvm.MethodName)) ∈ kBw := kb_in (kt4 (List.mem_of_getElem? (i := 136) rfl)) rfl
set_option maxRecDepth 100000 in
theorem mw_857 : (Jvm.Cond.code ({ cls := "MappedProcessorModel", name := "reached", desc := "(IIIZ)Z" } : Jvm.MethodName) prog_13_method_46_code (8 : Nat) (Option.some Jvm.ClassFile.FieldType.boolean)) ∈ kBw := kb_in (kt4 (List.mem_of_getElem? (i := 137) rfl)) rfl
set_option maxRecDepth 100000 in
theorem mw_858 : (Jvm.Cond.methodLink "MappedProcessorModel" (217 : Nat) ({ cls := "MappedProcessorModel", name := "reach", desc := "(III)Z" } : Jvm.MethodName)) ∈ kBw := kb_in (kt4 (List.mem_of_getElem? (i := 138) rfl)) rfl
set_option maxRecDepth 100000 in
theorem mw_860 : (Jvm.Cond.instanceMethod ({ cls := "MappedProcessorModel", name := "reach", desc := "(III)Z" } : Jvm.MethodName)) ∈ kBw := kb_in (kt4 (List.mem_of_getElem? (i := 140) rfl)) rfl
set_option maxRecDepth 100000 in
theorem mw_861 : (Jvm.Cond.code ({ cls := "MappedProcessorModel", name := "reach", desc := "(III)Z" } : Jvm.MethodName) prog_13_method_43_code (5 : Nat) (Option.some Jvm.ClassFile.FieldType.boolean)) ∈ kBw := kb_in (kt4 (List.mem_of_getElem? (i := 141) rfl)) rfl
set_option maxRecDepth 100000 in
theorem mw_862 : (Jvm.Cond.constant "MappedProcessorModel" (213 : Nat) (33554432 : Int32)) ∈ kBw := kb_in (kt4 (List.mem_of_getElem? (i := 142) rfl)) rfl
set_option maxRecDepth 100000 in
theorem mw_863 : (Jvm.Cond.methodLink "MappedProcessorModel" (221 : Nat) ({ cls := "MappedProcessorModel", name := "above", desc := "(I)I" } : Jvm.MethodName)) ∈ kBw := kb_in (kt4 (List.mem_of_getElem? (i := 143) rfl)) rfl
set_option maxRecDepth 100000 in
theorem mw_865 : (Jvm.Cond.instanceMethod ({ cls := "MappedProcessorModel", name := "above", desc := "(I)I" } : Jvm.MethodName)) ∈ kBw := kb_in (kt4 (List.mem_of_getElem? (i := 145) rfl)) rfl
set_option maxRecDepth 100000 in
theorem mw_866 : (Jvm.Cond.code ({ cls := "MappedProcessorModel", name := "above", desc := "(I)I" } : Jvm.MethodName) prog_13_method_44_code (2 : Nat) (Option.some Jvm.ClassFile.FieldType.int)) ∈ kBw := kb_in (kt4 (List.mem_of_getElem? (i := 146) rfl)) rfl
set_option maxRecDepth 100000 in
theorem mw_867 : (Jvm.Cond.methodLink "MappedProcessorModel" (224 : Nat) ({ cls := "MappedProcessorModel", name := "low", desc := "(I)I" } : Jvm.MethodName)) ∈ kBw := kb_in (kt4 (List.mem_of_getElem? (i := 147) rfl)) rfl
set_option maxRecDepth 100000 in
theorem mw_868 : (Jvm.Cond.static ({ cls := "MappedProcessorModel", name := "low", desc := "(I)I" } : Jvm.MethodName)) ∈ kBw := kb_in (kt4 (List.mem_of_getElem? (i := 148) rfl)) rfl
set_option maxRecDepth 100000 in
theorem mw_869 : (Jvm.Cond.code ({ cls := "MappedProcessorModel", name := "low", desc := "(I)I" } : Jvm.MethodName) prog_13_method_45_code (1 : Nat) (Option.some Jvm.ClassFile.FieldType.int)) ∈ kBw := kb_in (kt4 (List.mem_of_getElem? (i := 149) rfl)) rfl
set_option maxRecDepth 100000 in
theorem mw_870 : (Jvm.Cond.methodLink "MappedProcessorModel" (182 : Nat) ({ cls := "MappedProcessorModel", name := "logic", desc := "(I)Z" } : Jvm.MethodName)) ∈ kBw := kb_in (kt4 (List.mem_of_getElem? (i := 150) rfl)) rfl
set_option maxRecDepth 100000 in
theorem mw_872 : (Jvm.Cond.instanceMethod ({ cls := "MappedProcessorModel", name := "logic", desc := "(I)Z" } : Jvm.MethodName)) ∈ kBw := kb_in (kt4 (List.mem_of_getElem? (i := 152) rfl)) rfl
set_option maxRecDepth 100000 in
theorem mw_873 : (Jvm.Cond.code ({ cls := "MappedProcessorModel", name := "logic", desc := "(I)Z" } : Jvm.MethodName) prog_13_method_34_code (5 : Nat) (Option.some Jvm.ClassFile.FieldType.boolean)) ∈ kBw := kb_in (kt4 (List.mem_of_getElem? (i := 153) rfl)) rfl
set_option maxRecDepth 100000 in
theorem mw_874 : (Jvm.Cond.methodLink "MappedProcessorModel" (185 : Nat) ({ cls := "MappedProcessorModel", name := "shifts", desc := "(I)Z" } : Jvm.MethodName)) ∈ kBw := kb_in (kt4 (List.mem_of_getElem? (i := 154) rfl)) rfl
set_option maxRecDepth 100000 in
theorem mw_876 : (Jvm.Cond.instanceMethod ({ cls := "MappedProcessorModel", name := "shifts", desc := "(I)Z" } : Jvm.MethodName)) ∈ kBw := kb_in (kt4 (List.mem_of_getElem? (i := 156) rfl)) rfl
set_option maxRecDepth 100000 in
theorem mw_877 : (Jvm.Cond.code ({ cls := "MappedProcessorModel", name := "shifts", desc := "(I)Z" } : Jvm.MethodName) prog_13_method_36_code (6 : Nat) (Option.some Jvm.ClassFile.FieldType.boolean)) ∈ kBw := kb_in (kt4 (List.mem_of_getElem? (i := 157) rfl)) rfl
set_option maxRecDepth 100000 in
theorem mw_878 : (Jvm.Cond.methodLink "MappedProcessorModel" (200 : Nat) ({ cls := "MappedProcessorModel", name := "zeros", desc := "(I)I" } : Jvm.MethodName)) ∈ kBw := kb_in (kt4 (List.mem_of_getElem? (i := 158) rfl)) rfl
set_option maxRecDepth 100000 in
theorem mw_879 : (Jvm.Cond.static ({ cls := "MappedProcessorModel", name := "zeros", desc := "(I)I" } : Jvm.MethodName)) ∈ kBw := kb_in (kt4 (List.mem_of_getElem? (i := 159) rfl)) rfl
set_option maxRecDepth 100000 in
theorem mw_880 : (Jvm.Cond.code ({ cls := "MappedProcessorModel", name := "zeros", desc := "(I)I" } : Jvm.MethodName) prog_13_method_35_code (3 : Nat) (Option.some Jvm.ClassFile.FieldType.int)) ∈ kBw := kb_in (kt4 (List.mem_of_getElem? (i := 160) rfl)) rfl
set_option maxRecDepth 100000 in
theorem mw_881 : (Jvm.Cond.methodLink "MappedProcessorModel" (188 : Nat) ({ cls := "MappedProcessorModel", name := "arithmetic", desc := "(I)Z" } : Jvm.MethodName)) ∈ kBw := kb_in (kt4 (List.mem_of_getElem? (i := 161) rfl)) rfl
set_option maxRecDepth 100000 in
theorem mw_883 : (Jvm.Cond.instanceMethod ({ cls := "MappedProcessorModel", name := "arithmetic", desc := "(I)Z" } : Jvm.MethodName)) ∈ kBw := kb_in (kt4 (List.mem_of_getElem? (i := 163) rfl)) rfl
set_option maxRecDepth 100000 in
theorem mw_884 : (Jvm.Cond.code ({ cls := "MappedProcessorModel", name := "arithmetic", desc := "(I)Z" } : Jvm.MethodName) prog_13_method_37_code (4 : Nat) (Option.some Jvm.ClassFile.FieldType.boolean)) ∈ kBw := kb_in (kt4 (List.mem_of_getElem? (i := 164) rfl)) rfl
set_option maxRecDepth 100000 in
theorem mw_885 : (Jvm.Cond.methodLink "MappedProcessorModel" (204 : Nat) ({ cls := "MappedProcessorModel", name := "carryIn", desc := "()I" } : Jvm.MethodName)) ∈ kBw := kb_in (kt4 (List.mem_of_getElem? (i := 165) rfl)) rfl
set_option maxRecDepth 100000 in
theorem mw_887 : (Jvm.Cond.instanceMethod ({ cls := "MappedProcessorModel", name := "carryIn", desc := "()I" } : Jvm.MethodName)) ∈ kBw := kb_in (kt4 (List.mem_of_getElem? (i := 167) rfl)) rfl
set_option maxRecDepth 100000 in
theorem mw_888 : (Jvm.Cond.code ({ cls := "MappedProcessorModel", name := "carryIn", desc := "()I" } : Jvm.MethodName) prog_13_method_17_code (1 : Nat) (Option.some Jvm.ClassFile.FieldType.int)) ∈ kBw := kb_in (kt4 (List.mem_of_getElem? (i := 168) rfl)) rfl
set_option maxRecDepth 100000 in
theorem mw_889 : (Jvm.Cond.methodLink "MappedProcessorModel" (191 : Nat) ({ cls := "MappedProcessorModel", name := "products", desc := "(I)Z" } : Jvm.MethodName)) ∈ kBw := kb_in (kt4 (List.mem_of_getElem? (i := 169) rfl)) rfl
set_option maxRecDepth 100000 in
theorem mw_891 : (Jvm.Cond.instanceMethod ({ cls := "MappedProcessorModel", name := "products", desc := "(I)Z" } : Jvm.MethodName)) ∈ kBw := kb_in (kt4 (List.mem_of_getElem? (i := 171) rfl)) rfl
set_option maxRecDepth 100000 in
theorem mw_892 : (Jvm.Cond.code ({ cls := "MappedProcessorModel", name := "products", desc := "(I)Z" } : Jvm.MethodName) prog_13_method_38_code (4 : Nat) (Option.some Jvm.ClassFile.FieldType.boolean)) ∈ kBw := kb_in (kt4 (List.mem_of_getElem? (i := 172) rfl)) rfl
set_option maxRecDepth 100000 in
theorem mw_893 : (Jvm.Cond.methodLink "MappedProcessorModel" (194 : Nat) ({ cls := "MappedProcessorModel", name := "system", desc := "(I)Z" } : Jvm.MethodName)) ∈ kBw := kb_in (kt4 (List.mem_of_getElem? (i := 173) rfl)) rfl
set_option maxRecDepth 100000 in
theorem mw_895 : (Jvm.Cond.instanceMethod ({ cls := "MappedProcessorModel", name := "system", desc := "(I)Z" } : Jvm.MethodName)) ∈ kBw := kb_in (kt4 (List.mem_of_getElem? (i := 175) rfl)) rfl
set_option maxRecDepth 100000 in
theorem mw_896 : (Jvm.Cond.code ({ cls := "MappedProcessorModel", name := "system", desc := "(I)Z" } : Jvm.MethodName) prog_13_method_39_code (3 : Nat) (Option.some Jvm.ClassFile.FieldType.boolean)) ∈ kBw := kb_in (kt4 (List.mem_of_getElem? (i := 176) rfl)) rfl
set_option maxRecDepth 100000 in
theorem mw_897 : (Jvm.Cond.methodLink "MappedProcessorModel" (207 : Nat) ({ cls := "MappedProcessorModel", name := "privileged", desc := "(I)V" } : Jvm.MethodName)) ∈ kBw := kb_in (kt4 (List.mem_of_getElem? (i := 177) rfl)) rfl
set_option maxRecDepth 100000 in
theorem mw_899 : (Jvm.Cond.instanceMethod ({ cls := "MappedProcessorModel", name := "privileged", desc := "(I)V" } : Jvm.MethodName)) ∈ kBw := kb_in (kt4 (List.mem_of_getElem? (i := 179) rfl)) rfl
set_option maxRecDepth 100000 in
theorem mw_900 : (Jvm.Cond.code ({ cls := "MappedProcessorModel", name := "privileged", desc := "(I)V" } : Jvm.MethodName) prog_13_method_40_code (2 : Nat) (Option.none : Option Jvm.ClassFile.FieldType)) ∈ kBw := kb_in (kt4 (List.mem_of_getElem? (i := 180) rfl)) rfl
set_option maxRecDepth 100000 in
theorem mw_901 : (Jvm.Cond.methodLink "MappedProcessorModel" (197 : Nat) ({ cls := "MappedProcessorModel", name := "specials", desc := "(I)Z" } : Jvm.MethodName)) ∈ kBw := kb_in (kt4 (List.mem_of_getElem? (i := 181) rfl)) rfl
set_option maxRecDepth 100000 in
theorem mw_903 : (Jvm.Cond.instanceMethod ({ cls := "MappedProcessorModel", name := "specials", desc := "(I)Z" } : Jvm.MethodName)) ∈ kBw := kb_in (kt4 (List.mem_of_getElem? (i := 183) rfl)) rfl
set_option maxRecDepth 100000 in
theorem mw_904 : (Jvm.Cond.code ({ cls := "MappedProcessorModel", name := "specials", desc := "(I)Z" } : Jvm.MethodName) prog_13_method_42_code (3 : Nat) (Option.some Jvm.ClassFile.FieldType.boolean)) ∈ kBw := kb_in (kt4 (List.mem_of_getElem? (i := 184) rfl)) rfl
set_option maxRecDepth 100000 in
theorem mw_905 : (Jvm.Cond.methodLink "MappedProcessorModel" (210 : Nat) ({ cls := "MappedProcessorModel", name := "registerOf", desc := "(I)I" } : Jvm.MethodName)) ∈ kBw := kb_in (kt4 (List.mem_of_getElem? (i := 185) rfl)) rfl
set_option maxRecDepth 100000 in
theorem mw_906 : (Jvm.Cond.static ({ cls := "MappedProcessorModel", name := "registerOf", desc := "(I)I" } : Jvm.MethodName)) ∈ kBw := kb_in (kt4 (List.mem_of_getElem? (i := 186) rfl)) rfl
set_option maxRecDepth 100000 in
theorem mw_907 : (Jvm.Cond.code ({ cls := "MappedProcessorModel", name := "registerOf", desc := "(I)I" } : Jvm.MethodName) prog_13_method_41_code (1 : Nat) (Option.some Jvm.ClassFile.FieldType.int)) ∈ kBw := kb_in (kt4 (List.mem_of_getElem? (i := 187) rfl)) rfl
set_option maxRecDepth 100000 in
theorem mw_908 : (Jvm.Cond.methodLink "MappedProcessorModel" (142 : Nat) ({ cls := "MappedProcessorModel", name := "access", desc := "(II)V" } : Jvm.MethodName)) ∈ kBw := kb_in (kt4 (List.mem_of_getElem? (i := 188) rfl)) rfl
set_option maxRecDepth 100000 in
theorem mw_910 : (Jvm.Cond.instanceMethod ({ cls := "MappedProcessorModel", name := "access", desc := "(II)V" } : Jvm.MethodName)) ∈ kBw := kb_in (kt4 (List.mem_of_getElem? (i := 190) rfl)) rfl
set_option maxRecDepth 100000 in
theorem mw_911 : (Jvm.Cond.code ({ cls := "MappedProcessorModel", name := "access", desc := "(II)V" } : Jvm.MethodName) prog_13_method_47_code (7 : Nat) (Option.none : Option Jvm.ClassFile.FieldType)) ∈ kBw := kb_in (kt4 (List.mem_of_getElem? (i := 191) rfl)) rfl
set_option maxRecDepth 100000 in
theorem mw_913 : (Jvm.Cond.instanceMethod ({ cls := "MappedProcessorModel", name := "translate", desc := "(II)I" } : Jvm.MethodName)) ∈ kBw := kb_in (kt4 (List.mem_of_getElem? (i := 193) rfl)) rfl
set_option maxRecDepth 100000 in
theorem mw_914 : (Jvm.Cond.selects "MappedProcessorModel" ({ cls := "MappedProcessorModel", name := "translate", desc := "(II)I" } : Jvm.MethodName) ({ cls := "MappedProcessorModel", name := "translate", desc := "(II)I" } : Jvm.MethodName)) ∈ kBw := kb_in (kt4 (List.mem_of_getElem? (i := 194) rfl)) rfl
set_option maxRecDepth 100000 in
theorem mw_915 : (Jvm.Cond.code ({ cls := "MappedProcessorModel", name := "translate", desc := "(II)I" } : Jvm.MethodName) prog_13_method_56_code (4 : Nat) (Option.some Jvm.ClassFile.FieldType.int)) ∈ kBw := kb_in (kt4 (List.mem_of_getElem? (i := 195) rfl)) rfl
set_option maxRecDepth 100000 in
theorem mw_917 : (Jvm.Cond.instanceMethod ({ cls := "MappedProcessorModel", name := "vector", desc := "()I" } : Jvm.MethodName)) ∈ kBw := kb_in (kt4 (List.mem_of_getElem? (i := 197) rfl)) rfl
set_option maxRecDepth 100000 in
theorem mw_918 : (Jvm.Cond.selects "MappedProcessorModel" ({ cls := "MappedProcessorModel", name := "vector", desc := "()I" } : Jvm.MethodName) ({ cls := "MappedProcessorModel", name := "vector", desc := "()I" } : Jvm.MethodName)) ∈ kBw := kb_in (kt4 (List.mem_of_getElem? (i := 198) rfl)) rfl
set_option maxRecDepth 100000 in
theorem mw_919 : (Jvm.Cond.code ({ cls := "MappedProcessorModel", name := "vector", desc := "()I" } : Jvm.MethodName) prog_13_method_57_code (1 : Nat) (Option.some Jvm.ClassFile.FieldType.int)) ∈ kBw := kb_in (kt4 (List.mem_of_getElem? (i := 199) rfl)) rfl
set_option maxRecDepth 100000 in
theorem mw_921 : (Jvm.Cond.instanceMethod ({ cls := "MappedProcessorModel", name := "steps", desc := "()I" } : Jvm.MethodName)) ∈ kBw := kb_in (kt4 (List.mem_of_getElem? (i := 201) rfl)) rfl
set_option maxRecDepth 100000 in
theorem mw_922 : (Jvm.Cond.selects "MappedProcessorModel" ({ cls := "MappedProcessorModel", name := "steps", desc := "()I" } : Jvm.MethodName) ({ cls := "MappedProcessorModel", name := "steps", desc := "()I" } : Jvm.MethodName)) ∈ kBw := kb_in (kt4 (List.mem_of_getElem? (i := 202) rfl)) rfl
set_option maxRecDepth 100000 in
theorem mw_923 : (Jvm.Cond.code ({ cls := "MappedProcessorModel", name := "steps", desc := "()I" } : Jvm.MethodName) prog_13_method_58_code (1 : Nat) (Option.some Jvm.ClassFile.FieldType.int)) ∈ kBw := kb_in (kt4 (List.mem_of_getElem? (i := 203) rfl)) rfl
theorem iw_Acc : ∀ w ∈ u_ws "MappedProcessor$Accesses" T_Acc 3, w ∈ kBw := by
  intro w hw
  obtain ⟨k, hk, rfl⟩ := List.mem_map.mp hw
  have hk := List.mem_range.mp hk
  match k, hk with
  | 0, _ => exact mw_202
  | 1, _ => exact mw_204
  | 2, _ => exact mw_206
  | k + 3, h => exact absurd h (by omega)
theorem iw_Ari : ∀ w ∈ u_ws "MappedProcessor$Arithmetic" T_Ari 1, w ∈ kBw := by
  intro w hw
  obtain ⟨k, hk, rfl⟩ := List.mem_map.mp hw
  have hk := List.mem_range.mp hk
  match k, hk with
  | 0, _ => exact mw_160
  | k + 1, h => exact absurd h (by omega)
theorem iw_Bra : ∀ w ∈ u_ws "MappedProcessor$Branches" T_Bra 1, w ∈ kBw := by
  intro w hw
  obtain ⟨k, hk, rfl⟩ := List.mem_map.mp hw
  have hk := List.mem_range.mp hk
  match k, hk with
  | 0, _ => exact mw_180
  | k + 1, h => exact absurd h (by omega)
theorem iw_Cmp : ∀ w ∈ u_ws "MappedProcessor$Comparisons" T_Cmp 1, w ∈ kBw := by
  intro w hw
  obtain ⟨k, hk, rfl⟩ := List.mem_map.mp hw
  have hk := List.mem_range.mp hk
  match k, hk with
  | 0, _ => exact mw_150
  | k + 1, h => exact absurd h (by omega)
theorem iw_Ctl : ∀ w ∈ u_ws "MappedProcessor$Control" T_Ctl 1, w ∈ kBw := by
  intro w hw
  obtain ⟨k, hk, rfl⟩ := List.mem_map.mp hw
  have hk := List.mem_range.mp hk
  match k, hk with
  | 0, _ => exact mw_190
  | k + 1, h => exact absurd h (by omega)
theorem iw_Ins : ∀ w ∈ u_ws "MappedProcessor$Instruction" T_Ins 8, w ∈ kBw := by
  intro w hw
  obtain ⟨k, hk, rfl⟩ := List.mem_map.mp hw
  have hk := List.mem_range.mp hk
  match k, hk with
  | 0, _ => exact mw_126
  | 1, _ => exact mw_128
  | 2, _ => exact mw_130
  | 3, _ => exact mw_132
  | 4, _ => exact mw_134
  | 5, _ => exact mw_136
  | 6, _ => exact mw_138
  | 7, _ => exact mw_140
  | k + 8, h => exact absurd h (by omega)
theorem iw_Log : ∀ w ∈ u_ws "MappedProcessor$Logic" T_Log 1, w ∈ kBw := by
  intro w hw
  obtain ⟨k, hk, rfl⟩ := List.mem_map.mp hw
  have hk := List.mem_range.mp hk
  match k, hk with
  | 0, _ => exact mw_170
  | k + 1, h => exact absurd h (by omega)
theorem iw_Map : ∀ w ∈ u_ws "MappedProcessor$Mapper" T_Map 3, w ∈ kBw := by
  intro w hw
  obtain ⟨k, hk, rfl⟩ := List.mem_map.mp hw
  have hk := List.mem_range.mp hk
  match k, hk with
  | 0, _ => exact mw_67
  | 1, _ => exact mw_69
  | 2, _ => exact mw_71
  | k + 3, h => exact absurd h (by omega)
theorem iw_Mem : ∀ w ∈ u_ws "MappedProcessor$Memory" T_Mem 1, w ∈ kBw := by
  intro w hw
  obtain ⟨k, hk, rfl⟩ := List.mem_map.mp hw
  have hk := List.mem_range.mp hk
  match k, hk with
  | 0, _ => exact mw_29
  | k + 1, h => exact absurd h (by omega)
theorem iw_Sta : ∀ w ∈ u_ws "MappedProcessor$State" T_Sta 6, w ∈ kBw := by
  intro w hw
  obtain ⟨k, hk, rfl⟩ := List.mem_map.mp hw
  have hk := List.mem_range.mp hk
  match k, hk with
  | 0, _ => exact mw_45
  | 1, _ => exact mw_47
  | 2, _ => exact mw_49
  | 3, _ => exact mw_51
  | 4, _ => exact mw_53
  | 5, _ => exact mw_55
  | k + 6, h => exact absurd h (by omega)
theorem iw_Pro : ∀ w ∈ u_ws "MappedProcessor" T_Pro 10, w ∈ kBw := by
  intro w hw
  obtain ⟨k, hk, rfl⟩ := List.mem_map.mp hw
  have hk := List.mem_range.mp hk
  match k, hk with
  | 0, _ => exact mw_219
  | 1, _ => exact mw_221
  | 2, _ => exact mw_223
  | 3, _ => exact mw_225
  | 4, _ => exact mw_227
  | 5, _ => exact mw_229
  | 6, _ => exact mw_231
  | 7, _ => exact mw_233
  | 8, _ => exact mw_235
  | 9, _ => exact mw_237
  | k + 10, h => exact absurd h (by omega)
theorem iw_Ref : ∀ w ∈ u_ws "MappedProcessorModel" T_Ref 14, w ∈ kBw := by
  intro w hw
  obtain ⟨k, hk, rfl⟩ := List.mem_map.mp hw
  have hk := List.mem_range.mp hk
  match k, hk with
  | 0, _ => exact mw_657
  | 1, _ => exact mw_659
  | 2, _ => exact mw_661
  | 3, _ => exact mw_663
  | 4, _ => exact mw_665
  | 5, _ => exact mw_667
  | 6, _ => exact mw_669
  | 7, _ => exact mw_671
  | 8, _ => exact mw_673
  | 9, _ => exact mw_675
  | 10, _ => exact mw_677
  | 11, _ => exact mw_679
  | 12, _ => exact mw_681
  | 13, _ => exact mw_683
  | k + 14, h => exact absurd h (by omega)
def y_Int_compare : MethodName := ⟨"java/lang/Integer", "compare", "(II)I"⟩
abbrev b_Int_compare : ByteArray := prog_14_method_40_code
def y_Int_compareUnsigned : MethodName := ⟨"java/lang/Integer", "compareUnsigned", "(II)I"⟩
abbrev b_Int_compareUnsigned : ByteArray := prog_14_method_41_code
def y_Int_numberOfLeadingZeros : MethodName := ⟨"java/lang/Integer", "numberOfLeadingZeros", "(I)I"⟩
abbrev b_Int_numberOfLeadingZeros : ByteArray := prog_14_method_47_code
def y_Int_rotateLeft : MethodName := ⟨"java/lang/Integer", "rotateLeft", "(II)I"⟩
abbrev b_Int_rotateLeft : ByteArray := prog_14_method_50_code
def y_Mem_keep : MethodName := ⟨"MappedProcessor$Memory", "keep", "(II)V"⟩
abbrev b_Mem_keep : ByteArray := prog_10_method_3_code
def y_Pro_write : MethodName := ⟨"MappedProcessor", "write", "(II)Z"⟩
abbrev b_Pro_write : ByteArray := prog_1_method_2_code
def y_Mem_at : MethodName := ⟨"MappedProcessor$Memory", "at", "(I)I"⟩
abbrev b_Mem_at : ByteArray := prog_10_method_2_code
def y_Pro_word : MethodName := ⟨"MappedProcessor", "word", "(I)I"⟩
abbrev b_Pro_word : ByteArray := prog_1_method_3_code
def y_Sta_keepRegister : MethodName := ⟨"MappedProcessor$State", "keepRegister", "(II)V"⟩
abbrev b_Sta_keepRegister : ByteArray := prog_11_method_3_code
def y_Pro_put : MethodName := ⟨"MappedProcessor", "put", "(II)Z"⟩
abbrev b_Pro_put : ByteArray := prog_1_method_4_code
def y_Sta_register : MethodName := ⟨"MappedProcessor$State", "register", "(I)I"⟩
abbrev b_Sta_register : ByteArray := prog_11_method_2_code
def y_Pro_general : MethodName := ⟨"MappedProcessor", "general", "(I)I"⟩
abbrev b_Pro_general : ByteArray := prog_1_method_5_code
def y_Pro_isSpecial : MethodName := ⟨"MappedProcessor", "isSpecial", "(I)Z"⟩
abbrev b_Pro_isSpecial : ByteArray := prog_1_method_12_code
def y_Sta_keep : MethodName := ⟨"MappedProcessor$State", "keep", "(II)V"⟩
abbrev b_Sta_keep : ByteArray := prog_11_method_6_code
def y_Pro_set : MethodName := ⟨"MappedProcessor", "set", "(II)Z"⟩
abbrev b_Pro_set : ByteArray := prog_1_method_6_code
def y_Sta_read : MethodName := ⟨"MappedProcessor$State", "read", "(I)I"⟩
abbrev b_Sta_read : ByteArray := prog_11_method_5_code
def y_Pro_special : MethodName := ⟨"MappedProcessor", "special", "(I)I"⟩
abbrev b_Pro_special : ByteArray := prog_1_method_7_code
def y_Sta_exceptions : MethodName := ⟨"MappedProcessor$State", "exceptions", "()I"⟩
abbrev b_Sta_exceptions : ByteArray := prog_11_method_10_code
def y_Sta_begin : MethodName := ⟨"MappedProcessor$State", "begin", "()V"⟩
abbrev b_Sta_begin : ByteArray := prog_11_method_11_code
def y_Sta_has : MethodName := ⟨"MappedProcessor$State", "has", "(II)Z"⟩
abbrev b_Sta_has : ByteArray := prog_11_method_7_code
def y_Map_freeBits : MethodName := ⟨"MappedProcessor$Mapper", "freeBits", "(I)I"⟩
abbrev b_Map_freeBits : ByteArray := prog_9_method_5_code
def y_Map_matchingBlock : MethodName := ⟨"MappedProcessor$Mapper", "matchingBlock", "(II)I"⟩
abbrev b_Map_matchingBlock : ByteArray := prog_9_method_4_code
def y_Map_throughBlock : MethodName := ⟨"MappedProcessor$Mapper", "throughBlock", "(III)I"⟩
abbrev b_Map_throughBlock : ByteArray := prog_9_method_6_code
def y_Map_findEntry : MethodName := ⟨"MappedProcessor$Mapper", "findEntry", "(II)I"⟩
abbrev b_Map_findEntry : ByteArray := prog_9_method_7_code
def y_Map_refuses : MethodName := ⟨"MappedProcessor$Mapper", "refuses", "(IIZ)Z"⟩
abbrev b_Map_refuses : ByteArray := prog_9_method_9_code
def y_Map_throughEntry : MethodName := ⟨"MappedProcessor$Mapper", "throughEntry", "(IIII)I"⟩
abbrev b_Map_throughEntry : ByteArray := prog_9_method_8_code
def y_Map_locate : MethodName := ⟨"MappedProcessor$Mapper", "locate", "(II)I"⟩
abbrev b_Map_locate : ByteArray := prog_9_method_2_code
def y_Pro_causeBit : MethodName := ⟨"MappedProcessor", "causeBit", "(I)I"⟩
abbrev b_Pro_causeBit : ByteArray := prog_1_method_13_code
def y_Sta_raise : MethodName := ⟨"MappedProcessor$State", "raise", "(II)V"⟩
abbrev b_Sta_raise : ByteArray := prog_11_method_14_code
def y_Map_mark : MethodName := ⟨"MappedProcessor$Mapper", "mark", "(I)V"⟩
abbrev b_Map_mark : ByteArray := prog_9_method_3_code
def y_Ins_take : MethodName := ⟨"MappedProcessor$Instruction", "take", "(I)V"⟩
abbrev b_Ins_take : ByteArray := prog_7_method_2_code
def y_Pro_fetches : MethodName := ⟨"MappedProcessor", "fetches", "()Z"⟩
abbrev b_Pro_fetches : ByteArray := prog_1_method_14_code
def y_Cmp_trap : MethodName := ⟨"MappedProcessor$Comparisons", "trap", "(III)V"⟩
abbrev b_Cmp_trap : ByteArray := prog_5_method_4_code
def y_Sta_keepOrder : MethodName := ⟨"MappedProcessor$State", "keepOrder", "(II)V"⟩
abbrev b_Sta_keepOrder : ByteArray := prog_11_method_18_code
def y_Cmp_runsImmediate : MethodName := ⟨"MappedProcessor$Comparisons", "runsImmediate", "(LMappedProcessor$Instruction;)Z"⟩
abbrev b_Cmp_runsImmediate : ByteArray := prog_5_method_2_code
def y_Sta_keepCarry : MethodName := ⟨"MappedProcessor$State", "keepCarry", "(Z)V"⟩
abbrev b_Sta_keepCarry : ByteArray := prog_11_method_17_code
def y_Ari_sumWithCarry : MethodName := ⟨"MappedProcessor$Arithmetic", "sumWithCarry", "(III)I"⟩
abbrev b_Ari_sumWithCarry : ByteArray := prog_3_method_5_code
def y_Sta_registerOrZero : MethodName := ⟨"MappedProcessor$State", "registerOrZero", "(I)I"⟩
abbrev b_Sta_registerOrZero : ByteArray := prog_11_method_4_code
def y_Sta_keepResult : MethodName := ⟨"MappedProcessor$State", "keepResult", "(IIZ)V"⟩
abbrev b_Sta_keepResult : ByteArray := prog_11_method_19_code
def y_Ari_runsImmediate : MethodName := ⟨"MappedProcessor$Arithmetic", "runsImmediate", "(LMappedProcessor$Instruction;)Z"⟩
abbrev b_Ari_runsImmediate : ByteArray := prog_3_method_2_code
def y_Sta_conditionBit : MethodName := ⟨"MappedProcessor$State", "conditionBit", "(I)I"⟩
abbrev b_Sta_conditionBit : ByteArray := prog_11_method_20_code
def y_Bra_taken : MethodName := ⟨"MappedProcessor$Branches", "taken", "(II)Z"⟩
abbrev b_Bra_taken : ByteArray := prog_4_method_5_code
def y_Ins_has : MethodName := ⟨"MappedProcessor$Instruction", "has", "(I)Z"⟩
abbrev b_Ins_has : ByteArray := prog_7_method_3_code
def y_Bra_origin : MethodName := ⟨"MappedProcessor$Branches", "origin", "(LMappedProcessor$Instruction;)I"⟩
abbrev b_Bra_origin : ByteArray := prog_4_method_4_code
def y_Sta_goTo : MethodName := ⟨"MappedProcessor$State", "goTo", "(I)V"⟩
abbrev b_Sta_goTo : ByteArray := prog_11_method_13_code
def y_Bra_branch : MethodName := ⟨"MappedProcessor$Branches", "branch", "(LMappedProcessor$Instruction;ZI)V"⟩
abbrev b_Bra_branch : ByteArray := prog_4_method_6_code
def y_Bra_callSystem : MethodName := ⟨"MappedProcessor$Branches", "callSystem", "()V"⟩
abbrev b_Bra_callSystem : ByteArray := prog_4_method_7_code
def y_Bra_runs : MethodName := ⟨"MappedProcessor$Branches", "runs", "(LMappedProcessor$Instruction;)Z"⟩
abbrev b_Bra_runs : ByteArray := prog_4_method_2_code
def y_Sta_refusesPrivileged : MethodName := ⟨"MappedProcessor$State", "refusesPrivileged", "()Z"⟩
abbrev b_Sta_refusesPrivileged : ByteArray := prog_11_method_15_code
def y_Bra_returnFromException : MethodName := ⟨"MappedProcessor$Branches", "returnFromException", "()V"⟩
abbrev b_Bra_returnFromException : ByteArray := prog_4_method_8_code
def y_Sta_keepConditionBit : MethodName := ⟨"MappedProcessor$State", "keepConditionBit", "(II)V"⟩
abbrev b_Sta_keepConditionBit : ByteArray := prog_11_method_21_code
def y_Bra_runsExtended : MethodName := ⟨"MappedProcessor$Branches", "runsExtended", "(LMappedProcessor$Instruction;)Z"⟩
abbrev b_Bra_runsExtended : ByteArray := prog_4_method_3_code
def y_Log_mask : MethodName := ⟨"MappedProcessor$Logic", "mask", "(II)I"⟩
abbrev b_Log_mask : ByteArray := prog_8_method_7_code
def y_Log_runsRotation : MethodName := ⟨"MappedProcessor$Logic", "runsRotation", "(LMappedProcessor$Instruction;)Z"⟩
abbrev b_Log_runsRotation : ByteArray := prog_8_method_3_code
def y_Log_runsImmediate : MethodName := ⟨"MappedProcessor$Logic", "runsImmediate", "(LMappedProcessor$Instruction;)Z"⟩
abbrev b_Log_runsImmediate : ByteArray := prog_8_method_2_code
def y_Cmp_runsExtended : MethodName := ⟨"MappedProcessor$Comparisons", "runsExtended", "(LMappedProcessor$Instruction;)Z"⟩
abbrev b_Cmp_runsExtended : ByteArray := prog_5_method_3_code
def y_Sta_carry : MethodName := ⟨"MappedProcessor$State", "carry", "()I"⟩
abbrev b_Sta_carry : ByteArray := prog_11_method_16_code
def y_Ari_quotient : MethodName := ⟨"MappedProcessor$Arithmetic", "quotient", "(II)I"⟩
abbrev b_Ari_quotient : ByteArray := prog_3_method_4_code
def y_Ari_runsExtended : MethodName := ⟨"MappedProcessor$Arithmetic", "runsExtended", "(LMappedProcessor$Instruction;)Z"⟩
abbrev b_Ari_runsExtended : ByteArray := prog_3_method_3_code
def y_Log_runsExtended : MethodName := ⟨"MappedProcessor$Logic", "runsExtended", "(LMappedProcessor$Instruction;)Z"⟩
abbrev b_Log_runsExtended : ByteArray := prog_8_method_4_code
def y_Log_signedShift : MethodName := ⟨"MappedProcessor$Logic", "signedShift", "(II)I"⟩
abbrev b_Log_signedShift : ByteArray := prog_8_method_6_code
def y_Log_runsShift : MethodName := ⟨"MappedProcessor$Logic", "runsShift", "(LMappedProcessor$Instruction;)Z"⟩
abbrev b_Log_runsShift : ByteArray := prog_8_method_5_code
def y_Ctl_keepFields : MethodName := ⟨"MappedProcessor$Control", "keepFields", "(LMappedProcessor$Instruction;)V"⟩
abbrev b_Ctl_keepFields : ByteArray := prog_6_method_3_code
def y_Ctl_specialOf : MethodName := ⟨"MappedProcessor$Control", "specialOf", "(I)I"⟩
abbrev b_Ctl_specialOf : ByteArray := prog_6_method_6_code
def y_Ctl_movesSpecial : MethodName := ⟨"MappedProcessor$Control", "movesSpecial", "(LMappedProcessor$Instruction;)Z"⟩
abbrev b_Ctl_movesSpecial : ByteArray := prog_6_method_5_code
def y_Ctl_movePrivileged : MethodName := ⟨"MappedProcessor$Control", "movePrivileged", "(LMappedProcessor$Instruction;)V"⟩
abbrev b_Ctl_movePrivileged : ByteArray := prog_6_method_4_code
def y_Ctl_runs : MethodName := ⟨"MappedProcessor$Control", "runs", "(LMappedProcessor$Instruction;)Z"⟩
abbrev b_Ctl_runs : ByteArray := prog_6_method_2_code
def y_Acc_plainForm : MethodName := ⟨"MappedProcessor$Accesses", "plainForm", "(I)I"⟩
abbrev b_Acc_plainForm : ByteArray := prog_2_method_4_code
def y_Acc_sizeOf : MethodName := ⟨"MappedProcessor$Accesses", "sizeOf", "(I)I"⟩
abbrev b_Acc_sizeOf : ByteArray := prog_2_method_5_code
def y_Acc_stores : MethodName := ⟨"MappedProcessor$Accesses", "stores", "(I)Z"⟩
abbrev b_Acc_stores : ByteArray := prog_2_method_6_code
def y_Acc_refuse : MethodName := ⟨"MappedProcessor$Accesses", "refuse", "(III)V"⟩
abbrev b_Acc_refuse : ByteArray := prog_2_method_10_code
def y_Mem_shift : MethodName := ⟨"MappedProcessor$Memory", "shift", "(II)I"⟩
abbrev b_Mem_shift : ByteArray := prog_10_method_6_code
def y_Mem_mask : MethodName := ⟨"MappedProcessor$Memory", "mask", "(I)I"⟩
abbrev b_Mem_mask : ByteArray := prog_10_method_7_code
def y_Mem_keepPart : MethodName := ⟨"MappedProcessor$Memory", "keepPart", "(III)V"⟩
abbrev b_Mem_keepPart : ByteArray := prog_10_method_5_code
def y_Mem_part : MethodName := ⟨"MappedProcessor$Memory", "part", "(II)I"⟩
abbrev b_Mem_part : ByteArray := prog_10_method_4_code
def y_Acc_moves : MethodName := ⟨"MappedProcessor$Accesses", "moves", "(III)Z"⟩
abbrev b_Acc_moves : ByteArray := prog_2_method_9_code
def y_Acc_runsIndexed : MethodName := ⟨"MappedProcessor$Accesses", "runsIndexed", "(LMappedProcessor$Instruction;)Z"⟩
abbrev b_Acc_runsIndexed : ByteArray := prog_2_method_3_code
def y_Acc_updates : MethodName := ⟨"MappedProcessor$Accesses", "updates", "(I)Z"⟩
abbrev b_Acc_updates : ByteArray := prog_2_method_7_code
def y_Acc_canUpdate : MethodName := ⟨"MappedProcessor$Accesses", "canUpdate", "(LMappedProcessor$Instruction;)Z"⟩
abbrev b_Acc_canUpdate : ByteArray := prog_2_method_8_code
def y_Acc_runs : MethodName := ⟨"MappedProcessor$Accesses", "runs", "(LMappedProcessor$Instruction;)Z"⟩
abbrev b_Acc_runs : ByteArray := prog_2_method_2_code
def y_Pro_performs : MethodName := ⟨"MappedProcessor", "performs", "()Z"⟩
abbrev b_Pro_performs : ByteArray := prog_1_method_15_code
def y_Sta_finish : MethodName := ⟨"MappedProcessor$State", "finish", "()V"⟩
abbrev b_Sta_finish : ByteArray := prog_11_method_12_code
def y_Pro_step : MethodName := ⟨"MappedProcessor", "step", "(I)I"⟩
abbrev b_Pro_step : ByteArray := prog_1_method_8_code
def y_Pro_translate : MethodName := ⟨"MappedProcessor", "translate", "(II)I"⟩
abbrev b_Pro_translate : ByteArray := prog_1_method_9_code
def y_Sta_latestVector : MethodName := ⟨"MappedProcessor$State", "latestVector", "()I"⟩
abbrev b_Sta_latestVector : ByteArray := prog_11_method_8_code
def y_Pro_vector : MethodName := ⟨"MappedProcessor", "vector", "()I"⟩
abbrev b_Pro_vector : ByteArray := prog_1_method_10_code
def y_Sta_stepsMade : MethodName := ⟨"MappedProcessor$State", "stepsMade", "()I"⟩
abbrev b_Sta_stepsMade : ByteArray := prog_11_method_9_code
def y_Pro_steps : MethodName := ⟨"MappedProcessor", "steps", "()I"⟩
abbrev b_Pro_steps : ByteArray := prog_1_method_11_code
def y_Ref_bit : MethodName := ⟨"MappedProcessorModel", "bit", "(II)Z"⟩
abbrev b_Ref_bit : ByteArray := prog_13_method_2_code
def y_Ref_unsigned : MethodName := ⟨"MappedProcessorModel", "unsigned", "(I)J"⟩
abbrev b_Ref_unsigned : ByteArray := prog_13_method_3_code
def y_Ref_block : MethodName := ⟨"MappedProcessorModel", "block", "(IIII)I"⟩
abbrev b_Ref_block : ByteArray := prog_13_method_5_code
def y_Ref_search : MethodName := ⟨"MappedProcessorModel", "search", "(II)I"⟩
abbrev b_Ref_search : ByteArray := prog_13_method_6_code
def y_Ref_paged : MethodName := ⟨"MappedProcessorModel", "paged", "(IIZ)I"⟩
abbrev b_Ref_paged : ByteArray := prog_13_method_7_code
def y_Ref_resolve : MethodName := ⟨"MappedProcessorModel", "resolve", "(II)I"⟩
abbrev b_Ref_resolve : ByteArray := prog_13_method_4_code
def y_Ref_touch : MethodName := ⟨"MappedProcessorModel", "touch", "(I)V"⟩
abbrev b_Ref_touch : ByteArray := prog_13_method_8_code
def y_Ref_exception : MethodName := ⟨"MappedProcessorModel", "exception", "(II)V"⟩
abbrev b_Ref_exception : ByteArray := prog_13_method_9_code
def y_Ref_unlisted : MethodName := ⟨"MappedProcessorModel", "unlisted", "()V"⟩
abbrev b_Ref_unlisted : ByteArray := prog_13_method_10_code
def y_Ref_barred : MethodName := ⟨"MappedProcessorModel", "barred", "()Z"⟩
abbrev b_Ref_barred : ByteArray := prog_13_method_11_code
def y_Ref_signed16 : MethodName := ⟨"MappedProcessorModel", "signed16", "()I"⟩
abbrev b_Ref_signed16 : ByteArray := prog_13_method_21_code
def y_Ref_trap : MethodName := ⟨"MappedProcessorModel", "trap", "(I)V"⟩
abbrev b_Ref_trap : ByteArray := prog_13_method_25_code
def y_Ref_carry : MethodName := ⟨"MappedProcessorModel", "carry", "(Z)V"⟩
abbrev b_Ref_carry : ByteArray := prog_13_method_16_code
def y_Ref_sum : MethodName := ⟨"MappedProcessorModel", "sum", "(III)I"⟩
abbrev b_Ref_sum : ByteArray := prog_13_method_18_code
def y_Ref_fieldSet : MethodName := ⟨"MappedProcessorModel", "fieldSet", "(II)V"⟩
abbrev b_Ref_fieldSet : ByteArray := prog_13_method_13_code
def y_Ref_compare : MethodName := ⟨"MappedProcessorModel", "compare", "(IJJ)V"⟩
abbrev b_Ref_compare : ByteArray := prog_13_method_14_code
def y_Ref_noteResult : MethodName := ⟨"MappedProcessorModel", "noteResult", "(I)V"⟩
abbrev b_Ref_noteResult : ByteArray := prog_13_method_15_code
def y_Ref_a0 : MethodName := ⟨"MappedProcessorModel", "a0", "()I"⟩
abbrev b_Ref_a0 : ByteArray := prog_13_method_22_code
def y_Ref_immediate : MethodName := ⟨"MappedProcessorModel", "immediate", "(II)V"⟩
abbrev b_Ref_immediate : ByteArray := prog_13_method_26_code
def y_Ref_crBit : MethodName := ⟨"MappedProcessorModel", "crBit", "(I)Z"⟩
abbrev b_Ref_crBit : ByteArray := prog_13_method_19_code
def y_Ref_branch : MethodName := ⟨"MappedProcessorModel", "branch", "(IIZ)V"⟩
abbrev b_Ref_branch : ByteArray := prog_13_method_27_code
def y_Ref_crSet : MethodName := ⟨"MappedProcessorModel", "crSet", "(IZ)V"⟩
abbrev b_Ref_crSet : ByteArray := prog_13_method_20_code
def y_Ref_conditions : MethodName := ⟨"MappedProcessorModel", "conditions", "(I)V"⟩
abbrev b_Ref_conditions : ByteArray := prog_13_method_28_code
def y_Ref_mask : MethodName := ⟨"MappedProcessorModel", "mask", "(II)I"⟩
abbrev b_Ref_mask : ByteArray := prog_13_method_29_code
def y_Ref_turned : MethodName := ⟨"MappedProcessorModel", "turned", "(II)I"⟩
abbrev b_Ref_turned : ByteArray := prog_13_method_30_code
def y_Ref_result : MethodName := ⟨"MappedProcessorModel", "result", "(II)V"⟩
abbrev b_Ref_result : ByteArray := prog_13_method_23_code
def y_Ref_rotate : MethodName := ⟨"MappedProcessorModel", "rotate", "(I)V"⟩
abbrev b_Ref_rotate : ByteArray := prog_13_method_31_code
def y_Ref_logical : MethodName := ⟨"MappedProcessorModel", "logical", "(I)V"⟩
abbrev b_Ref_logical : ByteArray := prog_13_method_32_code
def y_Ref_reach : MethodName := ⟨"MappedProcessorModel", "reach", "(III)Z"⟩
abbrev b_Ref_reach : ByteArray := prog_13_method_43_code
def y_Ref_above : MethodName := ⟨"MappedProcessorModel", "above", "(I)I"⟩
abbrev b_Ref_above : ByteArray := prog_13_method_44_code
def y_Ref_low : MethodName := ⟨"MappedProcessorModel", "low", "(I)I"⟩
abbrev b_Ref_low : ByteArray := prog_13_method_45_code
def y_Ref_reached : MethodName := ⟨"MappedProcessorModel", "reached", "(IIIZ)Z"⟩
abbrev b_Ref_reached : ByteArray := prog_13_method_46_code
def y_Ref_logic : MethodName := ⟨"MappedProcessorModel", "logic", "(I)Z"⟩
abbrev b_Ref_logic : ByteArray := prog_13_method_34_code
def y_Ref_zeros : MethodName := ⟨"MappedProcessorModel", "zeros", "(I)I"⟩
abbrev b_Ref_zeros : ByteArray := prog_13_method_35_code
def y_Ref_shifts : MethodName := ⟨"MappedProcessorModel", "shifts", "(I)Z"⟩
abbrev b_Ref_shifts : ByteArray := prog_13_method_36_code
def y_Ref_carryIn : MethodName := ⟨"MappedProcessorModel", "carryIn", "()I"⟩
abbrev b_Ref_carryIn : ByteArray := prog_13_method_17_code
def y_Ref_arithmetic : MethodName := ⟨"MappedProcessorModel", "arithmetic", "(I)Z"⟩
abbrev b_Ref_arithmetic : ByteArray := prog_13_method_37_code
def y_Ref_products : MethodName := ⟨"MappedProcessorModel", "products", "(I)Z"⟩
abbrev b_Ref_products : ByteArray := prog_13_method_38_code
def y_Ref_privileged : MethodName := ⟨"MappedProcessorModel", "privileged", "(I)V"⟩
abbrev b_Ref_privileged : ByteArray := prog_13_method_40_code
def y_Ref_system : MethodName := ⟨"MappedProcessorModel", "system", "(I)Z"⟩
abbrev b_Ref_system : ByteArray := prog_13_method_39_code
def y_Ref_registerOf : MethodName := ⟨"MappedProcessorModel", "registerOf", "(I)I"⟩
abbrev b_Ref_registerOf : ByteArray := prog_13_method_41_code
def y_Ref_specials : MethodName := ⟨"MappedProcessorModel", "specials", "(I)Z"⟩
abbrev b_Ref_specials : ByteArray := prog_13_method_42_code
def y_Ref_extended : MethodName := ⟨"MappedProcessorModel", "extended", "(I)V"⟩
abbrev b_Ref_extended : ByteArray := prog_13_method_33_code
def y_Ref_access : MethodName := ⟨"MappedProcessorModel", "access", "(II)V"⟩
abbrev b_Ref_access : ByteArray := prog_13_method_47_code
def y_Ref_execute : MethodName := ⟨"MappedProcessorModel", "execute", "(I)V"⟩
abbrev b_Ref_execute : ByteArray := prog_13_method_24_code
def y_Ref_one : MethodName := ⟨"MappedProcessorModel", "one", "()Z"⟩
abbrev b_Ref_one : ByteArray := prog_13_method_12_code
def y_Ref_write : MethodName := ⟨"MappedProcessorModel", "write", "(II)Z"⟩
abbrev b_Ref_write : ByteArray := prog_13_method_48_code
def y_Ref_word : MethodName := ⟨"MappedProcessorModel", "word", "(I)I"⟩
abbrev b_Ref_word : ByteArray := prog_13_method_49_code
def y_Ref_put : MethodName := ⟨"MappedProcessorModel", "put", "(II)Z"⟩
abbrev b_Ref_put : ByteArray := prog_13_method_50_code
def y_Ref_general : MethodName := ⟨"MappedProcessorModel", "general", "(I)I"⟩
abbrev b_Ref_general : ByteArray := prog_13_method_51_code
def y_Ref_isSpecial : MethodName := ⟨"MappedProcessorModel", "isSpecial", "(I)Z"⟩
abbrev b_Ref_isSpecial : ByteArray := prog_13_method_52_code
def y_Ref_set : MethodName := ⟨"MappedProcessorModel", "set", "(II)Z"⟩
abbrev b_Ref_set : ByteArray := prog_13_method_53_code
def y_Ref_special : MethodName := ⟨"MappedProcessorModel", "special", "(I)I"⟩
abbrev b_Ref_special : ByteArray := prog_13_method_54_code
def y_Ref_step : MethodName := ⟨"MappedProcessorModel", "step", "(I)I"⟩
abbrev b_Ref_step : ByteArray := prog_13_method_55_code
def y_Ref_translate : MethodName := ⟨"MappedProcessorModel", "translate", "(II)I"⟩
abbrev b_Ref_translate : ByteArray := prog_13_method_56_code
def y_Ref_vector : MethodName := ⟨"MappedProcessorModel", "vector", "()I"⟩
abbrev b_Ref_vector : ByteArray := prog_13_method_57_code
def y_Ref_steps : MethodName := ⟨"MappedProcessorModel", "steps", "()I"⟩
abbrev b_Ref_steps : ByteArray := prog_13_method_58_code
set_option maxRecDepth 100000 in
theorem yl_Int_compare : kYs y_Int_compare b_Int_compare 2 (some .int) 2 := ⟨mw_384, mw_13, mw_385, by decide, by decide, by decide +kernel⟩
set_option maxRecDepth 100000 in
theorem yl_Int_compareUnsigned : kYs y_Int_compareUnsigned b_Int_compareUnsigned 2 (some .int) 2 := ⟨mw_387, mw_13, mw_388, by decide, by decide, by decide +kernel⟩
set_option maxRecDepth 100000 in
theorem yl_Int_numberOfLeadingZeros : kYs y_Int_numberOfLeadingZeros b_Int_numberOfLeadingZeros 2 (some .int) 1 := ⟨mw_518, mw_13, mw_519, by decide, by decide, by decide +kernel⟩
set_option maxRecDepth 100000 in
theorem yl_Int_rotateLeft : kYs y_Int_rotateLeft b_Int_rotateLeft 2 (some .int) 2 := ⟨mw_485, mw_13, mw_486, by decide, by decide, by decide +kernel⟩
set_option maxRecDepth 100000 in
theorem yl_Mem_keep : kY y_Mem_keep b_Mem_keep 3 none 2 := ⟨mw_245, mw_246, mw_2, mw_247, by decide, by decide, by decide +kernel⟩
set_option maxRecDepth 100000 in
theorem yl_Pro_write : kY y_Pro_write b_Pro_write 3 (some .boolean) 2 := ⟨mw_241, mw_242, mw_1, mw_243, by decide, by decide, by decide +kernel⟩
set_option maxRecDepth 100000 in
theorem yl_Mem_at : kY y_Mem_at b_Mem_at 2 (some .int) 1 := ⟨mw_254, mw_255, mw_2, mw_256, by decide, by decide, by decide +kernel⟩
set_option maxRecDepth 100000 in
theorem yl_Pro_word : kY y_Pro_word b_Pro_word 2 (some .int) 1 := ⟨mw_250, mw_251, mw_1, mw_252, by decide, by decide, by decide +kernel⟩
set_option maxRecDepth 100000 in
theorem yl_Sta_keepRegister : kY y_Sta_keepRegister b_Sta_keepRegister 3 none 2 := ⟨mw_262, mw_263, mw_3, mw_264, by decide, by decide, by decide +kernel⟩
set_option maxRecDepth 100000 in
theorem yl_Pro_put : kY y_Pro_put b_Pro_put 3 (some .boolean) 2 := ⟨mw_258, mw_259, mw_1, mw_260, by decide, by decide, by decide +kernel⟩
set_option maxRecDepth 100000 in
theorem yl_Sta_register : kY y_Sta_register b_Sta_register 2 (some .int) 1 := ⟨mw_270, mw_271, mw_3, mw_272, by decide, by decide, by decide +kernel⟩
set_option maxRecDepth 100000 in
theorem yl_Pro_general : kY y_Pro_general b_Pro_general 2 (some .int) 1 := ⟨mw_266, mw_267, mw_1, mw_268, by decide, by decide, by decide +kernel⟩
set_option maxRecDepth 100000 in
theorem yl_Pro_isSpecial : kYs y_Pro_isSpecial b_Pro_isSpecial 1 (some .boolean) 1 := ⟨mw_278, mw_1, mw_279, by decide, by decide, by decide +kernel⟩
set_option maxRecDepth 100000 in
theorem yl_Sta_keep : kY y_Sta_keep b_Sta_keep 3 none 2 := ⟨mw_281, mw_282, mw_3, mw_283, by decide, by decide, by decide +kernel⟩
set_option maxRecDepth 100000 in
theorem yl_Pro_set : kY y_Pro_set b_Pro_set 3 (some .boolean) 2 := ⟨mw_274, mw_275, mw_1, mw_276, by decide, by decide, by decide +kernel⟩
set_option maxRecDepth 100000 in
theorem yl_Sta_read : kY y_Sta_read b_Sta_read 2 (some .int) 1 := ⟨mw_289, mw_290, mw_3, mw_291, by decide, by decide, by decide +kernel⟩
set_option maxRecDepth 100000 in
theorem yl_Pro_special : kY y_Pro_special b_Pro_special 2 (some .int) 1 := ⟨mw_285, mw_286, mw_1, mw_287, by decide, by decide, by decide +kernel⟩
set_option maxRecDepth 100000 in
theorem yl_Sta_exceptions : kY y_Sta_exceptions b_Sta_exceptions 1 (some .int) 0 := ⟨mw_297, mw_298, mw_3, mw_299, by decide, by decide, by decide +kernel⟩
set_option maxRecDepth 100000 in
theorem yl_Sta_begin : kY y_Sta_begin b_Sta_begin 1 none 0 := ⟨mw_301, mw_302, mw_3, mw_303, by decide, by decide, by decide +kernel⟩
set_option maxRecDepth 100000 in
theorem yl_Sta_has : kY y_Sta_has b_Sta_has 3 (some .boolean) 2 := ⟨mw_313, mw_314, mw_3, mw_315, by decide, by decide, by decide +kernel⟩
set_option maxRecDepth 100000 in
theorem yl_Map_freeBits : kYs y_Map_freeBits b_Map_freeBits 1 (some .int) 1 := ⟨mw_323, mw_4, mw_324, by decide, by decide, by decide +kernel⟩
set_option maxRecDepth 100000 in
theorem yl_Map_matchingBlock : kY y_Map_matchingBlock b_Map_matchingBlock 7 (some .int) 2 := ⟨mw_319, (kb_sel (n := 3) (kp1 (List.mem_of_getElem? (i := 1) rfl)) rfl), mw_4, mw_320, by decide, by decide, by decide +kernel⟩
set_option maxRecDepth 100000 in
theorem yl_Map_throughBlock : kY y_Map_throughBlock b_Map_throughBlock 7 (some .int) 3 := ⟨mw_327, (kb_sel (n := 3) (kp1 (List.mem_of_getElem? (i := 2) rfl)) rfl), mw_4, mw_328, by decide, by decide, by decide +kernel⟩
set_option maxRecDepth 100000 in
theorem yl_Map_findEntry : kY y_Map_findEntry b_Map_findEntry 10 (some .int) 2 := ⟨mw_333, (kb_sel (n := 3) (kp1 (List.mem_of_getElem? (i := 3) rfl)) rfl), mw_4, mw_334, by decide, by decide, by decide +kernel⟩
set_option maxRecDepth 100000 in
theorem yl_Map_refuses : kYs y_Map_refuses b_Map_refuses 3 (some .boolean) 3 := ⟨mw_346, mw_4, mw_347, by decide, by decide, by decide +kernel⟩
set_option maxRecDepth 100000 in
theorem yl_Map_throughEntry : kY y_Map_throughEntry b_Map_throughEntry 7 (some .int) 4 := ⟨mw_341, (kb_sel (n := 3) (kp1 (List.mem_of_getElem? (i := 4) rfl)) rfl), mw_4, mw_342, by decide, by decide, by decide +kernel⟩
set_option maxRecDepth 100000 in
theorem yl_Map_locate : kY y_Map_locate b_Map_locate 6 (some .int) 2 := ⟨mw_309, mw_310, mw_4, mw_311, by decide, by decide, by decide +kernel⟩
set_option maxRecDepth 100000 in
theorem yl_Pro_causeBit : kYs y_Pro_causeBit b_Pro_causeBit 1 (some .int) 1 := ⟨mw_349, mw_1, mw_350, by decide, by decide, by decide +kernel⟩
set_option maxRecDepth 100000 in
theorem yl_Sta_raise : kY y_Sta_raise b_Sta_raise 3 none 2 := ⟨mw_355, mw_356, mw_3, mw_357, by decide, by decide, by decide +kernel⟩
set_option maxRecDepth 100000 in
theorem yl_Map_mark : kY y_Map_mark b_Map_mark 3 none 1 := ⟨mw_361, mw_362, mw_4, mw_363, by decide, by decide, by decide +kernel⟩
set_option maxRecDepth 100000 in
theorem yl_Ins_take : kY y_Ins_take b_Ins_take 2 none 1 := ⟨mw_366, mw_367, mw_5, mw_368, by decide, by decide, by decide +kernel⟩
set_option maxRecDepth 100000 in
theorem yl_Pro_fetches : kY y_Pro_fetches b_Pro_fetches 2 (some .boolean) 0 := ⟨mw_306, (kb_sel (n := 10) (kp1 (List.mem_of_getElem? (i := 0) rfl)) rfl), mw_1, mw_307, by decide, by decide, by decide +kernel⟩
set_option maxRecDepth 100000 in
theorem yl_Cmp_trap : kY y_Cmp_trap b_Cmp_trap 7 none 3 := ⟨mw_381, (kb_sel (n := 1) (kp1 (List.mem_of_getElem? (i := 6) rfl)) rfl), mw_6, mw_382, by decide, by decide, by decide +kernel⟩
set_option maxRecDepth 100000 in
theorem yl_Sta_keepOrder : kY y_Sta_keepOrder b_Sta_keepOrder 9 none 2 := ⟨mw_394, mw_395, mw_3, mw_396, by decide, by decide, by decide +kernel⟩
set_option maxRecDepth 100000 in
theorem yl_Cmp_runsImmediate : kY y_Cmp_runsImmediate b_Cmp_runsImmediate 3 (some .boolean) 1 := ⟨mw_375, mw_376, mw_6, mw_377, by decide, by decide, by decide +kernel⟩
set_option maxRecDepth 100000 in
theorem yl_Sta_keepCarry : kY y_Sta_keepCarry b_Sta_keepCarry 2 none 1 := ⟨mw_408, mw_409, mw_3, mw_410, by decide, by decide, by decide +kernel⟩
set_option maxRecDepth 100000 in
theorem yl_Ari_sumWithCarry : kY y_Ari_sumWithCarry b_Ari_sumWithCarry 6 (some .int) 3 := ⟨mw_404, (kb_sel (n := 1) (kp1 (List.mem_of_getElem? (i := 7) rfl)) rfl), mw_7, mw_405, by decide, by decide, by decide +kernel⟩
set_option maxRecDepth 100000 in
theorem yl_Sta_registerOrZero : kY y_Sta_registerOrZero b_Sta_registerOrZero 2 (some .int) 1 := ⟨mw_414, mw_415, mw_3, mw_416, by decide, by decide, by decide +kernel⟩
set_option maxRecDepth 100000 in
theorem yl_Sta_keepResult : kY y_Sta_keepResult b_Sta_keepResult 4 none 3 := ⟨mw_420, mw_421, mw_3, mw_422, by decide, by decide, by decide +kernel⟩
set_option maxRecDepth 100000 in
theorem yl_Ari_runsImmediate : kY y_Ari_runsImmediate b_Ari_runsImmediate 4 (some .boolean) 1 := ⟨mw_398, mw_399, mw_7, mw_400, by decide, by decide, by decide +kernel⟩
set_option maxRecDepth 100000 in
theorem yl_Sta_conditionBit : kY y_Sta_conditionBit b_Sta_conditionBit 2 (some .int) 1 := ⟨mw_435, mw_436, mw_3, mw_437, by decide, by decide, by decide +kernel⟩
set_option maxRecDepth 100000 in
theorem yl_Bra_taken : kY y_Bra_taken b_Bra_taken 5 (some .boolean) 2 := ⟨mw_430, (kb_sel (n := 1) (kp1 (List.mem_of_getElem? (i := 8) rfl)) rfl), mw_9, mw_431, by decide, by decide, by decide +kernel⟩
set_option maxRecDepth 100000 in
theorem yl_Ins_has : kY y_Ins_has b_Ins_has 2 (some .boolean) 1 := ⟨mw_443, mw_444, mw_5, mw_445, by decide, by decide, by decide +kernel⟩
set_option maxRecDepth 100000 in
theorem yl_Bra_origin : kY y_Bra_origin b_Bra_origin 2 (some .int) 1 := ⟨mw_440, (kb_sel (n := 1) (kp1 (List.mem_of_getElem? (i := 9) rfl)) rfl), mw_9, mw_441, by decide, by decide, by decide +kernel⟩
set_option maxRecDepth 100000 in
theorem yl_Sta_goTo : kY y_Sta_goTo b_Sta_goTo 2 none 1 := ⟨mw_451, mw_452, mw_3, mw_453, by decide, by decide, by decide +kernel⟩
set_option maxRecDepth 100000 in
theorem yl_Bra_branch : kY y_Bra_branch b_Bra_branch 4 none 3 := ⟨mw_448, (kb_sel (n := 1) (kp1 (List.mem_of_getElem? (i := 10) rfl)) rfl), mw_9, mw_449, by decide, by decide, by decide +kernel⟩
set_option maxRecDepth 100000 in
theorem yl_Bra_callSystem : kY y_Bra_callSystem b_Bra_callSystem 1 none 0 := ⟨mw_456, (kb_sel (n := 1) (kp1 (List.mem_of_getElem? (i := 11) rfl)) rfl), mw_9, mw_457, by decide, by decide, by decide +kernel⟩
set_option maxRecDepth 100000 in
theorem yl_Bra_runs : kY y_Bra_runs b_Bra_runs 2 (some .boolean) 1 := ⟨mw_425, mw_426, mw_9, mw_427, by decide, by decide, by decide +kernel⟩
set_option maxRecDepth 100000 in
theorem yl_Sta_refusesPrivileged : kY y_Sta_refusesPrivileged b_Sta_refusesPrivileged 1 (some .boolean) 0 := ⟨mw_468, mw_469, mw_3, mw_470, by decide, by decide, by decide +kernel⟩
set_option maxRecDepth 100000 in
theorem yl_Bra_returnFromException : kY y_Bra_returnFromException b_Bra_returnFromException 1 none 0 := ⟨mw_465, (kb_sel (n := 1) (kp1 (List.mem_of_getElem? (i := 12) rfl)) rfl), mw_9, mw_466, by decide, by decide, by decide +kernel⟩
set_option maxRecDepth 100000 in
theorem yl_Sta_keepConditionBit : kY y_Sta_keepConditionBit b_Sta_keepConditionBit 4 none 2 := ⟨mw_476, mw_477, mw_3, mw_478, by decide, by decide, by decide +kernel⟩
set_option maxRecDepth 100000 in
theorem yl_Bra_runsExtended : kY y_Bra_runsExtended b_Bra_runsExtended 2 (some .boolean) 1 := ⟨mw_460, mw_461, mw_9, mw_462, by decide, by decide, by decide +kernel⟩
set_option maxRecDepth 100000 in
theorem yl_Log_mask : kYs y_Log_mask b_Log_mask 4 (some .int) 2 := ⟨mw_488, mw_8, mw_489, by decide, by decide, by decide +kernel⟩
set_option maxRecDepth 100000 in
theorem yl_Log_runsRotation : kY y_Log_runsRotation b_Log_runsRotation 6 (some .boolean) 1 := ⟨mw_480, mw_481, mw_8, mw_482, by decide, by decide, by decide +kernel⟩
set_option maxRecDepth 100000 in
theorem yl_Log_runsImmediate : kY y_Log_runsImmediate b_Log_runsImmediate 4 (some .boolean) 1 := ⟨mw_493, mw_494, mw_8, mw_495, by decide, by decide, by decide +kernel⟩
set_option maxRecDepth 100000 in
theorem yl_Cmp_runsExtended : kY y_Cmp_runsExtended b_Cmp_runsExtended 4 (some .boolean) 1 := ⟨mw_497, mw_498, mw_6, mw_499, by decide, by decide, by decide +kernel⟩
set_option maxRecDepth 100000 in
theorem yl_Sta_carry : kY y_Sta_carry b_Sta_carry 1 (some .int) 0 := ⟨mw_505, mw_506, mw_3, mw_507, by decide, by decide, by decide +kernel⟩
set_option maxRecDepth 100000 in
theorem yl_Ari_quotient : kYs y_Ari_quotient b_Ari_quotient 2 (some .int) 2 := ⟨mw_509, mw_7, mw_510, by decide, by decide, by decide +kernel⟩
set_option maxRecDepth 100000 in
theorem yl_Ari_runsExtended : kY y_Ari_runsExtended b_Ari_runsExtended 5 (some .boolean) 1 := ⟨mw_501, mw_502, mw_7, mw_503, by decide, by decide, by decide +kernel⟩
set_option maxRecDepth 100000 in
theorem yl_Log_runsExtended : kY y_Log_runsExtended b_Log_runsExtended 5 (some .boolean) 1 := ⟨mw_514, mw_515, mw_8, mw_516, by decide, by decide, by decide +kernel⟩
set_option maxRecDepth 100000 in
theorem yl_Log_signedShift : kY y_Log_signedShift b_Log_signedShift 4 (some .int) 2 := ⟨mw_527, (kb_sel (n := 1) (kp1 (List.mem_of_getElem? (i := 13) rfl)) rfl), mw_8, mw_528, by decide, by decide, by decide +kernel⟩
set_option maxRecDepth 100000 in
theorem yl_Log_runsShift : kY y_Log_runsShift b_Log_runsShift 5 (some .boolean) 1 := ⟨mw_522, mw_523, mw_8, mw_524, by decide, by decide, by decide +kernel⟩
set_option maxRecDepth 100000 in
theorem yl_Ctl_keepFields : kY y_Ctl_keepFields b_Ctl_keepFields 4 none 1 := ⟨mw_538, (kb_sel (n := 1) (kp1 (List.mem_of_getElem? (i := 14) rfl)) rfl), mw_10, mw_539, by decide, by decide, by decide +kernel⟩
set_option maxRecDepth 100000 in
theorem yl_Ctl_specialOf : kYs y_Ctl_specialOf b_Ctl_specialOf 1 (some .int) 1 := ⟨mw_548, mw_10, mw_549, by decide, by decide, by decide +kernel⟩
set_option maxRecDepth 100000 in
theorem yl_Ctl_movesSpecial : kY y_Ctl_movesSpecial b_Ctl_movesSpecial 4 (some .boolean) 1 := ⟨mw_545, (kb_sel (n := 1) (kp1 (List.mem_of_getElem? (i := 15) rfl)) rfl), mw_10, mw_546, by decide, by decide, by decide +kernel⟩
set_option maxRecDepth 100000 in
theorem yl_Ctl_movePrivileged : kY y_Ctl_movePrivileged b_Ctl_movePrivileged 3 none 1 := ⟨mw_553, (kb_sel (n := 1) (kp2 (List.mem_of_getElem? (i := 0) rfl)) rfl), mw_10, mw_554, by decide, by decide, by decide +kernel⟩
set_option maxRecDepth 100000 in
theorem yl_Ctl_runs : kY y_Ctl_runs b_Ctl_runs 2 (some .boolean) 1 := ⟨mw_531, mw_532, mw_10, mw_533, by decide, by decide, by decide +kernel⟩
set_option maxRecDepth 100000 in
theorem yl_Acc_plainForm : kYs y_Acc_plainForm b_Acc_plainForm 1 (some .int) 1 := ⟨mw_561, mw_11, mw_562, by decide, by decide, by decide +kernel⟩
set_option maxRecDepth 100000 in
theorem yl_Acc_sizeOf : kYs y_Acc_sizeOf b_Acc_sizeOf 1 (some .int) 1 := ⟨mw_570, mw_11, mw_571, by decide, by decide, by decide +kernel⟩
set_option maxRecDepth 100000 in
theorem yl_Acc_stores : kYs y_Acc_stores b_Acc_stores 1 (some .boolean) 1 := ⟨mw_575, mw_11, mw_576, by decide, by decide, by decide +kernel⟩
set_option maxRecDepth 100000 in
theorem yl_Acc_refuse : kY y_Acc_refuse b_Acc_refuse 4 none 3 := ⟨mw_580, (kb_sel (n := 3) (kp2 (List.mem_of_getElem? (i := 2) rfl)) rfl), mw_11, mw_581, by decide, by decide, by decide +kernel⟩
set_option maxRecDepth 100000 in
theorem yl_Mem_shift : kYs y_Mem_shift b_Mem_shift 2 (some .int) 2 := ⟨mw_590, mw_2, mw_591, by decide, by decide, by decide +kernel⟩
set_option maxRecDepth 100000 in
theorem yl_Mem_mask : kYs y_Mem_mask b_Mem_mask 1 (some .int) 1 := ⟨mw_593, mw_2, mw_594, by decide, by decide, by decide +kernel⟩
set_option maxRecDepth 100000 in
theorem yl_Mem_keepPart : kY y_Mem_keepPart b_Mem_keepPart 6 none 3 := ⟨mw_586, mw_587, mw_2, mw_588, by decide, by decide, by decide +kernel⟩
set_option maxRecDepth 100000 in
theorem yl_Mem_part : kY y_Mem_part b_Mem_part 3 (some .int) 2 := ⟨mw_598, mw_599, mw_2, mw_600, by decide, by decide, by decide +kernel⟩
set_option maxRecDepth 100000 in
theorem yl_Acc_moves : kY y_Acc_moves b_Acc_moves 8 (some .boolean) 3 := ⟨mw_567, (kb_sel (n := 3) (kp2 (List.mem_of_getElem? (i := 1) rfl)) rfl), mw_11, mw_568, by decide, by decide, by decide +kernel⟩
set_option maxRecDepth 100000 in
theorem yl_Acc_runsIndexed : kY y_Acc_runsIndexed b_Acc_runsIndexed 3 (some .boolean) 1 := ⟨mw_557, mw_558, mw_11, mw_559, by decide, by decide, by decide +kernel⟩
set_option maxRecDepth 100000 in
theorem yl_Acc_updates : kYs y_Acc_updates b_Acc_updates 1 (some .boolean) 1 := ⟨mw_607, mw_11, mw_608, by decide, by decide, by decide +kernel⟩
set_option maxRecDepth 100000 in
theorem yl_Acc_canUpdate : kYs y_Acc_canUpdate b_Acc_canUpdate 1 (some .boolean) 1 := ⟨mw_610, mw_11, mw_611, by decide, by decide, by decide +kernel⟩
set_option maxRecDepth 100000 in
theorem yl_Acc_runs : kY y_Acc_runs b_Acc_runs 3 (some .boolean) 1 := ⟨mw_603, mw_604, mw_11, mw_605, by decide, by decide, by decide +kernel⟩
set_option maxRecDepth 100000 in
theorem yl_Pro_performs : kY y_Pro_performs b_Pro_performs 2 (some .boolean) 0 := ⟨mw_372, (kb_sel (n := 10) (kp1 (List.mem_of_getElem? (i := 5) rfl)) rfl), mw_1, mw_373, by decide, by decide, by decide +kernel⟩
set_option maxRecDepth 100000 in
theorem yl_Sta_finish : kY y_Sta_finish b_Sta_finish 1 none 0 := ⟨mw_614, mw_615, mw_3, mw_616, by decide, by decide, by decide +kernel⟩
set_option maxRecDepth 100000 in
theorem yl_Pro_step : kY y_Pro_step b_Pro_step 4 (some .int) 1 := ⟨mw_293, mw_294, mw_1, mw_295, by decide, by decide, by decide +kernel⟩
set_option maxRecDepth 100000 in
theorem yl_Pro_translate : kY y_Pro_translate b_Pro_translate 3 (some .int) 2 := ⟨mw_618, mw_619, mw_1, mw_620, by decide, by decide, by decide +kernel⟩
set_option maxRecDepth 100000 in
theorem yl_Sta_latestVector : kY y_Sta_latestVector b_Sta_latestVector 1 (some .int) 0 := ⟨mw_626, mw_627, mw_3, mw_628, by decide, by decide, by decide +kernel⟩
set_option maxRecDepth 100000 in
theorem yl_Pro_vector : kY y_Pro_vector b_Pro_vector 1 (some .int) 0 := ⟨mw_622, mw_623, mw_1, mw_624, by decide, by decide, by decide +kernel⟩
set_option maxRecDepth 100000 in
theorem yl_Sta_stepsMade : kY y_Sta_stepsMade b_Sta_stepsMade 1 (some .int) 0 := ⟨mw_634, mw_635, mw_3, mw_636, by decide, by decide, by decide +kernel⟩
set_option maxRecDepth 100000 in
theorem yl_Pro_steps : kY y_Pro_steps b_Pro_steps 1 (some .int) 0 := ⟨mw_630, mw_631, mw_1, mw_632, by decide, by decide, by decide +kernel⟩
set_option maxRecDepth 100000 in
theorem yl_Ref_bit : kYs y_Ref_bit b_Ref_bit 2 (some .boolean) 2 := ⟨mw_726, mw_12, mw_727, by decide, by decide, by decide +kernel⟩
set_option maxRecDepth 100000 in
theorem yl_Ref_unsigned : kYs y_Ref_unsigned b_Ref_unsigned 1 (some .long) 1 := ⟨mw_770, mw_12, mw_771, by decide, by decide, by decide +kernel⟩
set_option maxRecDepth 100000 in
theorem yl_Ref_block : kY y_Ref_block b_Ref_block 6 (some .int) 4 := ⟨mw_730, (kb_sel (n := 14) (kp2 (List.mem_of_getElem? (i := 5) rfl)) rfl), mw_12, mw_731, by decide, by decide, by decide +kernel⟩
set_option maxRecDepth 100000 in
theorem yl_Ref_search : kY y_Ref_search b_Ref_search 5 (some .int) 2 := ⟨mw_742, (kb_sel (n := 14) (kp2 (List.mem_of_getElem? (i := 7) rfl)) rfl), mw_12, mw_743, by decide, by decide, by decide +kernel⟩
set_option maxRecDepth 100000 in
theorem yl_Ref_paged : kY y_Ref_paged b_Ref_paged 13 (some .int) 3 := ⟨mw_734, (kb_sel (n := 14) (kp2 (List.mem_of_getElem? (i := 6) rfl)) rfl), mw_12, mw_735, by decide, by decide, by decide +kernel⟩
set_option maxRecDepth 100000 in
theorem yl_Ref_resolve : kY y_Ref_resolve b_Ref_resolve 7 (some .int) 2 := ⟨mw_723, (kb_sel (n := 14) (kp2 (List.mem_of_getElem? (i := 4) rfl)) rfl), mw_12, mw_724, by decide, by decide, by decide +kernel⟩
set_option maxRecDepth 100000 in
theorem yl_Ref_touch : kY y_Ref_touch b_Ref_touch 2 none 1 := ⟨mw_755, (kb_sel (n := 14) (kp2 (List.mem_of_getElem? (i := 9) rfl)) rfl), mw_12, mw_756, by decide, by decide, by decide +kernel⟩
set_option maxRecDepth 100000 in
theorem yl_Ref_exception : kY y_Ref_exception b_Ref_exception 3 none 2 := ⟨mw_750, (kb_sel (n := 14) (kp2 (List.mem_of_getElem? (i := 8) rfl)) rfl), mw_12, mw_751, by decide, by decide, by decide +kernel⟩
set_option maxRecDepth 100000 in
theorem yl_Ref_unlisted : kY y_Ref_unlisted b_Ref_unlisted 1 none 0 := ⟨mw_829, (kb_sel (n := 14) (kp3 (List.mem_of_getElem? (i := 9) rfl)) rfl), mw_12, mw_830, by decide, by decide, by decide +kernel⟩
set_option maxRecDepth 100000 in
theorem yl_Ref_barred : kY y_Ref_barred b_Ref_barred 1 (some .boolean) 0 := ⟨mw_824, (kb_sel (n := 14) (kp3 (List.mem_of_getElem? (i := 8) rfl)) rfl), mw_12, mw_825, by decide, by decide, by decide +kernel⟩
set_option maxRecDepth 100000 in
theorem yl_Ref_signed16 : kY y_Ref_signed16 b_Ref_signed16 1 (some .int) 0 := ⟨mw_763, (kb_sel (n := 14) (kp2 (List.mem_of_getElem? (i := 11) rfl)) rfl), mw_12, mw_764, by decide, by decide, by decide +kernel⟩
set_option maxRecDepth 100000 in
theorem yl_Ref_trap : kY y_Ref_trap b_Ref_trap 8 none 1 := ⟨mw_767, (kb_sel (n := 14) (kp2 (List.mem_of_getElem? (i := 12) rfl)) rfl), mw_12, mw_768, by decide, by decide, by decide +kernel⟩
set_option maxRecDepth 100000 in
theorem yl_Ref_carry : kY y_Ref_carry b_Ref_carry 2 none 1 := ⟨mw_785, (kb_sel (n := 14) (kp2 (List.mem_of_getElem? (i := 15) rfl)) rfl), mw_12, mw_786, by decide, by decide, by decide +kernel⟩
set_option maxRecDepth 100000 in
theorem yl_Ref_sum : kY y_Ref_sum b_Ref_sum 6 (some .int) 3 := ⟨mw_780, (kb_sel (n := 14) (kp2 (List.mem_of_getElem? (i := 14) rfl)) rfl), mw_12, mw_781, by decide, by decide, by decide +kernel⟩
set_option maxRecDepth 100000 in
theorem yl_Ref_fieldSet : kY y_Ref_fieldSet b_Ref_fieldSet 4 none 2 := ⟨mw_795, (kb_sel (n := 14) (kp3 (List.mem_of_getElem? (i := 1) rfl)) rfl), mw_12, mw_796, by decide, by decide, by decide +kernel⟩
set_option maxRecDepth 100000 in
theorem yl_Ref_compare : kY y_Ref_compare b_Ref_compare 7 none 3 := ⟨mw_791, (kb_sel (n := 14) (kp3 (List.mem_of_getElem? (i := 0) rfl)) rfl), mw_12, mw_792, by decide, by decide, by decide +kernel⟩
set_option maxRecDepth 100000 in
theorem yl_Ref_noteResult : kY y_Ref_noteResult b_Ref_noteResult 2 none 1 := ⟨mw_799, (kb_sel (n := 14) (kp3 (List.mem_of_getElem? (i := 2) rfl)) rfl), mw_12, mw_800, by decide, by decide, by decide +kernel⟩
set_option maxRecDepth 100000 in
theorem yl_Ref_a0 : kY y_Ref_a0 b_Ref_a0 1 (some .int) 0 := ⟨mw_803, (kb_sel (n := 14) (kp3 (List.mem_of_getElem? (i := 3) rfl)) rfl), mw_12, mw_804, by decide, by decide, by decide +kernel⟩
set_option maxRecDepth 100000 in
theorem yl_Ref_immediate : kY y_Ref_immediate b_Ref_immediate 4 none 2 := ⟨mw_776, (kb_sel (n := 14) (kp2 (List.mem_of_getElem? (i := 13) rfl)) rfl), mw_12, mw_777, by decide, by decide, by decide +kernel⟩
set_option maxRecDepth 100000 in
theorem yl_Ref_crBit : kY y_Ref_crBit b_Ref_crBit 2 (some .boolean) 1 := ⟨mw_812, (kb_sel (n := 14) (kp3 (List.mem_of_getElem? (i := 5) rfl)) rfl), mw_12, mw_813, by decide, by decide, by decide +kernel⟩
set_option maxRecDepth 100000 in
theorem yl_Ref_branch : kY y_Ref_branch b_Ref_branch 5 none 3 := ⟨mw_808, (kb_sel (n := 14) (kp3 (List.mem_of_getElem? (i := 4) rfl)) rfl), mw_12, mw_809, by decide, by decide, by decide +kernel⟩
set_option maxRecDepth 100000 in
theorem yl_Ref_crSet : kY y_Ref_crSet b_Ref_crSet 4 none 2 := ⟨mw_820, (kb_sel (n := 14) (kp3 (List.mem_of_getElem? (i := 7) rfl)) rfl), mw_12, mw_821, by decide, by decide, by decide +kernel⟩
set_option maxRecDepth 100000 in
theorem yl_Ref_conditions : kY y_Ref_conditions b_Ref_conditions 4 none 1 := ⟨mw_816, (kb_sel (n := 14) (kp3 (List.mem_of_getElem? (i := 6) rfl)) rfl), mw_12, mw_817, by decide, by decide, by decide +kernel⟩
set_option maxRecDepth 100000 in
theorem yl_Ref_mask : kYs y_Ref_mask b_Ref_mask 5 (some .int) 2 := ⟨mw_837, mw_12, mw_838, by decide, by decide, by decide +kernel⟩
set_option maxRecDepth 100000 in
theorem yl_Ref_turned : kYs y_Ref_turned b_Ref_turned 4 (some .int) 2 := ⟨mw_840, mw_12, mw_841, by decide, by decide, by decide +kernel⟩
set_option maxRecDepth 100000 in
theorem yl_Ref_result : kY y_Ref_result b_Ref_result 3 none 2 := ⟨mw_844, (kb_sel (n := 14) (kp3 (List.mem_of_getElem? (i := 11) rfl)) rfl), mw_12, mw_845, by decide, by decide, by decide +kernel⟩
set_option maxRecDepth 100000 in
theorem yl_Ref_rotate : kY y_Ref_rotate b_Ref_rotate 4 none 1 := ⟨mw_834, (kb_sel (n := 14) (kp3 (List.mem_of_getElem? (i := 10) rfl)) rfl), mw_12, mw_835, by decide, by decide, by decide +kernel⟩
set_option maxRecDepth 100000 in
theorem yl_Ref_logical : kY y_Ref_logical b_Ref_logical 5 none 1 := ⟨mw_848, (kb_sel (n := 14) (kp3 (List.mem_of_getElem? (i := 12) rfl)) rfl), mw_12, mw_849, by decide, by decide, by decide +kernel⟩
set_option maxRecDepth 100000 in
theorem yl_Ref_reach : kY y_Ref_reach b_Ref_reach 5 (some .boolean) 3 := ⟨mw_860, (kb_sel (n := 14) (kp3 (List.mem_of_getElem? (i := 15) rfl)) rfl), mw_12, mw_861, by decide, by decide, by decide +kernel⟩
set_option maxRecDepth 100000 in
theorem yl_Ref_above : kY y_Ref_above b_Ref_above 2 (some .int) 1 := ⟨mw_865, (kb_sel (n := 14) (kp4 (List.mem_of_getElem? (i := 0) rfl)) rfl), mw_12, mw_866, by decide, by decide, by decide +kernel⟩
set_option maxRecDepth 100000 in
theorem yl_Ref_low : kYs y_Ref_low b_Ref_low 1 (some .int) 1 := ⟨mw_868, mw_12, mw_869, by decide, by decide, by decide +kernel⟩
set_option maxRecDepth 100000 in
theorem yl_Ref_reached : kY y_Ref_reached b_Ref_reached 8 (some .boolean) 4 := ⟨mw_856, (kb_sel (n := 14) (kp3 (List.mem_of_getElem? (i := 14) rfl)) rfl), mw_12, mw_857, by decide, by decide, by decide +kernel⟩
set_option maxRecDepth 100000 in
theorem yl_Ref_logic : kY y_Ref_logic b_Ref_logic 5 (some .boolean) 1 := ⟨mw_872, (kb_sel (n := 14) (kp4 (List.mem_of_getElem? (i := 1) rfl)) rfl), mw_12, mw_873, by decide, by decide, by decide +kernel⟩
set_option maxRecDepth 100000 in
theorem yl_Ref_zeros : kYs y_Ref_zeros b_Ref_zeros 3 (some .int) 1 := ⟨mw_879, mw_12, mw_880, by decide, by decide, by decide +kernel⟩
set_option maxRecDepth 100000 in
theorem yl_Ref_shifts : kY y_Ref_shifts b_Ref_shifts 6 (some .boolean) 1 := ⟨mw_876, (kb_sel (n := 14) (kp4 (List.mem_of_getElem? (i := 2) rfl)) rfl), mw_12, mw_877, by decide, by decide, by decide +kernel⟩
set_option maxRecDepth 100000 in
theorem yl_Ref_carryIn : kY y_Ref_carryIn b_Ref_carryIn 1 (some .int) 0 := ⟨mw_887, (kb_sel (n := 14) (kp4 (List.mem_of_getElem? (i := 4) rfl)) rfl), mw_12, mw_888, by decide, by decide, by decide +kernel⟩
set_option maxRecDepth 100000 in
theorem yl_Ref_arithmetic : kY y_Ref_arithmetic b_Ref_arithmetic 4 (some .boolean) 1 := ⟨mw_883, (kb_sel (n := 14) (kp4 (List.mem_of_getElem? (i := 3) rfl)) rfl), mw_12, mw_884, by decide, by decide, by decide +kernel⟩
set_option maxRecDepth 100000 in
theorem yl_Ref_products : kY y_Ref_products b_Ref_products 4 (some .boolean) 1 := ⟨mw_891, (kb_sel (n := 14) (kp4 (List.mem_of_getElem? (i := 5) rfl)) rfl), mw_12, mw_892, by decide, by decide, by decide +kernel⟩
set_option maxRecDepth 100000 in
theorem yl_Ref_privileged : kY y_Ref_privileged b_Ref_privileged 2 none 1 := ⟨mw_899, (kb_sel (n := 14) (kp4 (List.mem_of_getElem? (i := 7) rfl)) rfl), mw_12, mw_900, by decide, by decide, by decide +kernel⟩
set_option maxRecDepth 100000 in
theorem yl_Ref_system : kY y_Ref_system b_Ref_system 3 (some .boolean) 1 := ⟨mw_895, (kb_sel (n := 14) (kp4 (List.mem_of_getElem? (i := 6) rfl)) rfl), mw_12, mw_896, by decide, by decide, by decide +kernel⟩
set_option maxRecDepth 100000 in
theorem yl_Ref_registerOf : kYs y_Ref_registerOf b_Ref_registerOf 1 (some .int) 1 := ⟨mw_906, mw_12, mw_907, by decide, by decide, by decide +kernel⟩
set_option maxRecDepth 100000 in
theorem yl_Ref_specials : kY y_Ref_specials b_Ref_specials 3 (some .boolean) 1 := ⟨mw_903, (kb_sel (n := 14) (kp4 (List.mem_of_getElem? (i := 8) rfl)) rfl), mw_12, mw_904, by decide, by decide, by decide +kernel⟩
set_option maxRecDepth 100000 in
theorem yl_Ref_extended : kY y_Ref_extended b_Ref_extended 3 none 1 := ⟨mw_852, (kb_sel (n := 14) (kp3 (List.mem_of_getElem? (i := 13) rfl)) rfl), mw_12, mw_853, by decide, by decide, by decide +kernel⟩
set_option maxRecDepth 100000 in
theorem yl_Ref_access : kY y_Ref_access b_Ref_access 7 none 2 := ⟨mw_910, (kb_sel (n := 14) (kp4 (List.mem_of_getElem? (i := 9) rfl)) rfl), mw_12, mw_911, by decide, by decide, by decide +kernel⟩
set_option maxRecDepth 100000 in
theorem yl_Ref_execute : kY y_Ref_execute b_Ref_execute 3 none 1 := ⟨mw_759, (kb_sel (n := 14) (kp2 (List.mem_of_getElem? (i := 10) rfl)) rfl), mw_12, mw_760, by decide, by decide, by decide +kernel⟩
set_option maxRecDepth 100000 in
theorem yl_Ref_one : kY y_Ref_one b_Ref_one 2 (some .boolean) 0 := ⟨mw_719, (kb_sel (n := 14) (kp2 (List.mem_of_getElem? (i := 3) rfl)) rfl), mw_12, mw_720, by decide, by decide, by decide +kernel⟩
set_option maxRecDepth 100000 in
theorem yl_Ref_write : kY y_Ref_write b_Ref_write 3 (some .boolean) 2 := ⟨mw_687, mw_688, mw_12, mw_689, by decide, by decide, by decide +kernel⟩
set_option maxRecDepth 100000 in
theorem yl_Ref_word : kY y_Ref_word b_Ref_word 2 (some .int) 1 := ⟨mw_691, mw_692, mw_12, mw_693, by decide, by decide, by decide +kernel⟩
set_option maxRecDepth 100000 in
theorem yl_Ref_put : kY y_Ref_put b_Ref_put 3 (some .boolean) 2 := ⟨mw_695, mw_696, mw_12, mw_697, by decide, by decide, by decide +kernel⟩
set_option maxRecDepth 100000 in
theorem yl_Ref_general : kY y_Ref_general b_Ref_general 2 (some .int) 1 := ⟨mw_699, mw_700, mw_12, mw_701, by decide, by decide, by decide +kernel⟩
set_option maxRecDepth 100000 in
theorem yl_Ref_isSpecial : kYs y_Ref_isSpecial b_Ref_isSpecial 1 (some .boolean) 1 := ⟨mw_707, mw_12, mw_708, by decide, by decide, by decide +kernel⟩
set_option maxRecDepth 100000 in
theorem yl_Ref_set : kY y_Ref_set b_Ref_set 3 (some .boolean) 2 := ⟨mw_703, mw_704, mw_12, mw_705, by decide, by decide, by decide +kernel⟩
set_option maxRecDepth 100000 in
theorem yl_Ref_special : kY y_Ref_special b_Ref_special 2 (some .int) 1 := ⟨mw_710, mw_711, mw_12, mw_712, by decide, by decide, by decide +kernel⟩
set_option maxRecDepth 100000 in
theorem yl_Ref_step : kY y_Ref_step b_Ref_step 4 (some .int) 1 := ⟨mw_714, mw_715, mw_12, mw_716, by decide, by decide, by decide +kernel⟩
set_option maxRecDepth 100000 in
theorem yl_Ref_translate : kY y_Ref_translate b_Ref_translate 4 (some .int) 2 := ⟨mw_913, mw_914, mw_12, mw_915, by decide, by decide, by decide +kernel⟩
set_option maxRecDepth 100000 in
theorem yl_Ref_vector : kY y_Ref_vector b_Ref_vector 1 (some .int) 0 := ⟨mw_917, mw_918, mw_12, mw_919, by decide, by decide, by decide +kernel⟩
set_option maxRecDepth 100000 in
theorem yl_Ref_steps : kY y_Ref_steps b_Ref_steps 1 (some .int) 0 := ⟨mw_921, mw_922, mw_12, mw_923, by decide, by decide, by decide +kernel⟩
set_option maxRecDepth 100000 in
theorem nw_Pro_34 : (Jvm.Cond.methodLinkNest "MappedProcessor" (34 : Nat) ({ cls := "MappedProcessor$Instruction", name := "<init>", desc := "()V" } : Jvm.MethodName) "MappedProcessor") ∈ kNw := List.mem_filter.mpr ⟨List.mem_append_right _ (kt1 (List.mem_of_getElem? (i := 76) rfl)), rfl⟩
set_option maxRecDepth 100000 in
theorem nw_Acc_106 : (Jvm.Cond.methodLinkNest "MappedProcessor$Accesses" (106 : Nat) ({ cls := "MappedProcessor", name := "causeBit", desc := "(I)I" } : Jvm.MethodName) "MappedProcessor") ∈ kNw := List.mem_filter.mpr ⟨List.mem_append_right _ (kt3 (List.mem_of_getElem? (i := 102) rfl)), rfl⟩
