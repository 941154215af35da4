def R_DeviceSets : String := "DeviceSets"
def F_DeviceSets : u_T := fun k => match k with
  | 0 => ("DeviceSets", "devices", "[LDeviceSets$Device;", true)
  | 1 => ("DeviceSets", "sets", "[LDeviceSets$ToldSet;", true)
  | 2 => ("DeviceSets", "tellings", "LDeviceSets$Tellings;", true)
  | 3 => ("DeviceSets", "corrections", "LDeviceSets$Corrections;", true)
  | 4 => ("DeviceSets", "deviceCount", "I", false)
  | 5 => ("DeviceSets", "setCount", "I", false)
  | _ => ("DeviceSets", "batchCount", "I", false)
def t_DeviceSets : Nat → FieldType := fun k => match k with
  | 0 => .array (.object "DeviceSets$Device")
  | 1 => .array (.object "DeviceSets$ToldSet")
  | 2 => .object "DeviceSets$Tellings"
  | 3 => .object "DeviceSets$Corrections"
  | 4 => .int
  | 5 => .int
  | _ => .int
abbrev w_DeviceSets : List Cond := u_ws R_DeviceSets F_DeviceSets 7
theorem n_DeviceSets : ∀ a, a < 7 → ∀ b, b < 7 → a ≠ b → (F_DeviceSets a).2.1 ≠ (F_DeviceSets b).2.1 := by decide +kernel
theorem t_DeviceSets_ok : ∀ k, k < 7 → parseFieldDescriptor (F_DeviceSets k).2.2.1 = some (t_DeviceSets k) := by decide +kernel
def R_Device : String := "DeviceSets$Device"
def F_Device : u_T := fun k => match k with
  | 0 => ("DeviceSets$Device", "clock", "LDeviceSets$Clock;", true)
  | 1 => ("DeviceSets$Device", "life", "I", false)
  | _ => ("DeviceSets$Device", "firstNumber", "J", false)
def t_Device : Nat → FieldType := fun k => match k with
  | 0 => .object "DeviceSets$Clock"
  | 1 => .int
  | _ => .long
abbrev w_Device : List Cond := u_ws R_Device F_Device 3
theorem n_Device : ∀ a, a < 3 → ∀ b, b < 3 → a ≠ b → (F_Device a).2.1 ≠ (F_Device b).2.1 := by decide +kernel
theorem t_Device_ok : ∀ k, k < 3 → parseFieldDescriptor (F_Device k).2.2.1 = some (t_Device k) := by decide +kernel
def R_Clock : String := "DeviceSets$Clock"
def F_Clock : u_T := fun k => match k with
  | 0 => ("DeviceSets$Clock", "seconds", "[J", true)
  | 1 => ("DeviceSets$Clock", "trueSeconds", "[J", true)
  | _ => ("DeviceSets$Clock", "count", "I", false)
def t_Clock : Nat → FieldType := fun k => match k with
  | 0 => .array .long
  | 1 => .array .long
  | _ => .int
abbrev w_Clock : List Cond := u_ws R_Clock F_Clock 3
theorem n_Clock : ∀ a, a < 3 → ∀ b, b < 3 → a ≠ b → (F_Clock a).2.1 ≠ (F_Clock b).2.1 := by decide +kernel
theorem t_Clock_ok : ∀ k, k < 3 → parseFieldDescriptor (F_Clock k).2.2.1 = some (t_Clock k) := by decide +kernel
def R_Held : String := "DeviceSets$Held"
def F_Held : u_T := fun k => match k with
  | 0 => ("DeviceSets$Held", "tellings", "J", false)
  | 1 => ("DeviceSets$Held", "corrections", "J", false)
  | 2 => ("DeviceSets$Held", "choices", "J", false)
  | _ => ("DeviceSets$Held", "bound", "J", false)
def t_Held : Nat → FieldType := fun k => match k with
  | 0 => .long
  | 1 => .long
  | 2 => .long
  | _ => .long
abbrev w_Held : List Cond := u_ws R_Held F_Held 4
theorem n_Held : ∀ a, a < 4 → ∀ b, b < 4 → a ≠ b → (F_Held a).2.1 ≠ (F_Held b).2.1 := by decide +kernel
theorem t_Held_ok : ∀ k, k < 4 → parseFieldDescriptor (F_Held k).2.2.1 = some (t_Held k) := by decide +kernel
def R_ToldSet : String := "DeviceSets$ToldSet"
def F_ToldSet : u_T := fun k => match k with
  | 0 => ("DeviceSets$ToldSet", "held", "LDeviceSets$Held;", true)
  | 1 => ("DeviceSets$ToldSet", "waiting", "LDeviceSets$Held;", true)
  | _ => ("DeviceSets$ToldSet", "openBatch", "I", false)
def t_ToldSet : Nat → FieldType := fun k => match k with
  | 0 => .object "DeviceSets$Held"
  | 1 => .object "DeviceSets$Held"
  | _ => .int
abbrev w_ToldSet : List Cond := u_ws R_ToldSet F_ToldSet 3
theorem n_ToldSet : ∀ a, a < 3 → ∀ b, b < 3 → a ≠ b → (F_ToldSet a).2.1 ≠ (F_ToldSet b).2.1 := by decide +kernel
theorem t_ToldSet_ok : ∀ k, k < 3 → parseFieldDescriptor (F_ToldSet k).2.2.1 = some (t_ToldSet k) := by decide +kernel
def R_Tellings : String := "DeviceSets$Tellings"
def F_Tellings : u_T := fun k => match k with
  | 0 => ("DeviceSets$Tellings", "device", "[I", true)
  | 1 => ("DeviceSets$Tellings", "life", "[I", true)
  | 2 => ("DeviceSets$Tellings", "number", "[I", true)
  | 3 => ("DeviceSets$Tellings", "kind", "[I", true)
  | 4 => ("DeviceSets$Tellings", "second", "[J", true)
  | 5 => ("DeviceSets$Tellings", "value", "[J", true)
  | 6 => ("DeviceSets$Tellings", "on", "[J", true)
  | _ => ("DeviceSets$Tellings", "count", "I", false)
def t_Tellings : Nat → FieldType := fun k => match k with
  | 0 => .array .int
  | 1 => .array .int
  | 2 => .array .int
  | 3 => .array .int
  | 4 => .array .long
  | 5 => .array .long
  | 6 => .array .long
  | _ => .int
abbrev w_Tellings : List Cond := u_ws R_Tellings F_Tellings 8
theorem n_Tellings : ∀ a, a < 8 → ∀ b, b < 8 → a ≠ b → (F_Tellings a).2.1 ≠ (F_Tellings b).2.1 := by decide +kernel
theorem t_Tellings_ok : ∀ k, k < 8 → parseFieldDescriptor (F_Tellings k).2.2.1 = some (t_Tellings k) := by decide +kernel
def R_Corrections : String := "DeviceSets$Corrections"
def F_Corrections : u_T := fun k => match k with
  | 0 => ("DeviceSets$Corrections", "device", "[I", true)
  | 1 => ("DeviceSets$Corrections", "kind", "[I", true)
  | 2 => ("DeviceSets$Corrections", "second", "[J", true)
  | 3 => ("DeviceSets$Corrections", "value", "[J", true)
  | 4 => ("DeviceSets$Corrections", "told", "[J", true)
  | _ => ("DeviceSets$Corrections", "count", "I", false)
def t_Corrections : Nat → FieldType := fun k => match k with
  | 0 => .array .int
  | 1 => .array .int
  | 2 => .array .long
  | 3 => .array .long
  | 4 => .array .long
  | _ => .int
abbrev w_Corrections : List Cond := u_ws R_Corrections F_Corrections 6
theorem n_Corrections : ∀ a, a < 6 → ∀ b, b < 6 → a ≠ b → (F_Corrections a).2.1 ≠ (F_Corrections b).2.1 := by decide +kernel
theorem t_Corrections_ok : ∀ k, k < 6 → parseFieldDescriptor (F_Corrections k).2.2.1 = some (t_Corrections k) := by decide +kernel
def R_Model : String := "DeviceSetsModel"
def F_Model : u_T := fun k => match k with
  | 0 => ("DeviceSetsModel", "devices", "I", false)
  | 1 => ("DeviceSetsModel", "lives", "[I", true)
  | 2 => ("DeviceSetsModel", "begins", "[J", true)
  | 3 => ("DeviceSetsModel", "tellings", "I", false)
  | 4 => ("DeviceSetsModel", "device", "[I", true)
  | 5 => ("DeviceSetsModel", "life", "[I", true)
  | 6 => ("DeviceSetsModel", "number", "[I", true)
  | 7 => ("DeviceSetsModel", "kind", "[I", true)
  | 8 => ("DeviceSetsModel", "second", "[I", true)
  | 9 => ("DeviceSetsModel", "value", "[J", true)
  | 10 => ("DeviceSetsModel", "on", "[I", true)
  | 11 => ("DeviceSetsModel", "corrections", "I", false)
  | 12 => ("DeviceSetsModel", "fixes", "[J", true)
  | 13 => ("DeviceSetsModel", "sets", "I", false)
  | 14 => ("DeviceSetsModel", "batches", "I", false)
  | 15 => ("DeviceSetsModel", "has", "[Z", true)
  | 16 => ("DeviceSetsModel", "chosen", "[Z", true)
  | 17 => ("DeviceSetsModel", "fixed", "[Z", true)
  | 18 => ("DeviceSetsModel", "bounds", "[J", true)
  | 19 => ("DeviceSetsModel", "open", "[I", true)
  | 20 => ("DeviceSetsModel", "marks", "[I", true)
  | 21 => ("DeviceSetsModel", "markSecond", "[I", true)
  | _ => ("DeviceSetsModel", "markTrue", "[I", true)
def t_Model : Nat → FieldType := fun k => match k with
  | 0 => .int
  | 1 => .array .int
  | 2 => .array .long
  | 3 => .int
  | 4 => .array .int
  | 5 => .array .int
  | 6 => .array .int
  | 7 => .array .int
  | 8 => .array .int
  | 9 => .array .long
  | 10 => .array .int
  | 11 => .int
  | 12 => .array .long
  | 13 => .int
  | 14 => .int
  | 15 => .array .boolean
  | 16 => .array .boolean
  | 17 => .array .boolean
  | 18 => .array .long
  | 19 => .array .int
  | 20 => .array .int
  | 21 => .array .int
  | _ => .array .int
abbrev w_Model : List Cond := u_ws R_Model F_Model 23
theorem n_Model : ∀ a, a < 23 → ∀ b, b < 23 → a ≠ b → (F_Model a).2.1 ≠ (F_Model b).2.1 := by decide +kernel
theorem t_Model_ok : ∀ k, k < 23 → parseFieldDescriptor (F_Model k).2.2.1 = some (t_Model k) := by decide +kernel
def R_Long : String := "java/lang/Long"
def R_Law : String := "DeviceSetsLaw"
abbrev classes : List vw_C := [(R_DeviceSets, F_DeviceSets, 7), (R_Device, F_Device, 3), (R_Clock, F_Clock, 3), (R_Held, F_Held, 4), (R_ToldSet, F_ToldSet, 3), (R_Tellings, F_Tellings, 8), (R_Corrections, F_Corrections, 6), (R_Model, F_Model, 23)]
abbrev b_DeviceSets_init : ByteArray := prog_1_method_1_code
def y_DeviceSets_init : MethodName := ⟨R_DeviceSets, "<init>", "()V"⟩
theorem nm_DeviceSets_init : y_DeviceSets_init.cls ≠ "java/lang/invoke/MethodHandle" ∧ y_DeviceSets_init.cls ≠ "java/lang/invoke/VarHandle" ∧ (parseMethodDescriptor y_DeviceSets_init.desc).map (fun d => d.parameters.length) = some 0 := by decide +kernel
abbrev b_Tellings_init : ByteArray := prog_6_method_1_code
def y_Tellings_init : MethodName := ⟨R_Tellings, "<init>", "()V"⟩
theorem nm_Tellings_init : y_Tellings_init.cls ≠ "java/lang/invoke/MethodHandle" ∧ y_Tellings_init.cls ≠ "java/lang/invoke/VarHandle" ∧ (parseMethodDescriptor y_Tellings_init.desc).map (fun d => d.parameters.length) = some 0 := by decide +kernel
abbrev b_Corrections_init : ByteArray := prog_3_method_1_code
def y_Corrections_init : MethodName := ⟨R_Corrections, "<init>", "()V"⟩
theorem nm_Corrections_init : y_Corrections_init.cls ≠ "java/lang/invoke/MethodHandle" ∧ y_Corrections_init.cls ≠ "java/lang/invoke/VarHandle" ∧ (parseMethodDescriptor y_Corrections_init.desc).map (fun d => d.parameters.length) = some 0 := by decide +kernel
abbrev b_DeviceSets_device : ByteArray := prog_1_method_2_code
def y_DeviceSets_device : MethodName := ⟨R_DeviceSets, "device", "()I"⟩
theorem nm_DeviceSets_device : y_DeviceSets_device.cls ≠ "java/lang/invoke/MethodHandle" ∧ y_DeviceSets_device.cls ≠ "java/lang/invoke/VarHandle" ∧ (parseMethodDescriptor y_DeviceSets_device.desc).map (fun d => d.parameters.length) = some 0 := by decide +kernel
abbrev b_Device_init : ByteArray := prog_4_method_1_code
def y_Device_init : MethodName := ⟨R_Device, "<init>", "()V"⟩
theorem nm_Device_init : y_Device_init.cls ≠ "java/lang/invoke/MethodHandle" ∧ y_Device_init.cls ≠ "java/lang/invoke/VarHandle" ∧ (parseMethodDescriptor y_Device_init.desc).map (fun d => d.parameters.length) = some 0 := by decide +kernel
abbrev b_Clock_init : ByteArray := prog_2_method_1_code
def y_Clock_init : MethodName := ⟨R_Clock, "<init>", "()V"⟩
theorem nm_Clock_init : y_Clock_init.cls ≠ "java/lang/invoke/MethodHandle" ∧ y_Clock_init.cls ≠ "java/lang/invoke/VarHandle" ∧ (parseMethodDescriptor y_Clock_init.desc).map (fun d => d.parameters.length) = some 0 := by decide +kernel
abbrev b_DeviceSets_tell : ByteArray := prog_1_method_3_code
def y_DeviceSets_tell : MethodName := ⟨R_DeviceSets, "tell", "(IJIJJJ)I"⟩
theorem nm_DeviceSets_tell : y_DeviceSets_tell.cls ≠ "java/lang/invoke/MethodHandle" ∧ y_DeviceSets_tell.cls ≠ "java/lang/invoke/VarHandle" ∧ (parseMethodDescriptor y_DeviceSets_tell.desc).map (fun d => d.parameters.length) = some 6 := by decide +kernel
abbrev b_DeviceSets_deviceAt : ByteArray := prog_1_method_22_code
def y_DeviceSets_deviceAt : MethodName := ⟨R_DeviceSets, "deviceAt", "(I)LDeviceSets$Device;"⟩
theorem nm_DeviceSets_deviceAt : y_DeviceSets_deviceAt.cls ≠ "java/lang/invoke/MethodHandle" ∧ y_DeviceSets_deviceAt.cls ≠ "java/lang/invoke/VarHandle" ∧ (parseMethodDescriptor y_DeviceSets_deviceAt.desc).map (fun d => d.parameters.length) = some 1 := by decide +kernel
abbrev b_DeviceSets_isNumber : ByteArray := prog_1_method_28_code
def y_DeviceSets_isNumber : MethodName := ⟨R_DeviceSets, "isNumber", "(J)Z"⟩
theorem nm_DeviceSets_isNumber : y_DeviceSets_isNumber.cls ≠ "java/lang/invoke/MethodHandle" ∧ y_DeviceSets_isNumber.cls ≠ "java/lang/invoke/VarHandle" ∧ (parseMethodDescriptor y_DeviceSets_isNumber.desc).map (fun d => d.parameters.length) = some 1 := by decide +kernel
abbrev b_DeviceSets_isKind : ByteArray := prog_1_method_29_code
def y_DeviceSets_isKind : MethodName := ⟨R_DeviceSets, "isKind", "(I)Z"⟩
theorem nm_DeviceSets_isKind : y_DeviceSets_isKind.cls ≠ "java/lang/invoke/MethodHandle" ∧ y_DeviceSets_isKind.cls ≠ "java/lang/invoke/VarHandle" ∧ (parseMethodDescriptor y_DeviceSets_isKind.desc).map (fun d => d.parameters.length) = some 1 := by decide +kernel
abbrev b_DeviceSets_isValue : ByteArray := prog_1_method_30_code
def y_DeviceSets_isValue : MethodName := ⟨R_DeviceSets, "isValue", "(J)Z"⟩
theorem nm_DeviceSets_isValue : y_DeviceSets_isValue.cls ≠ "java/lang/invoke/MethodHandle" ∧ y_DeviceSets_isValue.cls ≠ "java/lang/invoke/VarHandle" ∧ (parseMethodDescriptor y_DeviceSets_isValue.desc).map (fun d => d.parameters.length) = some 1 := by decide +kernel
abbrev b_Tellings_has : ByteArray := prog_6_method_2_code
def y_Tellings_has : MethodName := ⟨R_Tellings, "has", "(IIIIJJ)Z"⟩
theorem nm_Tellings_has : y_Tellings_has.cls ≠ "java/lang/invoke/MethodHandle" ∧ y_Tellings_has.cls ≠ "java/lang/invoke/VarHandle" ∧ (parseMethodDescriptor y_Tellings_has.desc).map (fun d => d.parameters.length) = some 6 := by decide +kernel
abbrev b_Tellings_add : ByteArray := prog_6_method_3_code
def y_Tellings_add : MethodName := ⟨R_Tellings, "add", "(IIIIJJJ)Z"⟩
theorem nm_Tellings_add : y_Tellings_add.cls ≠ "java/lang/invoke/MethodHandle" ∧ y_Tellings_add.cls ≠ "java/lang/invoke/VarHandle" ∧ (parseMethodDescriptor y_Tellings_add.desc).map (fun d => d.parameters.length) = some 7 := by decide +kernel
abbrev b_DeviceSets_reset : ByteArray := prog_1_method_4_code
def y_DeviceSets_reset : MethodName := ⟨R_DeviceSets, "reset", "(IJ)Z"⟩
theorem nm_DeviceSets_reset : y_DeviceSets_reset.cls ≠ "java/lang/invoke/MethodHandle" ∧ y_DeviceSets_reset.cls ≠ "java/lang/invoke/VarHandle" ∧ (parseMethodDescriptor y_DeviceSets_reset.desc).map (fun d => d.parameters.length) = some 2 := by decide +kernel
abbrev b_DeviceSets_life : ByteArray := prog_1_method_5_code
def y_DeviceSets_life : MethodName := ⟨R_DeviceSets, "life", "(I)I"⟩
theorem nm_DeviceSets_life : y_DeviceSets_life.cls ≠ "java/lang/invoke/MethodHandle" ∧ y_DeviceSets_life.cls ≠ "java/lang/invoke/VarHandle" ∧ (parseMethodDescriptor y_DeviceSets_life.desc).map (fun d => d.parameters.length) = some 1 := by decide +kernel
abbrev b_DeviceSets_set : ByteArray := prog_1_method_6_code
def y_DeviceSets_set : MethodName := ⟨R_DeviceSets, "set", "(I)I"⟩
theorem nm_DeviceSets_set : y_DeviceSets_set.cls ≠ "java/lang/invoke/MethodHandle" ∧ y_DeviceSets_set.cls ≠ "java/lang/invoke/VarHandle" ∧ (parseMethodDescriptor y_DeviceSets_set.desc).map (fun d => d.parameters.length) = some 1 := by decide +kernel
abbrev b_Tellings_ofDevice : ByteArray := prog_6_method_4_code
def y_Tellings_ofDevice : MethodName := ⟨R_Tellings, "ofDevice", "(I)J"⟩
theorem nm_Tellings_ofDevice : y_Tellings_ofDevice.cls ≠ "java/lang/invoke/MethodHandle" ∧ y_Tellings_ofDevice.cls ≠ "java/lang/invoke/VarHandle" ∧ (parseMethodDescriptor y_Tellings_ofDevice.desc).map (fun d => d.parameters.length) = some 1 := by decide +kernel
abbrev b_DeviceSets_bit : ByteArray := prog_1_method_31_code
def y_DeviceSets_bit : MethodName := ⟨R_DeviceSets, "bit", "(I)J"⟩
theorem nm_DeviceSets_bit : y_DeviceSets_bit.cls ≠ "java/lang/invoke/MethodHandle" ∧ y_DeviceSets_bit.cls ≠ "java/lang/invoke/VarHandle" ∧ (parseMethodDescriptor y_DeviceSets_bit.desc).map (fun d => d.parameters.length) = some 1 := by decide +kernel
abbrev b_ToldSet_init : ByteArray := prog_7_method_1_code
def y_ToldSet_init : MethodName := ⟨R_ToldSet, "<init>", "(J)V"⟩
theorem nm_ToldSet_init : y_ToldSet_init.cls ≠ "java/lang/invoke/MethodHandle" ∧ y_ToldSet_init.cls ≠ "java/lang/invoke/VarHandle" ∧ (parseMethodDescriptor y_ToldSet_init.desc).map (fun d => d.parameters.length) = some 1 := by decide +kernel
abbrev b_Held_init : ByteArray := prog_5_method_1_code
def y_Held_init : MethodName := ⟨R_Held, "<init>", "()V"⟩
theorem nm_Held_init : y_Held_init.cls ≠ "java/lang/invoke/MethodHandle" ∧ y_Held_init.cls ≠ "java/lang/invoke/VarHandle" ∧ (parseMethodDescriptor y_Held_init.desc).map (fun d => d.parameters.length) = some 0 := by decide +kernel
abbrev b_DeviceSets_join : ByteArray := prog_1_method_7_code
def y_DeviceSets_join : MethodName := ⟨R_DeviceSets, "join", "(II)I"⟩
theorem nm_DeviceSets_join : y_DeviceSets_join.cls ≠ "java/lang/invoke/MethodHandle" ∧ y_DeviceSets_join.cls ≠ "java/lang/invoke/VarHandle" ∧ (parseMethodDescriptor y_DeviceSets_join.desc).map (fun d => d.parameters.length) = some 2 := by decide +kernel
abbrev b_DeviceSets_setAt : ByteArray := prog_1_method_23_code
def y_DeviceSets_setAt : MethodName := ⟨R_DeviceSets, "setAt", "(I)LDeviceSets$ToldSet;"⟩
theorem nm_DeviceSets_setAt : y_DeviceSets_setAt.cls ≠ "java/lang/invoke/MethodHandle" ∧ y_DeviceSets_setAt.cls ≠ "java/lang/invoke/VarHandle" ∧ (parseMethodDescriptor y_DeviceSets_setAt.desc).map (fun d => d.parameters.length) = some 1 := by decide +kernel
abbrev b_ToldSet_bring : ByteArray := prog_7_method_2_code
def y_ToldSet_bring : MethodName := ⟨R_ToldSet, "bring", "(LDeviceSets$ToldSet;)Z"⟩
theorem nm_ToldSet_bring : y_ToldSet_bring.cls ≠ "java/lang/invoke/MethodHandle" ∧ y_ToldSet_bring.cls ≠ "java/lang/invoke/VarHandle" ∧ (parseMethodDescriptor y_ToldSet_bring.desc).map (fun d => d.parameters.length) = some 1 := by decide +kernel
abbrev b_Held_takeIn : ByteArray := prog_5_method_2_code
def y_Held_takeIn : MethodName := ⟨R_Held, "takeIn", "(LDeviceSets$Held;)Z"⟩
theorem nm_Held_takeIn : y_Held_takeIn.cls ≠ "java/lang/invoke/MethodHandle" ∧ y_Held_takeIn.cls ≠ "java/lang/invoke/VarHandle" ∧ (parseMethodDescriptor y_Held_takeIn.desc).map (fun d => d.parameters.length) = some 1 := by decide +kernel
abbrev b_DeviceSets_conflictsIn : ByteArray := prog_1_method_26_code
def y_DeviceSets_conflictsIn : MethodName := ⟨R_DeviceSets, "conflictsIn", "(LDeviceSets$Held;)J"⟩
theorem nm_DeviceSets_conflictsIn : y_DeviceSets_conflictsIn.cls ≠ "java/lang/invoke/MethodHandle" ∧ y_DeviceSets_conflictsIn.cls ≠ "java/lang/invoke/VarHandle" ∧ (parseMethodDescriptor y_DeviceSets_conflictsIn.desc).map (fun d => d.parameters.length) = some 1 := by decide +kernel
abbrev b_DeviceSets_liveIn : ByteArray := prog_1_method_25_code
def y_DeviceSets_liveIn : MethodName := ⟨R_DeviceSets, "liveIn", "(LDeviceSets$Held;)J"⟩
theorem nm_DeviceSets_liveIn : y_DeviceSets_liveIn.cls ≠ "java/lang/invoke/MethodHandle" ∧ y_DeviceSets_liveIn.cls ≠ "java/lang/invoke/VarHandle" ∧ (parseMethodDescriptor y_DeviceSets_liveIn.desc).map (fun d => d.parameters.length) = some 1 := by decide +kernel
abbrev b_Tellings_notBelow : ByteArray := prog_6_method_6_code
def y_Tellings_notBelow : MethodName := ⟨R_Tellings, "notBelow", "(JJ)J"⟩
theorem nm_Tellings_notBelow : y_Tellings_notBelow.cls ≠ "java/lang/invoke/MethodHandle" ∧ y_Tellings_notBelow.cls ≠ "java/lang/invoke/VarHandle" ∧ (parseMethodDescriptor y_Tellings_notBelow.desc).map (fun d => d.parameters.length) = some 2 := by decide +kernel
abbrev b_DeviceSets_isIn : ByteArray := prog_1_method_32_code
def y_DeviceSets_isIn : MethodName := ⟨R_DeviceSets, "isIn", "(IJ)Z"⟩
theorem nm_DeviceSets_isIn : y_DeviceSets_isIn.cls ≠ "java/lang/invoke/MethodHandle" ∧ y_DeviceSets_isIn.cls ≠ "java/lang/invoke/VarHandle" ∧ (parseMethodDescriptor y_DeviceSets_isIn.desc).map (fun d => d.parameters.length) = some 2 := by decide +kernel
abbrev b_Tellings_unsettled : ByteArray := prog_6_method_8_code
def y_Tellings_unsettled : MethodName := ⟨R_Tellings, "unsettled", "(JJ)J"⟩
theorem nm_Tellings_unsettled : y_Tellings_unsettled.cls ≠ "java/lang/invoke/MethodHandle" ∧ y_Tellings_unsettled.cls ≠ "java/lang/invoke/VarHandle" ∧ (parseMethodDescriptor y_Tellings_unsettled.desc).map (fun d => d.parameters.length) = some 2 := by decide +kernel
abbrev b_Tellings_ofKeyOf : ByteArray := prog_6_method_7_code
def y_Tellings_ofKeyOf : MethodName := ⟨R_Tellings, "ofKeyOf", "(IJ)J"⟩
theorem nm_Tellings_ofKeyOf : y_Tellings_ofKeyOf.cls ≠ "java/lang/invoke/MethodHandle" ∧ y_Tellings_ofKeyOf.cls ≠ "java/lang/invoke/VarHandle" ∧ (parseMethodDescriptor y_Tellings_ofKeyOf.desc).map (fun d => d.parameters.length) = some 2 := by decide +kernel
abbrev b_Long_bitCount : ByteArray := prog_10_method_50_code
def y_Long_bitCount : MethodName := ⟨R_Long, "bitCount", "(J)I"⟩
theorem nm_Long_bitCount : y_Long_bitCount.cls ≠ "java/lang/invoke/MethodHandle" ∧ y_Long_bitCount.cls ≠ "java/lang/invoke/VarHandle" ∧ (parseMethodDescriptor y_Long_bitCount.desc).map (fun d => d.parameters.length) = some 1 := by decide +kernel
abbrev b_DeviceSets_correct : ByteArray := prog_1_method_8_code
def y_DeviceSets_correct : MethodName := ⟨R_DeviceSets, "correct", "(IIIJJJ)Z"⟩
theorem nm_DeviceSets_correct : y_DeviceSets_correct.cls ≠ "java/lang/invoke/MethodHandle" ∧ y_DeviceSets_correct.cls ≠ "java/lang/invoke/VarHandle" ∧ (parseMethodDescriptor y_DeviceSets_correct.desc).map (fun d => d.parameters.length) = some 6 := by decide +kernel
abbrev b_Corrections_findOrAdd : ByteArray := prog_3_method_2_code
def y_Corrections_findOrAdd : MethodName := ⟨R_Corrections, "findOrAdd", "(IIJJJ)I"⟩
theorem nm_Corrections_findOrAdd : y_Corrections_findOrAdd.cls ≠ "java/lang/invoke/MethodHandle" ∧ y_Corrections_findOrAdd.cls ≠ "java/lang/invoke/VarHandle" ∧ (parseMethodDescriptor y_Corrections_findOrAdd.desc).map (fun d => d.parameters.length) = some 5 := by decide +kernel
abbrev b_Corrections_isFor : ByteArray := prog_3_method_4_code
def y_Corrections_isFor : MethodName := ⟨R_Corrections, "isFor", "(IIIJ)Z"⟩
theorem nm_Corrections_isFor : y_Corrections_isFor.cls ≠ "java/lang/invoke/MethodHandle" ∧ y_Corrections_isFor.cls ≠ "java/lang/invoke/VarHandle" ∧ (parseMethodDescriptor y_Corrections_isFor.desc).map (fun d => d.parameters.length) = some 4 := by decide +kernel
abbrev b_DeviceSets_last : ByteArray := prog_1_method_9_code
def y_DeviceSets_last : MethodName := ⟨R_DeviceSets, "last", "(III)J"⟩
theorem nm_DeviceSets_last : y_DeviceSets_last.cls ≠ "java/lang/invoke/MethodHandle" ∧ y_DeviceSets_last.cls ≠ "java/lang/invoke/VarHandle" ∧ (parseMethodDescriptor y_DeviceSets_last.desc).map (fun d => d.parameters.length) = some 3 := by decide +kernel
abbrev b_DeviceSets_seenIn : ByteArray := prog_1_method_27_code
def y_DeviceSets_seenIn : MethodName := ⟨R_DeviceSets, "seenIn", "(LDeviceSets$Held;II)J"⟩
theorem nm_DeviceSets_seenIn : y_DeviceSets_seenIn.cls ≠ "java/lang/invoke/MethodHandle" ∧ y_DeviceSets_seenIn.cls ≠ "java/lang/invoke/VarHandle" ∧ (parseMethodDescriptor y_DeviceSets_seenIn.desc).map (fun d => d.parameters.length) = some 3 := by decide +kernel
abbrev b_Tellings_ofKind : ByteArray := prog_6_method_5_code
def y_Tellings_ofKind : MethodName := ⟨R_Tellings, "ofKind", "(II)J"⟩
theorem nm_Tellings_ofKind : y_Tellings_ofKind.cls ≠ "java/lang/invoke/MethodHandle" ∧ y_Tellings_ofKind.cls ≠ "java/lang/invoke/VarHandle" ∧ (parseMethodDescriptor y_Tellings_ofKind.desc).map (fun d => d.parameters.length) = some 2 := by decide +kernel
abbrev b_Tellings_holding : ByteArray := prog_6_method_9_code
def y_Tellings_holding : MethodName := ⟨R_Tellings, "holding", "(JJ)J"⟩
theorem nm_Tellings_holding : y_Tellings_holding.cls ≠ "java/lang/invoke/MethodHandle" ∧ y_Tellings_holding.cls ≠ "java/lang/invoke/VarHandle" ∧ (parseMethodDescriptor y_Tellings_holding.desc).map (fun d => d.parameters.length) = some 2 := by decide +kernel
abbrev b_Tellings_first : ByteArray := prog_6_method_10_code
def y_Tellings_first : MethodName := ⟨R_Tellings, "first", "(J)I"⟩
theorem nm_Tellings_first : y_Tellings_first.cls ≠ "java/lang/invoke/MethodHandle" ∧ y_Tellings_first.cls ≠ "java/lang/invoke/VarHandle" ∧ (parseMethodDescriptor y_Tellings_first.desc).map (fun d => d.parameters.length) = some 1 := by decide +kernel
abbrev b_Tellings_isBefore : ByteArray := prog_6_method_13_code
def y_Tellings_isBefore : MethodName := ⟨R_Tellings, "isBefore", "(II)Z"⟩
theorem nm_Tellings_isBefore : y_Tellings_isBefore.cls ≠ "java/lang/invoke/MethodHandle" ∧ y_Tellings_isBefore.cls ≠ "java/lang/invoke/VarHandle" ∧ (parseMethodDescriptor y_Tellings_isBefore.desc).map (fun d => d.parameters.length) = some 2 := by decide +kernel
abbrev b_Tellings_latestNumbered : ByteArray := prog_6_method_14_code
def y_Tellings_latestNumbered : MethodName := ⟨R_Tellings, "latestNumbered", "(J)I"⟩
theorem nm_Tellings_latestNumbered : y_Tellings_latestNumbered.cls ≠ "java/lang/invoke/MethodHandle" ∧ y_Tellings_latestNumbered.cls ≠ "java/lang/invoke/VarHandle" ∧ (parseMethodDescriptor y_Tellings_latestNumbered.desc).map (fun d => d.parameters.length) = some 1 := by decide +kernel
abbrev b_DeviceSets_known : ByteArray := prog_1_method_10_code
def y_DeviceSets_known : MethodName := ⟨R_DeviceSets, "known", "(IIIJJ)J"⟩
theorem nm_DeviceSets_known : y_DeviceSets_known.cls ≠ "java/lang/invoke/MethodHandle" ∧ y_DeviceSets_known.cls ≠ "java/lang/invoke/VarHandle" ∧ (parseMethodDescriptor y_DeviceSets_known.desc).map (fun d => d.parameters.length) = some 5 := by decide +kernel
abbrev b_Tellings_latestKnown : ByteArray := prog_6_method_15_code
def y_Tellings_latestKnown : MethodName := ⟨R_Tellings, "latestKnown", "(JJJ)I"⟩
theorem nm_Tellings_latestKnown : y_Tellings_latestKnown.cls ≠ "java/lang/invoke/MethodHandle" ∧ y_Tellings_latestKnown.cls ≠ "java/lang/invoke/VarHandle" ∧ (parseMethodDescriptor y_Tellings_latestKnown.desc).map (fun d => d.parameters.length) = some 3 := by decide +kernel
abbrev b_Tellings_isOfLater : ByteArray := prog_6_method_16_code
def y_Tellings_isOfLater : MethodName := ⟨R_Tellings, "isOfLater", "(II)Z"⟩
theorem nm_Tellings_isOfLater : y_Tellings_isOfLater.cls ≠ "java/lang/invoke/MethodHandle" ∧ y_Tellings_isOfLater.cls ≠ "java/lang/invoke/VarHandle" ∧ (parseMethodDescriptor y_Tellings_isOfLater.desc).map (fun d => d.parameters.length) = some 2 := by decide +kernel
abbrev b_Corrections_latest : ByteArray := prog_3_method_3_code
def y_Corrections_latest : MethodName := ⟨R_Corrections, "latest", "(JIIJJ)I"⟩
theorem nm_Corrections_latest : y_Corrections_latest.cls ≠ "java/lang/invoke/MethodHandle" ∧ y_Corrections_latest.cls ≠ "java/lang/invoke/VarHandle" ∧ (parseMethodDescriptor y_Corrections_latest.desc).map (fun d => d.parameters.length) = some 5 := by decide +kernel
abbrev b_Corrections_isStronger : ByteArray := prog_3_method_5_code
def y_Corrections_isStronger : MethodName := ⟨R_Corrections, "isStronger", "(II)Z"⟩
theorem nm_Corrections_isStronger : y_Corrections_isStronger.cls ≠ "java/lang/invoke/MethodHandle" ∧ y_Corrections_isStronger.cls ≠ "java/lang/invoke/VarHandle" ∧ (parseMethodDescriptor y_Corrections_isStronger.desc).map (fun d => d.parameters.length) = some 2 := by decide +kernel
abbrev b_DeviceSets_gap : ByteArray := prog_1_method_11_code
def y_DeviceSets_gap : MethodName := ⟨R_DeviceSets, "gap", "(III)I"⟩
theorem nm_DeviceSets_gap : y_DeviceSets_gap.cls ≠ "java/lang/invoke/MethodHandle" ∧ y_DeviceSets_gap.cls ≠ "java/lang/invoke/VarHandle" ∧ (parseMethodDescriptor y_DeviceSets_gap.desc).map (fun d => d.parameters.length) = some 3 := by decide +kernel
abbrev b_Tellings_missingNumber : ByteArray := prog_6_method_17_code
def y_Tellings_missingNumber : MethodName := ⟨R_Tellings, "missingNumber", "(JI)I"⟩
theorem nm_Tellings_missingNumber : y_Tellings_missingNumber.cls ≠ "java/lang/invoke/MethodHandle" ∧ y_Tellings_missingNumber.cls ≠ "java/lang/invoke/VarHandle" ∧ (parseMethodDescriptor y_Tellings_missingNumber.desc).map (fun d => d.parameters.length) = some 2 := by decide +kernel
abbrev b_Tellings_ofGreatestLife : ByteArray := prog_6_method_18_code
def y_Tellings_ofGreatestLife : MethodName := ⟨R_Tellings, "ofGreatestLife", "(J)J"⟩
theorem nm_Tellings_ofGreatestLife : y_Tellings_ofGreatestLife.cls ≠ "java/lang/invoke/MethodHandle" ∧ y_Tellings_ofGreatestLife.cls ≠ "java/lang/invoke/VarHandle" ∧ (parseMethodDescriptor y_Tellings_ofGreatestLife.desc).map (fun d => d.parameters.length) = some 1 := by decide +kernel
abbrev b_Tellings_nextNumber : ByteArray := prog_6_method_19_code
def y_Tellings_nextNumber : MethodName := ⟨R_Tellings, "nextNumber", "(JI)I"⟩
theorem nm_Tellings_nextNumber : y_Tellings_nextNumber.cls ≠ "java/lang/invoke/MethodHandle" ∧ y_Tellings_nextNumber.cls ≠ "java/lang/invoke/VarHandle" ∧ (parseMethodDescriptor y_Tellings_nextNumber.desc).map (fun d => d.parameters.length) = some 2 := by decide +kernel
abbrev b_DeviceSets_conflict : ByteArray := prog_1_method_12_code
def y_DeviceSets_conflict : MethodName := ⟨R_DeviceSets, "conflict", "(III)I"⟩
theorem nm_DeviceSets_conflict : y_DeviceSets_conflict.cls ≠ "java/lang/invoke/MethodHandle" ∧ y_DeviceSets_conflict.cls ≠ "java/lang/invoke/VarHandle" ∧ (parseMethodDescriptor y_DeviceSets_conflict.desc).map (fun d => d.parameters.length) = some 3 := by decide +kernel
abbrev b_Tellings_inPlace : ByteArray := prog_6_method_11_code
def y_Tellings_inPlace : MethodName := ⟨R_Tellings, "inPlace", "(JI)I"⟩
theorem nm_Tellings_inPlace : y_Tellings_inPlace.cls ≠ "java/lang/invoke/MethodHandle" ∧ y_Tellings_inPlace.cls ≠ "java/lang/invoke/VarHandle" ∧ (parseMethodDescriptor y_Tellings_inPlace.desc).map (fun d => d.parameters.length) = some 2 := by decide +kernel
abbrev b_Tellings_countBefore : ByteArray := prog_6_method_12_code
def y_Tellings_countBefore : MethodName := ⟨R_Tellings, "countBefore", "(IJ)I"⟩
theorem nm_Tellings_countBefore : y_Tellings_countBefore.cls ≠ "java/lang/invoke/MethodHandle" ∧ y_Tellings_countBefore.cls ≠ "java/lang/invoke/VarHandle" ∧ (parseMethodDescriptor y_Tellings_countBefore.desc).map (fun d => d.parameters.length) = some 2 := by decide +kernel
abbrev b_Tellings_keyPart : ByteArray := prog_6_method_20_code
def y_Tellings_keyPart : MethodName := ⟨R_Tellings, "keyPart", "(II)I"⟩
theorem nm_Tellings_keyPart : y_Tellings_keyPart.cls ≠ "java/lang/invoke/MethodHandle" ∧ y_Tellings_keyPart.cls ≠ "java/lang/invoke/VarHandle" ∧ (parseMethodDescriptor y_Tellings_keyPart.desc).map (fun d => d.parameters.length) = some 2 := by decide +kernel
abbrev b_DeviceSets_settle : ByteArray := prog_1_method_13_code
def y_DeviceSets_settle : MethodName := ⟨R_DeviceSets, "settle", "(IIII)I"⟩
theorem nm_DeviceSets_settle : y_DeviceSets_settle.cls ≠ "java/lang/invoke/MethodHandle" ∧ y_DeviceSets_settle.cls ≠ "java/lang/invoke/VarHandle" ∧ (parseMethodDescriptor y_DeviceSets_settle.desc).map (fun d => d.parameters.length) = some 4 := by decide +kernel
abbrev b_DeviceSets_equal : ByteArray := prog_1_method_14_code
def y_DeviceSets_equal : MethodName := ⟨R_DeviceSets, "equal", "(II)Z"⟩
theorem nm_DeviceSets_equal : y_DeviceSets_equal.cls ≠ "java/lang/invoke/MethodHandle" ∧ y_DeviceSets_equal.cls ≠ "java/lang/invoke/VarHandle" ∧ (parseMethodDescriptor y_DeviceSets_equal.desc).map (fun d => d.parameters.length) = some 2 := by decide +kernel
abbrev b_Held_isLike : ByteArray := prog_5_method_3_code
def y_Held_isLike : MethodName := ⟨R_Held, "isLike", "(LDeviceSets$Held;)Z"⟩
theorem nm_Held_isLike : y_Held_isLike.cls ≠ "java/lang/invoke/MethodHandle" ∧ y_Held_isLike.cls ≠ "java/lang/invoke/VarHandle" ∧ (parseMethodDescriptor y_Held_isLike.desc).map (fun d => d.parameters.length) = some 1 := by decide +kernel
abbrev b_DeviceSets_batch : ByteArray := prog_1_method_15_code
def y_DeviceSets_batch : MethodName := ⟨R_DeviceSets, "batch", "(I)I"⟩
theorem nm_DeviceSets_batch : y_DeviceSets_batch.cls ≠ "java/lang/invoke/MethodHandle" ∧ y_DeviceSets_batch.cls ≠ "java/lang/invoke/VarHandle" ∧ (parseMethodDescriptor y_DeviceSets_batch.desc).map (fun d => d.parameters.length) = some 1 := by decide +kernel
abbrev b_DeviceSets_endBatch : ByteArray := prog_1_method_16_code
def y_DeviceSets_endBatch : MethodName := ⟨R_DeviceSets, "endBatch", "(I)Z"⟩
theorem nm_DeviceSets_endBatch : y_DeviceSets_endBatch.cls ≠ "java/lang/invoke/MethodHandle" ∧ y_DeviceSets_endBatch.cls ≠ "java/lang/invoke/VarHandle" ∧ (parseMethodDescriptor y_DeviceSets_endBatch.desc).map (fun d => d.parameters.length) = some 1 := by decide +kernel
abbrev b_ToldSet_takeWaiting : ByteArray := prog_7_method_3_code
def y_ToldSet_takeWaiting : MethodName := ⟨R_ToldSet, "takeWaiting", "()V"⟩
theorem nm_ToldSet_takeWaiting : y_ToldSet_takeWaiting.cls ≠ "java/lang/invoke/MethodHandle" ∧ y_ToldSet_takeWaiting.cls ≠ "java/lang/invoke/VarHandle" ∧ (parseMethodDescriptor y_ToldSet_takeWaiting.desc).map (fun d => d.parameters.length) = some 0 := by decide +kernel
abbrev b_Held_clear : ByteArray := prog_5_method_4_code
def y_Held_clear : MethodName := ⟨R_Held, "clear", "()V"⟩
theorem nm_Held_clear : y_Held_clear.cls ≠ "java/lang/invoke/MethodHandle" ∧ y_Held_clear.cls ≠ "java/lang/invoke/VarHandle" ∧ (parseMethodDescriptor y_Held_clear.desc).map (fun d => d.parameters.length) = some 0 := by decide +kernel
abbrev b_DeviceSets_retain : ByteArray := prog_1_method_17_code
def y_DeviceSets_retain : MethodName := ⟨R_DeviceSets, "retain", "(IJ)I"⟩
theorem nm_DeviceSets_retain : y_DeviceSets_retain.cls ≠ "java/lang/invoke/MethodHandle" ∧ y_DeviceSets_retain.cls ≠ "java/lang/invoke/VarHandle" ∧ (parseMethodDescriptor y_DeviceSets_retain.desc).map (fun d => d.parameters.length) = some 2 := by decide +kernel
abbrev b_DeviceSets_kept : ByteArray := prog_1_method_18_code
def y_DeviceSets_kept : MethodName := ⟨R_DeviceSets, "kept", "(II)J"⟩
theorem nm_DeviceSets_kept : y_DeviceSets_kept.cls ≠ "java/lang/invoke/MethodHandle" ∧ y_DeviceSets_kept.cls ≠ "java/lang/invoke/VarHandle" ∧ (parseMethodDescriptor y_DeviceSets_kept.desc).map (fun d => d.parameters.length) = some 2 := by decide +kernel
abbrev b_Tellings_sumOfKind : ByteArray := prog_6_method_21_code
def y_Tellings_sumOfKind : MethodName := ⟨R_Tellings, "sumOfKind", "(JI)J"⟩
theorem nm_Tellings_sumOfKind : y_Tellings_sumOfKind.cls ≠ "java/lang/invoke/MethodHandle" ∧ y_Tellings_sumOfKind.cls ≠ "java/lang/invoke/VarHandle" ∧ (parseMethodDescriptor y_Tellings_sumOfKind.desc).map (fun d => d.parameters.length) = some 2 := by decide +kernel
abbrev b_DeviceSets_mark : ByteArray := prog_1_method_19_code
def y_DeviceSets_mark : MethodName := ⟨R_DeviceSets, "mark", "(IJJ)Z"⟩
theorem nm_DeviceSets_mark : y_DeviceSets_mark.cls ≠ "java/lang/invoke/MethodHandle" ∧ y_DeviceSets_mark.cls ≠ "java/lang/invoke/VarHandle" ∧ (parseMethodDescriptor y_DeviceSets_mark.desc).map (fun d => d.parameters.length) = some 3 := by decide +kernel
abbrev b_Clock_addMark : ByteArray := prog_2_method_2_code
def y_Clock_addMark : MethodName := ⟨R_Clock, "addMark", "(JJ)Z"⟩
theorem nm_Clock_addMark : y_Clock_addMark.cls ≠ "java/lang/invoke/MethodHandle" ∧ y_Clock_addMark.cls ≠ "java/lang/invoke/VarHandle" ∧ (parseMethodDescriptor y_Clock_addMark.desc).map (fun d => d.parameters.length) = some 2 := by decide +kernel
abbrev b_DeviceSets_corrected : ByteArray := prog_1_method_20_code
def y_DeviceSets_corrected : MethodName := ⟨R_DeviceSets, "corrected", "(IJI)J"⟩
theorem nm_DeviceSets_corrected : y_DeviceSets_corrected.cls ≠ "java/lang/invoke/MethodHandle" ∧ y_DeviceSets_corrected.cls ≠ "java/lang/invoke/VarHandle" ∧ (parseMethodDescriptor y_DeviceSets_corrected.desc).map (fun d => d.parameters.length) = some 3 := by decide +kernel
abbrev b_Clock_numerator : ByteArray := prog_2_method_4_code
def y_Clock_numerator : MethodName := ⟨R_Clock, "numerator", "(J)J"⟩
theorem nm_Clock_numerator : y_Clock_numerator.cls ≠ "java/lang/invoke/MethodHandle" ∧ y_Clock_numerator.cls ≠ "java/lang/invoke/VarHandle" ∧ (parseMethodDescriptor y_Clock_numerator.desc).map (fun d => d.parameters.length) = some 1 := by decide +kernel
abbrev b_Clock_markBefore : ByteArray := prog_2_method_6_code
def y_Clock_markBefore : MethodName := ⟨R_Clock, "markBefore", "(J)I"⟩
theorem nm_Clock_markBefore : y_Clock_markBefore.cls ≠ "java/lang/invoke/MethodHandle" ∧ y_Clock_markBefore.cls ≠ "java/lang/invoke/VarHandle" ∧ (parseMethodDescriptor y_Clock_markBefore.desc).map (fun d => d.parameters.length) = some 1 := by decide +kernel
abbrev b_Clock_isBetween : ByteArray := prog_2_method_5_code
def y_Clock_isBetween : MethodName := ⟨R_Clock, "isBetween", "(I)Z"⟩
theorem nm_Clock_isBetween : y_Clock_isBetween.cls ≠ "java/lang/invoke/MethodHandle" ∧ y_Clock_isBetween.cls ≠ "java/lang/invoke/VarHandle" ∧ (parseMethodDescriptor y_Clock_isBetween.desc).map (fun d => d.parameters.length) = some 1 := by decide +kernel
abbrev b_Clock_denominator : ByteArray := prog_2_method_3_code
def y_Clock_denominator : MethodName := ⟨R_Clock, "denominator", "(J)J"⟩
theorem nm_Clock_denominator : y_Clock_denominator.cls ≠ "java/lang/invoke/MethodHandle" ∧ y_Clock_denominator.cls ≠ "java/lang/invoke/VarHandle" ∧ (parseMethodDescriptor y_Clock_denominator.desc).map (fun d => d.parameters.length) = some 1 := by decide +kernel
abbrev b_DeviceSets_commonDivisor : ByteArray := prog_1_method_34_code
def y_DeviceSets_commonDivisor : MethodName := ⟨R_DeviceSets, "commonDivisor", "(JJ)J"⟩
theorem nm_DeviceSets_commonDivisor : y_DeviceSets_commonDivisor.cls ≠ "java/lang/invoke/MethodHandle" ∧ y_DeviceSets_commonDivisor.cls ≠ "java/lang/invoke/VarHandle" ∧ (parseMethodDescriptor y_DeviceSets_commonDivisor.desc).map (fun d => d.parameters.length) = some 2 := by decide +kernel
abbrev b_DeviceSets_play : ByteArray := prog_1_method_21_code
def y_DeviceSets_play : MethodName := ⟨R_DeviceSets, "play", "(JI)I"⟩
theorem nm_DeviceSets_play : y_DeviceSets_play.cls ≠ "java/lang/invoke/MethodHandle" ∧ y_DeviceSets_play.cls ≠ "java/lang/invoke/VarHandle" ∧ (parseMethodDescriptor y_DeviceSets_play.desc).map (fun d => d.parameters.length) = some 2 := by decide +kernel
abbrev b_DeviceSets_nextDraw : ByteArray := prog_1_method_33_code
def y_DeviceSets_nextDraw : MethodName := ⟨R_DeviceSets, "nextDraw", "(J)J"⟩
theorem nm_DeviceSets_nextDraw : y_DeviceSets_nextDraw.cls ≠ "java/lang/invoke/MethodHandle" ∧ y_DeviceSets_nextDraw.cls ≠ "java/lang/invoke/VarHandle" ∧ (parseMethodDescriptor y_DeviceSets_nextDraw.desc).map (fun d => d.parameters.length) = some 1 := by decide +kernel
abbrev b_DeviceSets_joinChanges : ByteArray := prog_1_method_24_code
def y_DeviceSets_joinChanges : MethodName := ⟨R_DeviceSets, "joinChanges", "(II)Z"⟩
theorem nm_DeviceSets_joinChanges : y_DeviceSets_joinChanges.cls ≠ "java/lang/invoke/MethodHandle" ∧ y_DeviceSets_joinChanges.cls ≠ "java/lang/invoke/VarHandle" ∧ (parseMethodDescriptor y_DeviceSets_joinChanges.desc).map (fun d => d.parameters.length) = some 2 := by decide +kernel
abbrev b_Model_init : ByteArray := prog_9_method_1_code
def y_Model_init : MethodName := ⟨R_Model, "<init>", "()V"⟩
theorem nm_Model_init : y_Model_init.cls ≠ "java/lang/invoke/MethodHandle" ∧ y_Model_init.cls ≠ "java/lang/invoke/VarHandle" ∧ (parseMethodDescriptor y_Model_init.desc).map (fun d => d.parameters.length) = some 0 := by decide +kernel
abbrev b_Model_device : ByteArray := prog_9_method_6_code
def y_Model_device : MethodName := ⟨R_Model, "device", "()I"⟩
theorem nm_Model_device : y_Model_device.cls ≠ "java/lang/invoke/MethodHandle" ∧ y_Model_device.cls ≠ "java/lang/invoke/VarHandle" ∧ (parseMethodDescriptor y_Model_device.desc).map (fun d => d.parameters.length) = some 0 := by decide +kernel
abbrev b_Model_tell : ByteArray := prog_9_method_7_code
def y_Model_tell : MethodName := ⟨R_Model, "tell", "(IJIJJJ)I"⟩
theorem nm_Model_tell : y_Model_tell.cls ≠ "java/lang/invoke/MethodHandle" ∧ y_Model_tell.cls ≠ "java/lang/invoke/VarHandle" ∧ (parseMethodDescriptor y_Model_tell.desc).map (fun d => d.parameters.length) = some 6 := by decide +kernel
abbrev b_Model_isDevice : ByteArray := prog_9_method_4_code
def y_Model_isDevice : MethodName := ⟨R_Model, "isDevice", "(I)Z"⟩
theorem nm_Model_isDevice : y_Model_isDevice.cls ≠ "java/lang/invoke/MethodHandle" ∧ y_Model_isDevice.cls ≠ "java/lang/invoke/VarHandle" ∧ (parseMethodDescriptor y_Model_isDevice.desc).map (fun d => d.parameters.length) = some 1 := by decide +kernel
abbrev b_Model_isIn : ByteArray := prog_9_method_3_code
def y_Model_isIn : MethodName := ⟨R_Model, "isIn", "(JJJ)Z"⟩
theorem nm_Model_isIn : y_Model_isIn.cls ≠ "java/lang/invoke/MethodHandle" ∧ y_Model_isIn.cls ≠ "java/lang/invoke/VarHandle" ∧ (parseMethodDescriptor y_Model_isIn.desc).map (fun d => d.parameters.length) = some 3 := by decide +kernel
abbrev b_Model_reset : ByteArray := prog_9_method_8_code
def y_Model_reset : MethodName := ⟨R_Model, "reset", "(IJ)Z"⟩
theorem nm_Model_reset : y_Model_reset.cls ≠ "java/lang/invoke/MethodHandle" ∧ y_Model_reset.cls ≠ "java/lang/invoke/VarHandle" ∧ (parseMethodDescriptor y_Model_reset.desc).map (fun d => d.parameters.length) = some 2 := by decide +kernel
abbrev b_Model_life : ByteArray := prog_9_method_9_code
def y_Model_life : MethodName := ⟨R_Model, "life", "(I)I"⟩
theorem nm_Model_life : y_Model_life.cls ≠ "java/lang/invoke/MethodHandle" ∧ y_Model_life.cls ≠ "java/lang/invoke/VarHandle" ∧ (parseMethodDescriptor y_Model_life.desc).map (fun d => d.parameters.length) = some 1 := by decide +kernel
abbrev b_Model_set : ByteArray := prog_9_method_10_code
def y_Model_set : MethodName := ⟨R_Model, "set", "(I)I"⟩
theorem nm_Model_set : y_Model_set.cls ≠ "java/lang/invoke/MethodHandle" ∧ y_Model_set.cls ≠ "java/lang/invoke/VarHandle" ∧ (parseMethodDescriptor y_Model_set.desc).map (fun d => d.parameters.length) = some 1 := by decide +kernel
abbrev b_Model_join : ByteArray := prog_9_method_13_code
def y_Model_join : MethodName := ⟨R_Model, "join", "(II)I"⟩
theorem nm_Model_join : y_Model_join.cls ≠ "java/lang/invoke/MethodHandle" ∧ y_Model_join.cls ≠ "java/lang/invoke/VarHandle" ∧ (parseMethodDescriptor y_Model_join.desc).map (fun d => d.parameters.length) = some 2 := by decide +kernel
abbrev b_Model_isSet : ByteArray := prog_9_method_5_code
def y_Model_isSet : MethodName := ⟨R_Model, "isSet", "(I)Z"⟩
theorem nm_Model_isSet : y_Model_isSet.cls ≠ "java/lang/invoke/MethodHandle" ∧ y_Model_isSet.cls ≠ "java/lang/invoke/VarHandle" ∧ (parseMethodDescriptor y_Model_isSet.desc).map (fun d => d.parameters.length) = some 1 := by decide +kernel
abbrev b_Model_joinTo : ByteArray := prog_9_method_12_code
def y_Model_joinTo : MethodName := ⟨R_Model, "joinTo", "(II)Z"⟩
theorem nm_Model_joinTo : y_Model_joinTo.cls ≠ "java/lang/invoke/MethodHandle" ∧ y_Model_joinTo.cls ≠ "java/lang/invoke/VarHandle" ∧ (parseMethodDescriptor y_Model_joinTo.desc).map (fun d => d.parameters.length) = some 2 := by decide +kernel
abbrev b_Model_bring : ByteArray := prog_9_method_11_code
def y_Model_bring : MethodName := ⟨R_Model, "bring", "(II)Z"⟩
theorem nm_Model_bring : y_Model_bring.cls ≠ "java/lang/invoke/MethodHandle" ∧ y_Model_bring.cls ≠ "java/lang/invoke/VarHandle" ∧ (parseMethodDescriptor y_Model_bring.desc).map (fun d => d.parameters.length) = some 2 := by decide +kernel
abbrev b_Model_conflicts : ByteArray := prog_9_method_26_code
def y_Model_conflicts : MethodName := ⟨R_Model, "conflicts", "(I)I"⟩
theorem nm_Model_conflicts : y_Model_conflicts.cls ≠ "java/lang/invoke/MethodHandle" ∧ y_Model_conflicts.cls ≠ "java/lang/invoke/VarHandle" ∧ (parseMethodDescriptor y_Model_conflicts.desc).map (fun d => d.parameters.length) = some 1 := by decide +kernel
abbrev b_Model_isConflict : ByteArray := prog_9_method_25_code
def y_Model_isConflict : MethodName := ⟨R_Model, "isConflict", "(II)Z"⟩
theorem nm_Model_isConflict : y_Model_isConflict.cls ≠ "java/lang/invoke/MethodHandle" ∧ y_Model_isConflict.cls ≠ "java/lang/invoke/VarHandle" ∧ (parseMethodDescriptor y_Model_isConflict.desc).map (fun d => d.parameters.length) = some 2 := by decide +kernel
abbrev b_Model_isHere : ByteArray := prog_9_method_15_code
def y_Model_isHere : MethodName := ⟨R_Model, "isHere", "(II)Z"⟩
theorem nm_Model_isHere : y_Model_isHere.cls ≠ "java/lang/invoke/MethodHandle" ∧ y_Model_isHere.cls ≠ "java/lang/invoke/VarHandle" ∧ (parseMethodDescriptor y_Model_isHere.desc).map (fun d => d.parameters.length) = some 2 := by decide +kernel
abbrev b_Model_isChosen : ByteArray := prog_9_method_16_code
def y_Model_isChosen : MethodName := ⟨R_Model, "isChosen", "(II)Z"⟩
theorem nm_Model_isChosen : y_Model_isChosen.cls ≠ "java/lang/invoke/MethodHandle" ∧ y_Model_isChosen.cls ≠ "java/lang/invoke/VarHandle" ∧ (parseMethodDescriptor y_Model_isChosen.desc).map (fun d => d.parameters.length) = some 2 := by decide +kernel
abbrev b_Model_isSameKey : ByteArray := prog_9_method_17_code
def y_Model_isSameKey : MethodName := ⟨R_Model, "isSameKey", "(II)Z"⟩
theorem nm_Model_isSameKey : y_Model_isSameKey.cls ≠ "java/lang/invoke/MethodHandle" ∧ y_Model_isSameKey.cls ≠ "java/lang/invoke/VarHandle" ∧ (parseMethodDescriptor y_Model_isSameKey.desc).map (fun d => d.parameters.length) = some 2 := by decide +kernel
abbrev b_Model_correct : ByteArray := prog_9_method_14_code
def y_Model_correct : MethodName := ⟨R_Model, "correct", "(IIIJJJ)Z"⟩
theorem nm_Model_correct : y_Model_correct.cls ≠ "java/lang/invoke/MethodHandle" ∧ y_Model_correct.cls ≠ "java/lang/invoke/VarHandle" ∧ (parseMethodDescriptor y_Model_correct.desc).map (fun d => d.parameters.length) = some 6 := by decide +kernel
abbrev b_Model_last : ByteArray := prog_9_method_20_code
def y_Model_last : MethodName := ⟨R_Model, "last", "(III)J"⟩
theorem nm_Model_last : y_Model_last.cls ≠ "java/lang/invoke/MethodHandle" ∧ y_Model_last.cls ≠ "java/lang/invoke/VarHandle" ∧ (parseMethodDescriptor y_Model_last.desc).map (fun d => d.parameters.length) = some 3 := by decide +kernel
abbrev b_Model_isSeen : ByteArray := prog_9_method_19_code
def y_Model_isSeen : MethodName := ⟨R_Model, "isSeen", "(II)Z"⟩
theorem nm_Model_isSeen : y_Model_isSeen.cls ≠ "java/lang/invoke/MethodHandle" ∧ y_Model_isSeen.cls ≠ "java/lang/invoke/VarHandle" ∧ (parseMethodDescriptor y_Model_isSeen.desc).map (fun d => d.parameters.length) = some 2 := by decide +kernel
abbrev b_Model_isBefore : ByteArray := prog_9_method_18_code
def y_Model_isBefore : MethodName := ⟨R_Model, "isBefore", "(II)Z"⟩
theorem nm_Model_isBefore : y_Model_isBefore.cls ≠ "java/lang/invoke/MethodHandle" ∧ y_Model_isBefore.cls ≠ "java/lang/invoke/VarHandle" ∧ (parseMethodDescriptor y_Model_isBefore.desc).map (fun d => d.parameters.length) = some 2 := by decide +kernel
abbrev b_Model_known : ByteArray := prog_9_method_22_code
def y_Model_known : MethodName := ⟨R_Model, "known", "(IIIJJ)J"⟩
theorem nm_Model_known : y_Model_known.cls ≠ "java/lang/invoke/MethodHandle" ∧ y_Model_known.cls ≠ "java/lang/invoke/VarHandle" ∧ (parseMethodDescriptor y_Model_known.desc).map (fun d => d.parameters.length) = some 5 := by decide +kernel
abbrev b_Model_isLater : ByteArray := prog_9_method_21_code
def y_Model_isLater : MethodName := ⟨R_Model, "isLater", "(II)Z"⟩
theorem nm_Model_isLater : y_Model_isLater.cls ≠ "java/lang/invoke/MethodHandle" ∧ y_Model_isLater.cls ≠ "java/lang/invoke/VarHandle" ∧ (parseMethodDescriptor y_Model_isLater.desc).map (fun d => d.parameters.length) = some 2 := by decide +kernel
abbrev b_Model_gap : ByteArray := prog_9_method_23_code
def y_Model_gap : MethodName := ⟨R_Model, "gap", "(III)I"⟩
theorem nm_Model_gap : y_Model_gap.cls ≠ "java/lang/invoke/MethodHandle" ∧ y_Model_gap.cls ≠ "java/lang/invoke/VarHandle" ∧ (parseMethodDescriptor y_Model_gap.desc).map (fun d => d.parameters.length) = some 3 := by decide +kernel
abbrev b_Model_nextNumber : ByteArray := prog_9_method_24_code
def y_Model_nextNumber : MethodName := ⟨R_Model, "nextNumber", "(IIII)I"⟩
theorem nm_Model_nextNumber : y_Model_nextNumber.cls ≠ "java/lang/invoke/MethodHandle" ∧ y_Model_nextNumber.cls ≠ "java/lang/invoke/VarHandle" ∧ (parseMethodDescriptor y_Model_nextNumber.desc).map (fun d => d.parameters.length) = some 4 := by decide +kernel
abbrev b_Model_conflict : ByteArray := prog_9_method_28_code
def y_Model_conflict : MethodName := ⟨R_Model, "conflict", "(III)I"⟩
theorem nm_Model_conflict : y_Model_conflict.cls ≠ "java/lang/invoke/MethodHandle" ∧ y_Model_conflict.cls ≠ "java/lang/invoke/VarHandle" ∧ (parseMethodDescriptor y_Model_conflict.desc).map (fun d => d.parameters.length) = some 3 := by decide +kernel
abbrev b_Model_isKeyBefore : ByteArray := prog_9_method_27_code
def y_Model_isKeyBefore : MethodName := ⟨R_Model, "isKeyBefore", "(II)Z"⟩
theorem nm_Model_isKeyBefore : y_Model_isKeyBefore.cls ≠ "java/lang/invoke/MethodHandle" ∧ y_Model_isKeyBefore.cls ≠ "java/lang/invoke/VarHandle" ∧ (parseMethodDescriptor y_Model_isKeyBefore.desc).map (fun d => d.parameters.length) = some 2 := by decide +kernel
abbrev b_Model_settle : ByteArray := prog_9_method_29_code
def y_Model_settle : MethodName := ⟨R_Model, "settle", "(IIII)I"⟩
theorem nm_Model_settle : y_Model_settle.cls ≠ "java/lang/invoke/MethodHandle" ∧ y_Model_settle.cls ≠ "java/lang/invoke/VarHandle" ∧ (parseMethodDescriptor y_Model_settle.desc).map (fun d => d.parameters.length) = some 4 := by decide +kernel
abbrev b_Model_equal : ByteArray := prog_9_method_30_code
def y_Model_equal : MethodName := ⟨R_Model, "equal", "(II)Z"⟩
theorem nm_Model_equal : y_Model_equal.cls ≠ "java/lang/invoke/MethodHandle" ∧ y_Model_equal.cls ≠ "java/lang/invoke/VarHandle" ∧ (parseMethodDescriptor y_Model_equal.desc).map (fun d => d.parameters.length) = some 2 := by decide +kernel
abbrev b_Model_batch : ByteArray := prog_9_method_31_code
def y_Model_batch : MethodName := ⟨R_Model, "batch", "(I)I"⟩
theorem nm_Model_batch : y_Model_batch.cls ≠ "java/lang/invoke/MethodHandle" ∧ y_Model_batch.cls ≠ "java/lang/invoke/VarHandle" ∧ (parseMethodDescriptor y_Model_batch.desc).map (fun d => d.parameters.length) = some 1 := by decide +kernel
abbrev b_Model_endBatch : ByteArray := prog_9_method_32_code
def y_Model_endBatch : MethodName := ⟨R_Model, "endBatch", "(I)Z"⟩
theorem nm_Model_endBatch : y_Model_endBatch.cls ≠ "java/lang/invoke/MethodHandle" ∧ y_Model_endBatch.cls ≠ "java/lang/invoke/VarHandle" ∧ (parseMethodDescriptor y_Model_endBatch.desc).map (fun d => d.parameters.length) = some 1 := by decide +kernel
abbrev b_Model_retain : ByteArray := prog_9_method_33_code
def y_Model_retain : MethodName := ⟨R_Model, "retain", "(IJ)I"⟩
theorem nm_Model_retain : y_Model_retain.cls ≠ "java/lang/invoke/MethodHandle" ∧ y_Model_retain.cls ≠ "java/lang/invoke/VarHandle" ∧ (parseMethodDescriptor y_Model_retain.desc).map (fun d => d.parameters.length) = some 2 := by decide +kernel
abbrev b_Model_kept : ByteArray := prog_9_method_34_code
def y_Model_kept : MethodName := ⟨R_Model, "kept", "(II)J"⟩
theorem nm_Model_kept : y_Model_kept.cls ≠ "java/lang/invoke/MethodHandle" ∧ y_Model_kept.cls ≠ "java/lang/invoke/VarHandle" ∧ (parseMethodDescriptor y_Model_kept.desc).map (fun d => d.parameters.length) = some 2 := by decide +kernel
abbrev b_Model_mark : ByteArray := prog_9_method_35_code
def y_Model_mark : MethodName := ⟨R_Model, "mark", "(IJJ)Z"⟩
theorem nm_Model_mark : y_Model_mark.cls ≠ "java/lang/invoke/MethodHandle" ∧ y_Model_mark.cls ≠ "java/lang/invoke/VarHandle" ∧ (parseMethodDescriptor y_Model_mark.desc).map (fun d => d.parameters.length) = some 3 := by decide +kernel
abbrev b_Model_corrected : ByteArray := prog_9_method_36_code
def y_Model_corrected : MethodName := ⟨R_Model, "corrected", "(IJI)J"⟩
theorem nm_Model_corrected : y_Model_corrected.cls ≠ "java/lang/invoke/MethodHandle" ∧ y_Model_corrected.cls ≠ "java/lang/invoke/VarHandle" ∧ (parseMethodDescriptor y_Model_corrected.desc).map (fun d => d.parameters.length) = some 3 := by decide +kernel
abbrev b_Model_common : ByteArray := prog_9_method_37_code
def y_Model_common : MethodName := ⟨R_Model, "common", "(JJ)J"⟩
theorem nm_Model_common : y_Model_common.cls ≠ "java/lang/invoke/MethodHandle" ∧ y_Model_common.cls ≠ "java/lang/invoke/VarHandle" ∧ (parseMethodDescriptor y_Model_common.desc).map (fun d => d.parameters.length) = some 2 := by decide +kernel
abbrev b_Model_play : ByteArray := prog_9_method_38_code
def y_Model_play : MethodName := ⟨R_Model, "play", "(JI)I"⟩
theorem nm_Model_play : y_Model_play.cls ≠ "java/lang/invoke/MethodHandle" ∧ y_Model_play.cls ≠ "java/lang/invoke/VarHandle" ∧ (parseMethodDescriptor y_Model_play.desc).map (fun d => d.parameters.length) = some 2 := by decide +kernel
