section
-- ===== PART A: goes FIRST, ahead of the names: the tables' words, and 'selects' of the private methods out of them =====
/-- a private method of a class that the tables say can be made, by its rows of tables_1 -/
def lw_okq (q : MethodName × Nat) : Prop := (q.1.cls ≠ "java/lang/invoke/MethodHandle" ∧ q.1.cls ≠ "java/lang/invoke/VarHandle") ∧ Cond.instantiable q.1.cls q.2 ∈ tables_1 ∧ Cond.privateMethod q.1 ∈ tables_1 ∧ Cond.instanceMethod q.1 ∈ tables_1
theorem lw_p0 : lw_okq (⟨"DeviceSets", "deviceAt", "(I)LDeviceSets$Device;"⟩, 7) := ⟨⟨by decide +kernel, by decide +kernel⟩, List.mem_of_getElem? (i := 12) (by decide +kernel), List.mem_of_getElem? (i := 147) (by decide +kernel), List.mem_of_getElem? (i := 148) (by decide +kernel)⟩
theorem lw_p1 : lw_okq (⟨"DeviceSets", "setAt", "(I)LDeviceSets$ToldSet;"⟩, 7) := ⟨⟨by decide +kernel, by decide +kernel⟩, List.mem_of_getElem? (i := 12) (by decide +kernel), List.mem_of_getElem? (i := 235) (by decide +kernel), List.mem_of_getElem? (i := 236) (by decide +kernel)⟩
theorem lw_p2 : lw_okq (⟨"DeviceSets", "conflictsIn", "(LDeviceSets$Held;)J"⟩, 7) := ⟨⟨by decide +kernel, by decide +kernel⟩, List.mem_of_getElem? (i := 12) (by decide +kernel), List.mem_of_getElem? (i := 251) (by decide +kernel), List.mem_of_getElem? (i := 252) (by decide +kernel)⟩
theorem lw_p3 : lw_okq (⟨"DeviceSets", "liveIn", "(LDeviceSets$Held;)J"⟩, 7) := ⟨⟨by decide +kernel, by decide +kernel⟩, List.mem_of_getElem? (i := 12) (by decide +kernel), List.mem_of_getElem? (i := 255) (by decide +kernel), List.mem_of_getElem? (i := 256) (by decide +kernel)⟩
theorem lw_p4 : lw_okq (⟨"DeviceSets$Corrections", "isFor", "(IIIJ)Z"⟩, 6) := ⟨⟨by decide +kernel, by decide +kernel⟩, List.mem_of_getElem? (i := 59) (by decide +kernel), List.mem_of_getElem? (i := 290) (by decide +kernel), List.mem_of_getElem? (i := 291) (by decide +kernel)⟩
theorem lw_p5 : lw_okq (⟨"DeviceSets", "seenIn", "(LDeviceSets$Held;II)J"⟩, 7) := ⟨⟨by decide +kernel, by decide +kernel⟩, List.mem_of_getElem? (i := 12) (by decide +kernel), List.mem_of_getElem? (i := 299) (by decide +kernel), List.mem_of_getElem? (i := 300) (by decide +kernel)⟩
theorem lw_p6 : lw_okq (⟨"DeviceSets$Tellings", "isBefore", "(II)Z"⟩, 8) := ⟨⟨by decide +kernel, by decide +kernel⟩, List.mem_of_getElem? (i := 24) (by decide +kernel), List.mem_of_getElem? (i := 315) (by decide +kernel), List.mem_of_getElem? (i := 316) (by decide +kernel)⟩
theorem lw_p7 : lw_okq (⟨"DeviceSets$Tellings", "isOfLater", "(II)Z"⟩, 8) := ⟨⟨by decide +kernel, by decide +kernel⟩, List.mem_of_getElem? (i := 24) (by decide +kernel), List.mem_of_getElem? (i := 331) (by decide +kernel), List.mem_of_getElem? (i := 332) (by decide +kernel)⟩
theorem lw_p8 : lw_okq (⟨"DeviceSets$Corrections", "isStronger", "(II)Z"⟩, 6) := ⟨⟨by decide +kernel, by decide +kernel⟩, List.mem_of_getElem? (i := 59) (by decide +kernel), List.mem_of_getElem? (i := 340) (by decide +kernel), List.mem_of_getElem? (i := 341) (by decide +kernel)⟩
theorem lw_p9 : lw_okq (⟨"DeviceSets$Tellings", "ofGreatestLife", "(J)J"⟩, 8) := ⟨⟨by decide +kernel, by decide +kernel⟩, List.mem_of_getElem? (i := 24) (by decide +kernel), List.mem_of_getElem? (i := 352) (by decide +kernel), List.mem_of_getElem? (i := 353) (by decide +kernel)⟩
theorem lw_p10 : lw_okq (⟨"DeviceSets$Tellings", "nextNumber", "(JI)I"⟩, 8) := ⟨⟨by decide +kernel, by decide +kernel⟩, List.mem_of_getElem? (i := 24) (by decide +kernel), List.mem_of_getElem? (i := 356) (by decide +kernel), List.mem_of_getElem? (i := 357) (by decide +kernel)⟩
theorem lw_p11 : lw_okq (⟨"DeviceSets$Tellings", "countBefore", "(IJ)I"⟩, 8) := ⟨⟨by decide +kernel, by decide +kernel⟩, List.mem_of_getElem? (i := 24) (by decide +kernel), List.mem_of_getElem? (i := 368) (by decide +kernel), List.mem_of_getElem? (i := 369) (by decide +kernel)⟩
theorem lw_p12 : lw_okq (⟨"DeviceSets$Clock", "markBefore", "(J)I"⟩, 3) := ⟨⟨by decide +kernel, by decide +kernel⟩, List.mem_of_getElem? (i := 116) (by decide +kernel), List.mem_of_getElem? (i := 437) (by decide +kernel), List.mem_of_getElem? (i := 438) (by decide +kernel)⟩
theorem lw_p13 : lw_okq (⟨"DeviceSets$Clock", "isBetween", "(I)Z"⟩, 3) := ⟨⟨by decide +kernel, by decide +kernel⟩, List.mem_of_getElem? (i := 116) (by decide +kernel), List.mem_of_getElem? (i := 441) (by decide +kernel), List.mem_of_getElem? (i := 442) (by decide +kernel)⟩
theorem lw_p14 : lw_okq (⟨"DeviceSets", "joinChanges", "(II)Z"⟩, 7) := ⟨⟨by decide +kernel, by decide +kernel⟩, List.mem_of_getElem? (i := 12) (by decide +kernel), List.mem_of_getElem? (i := 467) (by decide +kernel), List.mem_of_getElem? (i := 468) (by decide +kernel)⟩
theorem lw_p15 : lw_okq (⟨"DeviceSetsModel", "isDevice", "(I)Z"⟩, 23) := ⟨⟨by decide +kernel, by decide +kernel⟩, List.mem_of_getElem? (i := 471) (by decide +kernel), List.mem_of_getElem? (i := 556) (by decide +kernel), List.mem_of_getElem? (i := 557) (by decide +kernel)⟩
def lw_privs_1 : List (MethodName × Nat) := [(⟨"DeviceSets", "deviceAt", "(I)LDeviceSets$Device;"⟩, 7), (⟨"DeviceSets", "setAt", "(I)LDeviceSets$ToldSet;"⟩, 7), (⟨"DeviceSets", "conflictsIn", "(LDeviceSets$Held;)J"⟩, 7), (⟨"DeviceSets", "liveIn", "(LDeviceSets$Held;)J"⟩, 7), (⟨"DeviceSets$Corrections", "isFor", "(IIIJ)Z"⟩, 6), (⟨"DeviceSets", "seenIn", "(LDeviceSets$Held;II)J"⟩, 7), (⟨"DeviceSets$Tellings", "isBefore", "(II)Z"⟩, 8), (⟨"DeviceSets$Tellings", "isOfLater", "(II)Z"⟩, 8), (⟨"DeviceSets$Corrections", "isStronger", "(II)Z"⟩, 6), (⟨"DeviceSets$Tellings", "ofGreatestLife", "(J)J"⟩, 8), (⟨"DeviceSets$Tellings", "nextNumber", "(JI)I"⟩, 8), (⟨"DeviceSets$Tellings", "countBefore", "(IJ)I"⟩, 8), (⟨"DeviceSets$Clock", "markBefore", "(J)I"⟩, 3), (⟨"DeviceSets$Clock", "isBetween", "(I)Z"⟩, 3), (⟨"DeviceSets", "joinChanges", "(II)Z"⟩, 7), (⟨"DeviceSetsModel", "isDevice", "(I)Z"⟩, 23)]
theorem lw_r1 : ∀ q ∈ lw_privs_1, lw_okq q := List.forall_mem_cons.mpr ⟨lw_p0, List.forall_mem_cons.mpr ⟨lw_p1, List.forall_mem_cons.mpr ⟨lw_p2, List.forall_mem_cons.mpr ⟨lw_p3, List.forall_mem_cons.mpr ⟨lw_p4, List.forall_mem_cons.mpr ⟨lw_p5, List.forall_mem_cons.mpr ⟨lw_p6, List.forall_mem_cons.mpr ⟨lw_p7, List.forall_mem_cons.mpr ⟨lw_p8, List.forall_mem_cons.mpr ⟨lw_p9, List.forall_mem_cons.mpr ⟨lw_p10, List.forall_mem_cons.mpr ⟨lw_p11, List.forall_mem_cons.mpr ⟨lw_p12, List.forall_mem_cons.mpr ⟨lw_p13, List.forall_mem_cons.mpr ⟨lw_p14, List.forall_mem_cons.mpr ⟨lw_p15, fun _ h => absurd h List.not_mem_nil⟩⟩⟩⟩⟩⟩⟩⟩⟩⟩⟩⟩⟩⟩⟩⟩
theorem lw_p16 : lw_okq (⟨"DeviceSetsModel", "isSet", "(I)Z"⟩, 23) := ⟨⟨by decide +kernel, by decide +kernel⟩, List.mem_of_getElem? (i := 471) (by decide +kernel), List.mem_of_getElem? (i := 583) (by decide +kernel), List.mem_of_getElem? (i := 584) (by decide +kernel)⟩
theorem lw_p17 : lw_okq (⟨"DeviceSetsModel", "joinTo", "(II)Z"⟩, 23) := ⟨⟨by decide +kernel, by decide +kernel⟩, List.mem_of_getElem? (i := 471) (by decide +kernel), List.mem_of_getElem? (i := 587) (by decide +kernel), List.mem_of_getElem? (i := 588) (by decide +kernel)⟩
theorem lw_p18 : lw_okq (⟨"DeviceSetsModel", "bring", "(II)Z"⟩, 23) := ⟨⟨by decide +kernel, by decide +kernel⟩, List.mem_of_getElem? (i := 471) (by decide +kernel), List.mem_of_getElem? (i := 591) (by decide +kernel), List.mem_of_getElem? (i := 592) (by decide +kernel)⟩
theorem lw_p19 : lw_okq (⟨"DeviceSetsModel", "conflicts", "(I)I"⟩, 23) := ⟨⟨by decide +kernel, by decide +kernel⟩, List.mem_of_getElem? (i := 471) (by decide +kernel), List.mem_of_getElem? (i := 595) (by decide +kernel), List.mem_of_getElem? (i := 596) (by decide +kernel)⟩
theorem lw_p20 : lw_okq (⟨"DeviceSetsModel", "isConflict", "(II)Z"⟩, 23) := ⟨⟨by decide +kernel, by decide +kernel⟩, List.mem_of_getElem? (i := 471) (by decide +kernel), List.mem_of_getElem? (i := 599) (by decide +kernel), List.mem_of_getElem? (i := 600) (by decide +kernel)⟩
theorem lw_p21 : lw_okq (⟨"DeviceSetsModel", "isHere", "(II)Z"⟩, 23) := ⟨⟨by decide +kernel, by decide +kernel⟩, List.mem_of_getElem? (i := 471) (by decide +kernel), List.mem_of_getElem? (i := 603) (by decide +kernel), List.mem_of_getElem? (i := 604) (by decide +kernel)⟩
theorem lw_p22 : lw_okq (⟨"DeviceSetsModel", "isChosen", "(II)Z"⟩, 23) := ⟨⟨by decide +kernel, by decide +kernel⟩, List.mem_of_getElem? (i := 471) (by decide +kernel), List.mem_of_getElem? (i := 607) (by decide +kernel), List.mem_of_getElem? (i := 608) (by decide +kernel)⟩
theorem lw_p23 : lw_okq (⟨"DeviceSetsModel", "isSameKey", "(II)Z"⟩, 23) := ⟨⟨by decide +kernel, by decide +kernel⟩, List.mem_of_getElem? (i := 471) (by decide +kernel), List.mem_of_getElem? (i := 611) (by decide +kernel), List.mem_of_getElem? (i := 612) (by decide +kernel)⟩
theorem lw_p24 : lw_okq (⟨"DeviceSetsModel", "isSeen", "(II)Z"⟩, 23) := ⟨⟨by decide +kernel, by decide +kernel⟩, List.mem_of_getElem? (i := 471) (by decide +kernel), List.mem_of_getElem? (i := 623) (by decide +kernel), List.mem_of_getElem? (i := 624) (by decide +kernel)⟩
theorem lw_p25 : lw_okq (⟨"DeviceSetsModel", "isBefore", "(II)Z"⟩, 23) := ⟨⟨by decide +kernel, by decide +kernel⟩, List.mem_of_getElem? (i := 471) (by decide +kernel), List.mem_of_getElem? (i := 627) (by decide +kernel), List.mem_of_getElem? (i := 628) (by decide +kernel)⟩
theorem lw_p26 : lw_okq (⟨"DeviceSetsModel", "isLater", "(II)Z"⟩, 23) := ⟨⟨by decide +kernel, by decide +kernel⟩, List.mem_of_getElem? (i := 471) (by decide +kernel), List.mem_of_getElem? (i := 636) (by decide +kernel), List.mem_of_getElem? (i := 637) (by decide +kernel)⟩
theorem lw_p27 : lw_okq (⟨"DeviceSetsModel", "nextNumber", "(IIII)I"⟩, 23) := ⟨⟨by decide +kernel, by decide +kernel⟩, List.mem_of_getElem? (i := 471) (by decide +kernel), List.mem_of_getElem? (i := 644) (by decide +kernel), List.mem_of_getElem? (i := 645) (by decide +kernel)⟩
theorem lw_p28 : lw_okq (⟨"DeviceSetsModel", "isKeyBefore", "(II)Z"⟩, 23) := ⟨⟨by decide +kernel, by decide +kernel⟩, List.mem_of_getElem? (i := 471) (by decide +kernel), List.mem_of_getElem? (i := 652) (by decide +kernel), List.mem_of_getElem? (i := 653) (by decide +kernel)⟩
def lw_privs_2 : List (MethodName × Nat) := [(⟨"DeviceSetsModel", "isSet", "(I)Z"⟩, 23), (⟨"DeviceSetsModel", "joinTo", "(II)Z"⟩, 23), (⟨"DeviceSetsModel", "bring", "(II)Z"⟩, 23), (⟨"DeviceSetsModel", "conflicts", "(I)I"⟩, 23), (⟨"DeviceSetsModel", "isConflict", "(II)Z"⟩, 23), (⟨"DeviceSetsModel", "isHere", "(II)Z"⟩, 23), (⟨"DeviceSetsModel", "isChosen", "(II)Z"⟩, 23), (⟨"DeviceSetsModel", "isSameKey", "(II)Z"⟩, 23), (⟨"DeviceSetsModel", "isSeen", "(II)Z"⟩, 23), (⟨"DeviceSetsModel", "isBefore", "(II)Z"⟩, 23), (⟨"DeviceSetsModel", "isLater", "(II)Z"⟩, 23), (⟨"DeviceSetsModel", "nextNumber", "(IIII)I"⟩, 23), (⟨"DeviceSetsModel", "isKeyBefore", "(II)Z"⟩, 23)]
theorem lw_r2 : ∀ q ∈ lw_privs_2, lw_okq q := List.forall_mem_cons.mpr ⟨lw_p16, List.forall_mem_cons.mpr ⟨lw_p17, List.forall_mem_cons.mpr ⟨lw_p18, List.forall_mem_cons.mpr ⟨lw_p19, List.forall_mem_cons.mpr ⟨lw_p20, List.forall_mem_cons.mpr ⟨lw_p21, List.forall_mem_cons.mpr ⟨lw_p22, List.forall_mem_cons.mpr ⟨lw_p23, List.forall_mem_cons.mpr ⟨lw_p24, List.forall_mem_cons.mpr ⟨lw_p25, List.forall_mem_cons.mpr ⟨lw_p26, List.forall_mem_cons.mpr ⟨lw_p27, List.forall_mem_cons.mpr ⟨lw_p28, fun _ h => absurd h List.not_mem_nil⟩⟩⟩⟩⟩⟩⟩⟩⟩⟩⟩⟩⟩
def lw_privs : List (MethodName × Nat) := lw_privs_1 ++ (lw_privs_2)
def lw_tbl : List Cond := k2_sels lw_privs ++ tables_1
theorem lw_privs_ok : ∀ q ∈ lw_privs, lw_okq q := by
  show ∀ q ∈ lw_privs_1 ++ (lw_privs_2), lw_okq q
  exact List.forall_mem_append.mpr ⟨lw_r1, lw_r2⟩
end
section
def R_DeviceSets : String := "DeviceSets"
def F_DeviceSets : u_T := fun k => match k with
  | 0 => ("DeviceSets", "devices", "[LDeviceSets$Device;", true)
  | 1 => ("DeviceSets", "sets", "[LDeviceSets$ToldSet;", true)
  | 2 => ("DeviceSets", "tellings", "LDeviceSets$Tellings;", true)
  | 3 => ("DeviceSets", "corrections", "LDeviceSets$Corrections;", true)
  | 4 => ("DeviceSets", "deviceCount", "I", false)
  | 5 => ("DeviceSets", "setCount", "I", false)
  | _ => ("DeviceSets", "batchCount", "I", false)
def t_DeviceSets : Nat → FieldType := fun k => match k with
  | 0 => .array (.object "DeviceSets$Device")
  | 1 => .array (.object "DeviceSets$ToldSet")
  | 2 => .object "DeviceSets$Tellings"
  | 3 => .object "DeviceSets$Corrections"
  | 4 => .int
  | 5 => .int
  | _ => .int
abbrev w_DeviceSets : List Cond := u_ws R_DeviceSets F_DeviceSets 7
theorem n_DeviceSets : ∀ a, a < 7 → ∀ b, b < 7 → a ≠ b → (F_DeviceSets a).2.1 ≠ (F_DeviceSets b).2.1 := by decide +kernel
theorem t_DeviceSets_ok : ∀ k, k < 7 → parseFieldDescriptor (F_DeviceSets k).2.2.1 = some (t_DeviceSets k) := by decide +kernel
def R_Device : String := "DeviceSets$Device"
def F_Device : u_T := fun k => match k with
  | 0 => ("DeviceSets$Device", "clock", "LDeviceSets$Clock;", true)
  | 1 => ("DeviceSets$Device", "life", "I", false)
  | _ => ("DeviceSets$Device", "firstNumber", "J", false)
def t_Device : Nat → FieldType := fun k => match k with
  | 0 => .object "DeviceSets$Clock"
  | 1 => .int
  | _ => .long
abbrev w_Device : List Cond := u_ws R_Device F_Device 3
theorem n_Device : ∀ a, a < 3 → ∀ b, b < 3 → a ≠ b → (F_Device a).2.1 ≠ (F_Device b).2.1 := by decide +kernel
theorem t_Device_ok : ∀ k, k < 3 → parseFieldDescriptor (F_Device k).2.2.1 = some (t_Device k) := by decide +kernel
def R_Clock : String := "DeviceSets$Clock"
def F_Clock : u_T := fun k => match k with
  | 0 => ("DeviceSets$Clock", "seconds", "[J", true)
  | 1 => ("DeviceSets$Clock", "trueSeconds", "[J", true)
  | _ => ("DeviceSets$Clock", "count", "I", false)
def t_Clock : Nat → FieldType := fun k => match k with
  | 0 => .array .long
  | 1 => .array .long
  | _ => .int
abbrev w_Clock : List Cond := u_ws R_Clock F_Clock 3
theorem n_Clock : ∀ a, a < 3 → ∀ b, b < 3 → a ≠ b → (F_Clock a).2.1 ≠ (F_Clock b).2.1 := by decide +kernel
theorem t_Clock_ok : ∀ k, k < 3 → parseFieldDescriptor (F_Clock k).2.2.1 = some (t_Clock k) := by decide +kernel
def R_Held : String := "DeviceSets$Held"
def F_Held : u_T := fun k => match k with
  | 0 => ("DeviceSets$Held", "tellings", "J", false)
  | 1 => ("DeviceSets$Held", "corrections", "J", false)
  | 2 => ("DeviceSets$Held", "choices", "J", false)
  | _ => ("DeviceSets$Held", "bound", "J", false)
def t_Held : Nat → FieldType := fun k => match k with
  | 0 => .long
  | 1 => .long
  | 2 => .long
  | _ => .long
abbrev w_Held : List Cond := u_ws R_Held F_Held 4
theorem n_Held : ∀ a, a < 4 → ∀ b, b < 4 → a ≠ b → (F_Held a).2.1 ≠ (F_Held b).2.1 := by decide +kernel
theorem t_Held_ok : ∀ k, k < 4 → parseFieldDescriptor (F_Held k).2.2.1 = some (t_Held k) := by decide +kernel
def R_ToldSet : String := "DeviceSets$ToldSet"
def F_ToldSet : u_T := fun k => match k with
  | 0 => ("DeviceSets$ToldSet", "held", "LDeviceSets$Held;", true)
  | 1 => ("DeviceSets$ToldSet", "waiting", "LDeviceSets$Held;", true)
  | _ => ("DeviceSets$ToldSet", "openBatch", "I", false)
def t_ToldSet : Nat → FieldType := fun k => match k with
  | 0 => .object "DeviceSets$Held"
  | 1 => .object "DeviceSets$Held"
  | _ => .int
abbrev w_ToldSet : List Cond := u_ws R_ToldSet F_ToldSet 3
theorem n_ToldSet : ∀ a, a < 3 → ∀ b, b < 3 → a ≠ b → (F_ToldSet a).2.1 ≠ (F_ToldSet b).2.1 := by decide +kernel
theorem t_ToldSet_ok : ∀ k, k < 3 → parseFieldDescriptor (F_ToldSet k).2.2.1 = some (t_ToldSet k) := by decide +kernel
def R_Tellings : String := "DeviceSets$Tellings"
def F_Tellings : u_T := fun k => match k with
  | 0 => ("DeviceSets$Tellings", "device", "[I", true)
  | 1 => ("DeviceSets$Tellings", "life", "[I", true)
  | 2 => ("DeviceSets$Tellings", "number", "[I", true)
  | 3 => ("DeviceSets$Tellings", "kind", "[I", true)
  | 4 => ("DeviceSets$Tellings", "second", "[J", true)
  | 5 => ("DeviceSets$Tellings", "value", "[J", true)
  | 6 => ("DeviceSets$Tellings", "on", "[J", true)
  | _ => ("DeviceSets$Tellings", "count", "I", false)
def t_Tellings : Nat → FieldType := fun k => match k with
  | 0 => .array .int
  | 1 => .array .int
  | 2 => .array .int
  | 3 => .array .int
  | 4 => .array .long
  | 5 => .array .long
  | 6 => .array .long
  | _ => .int
abbrev w_Tellings : List Cond := u_ws R_Tellings F_Tellings 8
theorem n_Tellings : ∀ a, a < 8 → ∀ b, b < 8 → a ≠ b → (F_Tellings a).2.1 ≠ (F_Tellings b).2.1 := by decide +kernel
theorem t_Tellings_ok : ∀ k, k < 8 → parseFieldDescriptor (F_Tellings k).2.2.1 = some (t_Tellings k) := by decide +kernel
def R_Corrections : String := "DeviceSets$Corrections"
def F_Corrections : u_T := fun k => match k with
  | 0 => ("DeviceSets$Corrections", "device", "[I", true)
  | 1 => ("DeviceSets$Corrections", "kind", "[I", true)
  | 2 => ("DeviceSets$Corrections", "second", "[J", true)
  | 3 => ("DeviceSets$Corrections", "value", "[J", true)
  | 4 => ("DeviceSets$Corrections", "told", "[J", true)
  | _ => ("DeviceSets$Corrections", "count", "I", false)
def t_Corrections : Nat → FieldType := fun k => match k with
  | 0 => .array .int
  | 1 => .array .int
  | 2 => .array .long
  | 3 => .array .long
  | 4 => .array .long
  | _ => .int
abbrev w_Corrections : List Cond := u_ws R_Corrections F_Corrections 6
theorem n_Corrections : ∀ a, a < 6 → ∀ b, b < 6 → a ≠ b → (F_Corrections a).2.1 ≠ (F_Corrections b).2.1 := by decide +kernel
theorem t_Corrections_ok : ∀ k, k < 6 → parseFieldDescriptor (F_Corrections k).2.2.1 = some (t_Corrections k) := by decide +kernel
def R_Model : String := "DeviceSetsModel"
def F_Model : u_T := fun k => match k with
  | 0 => ("DeviceSetsModel", "devices", "I", false)
  | 1 => ("DeviceSetsModel", "lives", "[I", true)
  | 2 => ("DeviceSetsModel", "begins", "[J", true)
  | 3 => ("DeviceSetsModel", "tellings", "I", false)
  | 4 => ("DeviceSetsModel", "device", "[I", true)
  | 5 => ("DeviceSetsModel", "life", "[I", true)
  | 6 => ("DeviceSetsModel", "number", "[I", true)
  | 7 => ("DeviceSetsModel", "kind", "[I", true)
  | 8 => ("DeviceSetsModel", "second", "[I", true)
  | 9 => ("DeviceSetsModel", "value", "[J", true)
  | 10 => ("DeviceSetsModel", "on", "[I", true)
  | 11 => ("DeviceSetsModel", "corrections", "I", false)
  | 12 => ("DeviceSetsModel", "fixes", "[J", true)
  | 13 => ("DeviceSetsModel", "sets", "I", false)
  | 14 => ("DeviceSetsModel", "batches", "I", false)
  | 15 => ("DeviceSetsModel", "has", "[Z", true)
  | 16 => ("DeviceSetsModel", "chosen", "[Z", true)
  | 17 => ("DeviceSetsModel", "fixed", "[Z", true)
  | 18 => ("DeviceSetsModel", "bounds", "[J", true)
  | 19 => ("DeviceSetsModel", "open", "[I", true)
  | 20 => ("DeviceSetsModel", "marks", "[I", true)
  | 21 => ("DeviceSetsModel", "markSecond", "[I", true)
  | _ => ("DeviceSetsModel", "markTrue", "[I", true)
def t_Model : Nat → FieldType := fun k => match k with
  | 0 => .int
  | 1 => .array .int
  | 2 => .array .long
  | 3 => .int
  | 4 => .array .int
  | 5 => .array .int
  | 6 => .array .int
  | 7 => .array .int
  | 8 => .array .int
  | 9 => .array .long
  | 10 => .array .int
  | 11 => .int
  | 12 => .array .long
  | 13 => .int
  | 14 => .int
  | 15 => .array .boolean
  | 16 => .array .boolean
  | 17 => .array .boolean
  | 18 => .array .long
  | 19 => .array .int
  | 20 => .array .int
  | 21 => .array .int
  | _ => .array .int
abbrev w_Model : List Cond := u_ws R_Model F_Model 23
theorem n_Model : ∀ a, a < 23 → ∀ b, b < 23 → a ≠ b → (F_Model a).2.1 ≠ (F_Model b).2.1 := by decide +kernel
theorem t_Model_ok : ∀ k, k < 23 → parseFieldDescriptor (F_Model k).2.2.1 = some (t_Model k) := by decide +kernel
def R_Long : String := "java/lang/Long"
def R_Law : String := "DeviceSetsLaw"
abbrev classes : List vw_C := [(R_DeviceSets, F_DeviceSets, 7), (R_Device, F_Device, 3), (R_Clock, F_Clock, 3), (R_Held, F_Held, 4), (R_ToldSet, F_ToldSet, 3), (R_Tellings, F_Tellings, 8), (R_Corrections, F_Corrections, 6), (R_Model, F_Model, 23)]
abbrev b_DeviceSets_init : ByteArray := prog_1_method_1_code
def y_DeviceSets_init : MethodName := ⟨R_DeviceSets, "<init>", "()V"⟩
theorem nm_DeviceSets_init : y_DeviceSets_init.cls ≠ "java/lang/invoke/MethodHandle" ∧ y_DeviceSets_init.cls ≠ "java/lang/invoke/VarHandle" ∧ (parseMethodDescriptor y_DeviceSets_init.desc).map (fun d => d.parameters.length) = some 0 := by decide +kernel
abbrev b_Tellings_init : ByteArray := prog_6_method_1_code
def y_Tellings_init : MethodName := ⟨R_Tellings, "<init>", "()V"⟩
theorem nm_Tellings_init : y_Tellings_init.cls ≠ "java/lang/invoke/MethodHandle" ∧ y_Tellings_init.cls ≠ "java/lang/invoke/VarHandle" ∧ (parseMethodDescriptor y_Tellings_init.desc).map (fun d => d.parameters.length) = some 0 := by decide +kernel
abbrev b_Corrections_init : ByteArray := prog_3_method_1_code
def y_Corrections_init : MethodName := ⟨R_Corrections, "<init>", "()V"⟩
theorem nm_Corrections_init : y_Corrections_init.cls ≠ "java/lang/invoke/MethodHandle" ∧ y_Corrections_init.cls ≠ "java/lang/invoke/VarHandle" ∧ (parseMethodDescriptor y_Corrections_init.desc).map (fun d => d.parameters.length) = some 0 := by decide +kernel
abbrev b_DeviceSets_device : ByteArray := prog_1_method_2_code
def y_DeviceSets_device : MethodName := ⟨R_DeviceSets, "device", "()I"⟩
theorem nm_DeviceSets_device : y_DeviceSets_device.cls ≠ "java/lang/invoke/MethodHandle" ∧ y_DeviceSets_device.cls ≠ "java/lang/invoke/VarHandle" ∧ (parseMethodDescriptor y_DeviceSets_device.desc).map (fun d => d.parameters.length) = some 0 := by decide +kernel
abbrev b_Device_init : ByteArray := prog_4_method_1_code
def y_Device_init : MethodName := ⟨R_Device, "<init>", "()V"⟩
theorem nm_Device_init : y_Device_init.cls ≠ "java/lang/invoke/MethodHandle" ∧ y_Device_init.cls ≠ "java/lang/invoke/VarHandle" ∧ (parseMethodDescriptor y_Device_init.desc).map (fun d => d.parameters.length) = some 0 := by decide +kernel
abbrev b_Clock_init : ByteArray := prog_2_method_1_code
def y_Clock_init : MethodName := ⟨R_Clock, "<init>", "()V"⟩
theorem nm_Clock_init : y_Clock_init.cls ≠ "java/lang/invoke/MethodHandle" ∧ y_Clock_init.cls ≠ "java/lang/invoke/VarHandle" ∧ (parseMethodDescriptor y_Clock_init.desc).map (fun d => d.parameters.length) = some 0 := by decide +kernel
abbrev b_DeviceSets_tell : ByteArray := prog_1_method_3_code
def y_DeviceSets_tell : MethodName := ⟨R_DeviceSets, "tell", "(IJIJJJ)I"⟩
theorem nm_DeviceSets_tell : y_DeviceSets_tell.cls ≠ "java/lang/invoke/MethodHandle" ∧ y_DeviceSets_tell.cls ≠ "java/lang/invoke/VarHandle" ∧ (parseMethodDescriptor y_DeviceSets_tell.desc).map (fun d => d.parameters.length) = some 6 := by decide +kernel
abbrev b_DeviceSets_deviceAt : ByteArray := prog_1_method_22_code
def y_DeviceSets_deviceAt : MethodName := ⟨R_DeviceSets, "deviceAt", "(I)LDeviceSets$Device;"⟩
theorem nm_DeviceSets_deviceAt : y_DeviceSets_deviceAt.cls ≠ "java/lang/invoke/MethodHandle" ∧ y_DeviceSets_deviceAt.cls ≠ "java/lang/invoke/VarHandle" ∧ (parseMethodDescriptor y_DeviceSets_deviceAt.desc).map (fun d => d.parameters.length) = some 1 := by decide +kernel
abbrev b_DeviceSets_isNumber : ByteArray := prog_1_method_28_code
def y_DeviceSets_isNumber : MethodName := ⟨R_DeviceSets, "isNumber", "(J)Z"⟩
theorem nm_DeviceSets_isNumber : y_DeviceSets_isNumber.cls ≠ "java/lang/invoke/MethodHandle" ∧ y_DeviceSets_isNumber.cls ≠ "java/lang/invoke/VarHandle" ∧ (parseMethodDescriptor y_DeviceSets_isNumber.desc).map (fun d => d.parameters.length) = some 1 := by decide +kernel
abbrev b_DeviceSets_isKind : ByteArray := prog_1_method_29_code
def y_DeviceSets_isKind : MethodName := ⟨R_DeviceSets, "isKind", "(I)Z"⟩
theorem nm_DeviceSets_isKind : y_DeviceSets_isKind.cls ≠ "java/lang/invoke/MethodHandle" ∧ y_DeviceSets_isKind.cls ≠ "java/lang/invoke/VarHandle" ∧ (parseMethodDescriptor y_DeviceSets_isKind.desc).map (fun d => d.parameters.length) = some 1 := by decide +kernel
abbrev b_DeviceSets_isValue : ByteArray := prog_1_method_30_code
def y_DeviceSets_isValue : MethodName := ⟨R_DeviceSets, "isValue", "(J)Z"⟩
theorem nm_DeviceSets_isValue : y_DeviceSets_isValue.cls ≠ "java/lang/invoke/MethodHandle" ∧ y_DeviceSets_isValue.cls ≠ "java/lang/invoke/VarHandle" ∧ (parseMethodDescriptor y_DeviceSets_isValue.desc).map (fun d => d.parameters.length) = some 1 := by decide +kernel
abbrev b_Tellings_has : ByteArray := prog_6_method_2_code
def y_Tellings_has : MethodName := ⟨R_Tellings, "has", "(IIIIJJ)Z"⟩
theorem nm_Tellings_has : y_Tellings_has.cls ≠ "java/lang/invoke/MethodHandle" ∧ y_Tellings_has.cls ≠ "java/lang/invoke/VarHandle" ∧ (parseMethodDescriptor y_Tellings_has.desc).map (fun d => d.parameters.length) = some 6 := by decide +kernel
abbrev b_Tellings_add : ByteArray := prog_6_method_3_code
def y_Tellings_add : MethodName := ⟨R_Tellings, "add", "(IIIIJJJ)Z"⟩
theorem nm_Tellings_add : y_Tellings_add.cls ≠ "java/lang/invoke/MethodHandle" ∧ y_Tellings_add.cls ≠ "java/lang/invoke/VarHandle" ∧ (parseMethodDescriptor y_Tellings_add.desc).map (fun d => d.parameters.length) = some 7 := by decide +kernel
abbrev b_DeviceSets_reset : ByteArray := prog_1_method_4_code
def y_DeviceSets_reset : MethodName := ⟨R_DeviceSets, "reset", "(IJ)Z"⟩
theorem nm_DeviceSets_reset : y_DeviceSets_reset.cls ≠ "java/lang/invoke/MethodHandle" ∧ y_DeviceSets_reset.cls ≠ "java/lang/invoke/VarHandle" ∧ (parseMethodDescriptor y_DeviceSets_reset.desc).map (fun d => d.parameters.length) = some 2 := by decide +kernel
abbrev b_DeviceSets_life : ByteArray := prog_1_method_5_code
def y_DeviceSets_life : MethodName := ⟨R_DeviceSets, "life", "(I)I"⟩
theorem nm_DeviceSets_life : y_DeviceSets_life.cls ≠ "java/lang/invoke/MethodHandle" ∧ y_DeviceSets_life.cls ≠ "java/lang/invoke/VarHandle" ∧ (parseMethodDescriptor y_DeviceSets_life.desc).map (fun d => d.parameters.length) = some 1 := by decide +kernel
abbrev b_DeviceSets_set : ByteArray := prog_1_method_6_code
def y_DeviceSets_set : MethodName := ⟨R_DeviceSets, "set", "(I)I"⟩
theorem nm_DeviceSets_set : y_DeviceSets_set.cls ≠ "java/lang/invoke/MethodHandle" ∧ y_DeviceSets_set.cls ≠ "java/lang/invoke/VarHandle" ∧ (parseMethodDescriptor y_DeviceSets_set.desc).map (fun d => d.parameters.length) = some 1 := by decide +kernel
abbrev b_Tellings_ofDevice : ByteArray := prog_6_method_4_code
def y_Tellings_ofDevice : MethodName := ⟨R_Tellings, "ofDevice", "(I)J"⟩
theorem nm_Tellings_ofDevice : y_Tellings_ofDevice.cls ≠ "java/lang/invoke/MethodHandle" ∧ y_Tellings_ofDevice.cls ≠ "java/lang/invoke/VarHandle" ∧ (parseMethodDescriptor y_Tellings_ofDevice.desc).map (fun d => d.parameters.length) = some 1 := by decide +kernel
abbrev b_DeviceSets_bit : ByteArray := prog_1_method_31_code
def y_DeviceSets_bit : MethodName := ⟨R_DeviceSets, "bit", "(I)J"⟩
theorem nm_DeviceSets_bit : y_DeviceSets_bit.cls ≠ "java/lang/invoke/MethodHandle" ∧ y_DeviceSets_bit.cls ≠ "java/lang/invoke/VarHandle" ∧ (parseMethodDescriptor y_DeviceSets_bit.desc).map (fun d => d.parameters.length) = some 1 := by decide +kernel
abbrev b_ToldSet_init : ByteArray := prog_7_method_1_code
def y_ToldSet_init : MethodName := ⟨R_ToldSet, "<init>", "(J)V"⟩
theorem nm_ToldSet_init : y_ToldSet_init.cls ≠ "java/lang/invoke/MethodHandle" ∧ y_ToldSet_init.cls ≠ "java/lang/invoke/VarHandle" ∧ (parseMethodDescriptor y_ToldSet_init.desc).map (fun d => d.parameters.length) = some 1 := by decide +kernel
abbrev b_Held_init : ByteArray := prog_5_method_1_code
def y_Held_init : MethodName := ⟨R_Held, "<init>", "()V"⟩
theorem nm_Held_init : y_Held_init.cls ≠ "java/lang/invoke/MethodHandle" ∧ y_Held_init.cls ≠ "java/lang/invoke/VarHandle" ∧ (parseMethodDescriptor y_Held_init.desc).map (fun d => d.parameters.length) = some 0 := by decide +kernel
abbrev b_DeviceSets_join : ByteArray := prog_1_method_7_code
def y_DeviceSets_join : MethodName := ⟨R_DeviceSets, "join", "(II)I"⟩
theorem nm_DeviceSets_join : y_DeviceSets_join.cls ≠ "java/lang/invoke/MethodHandle" ∧ y_DeviceSets_join.cls ≠ "java/lang/invoke/VarHandle" ∧ (parseMethodDescriptor y_DeviceSets_join.desc).map (fun d => d.parameters.length) = some 2 := by decide +kernel
abbrev b_DeviceSets_setAt : ByteArray := prog_1_method_23_code
def y_DeviceSets_setAt : MethodName := ⟨R_DeviceSets, "setAt", "(I)LDeviceSets$ToldSet;"⟩
theorem nm_DeviceSets_setAt : y_DeviceSets_setAt.cls ≠ "java/lang/invoke/MethodHandle" ∧ y_DeviceSets_setAt.cls ≠ "java/lang/invoke/VarHandle" ∧ (parseMethodDescriptor y_DeviceSets_setAt.desc).map (fun d => d.parameters.length) = some 1 := by decide +kernel
abbrev b_ToldSet_bring : ByteArray := prog_7_method_2_code
def y_ToldSet_bring : MethodName := ⟨R_ToldSet, "bring", "(LDeviceSets$ToldSet;)Z"⟩
theorem nm_ToldSet_bring : y_ToldSet_bring.cls ≠ "java/lang/invoke/MethodHandle" ∧ y_ToldSet_bring.cls ≠ "java/lang/invoke/VarHandle" ∧ (parseMethodDescriptor y_ToldSet_bring.desc).map (fun d => d.parameters.length) = some 1 := by decide +kernel
abbrev b_Held_takeIn : ByteArray := prog_5_method_2_code
def y_Held_takeIn : MethodName := ⟨R_Held, "takeIn", "(LDeviceSets$Held;)Z"⟩
theorem nm_Held_takeIn : y_Held_takeIn.cls ≠ "java/lang/invoke/MethodHandle" ∧ y_Held_takeIn.cls ≠ "java/lang/invoke/VarHandle" ∧ (parseMethodDescriptor y_Held_takeIn.desc).map (fun d => d.parameters.length) = some 1 := by decide +kernel
abbrev b_DeviceSets_conflictsIn : ByteArray := prog_1_method_26_code
def y_DeviceSets_conflictsIn : MethodName := ⟨R_DeviceSets, "conflictsIn", "(LDeviceSets$Held;)J"⟩
theorem nm_DeviceSets_conflictsIn : y_DeviceSets_conflictsIn.cls ≠ "java/lang/invoke/MethodHandle" ∧ y_DeviceSets_conflictsIn.cls ≠ "java/lang/invoke/VarHandle" ∧ (parseMethodDescriptor y_DeviceSets_conflictsIn.desc).map (fun d => d.parameters.length) = some 1 := by decide +kernel
abbrev b_DeviceSets_liveIn : ByteArray := prog_1_method_25_code
def y_DeviceSets_liveIn : MethodName := ⟨R_DeviceSets, "liveIn", "(LDeviceSets$Held;)J"⟩
theorem nm_DeviceSets_liveIn : y_DeviceSets_liveIn.cls ≠ "java/lang/invoke/MethodHandle" ∧ y_DeviceSets_liveIn.cls ≠ "java/lang/invoke/VarHandle" ∧ (parseMethodDescriptor y_DeviceSets_liveIn.desc).map (fun d => d.parameters.length) = some 1 := by decide +kernel
abbrev b_Tellings_notBelow : ByteArray := prog_6_method_6_code
def y_Tellings_notBelow : MethodName := ⟨R_Tellings, "notBelow", "(JJ)J"⟩
theorem nm_Tellings_notBelow : y_Tellings_notBelow.cls ≠ "java/lang/invoke/MethodHandle" ∧ y_Tellings_notBelow.cls ≠ "java/lang/invoke/VarHandle" ∧ (parseMethodDescriptor y_Tellings_notBelow.desc).map (fun d => d.parameters.length) = some 2 := by decide +kernel
abbrev b_DeviceSets_isIn : ByteArray := prog_1_method_32_code
def y_DeviceSets_isIn : MethodName := ⟨R_DeviceSets, "isIn", "(IJ)Z"⟩
theorem nm_DeviceSets_isIn : y_DeviceSets_isIn.cls ≠ "java/lang/invoke/MethodHandle" ∧ y_DeviceSets_isIn.cls ≠ "java/lang/invoke/VarHandle" ∧ (parseMethodDescriptor y_DeviceSets_isIn.desc).map (fun d => d.parameters.length) = some 2 := by decide +kernel
abbrev b_Tellings_unsettled : ByteArray := prog_6_method_8_code
def y_Tellings_unsettled : MethodName := ⟨R_Tellings, "unsettled", "(JJ)J"⟩
theorem nm_Tellings_unsettled : y_Tellings_unsettled.cls ≠ "java/lang/invoke/MethodHandle" ∧ y_Tellings_unsettled.cls ≠ "java/lang/invoke/VarHandle" ∧ (parseMethodDescriptor y_Tellings_unsettled.desc).map (fun d => d.parameters.length) = some 2 := by decide +kernel
abbrev b_Tellings_ofKeyOf : ByteArray := prog_6_method_7_code
def y_Tellings_ofKeyOf : MethodName := ⟨R_Tellings, "ofKeyOf", "(IJ)J"⟩
theorem nm_Tellings_ofKeyOf : y_Tellings_ofKeyOf.cls ≠ "java/lang/invoke/MethodHandle" ∧ y_Tellings_ofKeyOf.cls ≠ "java/lang/invoke/VarHandle" ∧ (parseMethodDescriptor y_Tellings_ofKeyOf.desc).map (fun d => d.parameters.length) = some 2 := by decide +kernel
abbrev b_Long_bitCount : ByteArray := prog_10_method_50_code
def y_Long_bitCount : MethodName := ⟨R_Long, "bitCount", "(J)I"⟩
theorem nm_Long_bitCount : y_Long_bitCount.cls ≠ "java/lang/invoke/MethodHandle" ∧ y_Long_bitCount.cls ≠ "java/lang/invoke/VarHandle" ∧ (parseMethodDescriptor y_Long_bitCount.desc).map (fun d => d.parameters.length) = some 1 := by decide +kernel
abbrev b_DeviceSets_correct : ByteArray := prog_1_method_8_code
def y_DeviceSets_correct : MethodName := ⟨R_DeviceSets, "correct", "(IIIJJJ)Z"⟩
theorem nm_DeviceSets_correct : y_DeviceSets_correct.cls ≠ "java/lang/invoke/MethodHandle" ∧ y_DeviceSets_correct.cls ≠ "java/lang/invoke/VarHandle" ∧ (parseMethodDescriptor y_DeviceSets_correct.desc).map (fun d => d.parameters.length) = some 6 := by decide +kernel
abbrev b_Corrections_findOrAdd : ByteArray := prog_3_method_2_code
def y_Corrections_findOrAdd : MethodName := ⟨R_Corrections, "findOrAdd", "(IIJJJ)I"⟩
theorem nm_Corrections_findOrAdd : y_Corrections_findOrAdd.cls ≠ "java/lang/invoke/MethodHandle" ∧ y_Corrections_findOrAdd.cls ≠ "java/lang/invoke/VarHandle" ∧ (parseMethodDescriptor y_Corrections_findOrAdd.desc).map (fun d => d.parameters.length) = some 5 := by decide +kernel
abbrev b_Corrections_isFor : ByteArray := prog_3_method_4_code
def y_Corrections_isFor : MethodName := ⟨R_Corrections, "isFor", "(IIIJ)Z"⟩
theorem nm_Corrections_isFor : y_Corrections_isFor.cls ≠ "java/lang/invoke/MethodHandle" ∧ y_Corrections_isFor.cls ≠ "java/lang/invoke/VarHandle" ∧ (parseMethodDescriptor y_Corrections_isFor.desc).map (fun d => d.parameters.length) = some 4 := by decide +kernel
abbrev b_DeviceSets_last : ByteArray := prog_1_method_9_code
def y_DeviceSets_last : MethodName := ⟨R_DeviceSets, "last", "(III)J"⟩
theorem nm_DeviceSets_last : y_DeviceSets_last.cls ≠ "java/lang/invoke/MethodHandle" ∧ y_DeviceSets_last.cls ≠ "java/lang/invoke/VarHandle" ∧ (parseMethodDescriptor y_DeviceSets_last.desc).map (fun d => d.parameters.length) = some 3 := by decide +kernel
abbrev b_DeviceSets_seenIn : ByteArray := prog_1_method_27_code
def y_DeviceSets_seenIn : MethodName := ⟨R_DeviceSets, "seenIn", "(LDeviceSets$Held;II)J"⟩
theorem nm_DeviceSets_seenIn : y_DeviceSets_seenIn.cls ≠ "java/lang/invoke/MethodHandle" ∧ y_DeviceSets_seenIn.cls ≠ "java/lang/invoke/VarHandle" ∧ (parseMethodDescriptor y_DeviceSets_seenIn.desc).map (fun d => d.parameters.length) = some 3 := by decide +kernel
abbrev b_Tellings_ofKind : ByteArray := prog_6_method_5_code
def y_Tellings_ofKind : MethodName := ⟨R_Tellings, "ofKind", "(II)J"⟩
theorem nm_Tellings_ofKind : y_Tellings_ofKind.cls ≠ "java/lang/invoke/MethodHandle" ∧ y_Tellings_ofKind.cls ≠ "java/lang/invoke/VarHandle" ∧ (parseMethodDescriptor y_Tellings_ofKind.desc).map (fun d => d.parameters.length) = some 2 := by decide +kernel
abbrev b_Tellings_holding : ByteArray := prog_6_method_9_code
def y_Tellings_holding : MethodName := ⟨R_Tellings, "holding", "(JJ)J"⟩
theorem nm_Tellings_holding : y_Tellings_holding.cls ≠ "java/lang/invoke/MethodHandle" ∧ y_Tellings_holding.cls ≠ "java/lang/invoke/VarHandle" ∧ (parseMethodDescriptor y_Tellings_holding.desc).map (fun d => d.parameters.length) = some 2 := by decide +kernel
abbrev b_Tellings_first : ByteArray := prog_6_method_10_code
def y_Tellings_first : MethodName := ⟨R_Tellings, "first", "(J)I"⟩
theorem nm_Tellings_first : y_Tellings_first.cls ≠ "java/lang/invoke/MethodHandle" ∧ y_Tellings_first.cls ≠ "java/lang/invoke/VarHandle" ∧ (parseMethodDescriptor y_Tellings_first.desc).map (fun d => d.parameters.length) = some 1 := by decide +kernel
abbrev b_Tellings_isBefore : ByteArray := prog_6_method_13_code
def y_Tellings_isBefore : MethodName := ⟨R_Tellings, "isBefore", "(II)Z"⟩
theorem nm_Tellings_isBefore : y_Tellings_isBefore.cls ≠ "java/lang/invoke/MethodHandle" ∧ y_Tellings_isBefore.cls ≠ "java/lang/invoke/VarHandle" ∧ (parseMethodDescriptor y_Tellings_isBefore.desc).map (fun d => d.parameters.length) = some 2 := by decide +kernel
abbrev b_Tellings_latestNumbered : ByteArray := prog_6_method_14_code
def y_Tellings_latestNumbered : MethodName := ⟨R_Tellings, "latestNumbered", "(J)I"⟩
theorem nm_Tellings_latestNumbered : y_Tellings_latestNumbered.cls ≠ "java/lang/invoke/MethodHandle" ∧ y_Tellings_latestNumbered.cls ≠ "java/lang/invoke/VarHandle" ∧ (parseMethodDescriptor y_Tellings_latestNumbered.desc).map (fun d => d.parameters.length) = some 1 := by decide +kernel
abbrev b_DeviceSets_known : ByteArray := prog_1_method_10_code
def y_DeviceSets_known : MethodName := ⟨R_DeviceSets, "known", "(IIIJJ)J"⟩
theorem nm_DeviceSets_known : y_DeviceSets_known.cls ≠ "java/lang/invoke/MethodHandle" ∧ y_DeviceSets_known.cls ≠ "java/lang/invoke/VarHandle" ∧ (parseMethodDescriptor y_DeviceSets_known.desc).map (fun d => d.parameters.length) = some 5 := by decide +kernel
abbrev b_Tellings_latestKnown : ByteArray := prog_6_method_15_code
def y_Tellings_latestKnown : MethodName := ⟨R_Tellings, "latestKnown", "(JJJ)I"⟩
theorem nm_Tellings_latestKnown : y_Tellings_latestKnown.cls ≠ "java/lang/invoke/MethodHandle" ∧ y_Tellings_latestKnown.cls ≠ "java/lang/invoke/VarHandle" ∧ (parseMethodDescriptor y_Tellings_latestKnown.desc).map (fun d => d.parameters.length) = some 3 := by decide +kernel
abbrev b_Tellings_isOfLater : ByteArray := prog_6_method_16_code
def y_Tellings_isOfLater : MethodName := ⟨R_Tellings, "isOfLater", "(II)Z"⟩
theorem nm_Tellings_isOfLater : y_Tellings_isOfLater.cls ≠ "java/lang/invoke/MethodHandle" ∧ y_Tellings_isOfLater.cls ≠ "java/lang/invoke/VarHandle" ∧ (parseMethodDescriptor y_Tellings_isOfLater.desc).map (fun d => d.parameters.length) = some 2 := by decide +kernel
abbrev b_Corrections_latest : ByteArray := prog_3_method_3_code
def y_Corrections_latest : MethodName := ⟨R_Corrections, "latest", "(JIIJJ)I"⟩
theorem nm_Corrections_latest : y_Corrections_latest.cls ≠ "java/lang/invoke/MethodHandle" ∧ y_Corrections_latest.cls ≠ "java/lang/invoke/VarHandle" ∧ (parseMethodDescriptor y_Corrections_latest.desc).map (fun d => d.parameters.length) = some 5 := by decide +kernel
abbrev b_Corrections_isStronger : ByteArray := prog_3_method_5_code
def y_Corrections_isStronger : MethodName := ⟨R_Corrections, "isStronger", "(II)Z"⟩
theorem nm_Corrections_isStronger : y_Corrections_isStronger.cls ≠ "java/lang/invoke/MethodHandle" ∧ y_Corrections_isStronger.cls ≠ "java/lang/invoke/VarHandle" ∧ (parseMethodDescriptor y_Corrections_isStronger.desc).map (fun d => d.parameters.length) = some 2 := by decide +kernel
abbrev b_DeviceSets_gap : ByteArray := prog_1_method_11_code
def y_DeviceSets_gap : MethodName := ⟨R_DeviceSets, "gap", "(III)I"⟩
theorem nm_DeviceSets_gap : y_DeviceSets_gap.cls ≠ "java/lang/invoke/MethodHandle" ∧ y_DeviceSets_gap.cls ≠ "java/lang/invoke/VarHandle" ∧ (parseMethodDescriptor y_DeviceSets_gap.desc).map (fun d => d.parameters.length) = some 3 := by decide +kernel
abbrev b_Tellings_missingNumber : ByteArray := prog_6_method_17_code
def y_Tellings_missingNumber : MethodName := ⟨R_Tellings, "missingNumber", "(JI)I"⟩
theorem nm_Tellings_missingNumber : y_Tellings_missingNumber.cls ≠ "java/lang/invoke/MethodHandle" ∧ y_Tellings_missingNumber.cls ≠ "java/lang/invoke/VarHandle" ∧ (parseMethodDescriptor y_Tellings_missingNumber.desc).map (fun d => d.parameters.length) = some 2 := by decide +kernel
abbrev b_Tellings_ofGreatestLife : ByteArray := prog_6_method_18_code
def y_Tellings_ofGreatestLife : MethodName := ⟨R_Tellings, "ofGreatestLife", "(J)J"⟩
theorem nm_Tellings_ofGreatestLife : y_Tellings_ofGreatestLife.cls ≠ "java/lang/invoke/MethodHandle" ∧ y_Tellings_ofGreatestLife.cls ≠ "java/lang/invoke/VarHandle" ∧ (parseMethodDescriptor y_Tellings_ofGreatestLife.desc).map (fun d => d.parameters.length) = some 1 := by decide +kernel
abbrev b_Tellings_nextNumber : ByteArray := prog_6_method_19_code
def y_Tellings_nextNumber : MethodName := ⟨R_Tellings, "nextNumber", "(JI)I"⟩
theorem nm_Tellings_nextNumber : y_Tellings_nextNumber.cls ≠ "java/lang/invoke/MethodHandle" ∧ y_Tellings_nextNumber.cls ≠ "java/lang/invoke/VarHandle" ∧ (parseMethodDescriptor y_Tellings_nextNumber.desc).map (fun d => d.parameters.length) = some 2 := by decide +kernel
abbrev b_DeviceSets_conflict : ByteArray := prog_1_method_12_code
def y_DeviceSets_conflict : MethodName := ⟨R_DeviceSets, "conflict", "(III)I"⟩
theorem nm_DeviceSets_conflict : y_DeviceSets_conflict.cls ≠ "java/lang/invoke/MethodHandle" ∧ y_DeviceSets_conflict.cls ≠ "java/lang/invoke/VarHandle" ∧ (parseMethodDescriptor y_DeviceSets_conflict.desc).map (fun d => d.parameters.length) = some 3 := by decide +kernel
abbrev b_Tellings_inPlace : ByteArray := prog_6_method_11_code
def y_Tellings_inPlace : MethodName := ⟨R_Tellings, "inPlace", "(JI)I"⟩
theorem nm_Tellings_inPlace : y_Tellings_inPlace.cls ≠ "java/lang/invoke/MethodHandle" ∧ y_Tellings_inPlace.cls ≠ "java/lang/invoke/VarHandle" ∧ (parseMethodDescriptor y_Tellings_inPlace.desc).map (fun d => d.parameters.length) = some 2 := by decide +kernel
abbrev b_Tellings_countBefore : ByteArray := prog_6_method_12_code
def y_Tellings_countBefore : MethodName := ⟨R_Tellings, "countBefore", "(IJ)I"⟩
theorem nm_Tellings_countBefore : y_Tellings_countBefore.cls ≠ "java/lang/invoke/MethodHandle" ∧ y_Tellings_countBefore.cls ≠ "java/lang/invoke/VarHandle" ∧ (parseMethodDescriptor y_Tellings_countBefore.desc).map (fun d => d.parameters.length) = some 2 := by decide +kernel
abbrev b_Tellings_keyPart : ByteArray := prog_6_method_20_code
def y_Tellings_keyPart : MethodName := ⟨R_Tellings, "keyPart", "(II)I"⟩
theorem nm_Tellings_keyPart : y_Tellings_keyPart.cls ≠ "java/lang/invoke/MethodHandle" ∧ y_Tellings_keyPart.cls ≠ "java/lang/invoke/VarHandle" ∧ (parseMethodDescriptor y_Tellings_keyPart.desc).map (fun d => d.parameters.length) = some 2 := by decide +kernel
abbrev b_DeviceSets_settle : ByteArray := prog_1_method_13_code
def y_DeviceSets_settle : MethodName := ⟨R_DeviceSets, "settle", "(IIII)I"⟩
theorem nm_DeviceSets_settle : y_DeviceSets_settle.cls ≠ "java/lang/invoke/MethodHandle" ∧ y_DeviceSets_settle.cls ≠ "java/lang/invoke/VarHandle" ∧ (parseMethodDescriptor y_DeviceSets_settle.desc).map (fun d => d.parameters.length) = some 4 := by decide +kernel
abbrev b_DeviceSets_equal : ByteArray := prog_1_method_14_code
def y_DeviceSets_equal : MethodName := ⟨R_DeviceSets, "equal", "(II)Z"⟩
theorem nm_DeviceSets_equal : y_DeviceSets_equal.cls ≠ "java/lang/invoke/MethodHandle" ∧ y_DeviceSets_equal.cls ≠ "java/lang/invoke/VarHandle" ∧ (parseMethodDescriptor y_DeviceSets_equal.desc).map (fun d => d.parameters.length) = some 2 := by decide +kernel
abbrev b_Held_isLike : ByteArray := prog_5_method_3_code
def y_Held_isLike : MethodName := ⟨R_Held, "isLike", "(LDeviceSets$Held;)Z"⟩
theorem nm_Held_isLike : y_Held_isLike.cls ≠ "java/lang/invoke/MethodHandle" ∧ y_Held_isLike.cls ≠ "java/lang/invoke/VarHandle" ∧ (parseMethodDescriptor y_Held_isLike.desc).map (fun d => d.parameters.length) = some 1 := by decide +kernel
abbrev b_DeviceSets_batch : ByteArray := prog_1_method_15_code
def y_DeviceSets_batch : MethodName := ⟨R_DeviceSets, "batch", "(I)I"⟩
theorem nm_DeviceSets_batch : y_DeviceSets_batch.cls ≠ "java/lang/invoke/MethodHandle" ∧ y_DeviceSets_batch.cls ≠ "java/lang/invoke/VarHandle" ∧ (parseMethodDescriptor y_DeviceSets_batch.desc).map (fun d => d.parameters.length) = some 1 := by decide +kernel
abbrev b_DeviceSets_endBatch : ByteArray := prog_1_method_16_code
def y_DeviceSets_endBatch : MethodName := ⟨R_DeviceSets, "endBatch", "(I)Z"⟩
theorem nm_DeviceSets_endBatch : y_DeviceSets_endBatch.cls ≠ "java/lang/invoke/MethodHandle" ∧ y_DeviceSets_endBatch.cls ≠ "java/lang/invoke/VarHandle" ∧ (parseMethodDescriptor y_DeviceSets_endBatch.desc).map (fun d => d.parameters.length) = some 1 := by decide +kernel
abbrev b_ToldSet_takeWaiting : ByteArray := prog_7_method_3_code
def y_ToldSet_takeWaiting : MethodName := ⟨R_ToldSet, "takeWaiting", "()V"⟩
theorem nm_ToldSet_takeWaiting : y_ToldSet_takeWaiting.cls ≠ "java/lang/invoke/MethodHandle" ∧ y_ToldSet_takeWaiting.cls ≠ "java/lang/invoke/VarHandle" ∧ (parseMethodDescriptor y_ToldSet_takeWaiting.desc).map (fun d => d.parameters.length) = some 0 := by decide +kernel
abbrev b_Held_clear : ByteArray := prog_5_method_4_code
def y_Held_clear : MethodName := ⟨R_Held, "clear", "()V"⟩
theorem nm_Held_clear : y_Held_clear.cls ≠ "java/lang/invoke/MethodHandle" ∧ y_Held_clear.cls ≠ "java/lang/invoke/VarHandle" ∧ (parseMethodDescriptor y_Held_clear.desc).map (fun d => d.parameters.length) = some 0 := by decide +kernel
abbrev b_DeviceSets_retain : ByteArray := prog_1_method_17_code
def y_DeviceSets_retain : MethodName := ⟨R_DeviceSets, "retain", "(IJ)I"⟩
theorem nm_DeviceSets_retain : y_DeviceSets_retain.cls ≠ "java/lang/invoke/MethodHandle" ∧ y_DeviceSets_retain.cls ≠ "java/lang/invoke/VarHandle" ∧ (parseMethodDescriptor y_DeviceSets_retain.desc).map (fun d => d.parameters.length) = some 2 := by decide +kernel
abbrev b_DeviceSets_kept : ByteArray := prog_1_method_18_code
def y_DeviceSets_kept : MethodName := ⟨R_DeviceSets, "kept", "(II)J"⟩
theorem nm_DeviceSets_kept : y_DeviceSets_kept.cls ≠ "java/lang/invoke/MethodHandle" ∧ y_DeviceSets_kept.cls ≠ "java/lang/invoke/VarHandle" ∧ (parseMethodDescriptor y_DeviceSets_kept.desc).map (fun d => d.parameters.length) = some 2 := by decide +kernel
abbrev b_Tellings_sumOfKind : ByteArray := prog_6_method_21_code
def y_Tellings_sumOfKind : MethodName := ⟨R_Tellings, "sumOfKind", "(JI)J"⟩
theorem nm_Tellings_sumOfKind : y_Tellings_sumOfKind.cls ≠ "java/lang/invoke/MethodHandle" ∧ y_Tellings_sumOfKind.cls ≠ "java/lang/invoke/VarHandle" ∧ (parseMethodDescriptor y_Tellings_sumOfKind.desc).map (fun d => d.parameters.length) = some 2 := by decide +kernel
abbrev b_DeviceSets_mark : ByteArray := prog_1_method_19_code
def y_DeviceSets_mark : MethodName := ⟨R_DeviceSets, "mark", "(IJJ)Z"⟩
theorem nm_DeviceSets_mark : y_DeviceSets_mark.cls ≠ "java/lang/invoke/MethodHandle" ∧ y_DeviceSets_mark.cls ≠ "java/lang/invoke/VarHandle" ∧ (parseMethodDescriptor y_DeviceSets_mark.desc).map (fun d => d.parameters.length) = some 3 := by decide +kernel
abbrev b_Clock_addMark : ByteArray := prog_2_method_2_code
def y_Clock_addMark : MethodName := ⟨R_Clock, "addMark", "(JJ)Z"⟩
theorem nm_Clock_addMark : y_Clock_addMark.cls ≠ "java/lang/invoke/MethodHandle" ∧ y_Clock_addMark.cls ≠ "java/lang/invoke/VarHandle" ∧ (parseMethodDescriptor y_Clock_addMark.desc).map (fun d => d.parameters.length) = some 2 := by decide +kernel
abbrev b_DeviceSets_corrected : ByteArray := prog_1_method_20_code
def y_DeviceSets_corrected : MethodName := ⟨R_DeviceSets, "corrected", "(IJI)J"⟩
theorem nm_DeviceSets_corrected : y_DeviceSets_corrected.cls ≠ "java/lang/invoke/MethodHandle" ∧ y_DeviceSets_corrected.cls ≠ "java/lang/invoke/VarHandle" ∧ (parseMethodDescriptor y_DeviceSets_corrected.desc).map (fun d => d.parameters.length) = some 3 := by decide +kernel
abbrev b_Clock_numerator : ByteArray := prog_2_method_4_code
def y_Clock_numerator : MethodName := ⟨R_Clock, "numerator", "(J)J"⟩
theorem nm_Clock_numerator : y_Clock_numerator.cls ≠ "java/lang/invoke/MethodHandle" ∧ y_Clock_numerator.cls ≠ "java/lang/invoke/VarHandle" ∧ (parseMethodDescriptor y_Clock_numerator.desc).map (fun d => d.parameters.length) = some 1 := by decide +kernel
abbrev b_Clock_markBefore : ByteArray := prog_2_method_6_code
def y_Clock_markBefore : MethodName := ⟨R_Clock, "markBefore", "(J)I"⟩
theorem nm_Clock_markBefore : y_Clock_markBefore.cls ≠ "java/lang/invoke/MethodHandle" ∧ y_Clock_markBefore.cls ≠ "java/lang/invoke/VarHandle" ∧ (parseMethodDescriptor y_Clock_markBefore.desc).map (fun d => d.parameters.length) = some 1 := by decide +kernel
abbrev b_Clock_isBetween : ByteArray := prog_2_method_5_code
def y_Clock_isBetween : MethodName := ⟨R_Clock, "isBetween", "(I)Z"⟩
theorem nm_Clock_isBetween : y_Clock_isBetween.cls ≠ "java/lang/invoke/MethodHandle" ∧ y_Clock_isBetween.cls ≠ "java/lang/invoke/VarHandle" ∧ (parseMethodDescriptor y_Clock_isBetween.desc).map (fun d => d.parameters.length) = some 1 := by decide +kernel
abbrev b_Clock_denominator : ByteArray := prog_2_method_3_code
def y_Clock_denominator : MethodName := ⟨R_Clock, "denominator", "(J)J"⟩
theorem nm_Clock_denominator : y_Clock_denominator.cls ≠ "java/lang/invoke/MethodHandle" ∧ y_Clock_denominator.cls ≠ "java/lang/invoke/VarHandle" ∧ (parseMethodDescriptor y_Clock_denominator.desc).map (fun d => d.parameters.length) = some 1 := by decide +kernel
abbrev b_DeviceSets_commonDivisor : ByteArray := prog_1_method_34_code
def y_DeviceSets_commonDivisor : MethodName := ⟨R_DeviceSets, "commonDivisor", "(JJ)J"⟩
theorem nm_DeviceSets_commonDivisor : y_DeviceSets_commonDivisor.cls ≠ "java/lang/invoke/MethodHandle" ∧ y_DeviceSets_commonDivisor.cls ≠ "java/lang/invoke/VarHandle" ∧ (parseMethodDescriptor y_DeviceSets_commonDivisor.desc).map (fun d => d.parameters.length) = some 2 := by decide +kernel
abbrev b_DeviceSets_play : ByteArray := prog_1_method_21_code
def y_DeviceSets_play : MethodName := ⟨R_DeviceSets, "play", "(JI)I"⟩
theorem nm_DeviceSets_play : y_DeviceSets_play.cls ≠ "java/lang/invoke/MethodHandle" ∧ y_DeviceSets_play.cls ≠ "java/lang/invoke/VarHandle" ∧ (parseMethodDescriptor y_DeviceSets_play.desc).map (fun d => d.parameters.length) = some 2 := by decide +kernel
abbrev b_DeviceSets_nextDraw : ByteArray := prog_1_method_33_code
def y_DeviceSets_nextDraw : MethodName := ⟨R_DeviceSets, "nextDraw", "(J)J"⟩
theorem nm_DeviceSets_nextDraw : y_DeviceSets_nextDraw.cls ≠ "java/lang/invoke/MethodHandle" ∧ y_DeviceSets_nextDraw.cls ≠ "java/lang/invoke/VarHandle" ∧ (parseMethodDescriptor y_DeviceSets_nextDraw.desc).map (fun d => d.parameters.length) = some 1 := by decide +kernel
abbrev b_DeviceSets_joinChanges : ByteArray := prog_1_method_24_code
def y_DeviceSets_joinChanges : MethodName := ⟨R_DeviceSets, "joinChanges", "(II)Z"⟩
theorem nm_DeviceSets_joinChanges : y_DeviceSets_joinChanges.cls ≠ "java/lang/invoke/MethodHandle" ∧ y_DeviceSets_joinChanges.cls ≠ "java/lang/invoke/VarHandle" ∧ (parseMethodDescriptor y_DeviceSets_joinChanges.desc).map (fun d => d.parameters.length) = some 2 := by decide +kernel
abbrev b_Model_init : ByteArray := prog_9_method_1_code
def y_Model_init : MethodName := ⟨R_Model, "<init>", "()V"⟩
theorem nm_Model_init : y_Model_init.cls ≠ "java/lang/invoke/MethodHandle" ∧ y_Model_init.cls ≠ "java/lang/invoke/VarHandle" ∧ (parseMethodDescriptor y_Model_init.desc).map (fun d => d.parameters.length) = some 0 := by decide +kernel
abbrev b_Model_device : ByteArray := prog_9_method_6_code
def y_Model_device : MethodName := ⟨R_Model, "device", "()I"⟩
theorem nm_Model_device : y_Model_device.cls ≠ "java/lang/invoke/MethodHandle" ∧ y_Model_device.cls ≠ "java/lang/invoke/VarHandle" ∧ (parseMethodDescriptor y_Model_device.desc).map (fun d => d.parameters.length) = some 0 := by decide +kernel
abbrev b_Model_tell : ByteArray := prog_9_method_7_code
def y_Model_tell : MethodName := ⟨R_Model, "tell", "(IJIJJJ)I"⟩
theorem nm_Model_tell : y_Model_tell.cls ≠ "java/lang/invoke/MethodHandle" ∧ y_Model_tell.cls ≠ "java/lang/invoke/VarHandle" ∧ (parseMethodDescriptor y_Model_tell.desc).map (fun d => d.parameters.length) = some 6 := by decide +kernel
abbrev b_Model_isDevice : ByteArray := prog_9_method_4_code
def y_Model_isDevice : MethodName := ⟨R_Model, "isDevice", "(I)Z"⟩
theorem nm_Model_isDevice : y_Model_isDevice.cls ≠ "java/lang/invoke/MethodHandle" ∧ y_Model_isDevice.cls ≠ "java/lang/invoke/VarHandle" ∧ (parseMethodDescriptor y_Model_isDevice.desc).map (fun d => d.parameters.length) = some 1 := by decide +kernel
abbrev b_Model_isIn : ByteArray := prog_9_method_3_code
def y_Model_isIn : MethodName := ⟨R_Model, "isIn", "(JJJ)Z"⟩
theorem nm_Model_isIn : y_Model_isIn.cls ≠ "java/lang/invoke/MethodHandle" ∧ y_Model_isIn.cls ≠ "java/lang/invoke/VarHandle" ∧ (parseMethodDescriptor y_Model_isIn.desc).map (fun d => d.parameters.length) = some 3 := by decide +kernel
abbrev b_Model_reset : ByteArray := prog_9_method_8_code
def y_Model_reset : MethodName := ⟨R_Model, "reset", "(IJ)Z"⟩
theorem nm_Model_reset : y_Model_reset.cls ≠ "java/lang/invoke/MethodHandle" ∧ y_Model_reset.cls ≠ "java/lang/invoke/VarHandle" ∧ (parseMethodDescriptor y_Model_reset.desc).map (fun d => d.parameters.length) = some 2 := by decide +kernel
abbrev b_Model_life : ByteArray := prog_9_method_9_code
def y_Model_life : MethodName := ⟨R_Model, "life", "(I)I"⟩
theorem nm_Model_life : y_Model_life.cls ≠ "java/lang/invoke/MethodHandle" ∧ y_Model_life.cls ≠ "java/lang/invoke/VarHandle" ∧ (parseMethodDescriptor y_Model_life.desc).map (fun d => d.parameters.length) = some 1 := by decide +kernel
abbrev b_Model_set : ByteArray := prog_9_method_10_code
def y_Model_set : MethodName := ⟨R_Model, "set", "(I)I"⟩
theorem nm_Model_set : y_Model_set.cls ≠ "java/lang/invoke/MethodHandle" ∧ y_Model_set.cls ≠ "java/lang/invoke/VarHandle" ∧ (parseMethodDescriptor y_Model_set.desc).map (fun d => d.parameters.length) = some 1 := by decide +kernel
abbrev b_Model_join : ByteArray := prog_9_method_13_code
def y_Model_join : MethodName := ⟨R_Model, "join", "(II)I"⟩
theorem nm_Model_join : y_Model_join.cls ≠ "java/lang/invoke/MethodHandle" ∧ y_Model_join.cls ≠ "java/lang/invoke/VarHandle" ∧ (parseMethodDescriptor y_Model_join.desc).map (fun d => d.parameters.length) = some 2 := by decide +kernel
abbrev b_Model_isSet : ByteArray := prog_9_method_5_code
def y_Model_isSet : MethodName := ⟨R_Model, "isSet", "(I)Z"⟩
theorem nm_Model_isSet : y_Model_isSet.cls ≠ "java/lang/invoke/MethodHandle" ∧ y_Model_isSet.cls ≠ "java/lang/invoke/VarHandle" ∧ (parseMethodDescriptor y_Model_isSet.desc).map (fun d => d.parameters.length) = some 1 := by decide +kernel
abbrev b_Model_joinTo : ByteArray := prog_9_method_12_code
def y_Model_joinTo : MethodName := ⟨R_Model, "joinTo", "(II)Z"⟩
theorem nm_Model_joinTo : y_Model_joinTo.cls ≠ "java/lang/invoke/MethodHandle" ∧ y_Model_joinTo.cls ≠ "java/lang/invoke/VarHandle" ∧ (parseMethodDescriptor y_Model_joinTo.desc).map (fun d => d.parameters.length) = some 2 := by decide +kernel
abbrev b_Model_bring : ByteArray := prog_9_method_11_code
def y_Model_bring : MethodName := ⟨R_Model, "bring", "(II)Z"⟩
theorem nm_Model_bring : y_Model_bring.cls ≠ "java/lang/invoke/MethodHandle" ∧ y_Model_bring.cls ≠ "java/lang/invoke/VarHandle" ∧ (parseMethodDescriptor y_Model_bring.desc).map (fun d => d.parameters.length) = some 2 := by decide +kernel
abbrev b_Model_conflicts : ByteArray := prog_9_method_26_code
def y_Model_conflicts : MethodName := ⟨R_Model, "conflicts", "(I)I"⟩
theorem nm_Model_conflicts : y_Model_conflicts.cls ≠ "java/lang/invoke/MethodHandle" ∧ y_Model_conflicts.cls ≠ "java/lang/invoke/VarHandle" ∧ (parseMethodDescriptor y_Model_conflicts.desc).map (fun d => d.parameters.length) = some 1 := by decide +kernel
abbrev b_Model_isConflict : ByteArray := prog_9_method_25_code
def y_Model_isConflict : MethodName := ⟨R_Model, "isConflict", "(II)Z"⟩
theorem nm_Model_isConflict : y_Model_isConflict.cls ≠ "java/lang/invoke/MethodHandle" ∧ y_Model_isConflict.cls ≠ "java/lang/invoke/VarHandle" ∧ (parseMethodDescriptor y_Model_isConflict.desc).map (fun d => d.parameters.length) = some 2 := by decide +kernel
abbrev b_Model_isHere : ByteArray := prog_9_method_15_code
def y_Model_isHere : MethodName := ⟨R_Model, "isHere", "(II)Z"⟩
theorem nm_Model_isHere : y_Model_isHere.cls ≠ "java/lang/invoke/MethodHandle" ∧ y_Model_isHere.cls ≠ "java/lang/invoke/VarHandle" ∧ (parseMethodDescriptor y_Model_isHere.desc).map (fun d => d.parameters.length) = some 2 := by decide +kernel
abbrev b_Model_isChosen : ByteArray := prog_9_method_16_code
def y_Model_isChosen : MethodName := ⟨R_Model, "isChosen", "(II)Z"⟩
theorem nm_Model_isChosen : y_Model_isChosen.cls ≠ "java/lang/invoke/MethodHandle" ∧ y_Model_isChosen.cls ≠ "java/lang/invoke/VarHandle" ∧ (parseMethodDescriptor y_Model_isChosen.desc).map (fun d => d.parameters.length) = some 2 := by decide +kernel
abbrev b_Model_isSameKey : ByteArray := prog_9_method_17_code
def y_Model_isSameKey : MethodName := ⟨R_Model, "isSameKey", "(II)Z"⟩
theorem nm_Model_isSameKey : y_Model_isSameKey.cls ≠ "java/lang/invoke/MethodHandle" ∧ y_Model_isSameKey.cls ≠ "java/lang/invoke/VarHandle" ∧ (parseMethodDescriptor y_Model_isSameKey.desc).map (fun d => d.parameters.length) = some 2 := by decide +kernel
abbrev b_Model_correct : ByteArray := prog_9_method_14_code
def y_Model_correct : MethodName := ⟨R_Model, "correct", "(IIIJJJ)Z"⟩
theorem nm_Model_correct : y_Model_correct.cls ≠ "java/lang/invoke/MethodHandle" ∧ y_Model_correct.cls ≠ "java/lang/invoke/VarHandle" ∧ (parseMethodDescriptor y_Model_correct.desc).map (fun d => d.parameters.length) = some 6 := by decide +kernel
abbrev b_Model_last : ByteArray := prog_9_method_20_code
def y_Model_last : MethodName := ⟨R_Model, "last", "(III)J"⟩
theorem nm_Model_last : y_Model_last.cls ≠ "java/lang/invoke/MethodHandle" ∧ y_Model_last.cls ≠ "java/lang/invoke/VarHandle" ∧ (parseMethodDescriptor y_Model_last.desc).map (fun d => d.parameters.length) = some 3 := by decide +kernel
abbrev b_Model_isSeen : ByteArray := prog_9_method_19_code
def y_Model_isSeen : MethodName := ⟨R_Model, "isSeen", "(II)Z"⟩
theorem nm_Model_isSeen : y_Model_isSeen.cls ≠ "java/lang/invoke/MethodHandle" ∧ y_Model_isSeen.cls ≠ "java/lang/invoke/VarHandle" ∧ (parseMethodDescriptor y_Model_isSeen.desc).map (fun d => d.parameters.length) = some 2 := by decide +kernel
abbrev b_Model_isBefore : ByteArray := prog_9_method_18_code
def y_Model_isBefore : MethodName := ⟨R_Model, "isBefore", "(II)Z"⟩
theorem nm_Model_isBefore : y_Model_isBefore.cls ≠ "java/lang/invoke/MethodHandle" ∧ y_Model_isBefore.cls ≠ "java/lang/invoke/VarHandle" ∧ (parseMethodDescriptor y_Model_isBefore.desc).map (fun d => d.parameters.length) = some 2 := by decide +kernel
abbrev b_Model_known : ByteArray := prog_9_method_22_code
def y_Model_known : MethodName := ⟨R_Model, "known", "(IIIJJ)J"⟩
theorem nm_Model_known : y_Model_known.cls ≠ "java/lang/invoke/MethodHandle" ∧ y_Model_known.cls ≠ "java/lang/invoke/VarHandle" ∧ (parseMethodDescriptor y_Model_known.desc).map (fun d => d.parameters.length) = some 5 := by decide +kernel
abbrev b_Model_isLater : ByteArray := prog_9_method_21_code
def y_Model_isLater : MethodName := ⟨R_Model, "isLater", "(II)Z"⟩
theorem nm_Model_isLater : y_Model_isLater.cls ≠ "java/lang/invoke/MethodHandle" ∧ y_Model_isLater.cls ≠ "java/lang/invoke/VarHandle" ∧ (parseMethodDescriptor y_Model_isLater.desc).map (fun d => d.parameters.length) = some 2 := by decide +kernel
abbrev b_Model_gap : ByteArray := prog_9_method_23_code
def y_Model_gap : MethodName := ⟨R_Model, "gap", "(III)I"⟩
theorem nm_Model_gap : y_Model_gap.cls ≠ "java/lang/invoke/MethodHandle" ∧ y_Model_gap.cls ≠ "java/lang/invoke/VarHandle" ∧ (parseMethodDescriptor y_Model_gap.desc).map (fun d => d.parameters.length) = some 3 := by decide +kernel
abbrev b_Model_nextNumber : ByteArray := prog_9_method_24_code
def y_Model_nextNumber : MethodName := ⟨R_Model, "nextNumber", "(IIII)I"⟩
theorem nm_Model_nextNumber : y_Model_nextNumber.cls ≠ "java/lang/invoke/MethodHandle" ∧ y_Model_nextNumber.cls ≠ "java/lang/invoke/VarHandle" ∧ (parseMethodDescriptor y_Model_nextNumber.desc).map (fun d => d.parameters.length) = some 4 := by decide +kernel
abbrev b_Model_conflict : ByteArray := prog_9_method_28_code
def y_Model_conflict : MethodName := ⟨R_Model, "conflict", "(III)I"⟩
theorem nm_Model_conflict : y_Model_conflict.cls ≠ "java/lang/invoke/MethodHandle" ∧ y_Model_conflict.cls ≠ "java/lang/invoke/VarHandle" ∧ (parseMethodDescriptor y_Model_conflict.desc).map (fun d => d.parameters.length) = some 3 := by decide +kernel
abbrev b_Model_isKeyBefore : ByteArray := prog_9_method_27_code
def y_Model_isKeyBefore : MethodName := ⟨R_Model, "isKeyBefore", "(II)Z"⟩
theorem nm_Model_isKeyBefore : y_Model_isKeyBefore.cls ≠ "java/lang/invoke/MethodHandle" ∧ y_Model_isKeyBefore.cls ≠ "java/lang/invoke/VarHandle" ∧ (parseMethodDescriptor y_Model_isKeyBefore.desc).map (fun d => d.parameters.length) = some 2 := by decide +kernel
abbrev b_Model_settle : ByteArray := prog_9_method_29_code
def y_Model_settle : MethodName := ⟨R_Model, "settle", "(IIII)I"⟩
theorem nm_Model_settle : y_Model_settle.cls ≠ "java/lang/invoke/MethodHandle" ∧ y_Model_settle.cls ≠ "java/lang/invoke/VarHandle" ∧ (parseMethodDescriptor y_Model_settle.desc).map (fun d => d.parameters.length) = some 4 := by decide +kernel
abbrev b_Model_equal : ByteArray := prog_9_method_30_code
def y_Model_equal : MethodName := ⟨R_Model, "equal", "(II)Z"⟩
theorem nm_Model_equal : y_Model_equal.cls ≠ "java/lang/invoke/MethodHandle" ∧ y_Model_equal.cls ≠ "java/lang/invoke/VarHandle" ∧ (parseMethodDescriptor y_Model_equal.desc).map (fun d => d.parameters.length) = some 2 := by decide +kernel
abbrev b_Model_batch : ByteArray := prog_9_method_31_code
def y_Model_batch : MethodName := ⟨R_Model, "batch", "(I)I"⟩
theorem nm_Model_batch : y_Model_batch.cls ≠ "java/lang/invoke/MethodHandle" ∧ y_Model_batch.cls ≠ "java/lang/invoke/VarHandle" ∧ (parseMethodDescriptor y_Model_batch.desc).map (fun d => d.parameters.length) = some 1 := by decide +kernel
abbrev b_Model_endBatch : ByteArray := prog_9_method_32_code
def y_Model_endBatch : MethodName := ⟨R_Model, "endBatch", "(I)Z"⟩
theorem nm_Model_endBatch : y_Model_endBatch.cls ≠ "java/lang/invoke/MethodHandle" ∧ y_Model_endBatch.cls ≠ "java/lang/invoke/VarHandle" ∧ (parseMethodDescriptor y_Model_endBatch.desc).map (fun d => d.parameters.length) = some 1 := by decide +kernel
abbrev b_Model_retain : ByteArray := prog_9_method_33_code
def y_Model_retain : MethodName := ⟨R_Model, "retain", "(IJ)I"⟩
theorem nm_Model_retain : y_Model_retain.cls ≠ "java/lang/invoke/MethodHandle" ∧ y_Model_retain.cls ≠ "java/lang/invoke/VarHandle" ∧ (parseMethodDescriptor y_Model_retain.desc).map (fun d => d.parameters.length) = some 2 := by decide +kernel
abbrev b_Model_kept : ByteArray := prog_9_method_34_code
def y_Model_kept : MethodName := ⟨R_Model, "kept", "(II)J"⟩
theorem nm_Model_kept : y_Model_kept.cls ≠ "java/lang/invoke/MethodHandle" ∧ y_Model_kept.cls ≠ "java/lang/invoke/VarHandle" ∧ (parseMethodDescriptor y_Model_kept.desc).map (fun d => d.parameters.length) = some 2 := by decide +kernel
abbrev b_Model_mark : ByteArray := prog_9_method_35_code
def y_Model_mark : MethodName := ⟨R_Model, "mark", "(IJJ)Z"⟩
theorem nm_Model_mark : y_Model_mark.cls ≠ "java/lang/invoke/MethodHandle" ∧ y_Model_mark.cls ≠ "java/lang/invoke/VarHandle" ∧ (parseMethodDescriptor y_Model_mark.desc).map (fun d => d.parameters.length) = some 3 := by decide +kernel
abbrev b_Model_corrected : ByteArray := prog_9_method_36_code
def y_Model_corrected : MethodName := ⟨R_Model, "corrected", "(IJI)J"⟩
theorem nm_Model_corrected : y_Model_corrected.cls ≠ "java/lang/invoke/MethodHandle" ∧ y_Model_corrected.cls ≠ "java/lang/invoke/VarHandle" ∧ (parseMethodDescriptor y_Model_corrected.desc).map (fun d => d.parameters.length) = some 3 := by decide +kernel
abbrev b_Model_common : ByteArray := prog_9_method_37_code
def y_Model_common : MethodName := ⟨R_Model, "common", "(JJ)J"⟩
theorem nm_Model_common : y_Model_common.cls ≠ "java/lang/invoke/MethodHandle" ∧ y_Model_common.cls ≠ "java/lang/invoke/VarHandle" ∧ (parseMethodDescriptor y_Model_common.desc).map (fun d => d.parameters.length) = some 2 := by decide +kernel
abbrev b_Model_play : ByteArray := prog_9_method_38_code
def y_Model_play : MethodName := ⟨R_Model, "play", "(JI)I"⟩
theorem nm_Model_play : y_Model_play.cls ≠ "java/lang/invoke/MethodHandle" ∧ y_Model_play.cls ≠ "java/lang/invoke/VarHandle" ∧ (parseMethodDescriptor y_Model_play.desc).map (fun d => d.parameters.length) = some 2 := by decide +kernel
end
section
/-! words: every method's contract speaks of ONE list, the tables' good words; the links to private members of nest mates go along in sy_K -/
def sy_T : List Cond := lw_tbl.filter goodWord
def sy_isN : Cond → Bool
  | .fieldLinkNest .. => true
  | .methodLinkNest .. => true
  | _ => false
def sy_N : List Cond := lw_tbl.filter sy_isN
abbrev sy_w (y : MethodName) (b : ByteArray) (n : Nat) (r : Option FieldType) : List Cond := .code y b n r :: sy_T
theorem sy_good {w : Cond} (h : w ∈ sy_T) : (w.onTables && w.keeps) = true ∨ ∃ ty, w = .arrayClass ty := good_of_word (List.mem_filter.mp h).2
theorem sy_mem {i : Nat} {w : Cond} (h : lw_tbl[i]? = some w) (hg : goodWord w = true) : w ∈ sy_T := List.mem_filter.mpr ⟨List.mem_of_getElem? h, hg⟩
theorem sy_memN {i : Nat} {w : Cond} (h : lw_tbl[i]? = some w) (hg : sy_isN w = true) : w ∈ sy_N := List.mem_filter.mpr ⟨List.mem_of_getElem? h, hg⟩
theorem sy_gi {ws : List Cond} (h : ∀ w ∈ ws, w ∈ sy_T) : GoodIn sy_T ws := fun w hw => ⟨h w hw, sy_good (h w hw)⟩
theorem sy_giw {y : MethodName} {b : ByteArray} {n : Nat} {r : Option FieldType} (h : Cond.code y b n r ∈ sy_T) : GoodIn sy_T (sy_w y b n r) := sy_gi fun w hw => by
  rcases List.mem_cons.mp hw with h1 | h1
  · rw [h1]; exact h
  · exact h1
/-! numbers -/
def bI (b : Bool) : Int32 := if b = true then 1 else 0
theorem bI_f {b : Bool} (h : bI b = 0) : b = false := by cases b <;> first | rfl | exact absurd h (by decide)
theorem bI_t {b : Bool} (h : ¬ bI b = 0) : b = true := by cases b <;> first | rfl | exact absurd rfl h
theorem bI_n (b : Bool) : narrow .boolean (.int (bI b)) = .int (bI b) := by cases b <;> rfl
theorem bI_v (b : Bool) : vp_nar .boolean (bI b) = bI b := by cases b <;> rfl
theorem bI_i {a b : Bool} (h : bI a = bI b) : a = b := by cases a <;> cases b <;> first | rfl | exact absurd h (by decide)
def oI (o : Option Nat) : Int32 := match o with
  | none => -1
  | some k => nI k
theorem oI_ne {k : Nat} (h : k < 2 ^ 31) : ¬ nI k = -1 := by
  intro q
  have a := nI_toInt h
  rw [q] at a
  have b : (-1 : Int32).toInt = -1 := by decide
  omega
theorem sy_opt {r : Int32} {X : Option Nat} (h : r = oI X) : ∃ o, o = X ∧ r = oI o := ⟨X, rfl, h⟩
theorem sy_a32 {a b : Int32} (h : a < b) : ¬ b ≤ a := by rw [Int32.lt_iff_toInt_lt] at h; rw [Int32.le_iff_toInt_le]; omega
theorem sy_b32 {a b : Int32} (h : ¬ a < b) : b ≤ a := by rw [Int32.lt_iff_toInt_lt] at h; rw [Int32.le_iff_toInt_le]; omega
theorem sy_c32 {a b : Int32} (h : a ≤ b) : ¬ b < a := by rw [Int32.le_iff_toInt_le] at h; rw [Int32.lt_iff_toInt_lt]; omega
theorem sy_d32 {a b : Int32} (h : ¬ a ≤ b) : b < a := by rw [Int32.le_iff_toInt_le] at h; rw [Int32.lt_iff_toInt_lt]; omega
theorem sy_a64 {a b : Int64} (h : a < b) : ¬ b ≤ a := by rw [Int64.lt_iff_toInt_lt] at h; rw [Int64.le_iff_toInt_le]; omega
theorem sy_b64 {a b : Int64} (h : ¬ a < b) : b ≤ a := by rw [Int64.lt_iff_toInt_lt] at h; rw [Int64.le_iff_toInt_le]; omega
theorem sy_c64 {a b : Int64} (h : a ≤ b) : ¬ b < a := by rw [Int64.le_iff_toInt_le] at h; rw [Int64.lt_iff_toInt_lt]; omega
theorem sy_d64 {a b : Int64} (h : ¬ a ≤ b) : b < a := by rw [Int64.le_iff_toInt_le] at h; rw [Int64.lt_iff_toInt_lt]; omega
/-! what every contract takes: the classes, the array classes, the links -/
abbrev sy_G : Type := va_G × (Nat → ClassId)
def sy_TY (ca : Nat → ClassId) : List (ClassId × FieldType) := [(ca 0, .int), (ca 1, .long), (ca 2, .boolean), (ca 3, .object R_Device), (ca 4, .object R_ToldSet)]
def sy_K (G : sy_G) (s : State) : Prop := va_K G.1 classes (sy_TY G.2) s ∧ ∀ w ∈ sy_N, va_Nw w s
def sy_KP (G : sy_G) (P : Heap → Prop) : State → Prop := fun U => P U.heap ∧ sy_K G U
theorem sy_K.same {G : sy_G} {u U : State} (h : u.vm = U.vm) (k : sy_K G u) : sy_K G U :=
  ⟨va_K.moved (by rw [h]; exact Vm.Alike.refl U.vm) k.1, fun w hw => by
    have hg := (List.mem_filter.mp hw).2
    have h2 := k.2 w hw
    cases w <;> first | exact va_Nw.same rfl h h2 | exact absurd hg (by simp [sy_isN])⟩
theorem sy_K.warm {G : sy_G} {u U : State} (h : u.WarmedH U.vm) (k : sy_K G u) : sy_K G U :=
  ⟨va_K.moved h.alike k.1, fun w hw => by
    have hg := (List.mem_filter.mp hw).2
    have h2 := k.2 w hw
    cases w <;> first | exact va_Nw.warmF h h2 | exact va_Nw.warmM h h2 | exact absurd hg (by simp [sy_isN])⟩
theorem sy_blind {av : List Value} {G : sy_G} {P : Heap → Prop} : FrameBlind (va_Pc av (sy_KP G P)) := fun a U g mk q => ⟨q.1, q.2.1, sy_K.same (u := U) (U := U.calling g mk a) rfl q.2.2⟩
section SYW
variable {p : Program} {l : Launch} {e : Env} {R : Room} {s : State} {m : MethodId} {args : Array Value} {below : List Frame} {meth : Method} {c : Code} {H : Heap} {locs : List Loc} {cells slots : Nat} {Q : State → Prop}
variable {cc : ByteArray} {pc : Nat} {ls : Array Slot} {rest : List Value} {D : va_G} {cl : List vw_C} {A : Nat → Prop} {a : Nat} {tys : List (ClassId × FieldType)} {ws : va_W} {H0 : Heap}
/-! the value on top by another word for it -/
theorem sy_ti {x y : Int32} (h : x = y) (k : W p l e R s m args below meth c H locs cells slots Q (F0 m pc ls (.int y :: rest))) : W p l e R s m args below meth c H locs cells slots Q (F0 m pc ls (.int x :: rest)) := h ▸ k
theorem sy_tl {x y : Int64} (h : x = y) (k : W p l e R s m args below meth c H locs cells slots Q (F0 m pc ls (.long y :: rest))) : W p l e R s m args below meth c H locs cells slots Q (F0 m pc ls (.long x :: rest)) := h ▸ k
theorem sy_tr {x y : Value} (h : x = y) (k : W p l e R s m args below meth c H locs cells slots Q (F0 m pc ls (y :: rest))) : W p l e R s m args below meth c H locs cells slots Q (F0 m pc ls (x :: rest)) := h ▸ k
/-! a loop: a state x of it, a measure that falls -/
theorem sy_loop {σ : Type} {nL : Nat} (μ : σ → Nat) (L : σ → List (Nat × Value)) (I : σ → Prop)
    (step : ∀ (x : σ) (ls : Array Slot), I x → lv_has ls nL (L x) → (∀ (y : σ) (ls : Array Slot), μ y < μ x → I y → lv_has ls nL (L y) → W p l e R s m args below meth c H locs cells slots Q (F0 m pc ls [])) → W p l e R s m args below meth c H locs cells slots Q (F0 m pc ls []))
    (x : σ) (hi : I x) (hl : lv_has ls nL (L x)) : W p l e R s m args below meth c H locs cells slots Q (F0 m pc ls []) := by
  have K : ∀ (n : Nat) (x : σ) (ls : Array Slot), μ x < n → I x → lv_has ls nL (L x) → W p l e R s m args below meth c H locs cells slots Q (F0 m pc ls []) := by
    intro n
    induction n with
    | zero => intro x ls h; exact absurd h (Nat.not_lt_zero _)
    | succ n ih => intro x ls h hi hl; exact step x ls hi hl (fun y ls hy hi hl => ih y ls (by omega) hi hl)
  exact K (μ x + 1) x ls (Nat.lt_succ_self _) hi hl
/-- a loop that writes: the heap and the written places go along -/
theorem sy_loopH {σ : Type} {nL : Nat} (μ : σ → Nat) (L : σ → List (Nat × Value)) (I : σ → Heap → List Loc → Prop)
    (step : ∀ (x : σ) (H : Heap) (locs : List Loc) (ls : Array Slot), I x H locs → lv_has ls nL (L x) → (∀ (y : σ) (H : Heap) (locs : List Loc) (ls : Array Slot), μ y < μ x → I y H locs → lv_has ls nL (L y) → W p l e R s m args below meth c H locs cells slots Q (F0 m pc ls [])) → W p l e R s m args below meth c H locs cells slots Q (F0 m pc ls []))
    (x : σ) (hi : I x H locs) (hl : lv_has ls nL (L x)) : W p l e R s m args below meth c H locs cells slots Q (F0 m pc ls []) := by
  have K : ∀ (n : Nat) (x : σ) (H : Heap) (locs : List Loc) (ls : Array Slot), μ x < n → I x H locs → lv_has ls nL (L x) → W p l e R s m args below meth c H locs cells slots Q (F0 m pc ls []) := by
    intro n
    induction n with
    | zero => intro x H locs ls h; exact absurd h (Nat.not_lt_zero _)
    | succ n ih => intro x H locs ls h hi hl; exact step x H locs ls hi hl (fun y H locs ls hy hi hl => ih y H locs ls (by omega) hi hl)
  exact K (μ x + 1) x H locs ls (Nat.lt_succ_self _) hi hl
/-- a place where roads meet: first what goes on from there, then the roads to it -/
theorem sy_cut {σ : Type} {nL pc2 : Nat} {g : JFrame} (L : σ → List (Nat × Value)) (S : σ → List Value) (I : σ → Prop)
    (k1 : ∀ (x : σ) (ls : Array Slot), I x → lv_has ls nL (L x) → W p l e R s m args below meth c H locs cells slots Q (F0 m pc2 ls (S x)))
    (k2 : (∀ (x : σ) (ls : Array Slot), I x → lv_has ls nL (L x) → W p l e R s m args below meth c H locs cells slots Q (F0 m pc2 ls (S x))) → W p l e R s m args below meth c H locs cells slots Q g) : W p l e R s m args below meth c H locs cells slots Q g := k2 k1
/-! arrays, at a place that is a number -/
theorem sy_iald (hexec : p.tables.exec = Jvm.exec) (hb : c.code = cc) (hK : va_K D cl tys s) (hP : va_P D cl ws H) (q0 t0 : Nat) {cA : ClassId} {n : Nat} {f : Nat → Int32} (ha : ws[q0]? = some (a, .inl (cA, n, .inl f))) (ht : tys[t0]? = some (cA, .int)) {k : Nat} (hk : k < n) (hn : n < 2 ^ 31) (hdg : decode cc pc = .ok (.iaload, 1))
    (kk : W p l e R s m args below meth c H locs cells slots Q (F0 m (pc + 1) ls (.int (f k) :: rest))) : W p l e R s m args below meth c H locs cells slots Q (F0 m pc ls (.int (nI k) :: .ref a :: rest)) :=
  va_iald hexec hb hK hP q0 t0 ha ht (vp_in_nI hk hn) hdg (by rw [nI_clamp (by omega)]; exact kk)
theorem sy_zald (hexec : p.tables.exec = Jvm.exec) (hb : c.code = cc) (hK : va_K D cl tys s) (hP : va_P D cl ws H) (q0 t0 : Nat) {cA : ClassId} {n : Nat} {f : Nat → Int32} (ha : ws[q0]? = some (a, .inl (cA, n, .inl f))) (ht : tys[t0]? = some (cA, .boolean)) {k : Nat} (hk : k < n) (hn : n < 2 ^ 31) (hdg : decode cc pc = .ok (.baload, 1))
    (kk : W p l e R s m args below meth c H locs cells slots Q (F0 m (pc + 1) ls (.int (f k) :: rest))) : W p l e R s m args below meth c H locs cells slots Q (F0 m pc ls (.int (nI k) :: .ref a :: rest)) :=
  va_zald hexec hb hK hP q0 t0 ha ht (vp_in_nI hk hn) hdg (by rw [nI_clamp (by omega)]; exact kk)
theorem sy_lald (hexec : p.tables.exec = Jvm.exec) (hb : c.code = cc) (hK : va_K D cl tys s) (hP : va_P D cl ws H) (q0 t0 : Nat) {cA : ClassId} {n : Nat} {f : Nat → Int64} (ha : ws[q0]? = some (a, .inl (cA, n, .inr (.inl f)))) (ht : tys[t0]? = some (cA, .long)) {k : Nat} (hk : k < n) (hn : n < 2 ^ 31) (hdg : decode cc pc = .ok (.laload, 1))
    (kk : W p l e R s m args below meth c H locs cells slots Q (F0 m (pc + 1) ls (.long (f k) :: rest))) : W p l e R s m args below meth c H locs cells slots Q (F0 m pc ls (.int (nI k) :: .ref a :: rest)) :=
  va_lald hexec hb hK hP q0 t0 ha ht (vp_in_nI hk hn) hdg (by rw [nI_clamp (by omega)]; exact kk)
theorem sy_aldq (hexec : p.tables.exec = Jvm.exec) (hb : c.code = cc) (hK : va_K D cl tys s) (hP : va_P D cl ws H) (q0 t0 : Nat) {cA : ClassId} {C : String} {n : Nat} {f : Nat → Option Nat} (ha : ws[q0]? = some (a, .inl (cA, n, .inr (.inr (.inr (.inr f)))))) (ht : tys[t0]? = some (cA, .object C)) {k : Nat} (hk : k < n) (hn : n < 2 ^ 31) (hdg : decode cc pc = .ok (.aaload, 1))
    (kk : W p l e R s m args below meth c H locs cells slots Q (F0 m (pc + 1) ls (va_rf (f k) :: rest))) : W p l e R s m args below meth c H locs cells slots Q (F0 m pc ls (.int (nI k) :: .ref a :: rest)) :=
  va_aldq hexec hb hK hP q0 t0 ha ht (vp_in_nI hk hn) hdg (by rw [nI_clamp (by omega)]; exact kk)
theorem sy_iast (hexec : p.tables.exec = Jvm.exec) (hb : c.code = cc) (hK : va_K D cl tys s) (hP : va_P D cl ws H) (hD : va_D A ws) (hS : va_S A H0 H locs) (q0 t0 : Nat) {cA : ClassId} {n : Nat} {f : Nat → Int32} (ha : ws[q0]? = some (a, .inl (cA, n, .inl f))) (ht : tys[t0]? = some (cA, .int)) {k : Nat} {x : Int32} (hk : k < n) (hn : n < 2 ^ 31) (hdg : decode cc pc = .ok (.iastore, 1))
    (kk : ∀ (H1 : Heap) (locs1 : List Loc), va_P D cl (ws.set q0 (a, .inl (cA, n, .inl (upd f k x)))) H1 → va_D A (ws.set q0 (a, .inl (cA, n, .inl (upd f k x)))) → va_S A H0 H1 locs1 → W p l e R s m args below meth c H1 locs1 cells slots Q (F0 m (pc + 1) ls rest)) : W p l e R s m args below meth c H locs cells slots Q (F0 m pc ls (.int x :: .int (nI k) :: .ref a :: rest)) :=
  va_iast hexec hb hK hP hD hS q0 t0 ha ht (vp_in_nI hk hn) hdg (by rw [nI_clamp (by omega)]; exact kk)
theorem sy_last (hexec : p.tables.exec = Jvm.exec) (hb : c.code = cc) (hK : va_K D cl tys s) (hP : va_P D cl ws H) (hD : va_D A ws) (hS : va_S A H0 H locs) (q0 t0 : Nat) {cA : ClassId} {n : Nat} {f : Nat → Int64} (ha : ws[q0]? = some (a, .inl (cA, n, .inr (.inl f)))) (ht : tys[t0]? = some (cA, .long)) {k : Nat} {x : Int64} (hk : k < n) (hn : n < 2 ^ 31) (hdg : decode cc pc = .ok (.lastore, 1))
    (kk : ∀ (H1 : Heap) (locs1 : List Loc), va_P D cl (ws.set q0 (a, .inl (cA, n, .inr (.inl (vp_updL f k x))))) H1 → va_D A (ws.set q0 (a, .inl (cA, n, .inr (.inl (vp_updL f k x))))) → va_S A H0 H1 locs1 → W p l e R s m args below meth c H1 locs1 cells slots Q (F0 m (pc + 1) ls rest)) : W p l e R s m args below meth c H locs cells slots Q (F0 m pc ls (.long x :: .int (nI k) :: .ref a :: rest)) :=
  va_last hexec hb hK hP hD hS q0 t0 ha ht (vp_in_nI hk hn) hdg (by rw [nI_clamp (by omega)]; exact kk)
theorem sy_zastX (hexec : p.tables.exec = Jvm.exec) (hb : c.code = cc) (hK : va_K D cl tys s) (hP : va_P D cl ws H) (hD : va_D A ws) (hS : va_S A H0 H locs) (q0 t0 : Nat) {cA : ClassId} {n : Nat} {f : Nat → Int32} (ha : ws[q0]? = some (a, .inl (cA, n, .inl f))) (ht : tys[t0]? = some (cA, .boolean)) {k : Nat} {b : Bool} (hk : k < n) (hn : n < 2 ^ 31) (hdg : decode cc pc = .ok (.bastore, 1))
    (kk : ∀ (H1 : Heap) (locs1 : List Loc), va_P D cl (ws.set q0 (a, .inl (cA, n, .inl (upd f k (bI b))))) H1 → va_D A (ws.set q0 (a, .inl (cA, n, .inl (upd f k (bI b))))) → va_S A H0 H1 locs1 → W p l e R s m args below meth c H1 locs1 cells slots Q (F0 m (pc + 1) ls rest)) : W p l e R s m args below meth c H locs cells slots Q (F0 m pc ls (.int (bI b) :: .int (nI k) :: .ref a :: rest)) :=
  va_zast hexec hb hK hP hD hS q0 t0 ha ht (vp_in_nI hk hn) hdg (by rw [nI_clamp (by omega), bI_v]; exact kk)
theorem sy_zast (hexec : p.tables.exec = Jvm.exec) (hb : c.code = cc) (hK : va_K D cl tys s) (hP : va_P D cl ws H) (hD : va_D A ws) (hS : va_S A H0 H locs) (q0 t0 : Nat) {cA : ClassId} {n : Nat} {g : Nat → Bool} (ha : ws[q0]? = some (a, .inl (cA, n, .inl (fun i => bI (g i))))) (ht : tys[t0]? = some (cA, .boolean)) {k : Nat} {b : Bool} (hk : k < n) (hn : n < 2 ^ 31) (hdg : decode cc pc = .ok (.bastore, 1))
    (kk : ∀ (H1 : Heap) (locs1 : List Loc), va_P D cl (ws.set q0 (a, .inl (cA, n, .inl (fun i => bI (va_up g k b i))))) H1 → va_D A (ws.set q0 (a, .inl (cA, n, .inl (fun i => bI (va_up g k b i))))) → va_S A H0 H1 locs1 → W p l e R s m args below meth c H1 locs1 cells slots Q (F0 m (pc + 1) ls rest)) : W p l e R s m args below meth c H locs cells slots Q (F0 m pc ls (.int (bI b) :: .int (nI k) :: .ref a :: rest)) := by
  have e : upd (fun i => bI (g i)) k (bI b) = fun i => bI (va_up g k b i) := by
    funext i
    unfold upd va_up
    by_cases h : i = k <;> simp [h]
  exact sy_zastX hexec hb hK hP hD hS q0 t0 ha ht hk hn hdg (by rw [e]; exact kk)
/-! lcmp with the branch behind it -/
theorem sy_lc_ge (hexec : p.tables.exec = Jvm.exec) (hb : c.code = cc) {x y : Int64} {off : Int} {tgt : Nat} (h1 : decode cc pc = .ok (.lcmp, 1)) (h2 : decode cc (pc + 1) = .ok (.ifCond .ge off, 3)) (ht : ((pc + 1 : Nat) : Int) + off = (tgt : Int)) (kt : y ≤ x → W p l e R s m args below meth c H locs cells slots Q (F0 m tgt ls rest)) (kf : ¬ y ≤ x → W p l e R s m args below meth c H locs cells slots Q (F0 m (pc + 4) ls rest)) : W p l e R s m args below meth c H locs cells slots Q (F0 m pc ls (.long y :: .long x :: rest)) :=
  W.lcmp hexec hb h1 (lv_if_ge hexec hb h2 ht (fun h => kt ((lg_cmp_ge x y).mp h)) (fun h => kf (fun q => h ((lg_cmp_ge x y).mpr q))))
theorem sy_lc_le (hexec : p.tables.exec = Jvm.exec) (hb : c.code = cc) {x y : Int64} {off : Int} {tgt : Nat} (h1 : decode cc pc = .ok (.lcmp, 1)) (h2 : decode cc (pc + 1) = .ok (.ifCond .le off, 3)) (ht : ((pc + 1 : Nat) : Int) + off = (tgt : Int)) (kt : x ≤ y → W p l e R s m args below meth c H locs cells slots Q (F0 m tgt ls rest)) (kf : ¬ x ≤ y → W p l e R s m args below meth c H locs cells slots Q (F0 m (pc + 4) ls rest)) : W p l e R s m args below meth c H locs cells slots Q (F0 m pc ls (.long y :: .long x :: rest)) :=
  W.lcmp hexec hb h1 (lv_if_le hexec hb h2 ht (fun h => kt ((lg_cmp_le x y).mp h)) (fun h => kf (fun q => h ((lg_cmp_le x y).mpr q))))
theorem sy_lc_gt (hexec : p.tables.exec = Jvm.exec) (hb : c.code = cc) {x y : Int64} {off : Int} {tgt : Nat} (h1 : decode cc pc = .ok (.lcmp, 1)) (h2 : decode cc (pc + 1) = .ok (.ifCond .gt off, 3)) (ht : ((pc + 1 : Nat) : Int) + off = (tgt : Int)) (kt : y < x → W p l e R s m args below meth c H locs cells slots Q (F0 m tgt ls rest)) (kf : ¬ y < x → W p l e R s m args below meth c H locs cells slots Q (F0 m (pc + 4) ls rest)) : W p l e R s m args below meth c H locs cells slots Q (F0 m pc ls (.long y :: .long x :: rest)) :=
  W.lcmp hexec hb h1 (lv_if_gt hexec hb h2 ht (fun h => kt ((lg_cmp_gt x y).mp h)) (fun h => kf (fun q => h ((lg_cmp_gt x y).mpr q))))
theorem sy_lc_lt (hexec : p.tables.exec = Jvm.exec) (hb : c.code = cc) {x y : Int64} {off : Int} {tgt : Nat} (h1 : decode cc pc = .ok (.lcmp, 1)) (h2 : decode cc (pc + 1) = .ok (.ifCond .lt off, 3)) (ht : ((pc + 1 : Nat) : Int) + off = (tgt : Int)) (kt : x < y → W p l e R s m args below meth c H locs cells slots Q (F0 m tgt ls rest)) (kf : ¬ x < y → W p l e R s m args below meth c H locs cells slots Q (F0 m (pc + 4) ls rest)) : W p l e R s m args below meth c H locs cells slots Q (F0 m pc ls (.long y :: .long x :: rest)) :=
  W.lcmp hexec hb h1 (lv_if_lt hexec hb h2 ht (fun h => kt ((lg_cmp_lt x y).mp h)) (fun h => kf (fun q => h ((lg_cmp_lt x y).mpr q))))
theorem sy_lc_eq (hexec : p.tables.exec = Jvm.exec) (hb : c.code = cc) {x y : Int64} {off : Int} {tgt : Nat} (h1 : decode cc pc = .ok (.lcmp, 1)) (h2 : decode cc (pc + 1) = .ok (.ifCond .eq off, 3)) (ht : ((pc + 1 : Nat) : Int) + off = (tgt : Int)) (kt : x = y → W p l e R s m args below meth c H locs cells slots Q (F0 m tgt ls rest)) (kf : ¬ x = y → W p l e R s m args below meth c H locs cells slots Q (F0 m (pc + 4) ls rest)) : W p l e R s m args below meth c H locs cells slots Q (F0 m pc ls (.long y :: .long x :: rest)) :=
  W.lcmp hexec hb h1 (lv_if_eq hexec hb h2 ht (fun h => kt ((lg_cmp_eq x y).mp h)) (fun h => kf (fun q => h ((lg_cmp_eq x y).mpr q))))
theorem sy_lc_ne (hexec : p.tables.exec = Jvm.exec) (hb : c.code = cc) {x y : Int64} {off : Int} {tgt : Nat} (h1 : decode cc pc = .ok (.lcmp, 1)) (h2 : decode cc (pc + 1) = .ok (.ifCond .ne off, 3)) (ht : ((pc + 1 : Nat) : Int) + off = (tgt : Int)) (kt : ¬ x = y → W p l e R s m args below meth c H locs cells slots Q (F0 m tgt ls rest)) (kf : x = y → W p l e R s m args below meth c H locs cells slots Q (F0 m (pc + 4) ls rest)) : W p l e R s m args below meth c H locs cells slots Q (F0 m pc ls (.long y :: .long x :: rest)) :=
  W.lcmp hexec hb h1 (lv_if_ne hexec hb h2 ht (fun h => kt (fun q => h ((lg_cmp_eq x y).mpr q))) (fun h => kf ((lg_cmp_eq x y).mp h)))
/-! calls -/
variable {y : MethodName} {bytes : ByteArray} {maxL nL mc ms n idx : Nat} {ret : Option FieldType} {rm : Room} {Qc : Array Value → State → Outcome → State → Prop} {free : Addr → Prop} {own C host : String} {b : Addr} {As : List Value} {G : sy_G} {P : Heap → Prop}
abbrev sy_nm (y : MethodName) (n : Nat) : Prop := y.cls ≠ "java/lang/invoke/MethodHandle" ∧ y.cls ≠ "java/lang/invoke/VarHandle" ∧ (parseMethodDescriptor y.desc).map (fun d => d.parameters.length) = some n
/-- the words of a call of a method of an object -/
def sy_LV (own : String) (idx : Nat) (y : MethodName) (b : ByteArray) (n : Nat) (r : Option FieldType) : Prop := Cond.code y b n r ∈ sy_T ∧ Cond.methodLink own idx y ∈ sy_T ∧ Cond.instanceMethod y ∈ sy_T ∧ Cond.selects y.cls y y ∈ sy_T ∧ Cond.initialized y.cls ∈ sy_T
def sy_LS (own : String) (idx : Nat) (y : MethodName) (b : ByteArray) (n : Nat) (r : Option FieldType) : Prop := Cond.code y b n r ∈ sy_T ∧ Cond.methodLink own idx y ∈ sy_T ∧ Cond.static y ∈ sy_T ∧ Cond.initialized y.cls ∈ sy_T
def sy_LI (own : String) (idx : Nat) (y : MethodName) (b : ByteArray) (n : Nat) : Prop := Cond.code y b n none ∈ sy_T ∧ Cond.methodLink own idx y ∈ sy_T ∧ Cond.instanceMethod y ∈ sy_T ∧ Cond.initialized y.cls ∈ sy_T
def sy_LSN (own : String) (idx : Nat) (y : MethodName) (host : String) (b : ByteArray) (n : Nat) (r : Option FieldType) : Prop := Cond.code y b n r ∈ sy_T ∧ Cond.methodLinkNest own idx y host ∈ sy_N ∧ Cond.static y ∈ sy_T ∧ Cond.initialized y.cls ∈ sy_T
def sy_LIN (own : String) (idx : Nat) (y : MethodName) (host : String) (b : ByteArray) (n : Nat) : Prop := Cond.code y b n none ∈ sy_T ∧ Cond.methodLinkNest own idx y host ∈ sy_N ∧ Cond.instanceMethod y ∈ sy_T ∧ Cond.initialized y.cls ∈ sy_T
theorem sy_runV (F : CallFix p m c cc nL s args sy_T own) (K : sy_LV own idx y bytes maxL ret) (hM : Met l y (sy_w y bytes maxL ret) rm (va_Pc (.ref b :: As) (sy_KP G P)) Qc mc ms free) (hk : sy_K G s) (hp : P H) (hrv : ∃ cell : Cell, H[b]? = some cell ∧ cell.vm.isStatics = false ∧ s.vm.findClass y.cls = some cell.cls)
    (hn : As.length = n) (hd : sy_nm y n) (hrc : rm.cells = mc) (hrs : rm.slots = ms) (hR : rm.frames + 1 ≤ R.frames ∧ 8 + (maxL + 11) + rm.locals ≤ R.locals) (hsize : ls.size = nL) (hW : (rest.map fun v => v.category).sum ≤ 8) (hdg : decode cc pc = .ok (.invokevirtual idx, 3)) (hf : cells + mc ≤ R.cells ∧ slots + ms ≤ R.slots) :
    va_Run p l e R s m args below meth c H locs cells slots mc ms (F0 m pc ls (As.reverse ++ .ref b :: rest)) rest (Qc (Value.ref b :: As).toArray) (free) := by
  obtain ⟨k1, k2, k3, k4, k5⟩ := K
  refine va_runV F hM (cwV (C := y.cls) n F.2.2.2.2 (sy_gi fun w hw => ?_) rfl hrc hrs ⟨rfl, hd⟩ hR) ⟨sy_blind, hrv, fun U hU hWm => ⟨rfl, by rw [hU]; exact hp, hk.warm hWm⟩⟩ rfl hn hsize rfl (lv_room hW) hdg hf
  unfold wsV at hw
  rcases List.mem_append.mp hw with h | h
  · simp only [List.mem_cons, List.not_mem_nil, or_false] at h
    rcases h with h | h | h | h <;> rw [h] <;> assumption
  · exact (sy_giw k1 w h).1
theorem sy_runS (F : CallFix p m c cc nL s args sy_T own) (K : sy_LS own idx y bytes maxL ret) (hM : Met l y (sy_w y bytes maxL ret) rm (va_Pc As (sy_KP G P)) Qc mc ms free) (hk : sy_K G s) (hp : P H)
    (hn : As.length = n) (hd : sy_nm y n) (hrc : rm.cells = mc) (hrs : rm.slots = ms) (hR : rm.frames + 1 ≤ R.frames ∧ 8 + (maxL + 11) + rm.locals ≤ R.locals) (hsize : ls.size = nL) (hW : (rest.map fun v => v.category).sum ≤ 8) (hdg : decode cc pc = .ok (.invokestatic idx, 3)) (hf : cells + mc ≤ R.cells ∧ slots + ms ≤ R.slots) :
    va_Run p l e R s m args below meth c H locs cells slots mc ms (F0 m pc ls (As.reverse ++ rest)) rest (Qc As.toArray) (free) := by
  obtain ⟨k1, k2, k3, k4⟩ := K
  refine va_runS F hM (va_cwS n F.2.2.2.2 (sy_gi fun w hw => ?_) rfl hrc hrs hd hR) ⟨sy_blind, fun U hU hWm => ⟨rfl, by rw [hU]; exact hp, hk.warm hWm⟩⟩ rfl hn hsize rfl (lv_room hW) hdg hf
  unfold va_wsS at hw
  rcases List.mem_append.mp hw with h | h
  · simp only [List.mem_cons, List.not_mem_nil, or_false] at h
    rcases h with h | h | h <;> rw [h] <;> assumption
  · exact (sy_giw k1 w h).1
theorem sy_runI (F : CallFix p m c cc nL s args sy_T own) (K : sy_LI own idx y bytes maxL) (hM : Met l y (sy_w y bytes maxL none) rm (va_Pc (.ref b :: As) (sy_KP G P)) Qc mc ms free) (hk : sy_K G s) (hp : P H) (hy : y.name = "<init>")
    (hn : As.length = n) (hd : sy_nm y n) (hrc : rm.cells = mc) (hrs : rm.slots = ms) (hR : rm.frames + 1 ≤ R.frames ∧ 8 + (maxL + 11) + rm.locals ≤ R.locals) (hsize : ls.size = nL) (hW : (rest.map fun v => v.category).sum ≤ 8) (hdg : decode cc pc = .ok (.invokespecial idx, 3)) (hf : cells + mc ≤ R.cells ∧ slots + ms ≤ R.slots) :
    va_Run p l e R s m args below meth c H locs cells slots mc ms (F0 m pc ls (As.reverse ++ .ref b :: rest)) rest (Qc (Value.ref b :: As).toArray) (free) := by
  obtain ⟨k1, k2, k3, k4⟩ := K
  exact va_runI F hM (cwI n F.2.2.2.2 (sy_giw k1) rfl hrc hrs (F.2.2.2.2 _ k4) (F.2.2.2.2 _ k2) (F.2.2.2.2 _ k3) hy hd hR) ⟨sy_blind, fun U hU hWm => ⟨rfl, by rw [hU]; exact hp, hk.warm hWm⟩⟩ rfl hn hsize rfl (lv_room hW) hdg hf
theorem sy_runSN (F : CallFix p m c cc nL s args sy_T own) (K : sy_LSN own idx y host bytes maxL ret) (hM : Met l y (sy_w y bytes maxL ret) rm (va_Pc As (sy_KP G P)) Qc mc ms free) (hk : sy_K G s) (hp : P H)
    (hn : As.length = n) (hd : sy_nm y n) (hrc : rm.cells = mc) (hrs : rm.slots = ms) (hR : rm.frames + 1 ≤ R.frames ∧ 8 + (maxL + 11) + rm.locals ≤ R.locals) (hsize : ls.size = nL) (hW : (rest.map fun v => v.category).sum ≤ 8) (hdg : decode cc pc = .ok (.invokestatic idx, 3)) (hf : cells + mc ≤ R.cells ∧ slots + ms ≤ R.slots) :
    va_Run p l e R s m args below meth c H locs cells slots mc ms (F0 m pc ls (As.reverse ++ rest)) rest (Qc As.toArray) (free) := by
  obtain ⟨k1, k2, k3, k4⟩ := K
  exact va_runSN F hM ⟨va_cnB n F.2.2.2.2 (sy_giw k1) rfl hrc hrs (hk.2 _ k2) (F.2.2.2.2 _ k4) hd hR, F.2.2.2.2 _ k3, trivial⟩ ⟨sy_blind, fun U hU hWm => ⟨rfl, by rw [hU]; exact hp, hk.warm hWm⟩⟩ rfl hn hsize rfl (lv_room hW) hdg hf
theorem sy_runIN (F : CallFix p m c cc nL s args sy_T own) (K : sy_LIN own idx y host bytes maxL) (hM : Met l y (sy_w y bytes maxL none) rm (va_Pc (.ref b :: As) (sy_KP G P)) Qc mc ms free) (hk : sy_K G s) (hp : P H) (hy : y.name = "<init>")
    (hn : As.length = n) (hd : sy_nm y n) (hrc : rm.cells = mc) (hrs : rm.slots = ms) (hR : rm.frames + 1 ≤ R.frames ∧ 8 + (maxL + 11) + rm.locals ≤ R.locals) (hsize : ls.size = nL) (hW : (rest.map fun v => v.category).sum ≤ 8) (hdg : decode cc pc = .ok (.invokespecial idx, 3)) (hf : cells + mc ≤ R.cells ∧ slots + ms ≤ R.slots) :
    va_Run p l e R s m args below meth c H locs cells slots mc ms (F0 m pc ls (As.reverse ++ .ref b :: rest)) rest (Qc (Value.ref b :: As).toArray) (free) := by
  obtain ⟨k1, k2, k3, k4⟩ := K
  exact va_runIN F hM ⟨va_cnB n F.2.2.2.2 (sy_giw k1) rfl hrc hrs (hk.2 _ k2) (F.2.2.2.2 _ k4) hd hR, hy, F.2.2.2.2 _ k3⟩ ⟨sy_blind, fun U hU hWm => ⟨rfl, by rw [hU]; exact hp, hk.warm hWm⟩⟩ rfl hn hsize rfl (lv_room hW) hdg hf
end SYW
/-- the addresses of a world -/
def sy_A (ws : va_W) : Nat → Prop := fun q => ∃ (k : Nat) (e : va_E), ws[k]? = some (q, e)
theorem sy_self {ws : va_W} {A : Nat → Prop} (h : va_D A ws) : va_D (sy_A ws) ws := ⟨h.1, fun k q hk => ⟨k, q.2, hk⟩⟩
theorem sy_any {ws : va_W} {A : Nat → Prop} (h : va_D A ws) : va_D (fun _ => True) ws := ⟨h.1, fun _ _ _ => trivial⟩
theorem sy_in {ws : va_W} {A : Nat → Prop} (h : va_D A ws) {q : Nat} (hq : sy_A ws q) : A q := by
  obtain ⟨k, e, hk⟩ := hq
  exact h.2 k _ hk
/-- another world at the same addresses -/
theorem sy_Da {ws ws' : va_W} {A : Nat → Prop} (h : va_D A ws) (e : ws'.map Prod.fst = ws.map Prod.fst) : va_D A ws' := by
  have K : ∀ (k : Nat) (q : Nat × va_E), ws'[k]? = some q → ∃ q2, ws[k]? = some q2 ∧ q2.1 = q.1 := by
    intro k q hk
    have h1 : (ws'.map Prod.fst)[k]? = some q.1 := by rw [List.getElem?_map, hk]; rfl
    rw [e, List.getElem?_map] at h1
    cases h2 : ws[k]? with
    | none => rw [h2] at h1; cases h1
    | some q2 => rw [h2] at h1; exact ⟨q2, rfl, Option.some.inj h1⟩
  refine ⟨fun i j p q hi hj hpq => ?_, fun k q hk => ?_⟩
  · obtain ⟨p2, a1, a2⟩ := K i p hi
    obtain ⟨q2, b1, b2⟩ := K j q hj
    exact h.1 i j p2 q2 a1 b1 (by rw [a2, b2, hpq])
  · obtain ⟨q2, a1, a2⟩ := K k q hk
    rw [← a2]
    exact h.2 k q2 a1
/-- some cells of a world anew -/
def sy_sm (ws : va_W) : List Nat → va_W → va_W
  | i :: is, c :: w => (sy_sm ws is w).set i c
  | _, _ => ws
theorem sy_sm_at {ws : va_W} : ∀ (is : List Nat) (w : va_W), w.length = is.length → ∀ (k : Nat) (q : Nat × va_E), (sy_sm ws is w)[k]? = some q → q ∈ w ∨ (k ∉ is ∧ ws[k]? = some q) := by
  intro is
  induction is with
  | nil => intro w hl k q h; cases w with
    | nil => exact Or.inr ⟨List.not_mem_nil, h⟩
    | cons c w => simp at hl
  | cons i is ih =>
    intro w hl k q h
    cases w with
    | nil => simp at hl
    | cons c w =>
      simp only [sy_sm] at h
      by_cases hk : k = i
      · subst hk
        rw [List.getElem?_set_self'] at h
        cases h2 : (sy_sm ws is w)[k]? with
        | none => rw [h2] at h; cases h
        | some z => rw [h2] at h; cases h; exact Or.inl List.mem_cons_self
      · rw [List.getElem?_set_ne (fun e => hk e.symm)] at h
        rcases ih w (by simpa using hl) k q h with h1 | ⟨h1, h2⟩
        · exact Or.inl (List.mem_cons_of_mem _ h1)
        · exact Or.inr ⟨fun hm => by rcases List.mem_cons.mp hm with e | e; exact hk e; exact h1 e, h2⟩
theorem sy_mix {D : va_G} {cl : List vw_C} {A : Nat → Prop} {ws wc w1 : va_W} {H H1 : Heap} (hP : va_P D cl ws H) (hD : va_D A ws) (is : List Nat) (hc : is.map (fun i => ws[i]?) = wc.map some) (hl : w1.length = is.length)
    (hk : ∀ q : Nat, q < H.size → ¬ sy_A wc q → H1[q]? = H[q]?) (hP1 : va_P D cl w1 H1) : va_P D cl (sy_sm ws is w1) H1 := by
  intro k q h
  rcases sy_sm_at is w1 hl k q h with h1 | ⟨h1, h2⟩
  · obtain ⟨j, hj⟩ := List.getElem?_of_mem h1
    exact hP1 j q hj
  · refine (hP k q h2).kept (hk q.1 (hP k q h2).lt ?_)
    rintro ⟨j, e, hj⟩
    have h3 : (is.map (fun i => ws[i]?))[j]? = some (some (q.1, e)) := by rw [hc, List.getElem?_map, hj]; rfl
    rw [List.getElem?_map] at h3
    cases h4 : is[j]? with
    | none => rw [h4] at h3; cases h3
    | some i =>
      rw [h4] at h3
      have h5 : ws[i]? = some (q.1, e) := Option.some.inj h3
      have h6 := hD.1 k i q (q.1, e) h2 h5 rfl
      subst h6
      exact h1 (List.mem_of_getElem? h4)
end
section
theorem m_0 : Cond.selects y_DeviceSets_deviceAt.cls y_DeviceSets_deviceAt y_DeviceSets_deviceAt ∈ sy_T := sy_mem (i := 0) (by decide +kernel) rfl
theorem m_1 : Cond.selects y_DeviceSets_setAt.cls y_DeviceSets_setAt y_DeviceSets_setAt ∈ sy_T := sy_mem (i := 1) (by decide +kernel) rfl
theorem m_2 : Cond.selects y_DeviceSets_conflictsIn.cls y_DeviceSets_conflictsIn y_DeviceSets_conflictsIn ∈ sy_T := sy_mem (i := 2) (by decide +kernel) rfl
theorem m_3 : Cond.selects y_DeviceSets_liveIn.cls y_DeviceSets_liveIn y_DeviceSets_liveIn ∈ sy_T := sy_mem (i := 3) (by decide +kernel) rfl
theorem m_4 : Cond.selects y_Corrections_isFor.cls y_Corrections_isFor y_Corrections_isFor ∈ sy_T := sy_mem (i := 4) (by decide +kernel) rfl
theorem m_5 : Cond.selects y_DeviceSets_seenIn.cls y_DeviceSets_seenIn y_DeviceSets_seenIn ∈ sy_T := sy_mem (i := 5) (by decide +kernel) rfl
theorem m_6 : Cond.selects y_Tellings_isBefore.cls y_Tellings_isBefore y_Tellings_isBefore ∈ sy_T := sy_mem (i := 6) (by decide +kernel) rfl
theorem m_7 : Cond.selects y_Tellings_isOfLater.cls y_Tellings_isOfLater y_Tellings_isOfLater ∈ sy_T := sy_mem (i := 7) (by decide +kernel) rfl
theorem m_8 : Cond.selects y_Corrections_isStronger.cls y_Corrections_isStronger y_Corrections_isStronger ∈ sy_T := sy_mem (i := 8) (by decide +kernel) rfl
theorem m_9 : Cond.selects y_Tellings_ofGreatestLife.cls y_Tellings_ofGreatestLife y_Tellings_ofGreatestLife ∈ sy_T := sy_mem (i := 9) (by decide +kernel) rfl
theorem m_10 : Cond.selects y_Tellings_nextNumber.cls y_Tellings_nextNumber y_Tellings_nextNumber ∈ sy_T := sy_mem (i := 10) (by decide +kernel) rfl
theorem m_11 : Cond.selects y_Tellings_countBefore.cls y_Tellings_countBefore y_Tellings_countBefore ∈ sy_T := sy_mem (i := 11) (by decide +kernel) rfl
theorem m_12 : Cond.selects y_Clock_markBefore.cls y_Clock_markBefore y_Clock_markBefore ∈ sy_T := sy_mem (i := 12) (by decide +kernel) rfl
theorem m_13 : Cond.selects y_Clock_isBetween.cls y_Clock_isBetween y_Clock_isBetween ∈ sy_T := sy_mem (i := 13) (by decide +kernel) rfl
theorem m_14 : Cond.selects y_DeviceSets_joinChanges.cls y_DeviceSets_joinChanges y_DeviceSets_joinChanges ∈ sy_T := sy_mem (i := 14) (by decide +kernel) rfl
theorem m_15 : Cond.selects y_Model_isDevice.cls y_Model_isDevice y_Model_isDevice ∈ sy_T := sy_mem (i := 15) (by decide +kernel) rfl
theorem m_16 : Cond.selects y_Model_isSet.cls y_Model_isSet y_Model_isSet ∈ sy_T := sy_mem (i := 16) (by decide +kernel) rfl
theorem m_17 : Cond.selects y_Model_joinTo.cls y_Model_joinTo y_Model_joinTo ∈ sy_T := sy_mem (i := 17) (by decide +kernel) rfl
theorem m_18 : Cond.selects y_Model_bring.cls y_Model_bring y_Model_bring ∈ sy_T := sy_mem (i := 18) (by decide +kernel) rfl
theorem m_19 : Cond.selects y_Model_conflicts.cls y_Model_conflicts y_Model_conflicts ∈ sy_T := sy_mem (i := 19) (by decide +kernel) rfl
theorem m_20 : Cond.selects y_Model_isConflict.cls y_Model_isConflict y_Model_isConflict ∈ sy_T := sy_mem (i := 20) (by decide +kernel) rfl
theorem m_21 : Cond.selects y_Model_isHere.cls y_Model_isHere y_Model_isHere ∈ sy_T := sy_mem (i := 21) (by decide +kernel) rfl
theorem m_22 : Cond.selects y_Model_isChosen.cls y_Model_isChosen y_Model_isChosen ∈ sy_T := sy_mem (i := 22) (by decide +kernel) rfl
theorem m_23 : Cond.selects y_Model_isSameKey.cls y_Model_isSameKey y_Model_isSameKey ∈ sy_T := sy_mem (i := 23) (by decide +kernel) rfl
theorem m_24 : Cond.selects y_Model_isSeen.cls y_Model_isSeen y_Model_isSeen ∈ sy_T := sy_mem (i := 24) (by decide +kernel) rfl
theorem m_25 : Cond.selects y_Model_isBefore.cls y_Model_isBefore y_Model_isBefore ∈ sy_T := sy_mem (i := 25) (by decide +kernel) rfl
theorem m_26 : Cond.selects y_Model_isLater.cls y_Model_isLater y_Model_isLater ∈ sy_T := sy_mem (i := 26) (by decide +kernel) rfl
theorem m_27 : Cond.selects y_Model_nextNumber.cls y_Model_nextNumber y_Model_nextNumber ∈ sy_T := sy_mem (i := 27) (by decide +kernel) rfl
theorem m_28 : Cond.selects y_Model_isKeyBefore.cls y_Model_isKeyBefore y_Model_isKeyBefore ∈ sy_T := sy_mem (i := 28) (by decide +kernel) rfl
theorem m_30 : Cond.initialized R_DeviceSets ∈ sy_T := sy_mem (i := 30) (by decide +kernel) rfl
theorem m_31 : Cond.initialized R_Tellings ∈ sy_T := sy_mem (i := 31) (by decide +kernel) rfl
theorem m_32 : Cond.initialized R_Corrections ∈ sy_T := sy_mem (i := 32) (by decide +kernel) rfl
theorem m_33 : Cond.initialized R_Model ∈ sy_T := sy_mem (i := 33) (by decide +kernel) rfl
theorem m_34 : Cond.initialized R_Device ∈ sy_T := sy_mem (i := 34) (by decide +kernel) rfl
theorem m_35 : Cond.initialized R_Clock ∈ sy_T := sy_mem (i := 35) (by decide +kernel) rfl
theorem m_36 : Cond.initialized R_ToldSet ∈ sy_T := sy_mem (i := 36) (by decide +kernel) rfl
theorem m_37 : Cond.initialized R_Held ∈ sy_T := sy_mem (i := 37) (by decide +kernel) rfl
theorem m_38 : Cond.initialized "java/lang/Math" ∈ sy_T := sy_mem (i := 38) (by decide +kernel) rfl
theorem m_39 : Cond.initialized R_Long ∈ sy_T := sy_mem (i := 39) (by decide +kernel) rfl
theorem m_40 : Cond.classLink R_Law 7 R_DeviceSets ∈ sy_T := sy_mem (i := 40) (by decide +kernel) rfl
theorem m_41 : Cond.instantiable R_DeviceSets 7 ∈ sy_T := sy_mem (i := 41) (by decide +kernel) rfl
theorem m_42 : Cond.methodLink R_Law 9 y_DeviceSets_init ∈ sy_T := sy_mem (i := 42) (by decide +kernel) rfl
theorem m_43 : Cond.instanceMethod y_DeviceSets_init ∈ sy_T := sy_mem (i := 43) (by decide +kernel) rfl
set_option maxRecDepth 100000 in
theorem m_44 : Cond.code y_DeviceSets_init b_DeviceSets_init 1 none ∈ sy_T := sy_mem (i := 44) rfl rfl
theorem m_45 : Cond.methodLink R_DeviceSets 1 objectInit ∈ sy_T := sy_mem (i := 45) (by decide +kernel) rfl
theorem m_48 : Cond.classLink R_DeviceSets 9 R_Device ∈ sy_T := sy_mem (i := 48) (by decide +kernel) rfl
theorem m_50 : Cond.classLink R_DeviceSets 15 R_ToldSet ∈ sy_T := sy_mem (i := 50) (by decide +kernel) rfl
theorem m_52 : Cond.classLink R_DeviceSets 21 R_Tellings ∈ sy_T := sy_mem (i := 52) (by decide +kernel) rfl
theorem m_53 : Cond.instantiable R_Tellings 8 ∈ sy_T := sy_mem (i := 53) (by decide +kernel) rfl
theorem m_54 : Cond.methodLinkNest R_DeviceSets 23 y_Tellings_init R_DeviceSets ∈ sy_N := sy_memN (i := 54) (by decide +kernel) rfl
theorem m_55 : Cond.instanceMethod y_Tellings_init ∈ sy_T := sy_mem (i := 55) (by decide +kernel) rfl
set_option maxRecDepth 100000 in
theorem m_56 : Cond.code y_Tellings_init b_Tellings_init 1 none ∈ sy_T := sy_mem (i := 56) rfl rfl
theorem m_57 : Cond.methodLink R_Tellings 3 objectInit ∈ sy_T := sy_mem (i := 57) (by decide +kernel) rfl
theorem m_58 : Cond.fieldLink R_Tellings 9 R_Tellings "device" "[I" ∈ sy_T := sy_mem (i := 58) (by decide +kernel) rfl
theorem m_59 : Cond.fieldLink R_Tellings 15 R_Tellings "life" "[I" ∈ sy_T := sy_mem (i := 59) (by decide +kernel) rfl
theorem m_60 : Cond.fieldLink R_Tellings 18 R_Tellings "number" "[I" ∈ sy_T := sy_mem (i := 60) (by decide +kernel) rfl
theorem m_61 : Cond.fieldLink R_Tellings 21 R_Tellings "kind" "[I" ∈ sy_T := sy_mem (i := 61) (by decide +kernel) rfl
theorem m_62 : Cond.fieldLink R_Tellings 24 R_Tellings "second" "[J" ∈ sy_T := sy_mem (i := 62) (by decide +kernel) rfl
theorem m_63 : Cond.fieldLinkNest R_DeviceSets 130 R_Tellings "second" "[J" R_DeviceSets ∈ sy_N := sy_memN (i := 63) (by decide +kernel) rfl
theorem m_64 : Cond.fieldLink R_Tellings 28 R_Tellings "value" "[J" ∈ sy_T := sy_mem (i := 64) (by decide +kernel) rfl
theorem m_65 : Cond.fieldLinkNest R_DeviceSets 122 R_Tellings "value" "[J" R_DeviceSets ∈ sy_N := sy_memN (i := 65) (by decide +kernel) rfl
theorem m_66 : Cond.fieldLink R_Tellings 31 R_Tellings "on" "[J" ∈ sy_T := sy_mem (i := 66) (by decide +kernel) rfl
theorem m_67 : Cond.fieldLink R_Tellings 34 R_Tellings "count" "I" ∈ sy_T := sy_mem (i := 67) (by decide +kernel) rfl
theorem m_87 : Cond.classLink R_DeviceSets 28 R_Corrections ∈ sy_T := sy_mem (i := 87) (by decide +kernel) rfl
theorem m_88 : Cond.instantiable R_Corrections 6 ∈ sy_T := sy_mem (i := 88) (by decide +kernel) rfl
theorem m_89 : Cond.methodLinkNest R_DeviceSets 30 y_Corrections_init R_DeviceSets ∈ sy_N := sy_memN (i := 89) (by decide +kernel) rfl
theorem m_90 : Cond.instanceMethod y_Corrections_init ∈ sy_T := sy_mem (i := 90) (by decide +kernel) rfl
set_option maxRecDepth 100000 in
theorem m_91 : Cond.code y_Corrections_init b_Corrections_init 1 none ∈ sy_T := sy_mem (i := 91) rfl rfl
theorem m_92 : Cond.methodLink R_Corrections 3 objectInit ∈ sy_T := sy_mem (i := 92) (by decide +kernel) rfl
theorem m_93 : Cond.fieldLink R_Corrections 9 R_Corrections "device" "[I" ∈ sy_T := sy_mem (i := 93) (by decide +kernel) rfl
theorem m_94 : Cond.fieldLink R_Corrections 15 R_Corrections "kind" "[I" ∈ sy_T := sy_mem (i := 94) (by decide +kernel) rfl
theorem m_95 : Cond.fieldLink R_Corrections 18 R_Corrections "second" "[J" ∈ sy_T := sy_mem (i := 95) (by decide +kernel) rfl
theorem m_96 : Cond.fieldLink R_Corrections 22 R_Corrections "value" "[J" ∈ sy_T := sy_mem (i := 96) (by decide +kernel) rfl
theorem m_97 : Cond.fieldLinkNest R_DeviceSets 137 R_Corrections "value" "[J" R_DeviceSets ∈ sy_N := sy_memN (i := 97) (by decide +kernel) rfl
theorem m_98 : Cond.fieldLink R_Corrections 25 R_Corrections "told" "[J" ∈ sy_T := sy_mem (i := 98) (by decide +kernel) rfl
theorem m_99 : Cond.fieldLink R_Corrections 28 R_Corrections "count" "I" ∈ sy_T := sy_mem (i := 99) (by decide +kernel) rfl
theorem m_113 : Cond.fieldLink R_DeviceSets 11 R_DeviceSets "devices" "[LDeviceSets$Device;" ∈ sy_T := sy_mem (i := 113) (by decide +kernel) rfl
theorem m_114 : Cond.fieldLink R_DeviceSets 17 R_DeviceSets "sets" "[LDeviceSets$ToldSet;" ∈ sy_T := sy_mem (i := 114) (by decide +kernel) rfl
theorem m_115 : Cond.fieldLink R_DeviceSets 24 R_DeviceSets "tellings" "LDeviceSets$Tellings;" ∈ sy_T := sy_mem (i := 115) (by decide +kernel) rfl
theorem m_116 : Cond.fieldLink R_DeviceSets 31 R_DeviceSets "corrections" "LDeviceSets$Corrections;" ∈ sy_T := sy_mem (i := 116) (by decide +kernel) rfl
theorem m_117 : Cond.fieldLink R_DeviceSets 35 R_DeviceSets "deviceCount" "I" ∈ sy_T := sy_mem (i := 117) (by decide +kernel) rfl
theorem m_118 : Cond.fieldLink R_DeviceSets 70 R_DeviceSets "setCount" "I" ∈ sy_T := sy_mem (i := 118) (by decide +kernel) rfl
theorem m_119 : Cond.fieldLink R_DeviceSets 175 R_DeviceSets "batchCount" "I" ∈ sy_T := sy_mem (i := 119) (by decide +kernel) rfl
theorem m_135 : Cond.methodLink R_Law 13 y_DeviceSets_device ∈ sy_T := sy_mem (i := 135) (by decide +kernel) rfl
theorem m_136 : Cond.instanceMethod y_DeviceSets_device ∈ sy_T := sy_mem (i := 136) (by decide +kernel) rfl
theorem m_137 : Cond.selects y_DeviceSets_device.cls y_DeviceSets_device y_DeviceSets_device ∈ sy_T := sy_mem (i := 137) (by decide +kernel) rfl
set_option maxRecDepth 100000 in
theorem m_138 : Cond.code y_DeviceSets_device b_DeviceSets_device 1 (some .int) ∈ sy_T := sy_mem (i := 138) rfl rfl
theorem m_139 : Cond.instantiable R_Device 3 ∈ sy_T := sy_mem (i := 139) (by decide +kernel) rfl
theorem m_140 : Cond.methodLinkNest R_DeviceSets 39 y_Device_init R_DeviceSets ∈ sy_N := sy_memN (i := 140) (by decide +kernel) rfl
theorem m_141 : Cond.instanceMethod y_Device_init ∈ sy_T := sy_mem (i := 141) (by decide +kernel) rfl
set_option maxRecDepth 100000 in
theorem m_142 : Cond.code y_Device_init b_Device_init 1 none ∈ sy_T := sy_mem (i := 142) rfl rfl
theorem m_143 : Cond.methodLink R_Device 1 objectInit ∈ sy_T := sy_mem (i := 143) (by decide +kernel) rfl
theorem m_144 : Cond.classLink R_Device 7 R_Clock ∈ sy_T := sy_mem (i := 144) (by decide +kernel) rfl
theorem m_145 : Cond.instantiable R_Clock 3 ∈ sy_T := sy_mem (i := 145) (by decide +kernel) rfl
theorem m_146 : Cond.methodLinkNest R_Device 9 y_Clock_init R_DeviceSets ∈ sy_N := sy_memN (i := 146) (by decide +kernel) rfl
theorem m_147 : Cond.instanceMethod y_Clock_init ∈ sy_T := sy_mem (i := 147) (by decide +kernel) rfl
set_option maxRecDepth 100000 in
theorem m_148 : Cond.code y_Clock_init b_Clock_init 1 none ∈ sy_T := sy_mem (i := 148) rfl rfl
theorem m_149 : Cond.methodLink R_Clock 3 objectInit ∈ sy_T := sy_mem (i := 149) (by decide +kernel) rfl
theorem m_150 : Cond.fieldLink R_Clock 9 R_Clock "seconds" "[J" ∈ sy_T := sy_mem (i := 150) (by decide +kernel) rfl
theorem m_151 : Cond.fieldLink R_Clock 15 R_Clock "trueSeconds" "[J" ∈ sy_T := sy_mem (i := 151) (by decide +kernel) rfl
theorem m_152 : Cond.fieldLink R_Clock 18 R_Clock "count" "I" ∈ sy_T := sy_mem (i := 152) (by decide +kernel) rfl
theorem m_160 : Cond.fieldLink R_Device 10 R_Device "clock" "LDeviceSets$Clock;" ∈ sy_T := sy_mem (i := 160) (by decide +kernel) rfl
theorem m_161 : Cond.fieldLinkNest R_DeviceSets 198 R_Device "clock" "LDeviceSets$Clock;" R_DeviceSets ∈ sy_N := sy_memN (i := 161) (by decide +kernel) rfl
theorem m_162 : Cond.fieldLinkNest R_DeviceSets 59 R_Device "life" "I" R_DeviceSets ∈ sy_N := sy_memN (i := 162) (by decide +kernel) rfl
theorem m_163 : Cond.fieldLinkNest R_DeviceSets 48 R_Device "firstNumber" "J" R_DeviceSets ∈ sy_N := sy_memN (i := 163) (by decide +kernel) rfl
theorem m_171 : Cond.methodLink R_Law 20 y_DeviceSets_tell ∈ sy_T := sy_mem (i := 171) (by decide +kernel) rfl
theorem m_172 : Cond.instanceMethod y_DeviceSets_tell ∈ sy_T := sy_mem (i := 172) (by decide +kernel) rfl
theorem m_173 : Cond.selects y_DeviceSets_tell.cls y_DeviceSets_tell y_DeviceSets_tell ∈ sy_T := sy_mem (i := 173) (by decide +kernel) rfl
set_option maxRecDepth 100000 in
theorem m_174 : Cond.code y_DeviceSets_tell b_DeviceSets_tell 12 (some .int) ∈ sy_T := sy_mem (i := 174) rfl rfl
theorem m_175 : Cond.methodLink R_DeviceSets 40 y_DeviceSets_deviceAt ∈ sy_T := sy_mem (i := 175) (by decide +kernel) rfl
theorem m_177 : Cond.instanceMethod y_DeviceSets_deviceAt ∈ sy_T := sy_mem (i := 177) (by decide +kernel) rfl
set_option maxRecDepth 100000 in
theorem m_178 : Cond.code y_DeviceSets_deviceAt b_DeviceSets_deviceAt 2 (some (.object "DeviceSets$Device")) ∈ sy_T := sy_mem (i := 178) rfl rfl
theorem m_179 : Cond.methodLink R_DeviceSets 44 y_DeviceSets_isNumber ∈ sy_T := sy_mem (i := 179) (by decide +kernel) rfl
theorem m_180 : Cond.static y_DeviceSets_isNumber ∈ sy_T := sy_mem (i := 180) (by decide +kernel) rfl
set_option maxRecDepth 100000 in
theorem m_181 : Cond.code y_DeviceSets_isNumber b_DeviceSets_isNumber 2 (some .boolean) ∈ sy_T := sy_mem (i := 181) rfl rfl
theorem m_182 : Cond.constantLong R_DeviceSets 237 (1000000) ∈ sy_T := sy_mem (i := 182) (by decide +kernel) rfl
theorem m_183 : Cond.methodLink R_DeviceSets 52 y_DeviceSets_isKind ∈ sy_T := sy_mem (i := 183) (by decide +kernel) rfl
theorem m_184 : Cond.static y_DeviceSets_isKind ∈ sy_T := sy_mem (i := 184) (by decide +kernel) rfl
set_option maxRecDepth 100000 in
theorem m_185 : Cond.code y_DeviceSets_isKind b_DeviceSets_isKind 1 (some .boolean) ∈ sy_T := sy_mem (i := 185) rfl rfl
theorem m_186 : Cond.methodLink R_DeviceSets 56 y_DeviceSets_isValue ∈ sy_T := sy_mem (i := 186) (by decide +kernel) rfl
theorem m_187 : Cond.static y_DeviceSets_isValue ∈ sy_T := sy_mem (i := 187) (by decide +kernel) rfl
set_option maxRecDepth 100000 in
theorem m_188 : Cond.code y_DeviceSets_isValue b_DeviceSets_isValue 2 (some .boolean) ∈ sy_T := sy_mem (i := 188) rfl rfl
theorem m_189 : Cond.constantLong R_DeviceSets 239 (-1000000000) ∈ sy_T := sy_mem (i := 189) (by decide +kernel) rfl
theorem m_190 : Cond.constantLong R_DeviceSets 241 (1000000000) ∈ sy_T := sy_mem (i := 190) (by decide +kernel) rfl
theorem m_191 : Cond.methodLink R_DeviceSets 62 y_Tellings_has ∈ sy_T := sy_mem (i := 191) (by decide +kernel) rfl
theorem m_192 : Cond.instanceMethod y_Tellings_has ∈ sy_T := sy_mem (i := 192) (by decide +kernel) rfl
theorem m_193 : Cond.selects y_Tellings_has.cls y_Tellings_has y_Tellings_has ∈ sy_T := sy_mem (i := 193) (by decide +kernel) rfl
set_option maxRecDepth 100000 in
theorem m_194 : Cond.code y_Tellings_has b_Tellings_has 10 (some .boolean) ∈ sy_T := sy_mem (i := 194) rfl rfl
theorem m_195 : Cond.methodLink R_DeviceSets 66 y_Tellings_add ∈ sy_T := sy_mem (i := 195) (by decide +kernel) rfl
theorem m_196 : Cond.instanceMethod y_Tellings_add ∈ sy_T := sy_mem (i := 196) (by decide +kernel) rfl
theorem m_197 : Cond.selects y_Tellings_add.cls y_Tellings_add y_Tellings_add ∈ sy_T := sy_mem (i := 197) (by decide +kernel) rfl
set_option maxRecDepth 100000 in
theorem m_198 : Cond.code y_Tellings_add b_Tellings_add 11 (some .boolean) ∈ sy_T := sy_mem (i := 198) rfl rfl
theorem m_199 : Cond.methodLink R_Law 25 y_DeviceSets_reset ∈ sy_T := sy_mem (i := 199) (by decide +kernel) rfl
theorem m_200 : Cond.instanceMethod y_DeviceSets_reset ∈ sy_T := sy_mem (i := 200) (by decide +kernel) rfl
theorem m_201 : Cond.selects y_DeviceSets_reset.cls y_DeviceSets_reset y_DeviceSets_reset ∈ sy_T := sy_mem (i := 201) (by decide +kernel) rfl
set_option maxRecDepth 100000 in
theorem m_202 : Cond.code y_DeviceSets_reset b_DeviceSets_reset 5 (some .boolean) ∈ sy_T := sy_mem (i := 202) rfl rfl
theorem m_203 : Cond.methodLink R_Law 30 y_DeviceSets_life ∈ sy_T := sy_mem (i := 203) (by decide +kernel) rfl
theorem m_204 : Cond.instanceMethod y_DeviceSets_life ∈ sy_T := sy_mem (i := 204) (by decide +kernel) rfl
theorem m_205 : Cond.selects y_DeviceSets_life.cls y_DeviceSets_life y_DeviceSets_life ∈ sy_T := sy_mem (i := 205) (by decide +kernel) rfl
set_option maxRecDepth 100000 in
theorem m_206 : Cond.code y_DeviceSets_life b_DeviceSets_life 3 (some .int) ∈ sy_T := sy_mem (i := 206) rfl rfl
theorem m_207 : Cond.methodLink R_Law 35 y_DeviceSets_set ∈ sy_T := sy_mem (i := 207) (by decide +kernel) rfl
theorem m_208 : Cond.instanceMethod y_DeviceSets_set ∈ sy_T := sy_mem (i := 208) (by decide +kernel) rfl
theorem m_209 : Cond.selects y_DeviceSets_set.cls y_DeviceSets_set y_DeviceSets_set ∈ sy_T := sy_mem (i := 209) (by decide +kernel) rfl
set_option maxRecDepth 100000 in
theorem m_210 : Cond.code y_DeviceSets_set b_DeviceSets_set 2 (some .int) ∈ sy_T := sy_mem (i := 210) rfl rfl
theorem m_211 : Cond.instantiable R_ToldSet 3 ∈ sy_T := sy_mem (i := 211) (by decide +kernel) rfl
theorem m_212 : Cond.methodLink R_DeviceSets 73 y_Tellings_ofDevice ∈ sy_T := sy_mem (i := 212) (by decide +kernel) rfl
theorem m_213 : Cond.instanceMethod y_Tellings_ofDevice ∈ sy_T := sy_mem (i := 213) (by decide +kernel) rfl
theorem m_214 : Cond.selects y_Tellings_ofDevice.cls y_Tellings_ofDevice y_Tellings_ofDevice ∈ sy_T := sy_mem (i := 214) (by decide +kernel) rfl
set_option maxRecDepth 100000 in
theorem m_215 : Cond.code y_Tellings_ofDevice b_Tellings_ofDevice 5 (some .long) ∈ sy_T := sy_mem (i := 215) rfl rfl
theorem m_216 : Cond.methodLinkNest R_Tellings 38 y_DeviceSets_bit R_DeviceSets ∈ sy_N := sy_memN (i := 216) (by decide +kernel) rfl
theorem m_217 : Cond.static y_DeviceSets_bit ∈ sy_T := sy_mem (i := 217) (by decide +kernel) rfl
set_option maxRecDepth 100000 in
theorem m_218 : Cond.code y_DeviceSets_bit b_DeviceSets_bit 1 (some .long) ∈ sy_T := sy_mem (i := 218) rfl rfl
theorem m_219 : Cond.methodLink R_DeviceSets 77 y_ToldSet_init ∈ sy_T := sy_mem (i := 219) (by decide +kernel) rfl
theorem m_220 : Cond.instanceMethod y_ToldSet_init ∈ sy_T := sy_mem (i := 220) (by decide +kernel) rfl
set_option maxRecDepth 100000 in
theorem m_221 : Cond.code y_ToldSet_init b_ToldSet_init 3 none ∈ sy_T := sy_mem (i := 221) rfl rfl
theorem m_222 : Cond.methodLink R_ToldSet 3 objectInit ∈ sy_T := sy_mem (i := 222) (by decide +kernel) rfl
theorem m_223 : Cond.classLink R_ToldSet 9 R_Held ∈ sy_T := sy_mem (i := 223) (by decide +kernel) rfl
theorem m_224 : Cond.instantiable R_Held 4 ∈ sy_T := sy_mem (i := 224) (by decide +kernel) rfl
theorem m_225 : Cond.methodLinkNest R_ToldSet 11 y_Held_init R_DeviceSets ∈ sy_N := sy_memN (i := 225) (by decide +kernel) rfl
theorem m_226 : Cond.instanceMethod y_Held_init ∈ sy_T := sy_mem (i := 226) (by decide +kernel) rfl
set_option maxRecDepth 100000 in
theorem m_227 : Cond.code y_Held_init b_Held_init 1 none ∈ sy_T := sy_mem (i := 227) rfl rfl
theorem m_228 : Cond.methodLink R_Held 1 objectInit ∈ sy_T := sy_mem (i := 228) (by decide +kernel) rfl
theorem m_229 : Cond.fieldLinkNest R_ToldSet 25 R_Held "tellings" "J" R_DeviceSets ∈ sy_N := sy_memN (i := 229) (by decide +kernel) rfl
theorem m_230 : Cond.fieldLink R_Held 7 R_Held "tellings" "J" ∈ sy_T := sy_mem (i := 230) (by decide +kernel) rfl
theorem m_231 : Cond.fieldLinkNest R_DeviceSets 138 R_Held "tellings" "J" R_DeviceSets ∈ sy_N := sy_memN (i := 231) (by decide +kernel) rfl
theorem m_232 : Cond.fieldLink R_Held 15 R_Held "corrections" "J" ∈ sy_T := sy_mem (i := 232) (by decide +kernel) rfl
theorem m_233 : Cond.fieldLinkNest R_DeviceSets 106 R_Held "corrections" "J" R_DeviceSets ∈ sy_N := sy_memN (i := 233) (by decide +kernel) rfl
theorem m_234 : Cond.fieldLink R_Held 18 R_Held "choices" "J" ∈ sy_T := sy_mem (i := 234) (by decide +kernel) rfl
theorem m_235 : Cond.fieldLinkNest R_DeviceSets 165 R_Held "choices" "J" R_DeviceSets ∈ sy_N := sy_memN (i := 235) (by decide +kernel) rfl
theorem m_236 : Cond.fieldLink R_Held 21 R_Held "bound" "J" ∈ sy_T := sy_mem (i := 236) (by decide +kernel) rfl
theorem m_237 : Cond.fieldLinkNest R_DeviceSets 183 R_Held "bound" "J" R_DeviceSets ∈ sy_N := sy_memN (i := 237) (by decide +kernel) rfl
theorem m_247 : Cond.fieldLink R_ToldSet 12 R_ToldSet "held" "LDeviceSets$Held;" ∈ sy_T := sy_mem (i := 247) (by decide +kernel) rfl
theorem m_248 : Cond.fieldLinkNest R_DeviceSets 88 R_ToldSet "held" "LDeviceSets$Held;" R_DeviceSets ∈ sy_N := sy_memN (i := 248) (by decide +kernel) rfl
theorem m_249 : Cond.fieldLink R_ToldSet 18 R_ToldSet "waiting" "LDeviceSets$Held;" ∈ sy_T := sy_mem (i := 249) (by decide +kernel) rfl
theorem m_250 : Cond.fieldLink R_ToldSet 21 R_ToldSet "openBatch" "I" ∈ sy_T := sy_mem (i := 250) (by decide +kernel) rfl
theorem m_251 : Cond.fieldLinkNest R_DeviceSets 172 R_ToldSet "openBatch" "I" R_DeviceSets ∈ sy_N := sy_memN (i := 251) (by decide +kernel) rfl
theorem m_259 : Cond.methodLink R_Law 39 y_DeviceSets_join ∈ sy_T := sy_mem (i := 259) (by decide +kernel) rfl
theorem m_260 : Cond.instanceMethod y_DeviceSets_join ∈ sy_T := sy_mem (i := 260) (by decide +kernel) rfl
theorem m_261 : Cond.selects y_DeviceSets_join.cls y_DeviceSets_join y_DeviceSets_join ∈ sy_T := sy_mem (i := 261) (by decide +kernel) rfl
set_option maxRecDepth 100000 in
theorem m_262 : Cond.code y_DeviceSets_join b_DeviceSets_join 5 (some .int) ∈ sy_T := sy_mem (i := 262) rfl rfl
theorem m_263 : Cond.methodLink R_DeviceSets 80 y_DeviceSets_setAt ∈ sy_T := sy_mem (i := 263) (by decide +kernel) rfl
theorem m_265 : Cond.instanceMethod y_DeviceSets_setAt ∈ sy_T := sy_mem (i := 265) (by decide +kernel) rfl
set_option maxRecDepth 100000 in
theorem m_266 : Cond.code y_DeviceSets_setAt b_DeviceSets_setAt 2 (some (.object "DeviceSets$ToldSet")) ∈ sy_T := sy_mem (i := 266) rfl rfl
theorem m_267 : Cond.methodLink R_DeviceSets 84 y_ToldSet_bring ∈ sy_T := sy_mem (i := 267) (by decide +kernel) rfl
theorem m_268 : Cond.instanceMethod y_ToldSet_bring ∈ sy_T := sy_mem (i := 268) (by decide +kernel) rfl
theorem m_269 : Cond.selects y_ToldSet_bring.cls y_ToldSet_bring y_ToldSet_bring ∈ sy_T := sy_mem (i := 269) (by decide +kernel) rfl
set_option maxRecDepth 100000 in
theorem m_270 : Cond.code y_ToldSet_bring b_ToldSet_bring 2 (some .boolean) ∈ sy_T := sy_mem (i := 270) rfl rfl
theorem m_271 : Cond.methodLink R_ToldSet 29 y_Held_takeIn ∈ sy_T := sy_mem (i := 271) (by decide +kernel) rfl
theorem m_272 : Cond.instanceMethod y_Held_takeIn ∈ sy_T := sy_mem (i := 272) (by decide +kernel) rfl
theorem m_273 : Cond.selects y_Held_takeIn.cls y_Held_takeIn y_Held_takeIn ∈ sy_T := sy_mem (i := 273) (by decide +kernel) rfl
set_option maxRecDepth 100000 in
theorem m_274 : Cond.code y_Held_takeIn b_Held_takeIn 3 (some .boolean) ∈ sy_T := sy_mem (i := 274) rfl rfl
theorem m_275 : Cond.constantLong R_Held 13 (-1) ∈ sy_T := sy_mem (i := 275) (by decide +kernel) rfl
theorem m_276 : Cond.methodLink R_Held 24 Lib.MathLoose.max_long.x ∈ sy_T := sy_mem (i := 276) (by decide +kernel) rfl
theorem m_277 : Cond.static Lib.MathLoose.max_long.x ∈ sy_T := sy_mem (i := 277) (by decide +kernel) rfl
set_option maxRecDepth 100000 in
theorem m_278 : Cond.code Lib.MathLoose.max_long.x Lib.MathLoose.max_long.code 4 (some .long) ∈ sy_T := sy_mem (i := 278) rfl rfl
theorem m_279 : Cond.methodLink R_DeviceSets 92 y_DeviceSets_conflictsIn ∈ sy_T := sy_mem (i := 279) (by decide +kernel) rfl
theorem m_281 : Cond.instanceMethod y_DeviceSets_conflictsIn ∈ sy_T := sy_mem (i := 281) (by decide +kernel) rfl
set_option maxRecDepth 100000 in
theorem m_282 : Cond.code y_DeviceSets_conflictsIn b_DeviceSets_conflictsIn 2 (some .long) ∈ sy_T := sy_mem (i := 282) rfl rfl
theorem m_283 : Cond.methodLink R_DeviceSets 158 y_DeviceSets_liveIn ∈ sy_T := sy_mem (i := 283) (by decide +kernel) rfl
theorem m_285 : Cond.instanceMethod y_DeviceSets_liveIn ∈ sy_T := sy_mem (i := 285) (by decide +kernel) rfl
set_option maxRecDepth 100000 in
theorem m_286 : Cond.code y_DeviceSets_liveIn b_DeviceSets_liveIn 2 (some .long) ∈ sy_T := sy_mem (i := 286) rfl rfl
theorem m_287 : Cond.methodLink R_DeviceSets 228 y_Tellings_notBelow ∈ sy_T := sy_mem (i := 287) (by decide +kernel) rfl
theorem m_288 : Cond.instanceMethod y_Tellings_notBelow ∈ sy_T := sy_mem (i := 288) (by decide +kernel) rfl
theorem m_289 : Cond.selects y_Tellings_notBelow.cls y_Tellings_notBelow y_Tellings_notBelow ∈ sy_T := sy_mem (i := 289) (by decide +kernel) rfl
set_option maxRecDepth 100000 in
theorem m_290 : Cond.code y_Tellings_notBelow b_Tellings_notBelow 8 (some .long) ∈ sy_T := sy_mem (i := 290) rfl rfl
theorem m_291 : Cond.methodLinkNest R_Tellings 42 y_DeviceSets_isIn R_DeviceSets ∈ sy_N := sy_memN (i := 291) (by decide +kernel) rfl
theorem m_292 : Cond.static y_DeviceSets_isIn ∈ sy_T := sy_mem (i := 292) (by decide +kernel) rfl
set_option maxRecDepth 100000 in
theorem m_293 : Cond.code y_DeviceSets_isIn b_DeviceSets_isIn 3 (some .boolean) ∈ sy_T := sy_mem (i := 293) rfl rfl
theorem m_294 : Cond.methodLink R_DeviceSets 110 y_DeviceSets_bit ∈ sy_T := sy_mem (i := 294) (by decide +kernel) rfl
theorem m_295 : Cond.methodLink R_DeviceSets 231 y_Tellings_unsettled ∈ sy_T := sy_mem (i := 295) (by decide +kernel) rfl
theorem m_296 : Cond.instanceMethod y_Tellings_unsettled ∈ sy_T := sy_mem (i := 296) (by decide +kernel) rfl
theorem m_297 : Cond.selects y_Tellings_unsettled.cls y_Tellings_unsettled y_Tellings_unsettled ∈ sy_T := sy_mem (i := 297) (by decide +kernel) rfl
set_option maxRecDepth 100000 in
theorem m_298 : Cond.code y_Tellings_unsettled b_Tellings_unsettled 12 (some .long) ∈ sy_T := sy_mem (i := 298) rfl rfl
theorem m_299 : Cond.methodLink R_Tellings 46 y_Tellings_ofKeyOf ∈ sy_T := sy_mem (i := 299) (by decide +kernel) rfl
theorem m_300 : Cond.instanceMethod y_Tellings_ofKeyOf ∈ sy_T := sy_mem (i := 300) (by decide +kernel) rfl
theorem m_301 : Cond.selects y_Tellings_ofKeyOf.cls y_Tellings_ofKeyOf y_Tellings_ofKeyOf ∈ sy_T := sy_mem (i := 301) (by decide +kernel) rfl
set_option maxRecDepth 100000 in
theorem m_302 : Cond.code y_Tellings_ofKeyOf b_Tellings_ofKeyOf 7 (some .long) ∈ sy_T := sy_mem (i := 302) rfl rfl
theorem m_303 : Cond.constantLong R_Tellings 50 (-1) ∈ sy_T := sy_mem (i := 303) (by decide +kernel) rfl
theorem m_304 : Cond.methodLink R_DeviceSets 96 y_Long_bitCount ∈ sy_T := sy_mem (i := 304) (by decide +kernel) rfl
theorem m_305 : Cond.static y_Long_bitCount ∈ sy_T := sy_mem (i := 305) (by decide +kernel) rfl
set_option maxRecDepth 100000 in
theorem m_306 : Cond.code y_Long_bitCount b_Long_bitCount 2 (some .int) ∈ sy_T := sy_mem (i := 306) rfl rfl
theorem m_310 : Cond.methodLink R_Law 44 y_DeviceSets_correct ∈ sy_T := sy_mem (i := 310) (by decide +kernel) rfl
theorem m_311 : Cond.instanceMethod y_DeviceSets_correct ∈ sy_T := sy_mem (i := 311) (by decide +kernel) rfl
theorem m_312 : Cond.selects y_DeviceSets_correct.cls y_DeviceSets_correct y_DeviceSets_correct ∈ sy_T := sy_mem (i := 312) (by decide +kernel) rfl
set_option maxRecDepth 100000 in
theorem m_313 : Cond.code y_DeviceSets_correct b_DeviceSets_correct 12 (some .boolean) ∈ sy_T := sy_mem (i := 313) rfl rfl
theorem m_314 : Cond.methodLink R_DeviceSets 102 y_Corrections_findOrAdd ∈ sy_T := sy_mem (i := 314) (by decide +kernel) rfl
theorem m_315 : Cond.instanceMethod y_Corrections_findOrAdd ∈ sy_T := sy_mem (i := 315) (by decide +kernel) rfl
theorem m_316 : Cond.selects y_Corrections_findOrAdd.cls y_Corrections_findOrAdd y_Corrections_findOrAdd ∈ sy_T := sy_mem (i := 316) (by decide +kernel) rfl
set_option maxRecDepth 100000 in
theorem m_317 : Cond.code y_Corrections_findOrAdd b_Corrections_findOrAdd 10 (some .int) ∈ sy_T := sy_mem (i := 317) rfl rfl
theorem m_318 : Cond.methodLink R_Corrections 32 y_Corrections_isFor ∈ sy_T := sy_mem (i := 318) (by decide +kernel) rfl
theorem m_320 : Cond.instanceMethod y_Corrections_isFor ∈ sy_T := sy_mem (i := 320) (by decide +kernel) rfl
set_option maxRecDepth 100000 in
theorem m_321 : Cond.code y_Corrections_isFor b_Corrections_isFor 6 (some .boolean) ∈ sy_T := sy_mem (i := 321) rfl rfl
theorem m_322 : Cond.methodLink R_Law 49 y_DeviceSets_last ∈ sy_T := sy_mem (i := 322) (by decide +kernel) rfl
theorem m_323 : Cond.instanceMethod y_DeviceSets_last ∈ sy_T := sy_mem (i := 323) (by decide +kernel) rfl
theorem m_324 : Cond.selects y_DeviceSets_last.cls y_DeviceSets_last y_DeviceSets_last ∈ sy_T := sy_mem (i := 324) (by decide +kernel) rfl
set_option maxRecDepth 100000 in
theorem m_325 : Cond.code y_DeviceSets_last b_DeviceSets_last 6 (some .long) ∈ sy_T := sy_mem (i := 325) rfl rfl
theorem m_326 : Cond.constantLong R_DeviceSets 113 (-9223372036854775808) ∈ sy_T := sy_mem (i := 326) (by decide +kernel) rfl
theorem m_327 : Cond.methodLink R_DeviceSets 115 y_DeviceSets_seenIn ∈ sy_T := sy_mem (i := 327) (by decide +kernel) rfl
theorem m_329 : Cond.instanceMethod y_DeviceSets_seenIn ∈ sy_T := sy_mem (i := 329) (by decide +kernel) rfl
set_option maxRecDepth 100000 in
theorem m_330 : Cond.code y_DeviceSets_seenIn b_DeviceSets_seenIn 4 (some .long) ∈ sy_T := sy_mem (i := 330) rfl rfl
theorem m_331 : Cond.methodLink R_DeviceSets 151 y_Tellings_ofKind ∈ sy_T := sy_mem (i := 331) (by decide +kernel) rfl
theorem m_332 : Cond.instanceMethod y_Tellings_ofKind ∈ sy_T := sy_mem (i := 332) (by decide +kernel) rfl
theorem m_333 : Cond.selects y_Tellings_ofKind.cls y_Tellings_ofKind y_Tellings_ofKind ∈ sy_T := sy_mem (i := 333) (by decide +kernel) rfl
set_option maxRecDepth 100000 in
theorem m_334 : Cond.code y_Tellings_ofKind b_Tellings_ofKind 6 (some .long) ∈ sy_T := sy_mem (i := 334) rfl rfl
theorem m_335 : Cond.methodLink R_DeviceSets 234 y_Tellings_holding ∈ sy_T := sy_mem (i := 335) (by decide +kernel) rfl
theorem m_336 : Cond.instanceMethod y_Tellings_holding ∈ sy_T := sy_mem (i := 336) (by decide +kernel) rfl
theorem m_337 : Cond.selects y_Tellings_holding.cls y_Tellings_holding y_Tellings_holding ∈ sy_T := sy_mem (i := 337) (by decide +kernel) rfl
set_option maxRecDepth 100000 in
theorem m_338 : Cond.code y_Tellings_holding b_Tellings_holding 10 (some .long) ∈ sy_T := sy_mem (i := 338) rfl rfl
theorem m_339 : Cond.methodLink R_Tellings 52 y_Tellings_first ∈ sy_T := sy_mem (i := 339) (by decide +kernel) rfl
theorem m_340 : Cond.instanceMethod y_Tellings_first ∈ sy_T := sy_mem (i := 340) (by decide +kernel) rfl
theorem m_341 : Cond.selects y_Tellings_first.cls y_Tellings_first y_Tellings_first ∈ sy_T := sy_mem (i := 341) (by decide +kernel) rfl
set_option maxRecDepth 100000 in
theorem m_342 : Cond.code y_Tellings_first b_Tellings_first 5 (some .int) ∈ sy_T := sy_mem (i := 342) rfl rfl
theorem m_343 : Cond.methodLink R_Tellings 56 y_Tellings_isBefore ∈ sy_T := sy_mem (i := 343) (by decide +kernel) rfl
theorem m_345 : Cond.instanceMethod y_Tellings_isBefore ∈ sy_T := sy_mem (i := 345) (by decide +kernel) rfl
set_option maxRecDepth 100000 in
theorem m_346 : Cond.code y_Tellings_isBefore b_Tellings_isBefore 3 (some .boolean) ∈ sy_T := sy_mem (i := 346) rfl rfl
theorem m_347 : Cond.methodLink R_DeviceSets 119 y_Tellings_latestNumbered ∈ sy_T := sy_mem (i := 347) (by decide +kernel) rfl
theorem m_348 : Cond.instanceMethod y_Tellings_latestNumbered ∈ sy_T := sy_mem (i := 348) (by decide +kernel) rfl
theorem m_349 : Cond.selects y_Tellings_latestNumbered.cls y_Tellings_latestNumbered y_Tellings_latestNumbered ∈ sy_T := sy_mem (i := 349) (by decide +kernel) rfl
set_option maxRecDepth 100000 in
theorem m_350 : Cond.code y_Tellings_latestNumbered b_Tellings_latestNumbered 5 (some .int) ∈ sy_T := sy_mem (i := 350) rfl rfl
theorem m_351 : Cond.methodLink R_Law 54 y_DeviceSets_known ∈ sy_T := sy_mem (i := 351) (by decide +kernel) rfl
theorem m_352 : Cond.instanceMethod y_DeviceSets_known ∈ sy_T := sy_mem (i := 352) (by decide +kernel) rfl
theorem m_353 : Cond.selects y_DeviceSets_known.cls y_DeviceSets_known y_DeviceSets_known ∈ sy_T := sy_mem (i := 353) (by decide +kernel) rfl
set_option maxRecDepth 100000 in
theorem m_354 : Cond.code y_DeviceSets_known b_DeviceSets_known 11 (some .long) ∈ sy_T := sy_mem (i := 354) rfl rfl
theorem m_355 : Cond.methodLink R_DeviceSets 126 y_Tellings_latestKnown ∈ sy_T := sy_mem (i := 355) (by decide +kernel) rfl
theorem m_356 : Cond.instanceMethod y_Tellings_latestKnown ∈ sy_T := sy_mem (i := 356) (by decide +kernel) rfl
theorem m_357 : Cond.selects y_Tellings_latestKnown.cls y_Tellings_latestKnown y_Tellings_latestKnown ∈ sy_T := sy_mem (i := 357) (by decide +kernel) rfl
set_option maxRecDepth 100000 in
theorem m_358 : Cond.code y_Tellings_latestKnown b_Tellings_latestKnown 9 (some .int) ∈ sy_T := sy_mem (i := 358) rfl rfl
theorem m_359 : Cond.methodLink R_Tellings 64 y_Tellings_isOfLater ∈ sy_T := sy_mem (i := 359) (by decide +kernel) rfl
theorem m_361 : Cond.instanceMethod y_Tellings_isOfLater ∈ sy_T := sy_mem (i := 361) (by decide +kernel) rfl
set_option maxRecDepth 100000 in
theorem m_362 : Cond.code y_Tellings_isOfLater b_Tellings_isOfLater 3 (some .boolean) ∈ sy_T := sy_mem (i := 362) rfl rfl
theorem m_363 : Cond.methodLink R_DeviceSets 133 y_Corrections_latest ∈ sy_T := sy_mem (i := 363) (by decide +kernel) rfl
theorem m_364 : Cond.instanceMethod y_Corrections_latest ∈ sy_T := sy_mem (i := 364) (by decide +kernel) rfl
theorem m_365 : Cond.selects y_Corrections_latest.cls y_Corrections_latest y_Corrections_latest ∈ sy_T := sy_mem (i := 365) (by decide +kernel) rfl
set_option maxRecDepth 100000 in
theorem m_366 : Cond.code y_Corrections_latest b_Corrections_latest 11 (some .int) ∈ sy_T := sy_mem (i := 366) rfl rfl
theorem m_367 : Cond.methodLinkNest R_Corrections 36 y_DeviceSets_isIn R_DeviceSets ∈ sy_N := sy_memN (i := 367) (by decide +kernel) rfl
theorem m_368 : Cond.methodLink R_Corrections 40 y_Corrections_isStronger ∈ sy_T := sy_mem (i := 368) (by decide +kernel) rfl
theorem m_370 : Cond.instanceMethod y_Corrections_isStronger ∈ sy_T := sy_mem (i := 370) (by decide +kernel) rfl
set_option maxRecDepth 100000 in
theorem m_371 : Cond.code y_Corrections_isStronger b_Corrections_isStronger 3 (some .boolean) ∈ sy_T := sy_mem (i := 371) rfl rfl
theorem m_372 : Cond.methodLink R_Law 59 y_DeviceSets_gap ∈ sy_T := sy_mem (i := 372) (by decide +kernel) rfl
theorem m_373 : Cond.instanceMethod y_DeviceSets_gap ∈ sy_T := sy_mem (i := 373) (by decide +kernel) rfl
theorem m_374 : Cond.selects y_DeviceSets_gap.cls y_DeviceSets_gap y_DeviceSets_gap ∈ sy_T := sy_mem (i := 374) (by decide +kernel) rfl
set_option maxRecDepth 100000 in
theorem m_375 : Cond.code y_DeviceSets_gap b_DeviceSets_gap 5 (some .int) ∈ sy_T := sy_mem (i := 375) rfl rfl
theorem m_376 : Cond.methodLink R_DeviceSets 140 y_Tellings_missingNumber ∈ sy_T := sy_mem (i := 376) (by decide +kernel) rfl
theorem m_377 : Cond.instanceMethod y_Tellings_missingNumber ∈ sy_T := sy_mem (i := 377) (by decide +kernel) rfl
theorem m_378 : Cond.selects y_Tellings_missingNumber.cls y_Tellings_missingNumber y_Tellings_missingNumber ∈ sy_T := sy_mem (i := 378) (by decide +kernel) rfl
set_option maxRecDepth 100000 in
theorem m_379 : Cond.code y_Tellings_missingNumber b_Tellings_missingNumber 11 (some .int) ∈ sy_T := sy_mem (i := 379) rfl rfl
theorem m_380 : Cond.methodLink R_Tellings 67 y_Tellings_ofGreatestLife ∈ sy_T := sy_mem (i := 380) (by decide +kernel) rfl
theorem m_382 : Cond.instanceMethod y_Tellings_ofGreatestLife ∈ sy_T := sy_mem (i := 382) (by decide +kernel) rfl
set_option maxRecDepth 100000 in
theorem m_383 : Cond.code y_Tellings_ofGreatestLife b_Tellings_ofGreatestLife 7 (some .long) ∈ sy_T := sy_mem (i := 383) rfl rfl
theorem m_384 : Cond.methodLink R_Tellings 71 y_Tellings_nextNumber ∈ sy_T := sy_mem (i := 384) (by decide +kernel) rfl
theorem m_386 : Cond.instanceMethod y_Tellings_nextNumber ∈ sy_T := sy_mem (i := 386) (by decide +kernel) rfl
set_option maxRecDepth 100000 in
theorem m_387 : Cond.code y_Tellings_nextNumber b_Tellings_nextNumber 6 (some .int) ∈ sy_T := sy_mem (i := 387) rfl rfl
theorem m_388 : Cond.methodLink R_Law 64 y_DeviceSets_conflict ∈ sy_T := sy_mem (i := 388) (by decide +kernel) rfl
theorem m_389 : Cond.instanceMethod y_DeviceSets_conflict ∈ sy_T := sy_mem (i := 389) (by decide +kernel) rfl
theorem m_390 : Cond.selects y_DeviceSets_conflict.cls y_DeviceSets_conflict y_DeviceSets_conflict ∈ sy_T := sy_mem (i := 390) (by decide +kernel) rfl
set_option maxRecDepth 100000 in
theorem m_391 : Cond.code y_DeviceSets_conflict b_DeviceSets_conflict 6 (some .int) ∈ sy_T := sy_mem (i := 391) rfl rfl
theorem m_392 : Cond.methodLink R_DeviceSets 144 y_Tellings_inPlace ∈ sy_T := sy_mem (i := 392) (by decide +kernel) rfl
theorem m_393 : Cond.instanceMethod y_Tellings_inPlace ∈ sy_T := sy_mem (i := 393) (by decide +kernel) rfl
theorem m_394 : Cond.selects y_Tellings_inPlace.cls y_Tellings_inPlace y_Tellings_inPlace ∈ sy_T := sy_mem (i := 394) (by decide +kernel) rfl
set_option maxRecDepth 100000 in
theorem m_395 : Cond.code y_Tellings_inPlace b_Tellings_inPlace 5 (some .int) ∈ sy_T := sy_mem (i := 395) rfl rfl
theorem m_396 : Cond.methodLink R_Tellings 60 y_Tellings_countBefore ∈ sy_T := sy_mem (i := 396) (by decide +kernel) rfl
theorem m_398 : Cond.instanceMethod y_Tellings_countBefore ∈ sy_T := sy_mem (i := 398) (by decide +kernel) rfl
set_option maxRecDepth 100000 in
theorem m_399 : Cond.code y_Tellings_countBefore b_Tellings_countBefore 6 (some .int) ∈ sy_T := sy_mem (i := 399) rfl rfl
theorem m_400 : Cond.methodLink R_DeviceSets 147 y_Tellings_keyPart ∈ sy_T := sy_mem (i := 400) (by decide +kernel) rfl
theorem m_401 : Cond.instanceMethod y_Tellings_keyPart ∈ sy_T := sy_mem (i := 401) (by decide +kernel) rfl
theorem m_402 : Cond.selects y_Tellings_keyPart.cls y_Tellings_keyPart y_Tellings_keyPart ∈ sy_T := sy_mem (i := 402) (by decide +kernel) rfl
set_option maxRecDepth 100000 in
theorem m_403 : Cond.code y_Tellings_keyPart b_Tellings_keyPart 3 (some .int) ∈ sy_T := sy_mem (i := 403) rfl rfl
theorem m_404 : Cond.methodLink R_Law 68 y_DeviceSets_settle ∈ sy_T := sy_mem (i := 404) (by decide +kernel) rfl
theorem m_405 : Cond.instanceMethod y_DeviceSets_settle ∈ sy_T := sy_mem (i := 405) (by decide +kernel) rfl
theorem m_406 : Cond.selects y_DeviceSets_settle.cls y_DeviceSets_settle y_DeviceSets_settle ∈ sy_T := sy_mem (i := 406) (by decide +kernel) rfl
set_option maxRecDepth 100000 in
theorem m_407 : Cond.code y_DeviceSets_settle b_DeviceSets_settle 8 (some .int) ∈ sy_T := sy_mem (i := 407) rfl rfl
theorem m_408 : Cond.methodLink R_DeviceSets 155 y_Tellings_first ∈ sy_T := sy_mem (i := 408) (by decide +kernel) rfl
theorem m_409 : Cond.methodLink R_DeviceSets 161 y_Tellings_ofKeyOf ∈ sy_T := sy_mem (i := 409) (by decide +kernel) rfl
theorem m_410 : Cond.methodLink R_Law 73 y_DeviceSets_equal ∈ sy_T := sy_mem (i := 410) (by decide +kernel) rfl
theorem m_411 : Cond.instanceMethod y_DeviceSets_equal ∈ sy_T := sy_mem (i := 411) (by decide +kernel) rfl
theorem m_412 : Cond.selects y_DeviceSets_equal.cls y_DeviceSets_equal y_DeviceSets_equal ∈ sy_T := sy_mem (i := 412) (by decide +kernel) rfl
set_option maxRecDepth 100000 in
theorem m_413 : Cond.code y_DeviceSets_equal b_DeviceSets_equal 5 (some .boolean) ∈ sy_T := sy_mem (i := 413) rfl rfl
theorem m_414 : Cond.methodLink R_DeviceSets 168 y_Held_isLike ∈ sy_T := sy_mem (i := 414) (by decide +kernel) rfl
theorem m_415 : Cond.instanceMethod y_Held_isLike ∈ sy_T := sy_mem (i := 415) (by decide +kernel) rfl
theorem m_416 : Cond.selects y_Held_isLike.cls y_Held_isLike y_Held_isLike ∈ sy_T := sy_mem (i := 416) (by decide +kernel) rfl
set_option maxRecDepth 100000 in
theorem m_417 : Cond.code y_Held_isLike b_Held_isLike 2 (some .boolean) ∈ sy_T := sy_mem (i := 417) rfl rfl
theorem m_418 : Cond.methodLink R_Law 78 y_DeviceSets_batch ∈ sy_T := sy_mem (i := 418) (by decide +kernel) rfl
theorem m_419 : Cond.instanceMethod y_DeviceSets_batch ∈ sy_T := sy_mem (i := 419) (by decide +kernel) rfl
theorem m_420 : Cond.selects y_DeviceSets_batch.cls y_DeviceSets_batch y_DeviceSets_batch ∈ sy_T := sy_mem (i := 420) (by decide +kernel) rfl
set_option maxRecDepth 100000 in
theorem m_421 : Cond.code y_DeviceSets_batch b_DeviceSets_batch 3 (some .int) ∈ sy_T := sy_mem (i := 421) rfl rfl
theorem m_422 : Cond.methodLink R_Law 82 y_DeviceSets_endBatch ∈ sy_T := sy_mem (i := 422) (by decide +kernel) rfl
theorem m_423 : Cond.instanceMethod y_DeviceSets_endBatch ∈ sy_T := sy_mem (i := 423) (by decide +kernel) rfl
theorem m_424 : Cond.selects y_DeviceSets_endBatch.cls y_DeviceSets_endBatch y_DeviceSets_endBatch ∈ sy_T := sy_mem (i := 424) (by decide +kernel) rfl
set_option maxRecDepth 100000 in
theorem m_425 : Cond.code y_DeviceSets_endBatch b_DeviceSets_endBatch 4 (some .boolean) ∈ sy_T := sy_mem (i := 425) rfl rfl
theorem m_426 : Cond.methodLink R_DeviceSets 178 y_ToldSet_takeWaiting ∈ sy_T := sy_mem (i := 426) (by decide +kernel) rfl
theorem m_427 : Cond.instanceMethod y_ToldSet_takeWaiting ∈ sy_T := sy_mem (i := 427) (by decide +kernel) rfl
theorem m_428 : Cond.selects y_ToldSet_takeWaiting.cls y_ToldSet_takeWaiting y_ToldSet_takeWaiting ∈ sy_T := sy_mem (i := 428) (by decide +kernel) rfl
set_option maxRecDepth 100000 in
theorem m_429 : Cond.code y_ToldSet_takeWaiting b_ToldSet_takeWaiting 1 none ∈ sy_T := sy_mem (i := 429) rfl rfl
theorem m_430 : Cond.methodLink R_ToldSet 33 y_Held_clear ∈ sy_T := sy_mem (i := 430) (by decide +kernel) rfl
theorem m_431 : Cond.instanceMethod y_Held_clear ∈ sy_T := sy_mem (i := 431) (by decide +kernel) rfl
theorem m_432 : Cond.selects y_Held_clear.cls y_Held_clear y_Held_clear ∈ sy_T := sy_mem (i := 432) (by decide +kernel) rfl
set_option maxRecDepth 100000 in
theorem m_433 : Cond.code y_Held_clear b_Held_clear 1 none ∈ sy_T := sy_mem (i := 433) rfl rfl
theorem m_434 : Cond.methodLink R_Law 87 y_DeviceSets_retain ∈ sy_T := sy_mem (i := 434) (by decide +kernel) rfl
theorem m_435 : Cond.instanceMethod y_DeviceSets_retain ∈ sy_T := sy_mem (i := 435) (by decide +kernel) rfl
theorem m_436 : Cond.selects y_DeviceSets_retain.cls y_DeviceSets_retain y_DeviceSets_retain ∈ sy_T := sy_mem (i := 436) (by decide +kernel) rfl
set_option maxRecDepth 100000 in
theorem m_437 : Cond.code y_DeviceSets_retain b_DeviceSets_retain 7 (some .int) ∈ sy_T := sy_mem (i := 437) rfl rfl
theorem m_438 : Cond.constantLong R_DeviceSets 181 (2000000) ∈ sy_T := sy_mem (i := 438) (by decide +kernel) rfl
theorem m_439 : Cond.methodLink R_DeviceSets 186 Lib.MathLoose.max_long.x ∈ sy_T := sy_mem (i := 439) (by decide +kernel) rfl
theorem m_440 : Cond.constantLong R_DeviceSets 192 (-1) ∈ sy_T := sy_mem (i := 440) (by decide +kernel) rfl
theorem m_441 : Cond.methodLink R_Law 92 y_DeviceSets_kept ∈ sy_T := sy_mem (i := 441) (by decide +kernel) rfl
theorem m_442 : Cond.instanceMethod y_DeviceSets_kept ∈ sy_T := sy_mem (i := 442) (by decide +kernel) rfl
theorem m_443 : Cond.selects y_DeviceSets_kept.cls y_DeviceSets_kept y_DeviceSets_kept ∈ sy_T := sy_mem (i := 443) (by decide +kernel) rfl
set_option maxRecDepth 100000 in
theorem m_444 : Cond.code y_DeviceSets_kept b_DeviceSets_kept 4 (some .long) ∈ sy_T := sy_mem (i := 444) rfl rfl
theorem m_445 : Cond.methodLink R_DeviceSets 194 y_Tellings_sumOfKind ∈ sy_T := sy_mem (i := 445) (by decide +kernel) rfl
theorem m_446 : Cond.instanceMethod y_Tellings_sumOfKind ∈ sy_T := sy_mem (i := 446) (by decide +kernel) rfl
theorem m_447 : Cond.selects y_Tellings_sumOfKind.cls y_Tellings_sumOfKind y_Tellings_sumOfKind ∈ sy_T := sy_mem (i := 447) (by decide +kernel) rfl
set_option maxRecDepth 100000 in
theorem m_448 : Cond.code y_Tellings_sumOfKind b_Tellings_sumOfKind 7 (some .long) ∈ sy_T := sy_mem (i := 448) rfl rfl
theorem m_449 : Cond.methodLink R_Law 97 y_DeviceSets_mark ∈ sy_T := sy_mem (i := 449) (by decide +kernel) rfl
theorem m_450 : Cond.instanceMethod y_DeviceSets_mark ∈ sy_T := sy_mem (i := 450) (by decide +kernel) rfl
theorem m_451 : Cond.selects y_DeviceSets_mark.cls y_DeviceSets_mark y_DeviceSets_mark ∈ sy_T := sy_mem (i := 451) (by decide +kernel) rfl
set_option maxRecDepth 100000 in
theorem m_452 : Cond.code y_DeviceSets_mark b_DeviceSets_mark 7 (some .boolean) ∈ sy_T := sy_mem (i := 452) rfl rfl
theorem m_453 : Cond.methodLink R_DeviceSets 202 y_Clock_addMark ∈ sy_T := sy_mem (i := 453) (by decide +kernel) rfl
theorem m_454 : Cond.instanceMethod y_Clock_addMark ∈ sy_T := sy_mem (i := 454) (by decide +kernel) rfl
theorem m_455 : Cond.selects y_Clock_addMark.cls y_Clock_addMark y_Clock_addMark ∈ sy_T := sy_mem (i := 455) (by decide +kernel) rfl
set_option maxRecDepth 100000 in
theorem m_456 : Cond.code y_Clock_addMark b_Clock_addMark 5 (some .boolean) ∈ sy_T := sy_mem (i := 456) rfl rfl
theorem m_457 : Cond.methodLink R_Law 102 y_DeviceSets_corrected ∈ sy_T := sy_mem (i := 457) (by decide +kernel) rfl
theorem m_458 : Cond.instanceMethod y_DeviceSets_corrected ∈ sy_T := sy_mem (i := 458) (by decide +kernel) rfl
theorem m_459 : Cond.selects y_DeviceSets_corrected.cls y_DeviceSets_corrected y_DeviceSets_corrected ∈ sy_T := sy_mem (i := 459) (by decide +kernel) rfl
set_option maxRecDepth 100000 in
theorem m_460 : Cond.code y_DeviceSets_corrected b_DeviceSets_corrected 12 (some .long) ∈ sy_T := sy_mem (i := 460) rfl rfl
theorem m_461 : Cond.methodLink R_DeviceSets 208 y_Clock_numerator ∈ sy_T := sy_mem (i := 461) (by decide +kernel) rfl
theorem m_462 : Cond.instanceMethod y_Clock_numerator ∈ sy_T := sy_mem (i := 462) (by decide +kernel) rfl
theorem m_463 : Cond.selects y_Clock_numerator.cls y_Clock_numerator y_Clock_numerator ∈ sy_T := sy_mem (i := 463) (by decide +kernel) rfl
set_option maxRecDepth 100000 in
theorem m_464 : Cond.code y_Clock_numerator b_Clock_numerator 8 (some .long) ∈ sy_T := sy_mem (i := 464) rfl rfl
theorem m_465 : Cond.methodLink R_Clock 22 y_Clock_markBefore ∈ sy_T := sy_mem (i := 465) (by decide +kernel) rfl
theorem m_467 : Cond.instanceMethod y_Clock_markBefore ∈ sy_T := sy_mem (i := 467) (by decide +kernel) rfl
set_option maxRecDepth 100000 in
theorem m_468 : Cond.code y_Clock_markBefore b_Clock_markBefore 5 (some .int) ∈ sy_T := sy_mem (i := 468) rfl rfl
theorem m_469 : Cond.methodLink R_Clock 26 y_Clock_isBetween ∈ sy_T := sy_mem (i := 469) (by decide +kernel) rfl
theorem m_471 : Cond.instanceMethod y_Clock_isBetween ∈ sy_T := sy_mem (i := 471) (by decide +kernel) rfl
set_option maxRecDepth 100000 in
theorem m_472 : Cond.code y_Clock_isBetween b_Clock_isBetween 2 (some .boolean) ∈ sy_T := sy_mem (i := 472) rfl rfl
theorem m_473 : Cond.methodLink R_Clock 30 Lib.Math.max.name ∈ sy_T := sy_mem (i := 473) (by decide +kernel) rfl
theorem m_474 : Cond.static Lib.Math.max.name ∈ sy_T := sy_mem (i := 474) (by decide +kernel) rfl
set_option maxRecDepth 100000 in
theorem m_475 : Cond.code Lib.Math.max.name Lib.Math.max.code 2 (some .int) ∈ sy_T := sy_mem (i := 475) rfl rfl
theorem m_476 : Cond.methodLink R_DeviceSets 212 y_Clock_denominator ∈ sy_T := sy_mem (i := 476) (by decide +kernel) rfl
theorem m_477 : Cond.instanceMethod y_Clock_denominator ∈ sy_T := sy_mem (i := 477) (by decide +kernel) rfl
theorem m_478 : Cond.selects y_Clock_denominator.cls y_Clock_denominator y_Clock_denominator ∈ sy_T := sy_mem (i := 478) (by decide +kernel) rfl
set_option maxRecDepth 100000 in
theorem m_479 : Cond.code y_Clock_denominator b_Clock_denominator 4 (some .long) ∈ sy_T := sy_mem (i := 479) rfl rfl
theorem m_480 : Cond.methodLink R_DeviceSets 215 Lib.MathLoose.abs_long.x ∈ sy_T := sy_mem (i := 480) (by decide +kernel) rfl
theorem m_481 : Cond.static Lib.MathLoose.abs_long.x ∈ sy_T := sy_mem (i := 481) (by decide +kernel) rfl
set_option maxRecDepth 100000 in
theorem m_482 : Cond.code Lib.MathLoose.abs_long.x Lib.MathLoose.abs_long.code 2 (some .long) ∈ sy_T := sy_mem (i := 482) rfl rfl
theorem m_483 : Cond.methodLink R_DeviceSets 218 y_DeviceSets_commonDivisor ∈ sy_T := sy_mem (i := 483) (by decide +kernel) rfl
theorem m_484 : Cond.static y_DeviceSets_commonDivisor ∈ sy_T := sy_mem (i := 484) (by decide +kernel) rfl
set_option maxRecDepth 100000 in
theorem m_485 : Cond.code y_DeviceSets_commonDivisor b_DeviceSets_commonDivisor 11 (some .long) ∈ sy_T := sy_mem (i := 485) rfl rfl
theorem m_486 : Cond.methodLink R_Law 107 y_DeviceSets_play ∈ sy_T := sy_mem (i := 486) (by decide +kernel) rfl
theorem m_487 : Cond.instanceMethod y_DeviceSets_play ∈ sy_T := sy_mem (i := 487) (by decide +kernel) rfl
theorem m_488 : Cond.selects y_DeviceSets_play.cls y_DeviceSets_play y_DeviceSets_play ∈ sy_T := sy_mem (i := 488) (by decide +kernel) rfl
set_option maxRecDepth 100000 in
theorem m_489 : Cond.code y_DeviceSets_play b_DeviceSets_play 10 (some .int) ∈ sy_T := sy_mem (i := 489) rfl rfl
theorem m_490 : Cond.methodLink R_DeviceSets 221 y_DeviceSets_nextDraw ∈ sy_T := sy_mem (i := 490) (by decide +kernel) rfl
theorem m_491 : Cond.static y_DeviceSets_nextDraw ∈ sy_T := sy_mem (i := 491) (by decide +kernel) rfl
set_option maxRecDepth 100000 in
theorem m_492 : Cond.code y_DeviceSets_nextDraw b_DeviceSets_nextDraw 2 (some .long) ∈ sy_T := sy_mem (i := 492) rfl rfl
theorem m_493 : Cond.constantLong R_DeviceSets 243 (6364136223846793005) ∈ sy_T := sy_mem (i := 493) (by decide +kernel) rfl
theorem m_494 : Cond.constantLong R_DeviceSets 245 (1442695040888963407) ∈ sy_T := sy_mem (i := 494) (by decide +kernel) rfl
theorem m_495 : Cond.methodLink R_DeviceSets 224 y_DeviceSets_joinChanges ∈ sy_T := sy_mem (i := 495) (by decide +kernel) rfl
theorem m_497 : Cond.instanceMethod y_DeviceSets_joinChanges ∈ sy_T := sy_mem (i := 497) (by decide +kernel) rfl
set_option maxRecDepth 100000 in
theorem m_498 : Cond.code y_DeviceSets_joinChanges b_DeviceSets_joinChanges 5 (some .boolean) ∈ sy_T := sy_mem (i := 498) rfl rfl
theorem m_499 : Cond.classLink R_Law 10 R_Model ∈ sy_T := sy_mem (i := 499) (by decide +kernel) rfl
theorem m_500 : Cond.instantiable R_Model 23 ∈ sy_T := sy_mem (i := 500) (by decide +kernel) rfl
theorem m_501 : Cond.methodLink R_Law 12 y_Model_init ∈ sy_T := sy_mem (i := 501) (by decide +kernel) rfl
theorem m_502 : Cond.instanceMethod y_Model_init ∈ sy_T := sy_mem (i := 502) (by decide +kernel) rfl
set_option maxRecDepth 100000 in
theorem m_503 : Cond.code y_Model_init b_Model_init 2 none ∈ sy_T := sy_mem (i := 503) rfl rfl
theorem m_504 : Cond.methodLink R_Model 1 objectInit ∈ sy_T := sy_mem (i := 504) (by decide +kernel) rfl
theorem m_505 : Cond.fieldLink R_Model 66 R_Model "devices" "I" ∈ sy_T := sy_mem (i := 505) (by decide +kernel) rfl
theorem m_506 : Cond.fieldLink R_Model 7 R_Model "lives" "[I" ∈ sy_T := sy_mem (i := 506) (by decide +kernel) rfl
theorem m_507 : Cond.fieldLink R_Model 13 R_Model "begins" "[J" ∈ sy_T := sy_mem (i := 507) (by decide +kernel) rfl
theorem m_508 : Cond.fieldLink R_Model 89 R_Model "tellings" "I" ∈ sy_T := sy_mem (i := 508) (by decide +kernel) rfl
theorem m_509 : Cond.fieldLink R_Model 17 R_Model "device" "[I" ∈ sy_T := sy_mem (i := 509) (by decide +kernel) rfl
theorem m_510 : Cond.fieldLink R_Model 20 R_Model "life" "[I" ∈ sy_T := sy_mem (i := 510) (by decide +kernel) rfl
theorem m_511 : Cond.fieldLink R_Model 23 R_Model "number" "[I" ∈ sy_T := sy_mem (i := 511) (by decide +kernel) rfl
theorem m_512 : Cond.fieldLink R_Model 26 R_Model "kind" "[I" ∈ sy_T := sy_mem (i := 512) (by decide +kernel) rfl
theorem m_513 : Cond.fieldLink R_Model 29 R_Model "second" "[I" ∈ sy_T := sy_mem (i := 513) (by decide +kernel) rfl
theorem m_514 : Cond.fieldLink R_Model 32 R_Model "value" "[J" ∈ sy_T := sy_mem (i := 514) (by decide +kernel) rfl
theorem m_515 : Cond.fieldLink R_Model 35 R_Model "on" "[I" ∈ sy_T := sy_mem (i := 515) (by decide +kernel) rfl
theorem m_516 : Cond.fieldLink R_Model 106 R_Model "corrections" "I" ∈ sy_T := sy_mem (i := 516) (by decide +kernel) rfl
theorem m_517 : Cond.fieldLink R_Model 38 R_Model "fixes" "[J" ∈ sy_T := sy_mem (i := 517) (by decide +kernel) rfl
theorem m_518 : Cond.fieldLink R_Model 70 R_Model "sets" "I" ∈ sy_T := sy_mem (i := 518) (by decide +kernel) rfl
theorem m_519 : Cond.fieldLink R_Model 139 R_Model "batches" "I" ∈ sy_T := sy_mem (i := 519) (by decide +kernel) rfl
theorem m_520 : Cond.fieldLink R_Model 41 R_Model "has" "[Z" ∈ sy_T := sy_mem (i := 520) (by decide +kernel) rfl
theorem m_521 : Cond.fieldLink R_Model 45 R_Model "chosen" "[Z" ∈ sy_T := sy_mem (i := 521) (by decide +kernel) rfl
theorem m_522 : Cond.fieldLink R_Model 48 R_Model "fixed" "[Z" ∈ sy_T := sy_mem (i := 522) (by decide +kernel) rfl
theorem m_523 : Cond.fieldLink R_Model 51 R_Model "bounds" "[J" ∈ sy_T := sy_mem (i := 523) (by decide +kernel) rfl
theorem m_524 : Cond.fieldLink R_Model 54 R_Model "open" "[I" ∈ sy_T := sy_mem (i := 524) (by decide +kernel) rfl
theorem m_525 : Cond.fieldLink R_Model 57 R_Model "marks" "[I" ∈ sy_T := sy_mem (i := 525) (by decide +kernel) rfl
theorem m_526 : Cond.fieldLink R_Model 60 R_Model "markSecond" "[I" ∈ sy_T := sy_mem (i := 526) (by decide +kernel) rfl
theorem m_527 : Cond.fieldLink R_Model 63 R_Model "markTrue" "[I" ∈ sy_T := sy_mem (i := 527) (by decide +kernel) rfl
theorem m_576 : Cond.methodLink R_Law 17 y_Model_device ∈ sy_T := sy_mem (i := 576) (by decide +kernel) rfl
theorem m_577 : Cond.instanceMethod y_Model_device ∈ sy_T := sy_mem (i := 577) (by decide +kernel) rfl
theorem m_578 : Cond.selects y_Model_device.cls y_Model_device y_Model_device ∈ sy_T := sy_mem (i := 578) (by decide +kernel) rfl
set_option maxRecDepth 100000 in
theorem m_579 : Cond.code y_Model_device b_Model_device 1 (some .int) ∈ sy_T := sy_mem (i := 579) rfl rfl
theorem m_580 : Cond.methodLink R_Law 24 y_Model_tell ∈ sy_T := sy_mem (i := 580) (by decide +kernel) rfl
theorem m_581 : Cond.instanceMethod y_Model_tell ∈ sy_T := sy_mem (i := 581) (by decide +kernel) rfl
theorem m_582 : Cond.selects y_Model_tell.cls y_Model_tell y_Model_tell ∈ sy_T := sy_mem (i := 582) (by decide +kernel) rfl
set_option maxRecDepth 100000 in
theorem m_583 : Cond.code y_Model_tell b_Model_tell 12 (some .int) ∈ sy_T := sy_mem (i := 583) rfl rfl
theorem m_584 : Cond.methodLink R_Model 73 y_Model_isDevice ∈ sy_T := sy_mem (i := 584) (by decide +kernel) rfl
theorem m_586 : Cond.instanceMethod y_Model_isDevice ∈ sy_T := sy_mem (i := 586) (by decide +kernel) rfl
set_option maxRecDepth 100000 in
theorem m_587 : Cond.code y_Model_isDevice b_Model_isDevice 2 (some .boolean) ∈ sy_T := sy_mem (i := 587) rfl rfl
theorem m_588 : Cond.constantLong R_Model 77 (1000000) ∈ sy_T := sy_mem (i := 588) (by decide +kernel) rfl
theorem m_589 : Cond.methodLink R_Model 79 y_Model_isIn ∈ sy_T := sy_mem (i := 589) (by decide +kernel) rfl
theorem m_590 : Cond.static y_Model_isIn ∈ sy_T := sy_mem (i := 590) (by decide +kernel) rfl
set_option maxRecDepth 100000 in
theorem m_591 : Cond.code y_Model_isIn b_Model_isIn 6 (some .boolean) ∈ sy_T := sy_mem (i := 591) rfl rfl
theorem m_592 : Cond.constantLong R_Model 83 (3) ∈ sy_T := sy_mem (i := 592) (by decide +kernel) rfl
theorem m_593 : Cond.constantLong R_Model 85 (-1000000000) ∈ sy_T := sy_mem (i := 593) (by decide +kernel) rfl
theorem m_594 : Cond.constantLong R_Model 87 (1000000000) ∈ sy_T := sy_mem (i := 594) (by decide +kernel) rfl
theorem m_595 : Cond.methodLink R_Law 29 y_Model_reset ∈ sy_T := sy_mem (i := 595) (by decide +kernel) rfl
theorem m_596 : Cond.instanceMethod y_Model_reset ∈ sy_T := sy_mem (i := 596) (by decide +kernel) rfl
theorem m_597 : Cond.selects y_Model_reset.cls y_Model_reset y_Model_reset ∈ sy_T := sy_mem (i := 597) (by decide +kernel) rfl
set_option maxRecDepth 100000 in
theorem m_598 : Cond.code y_Model_reset b_Model_reset 4 (some .boolean) ∈ sy_T := sy_mem (i := 598) rfl rfl
theorem m_599 : Cond.methodLink R_Law 34 y_Model_life ∈ sy_T := sy_mem (i := 599) (by decide +kernel) rfl
theorem m_600 : Cond.instanceMethod y_Model_life ∈ sy_T := sy_mem (i := 600) (by decide +kernel) rfl
theorem m_601 : Cond.selects y_Model_life.cls y_Model_life y_Model_life ∈ sy_T := sy_mem (i := 601) (by decide +kernel) rfl
set_option maxRecDepth 100000 in
theorem m_602 : Cond.code y_Model_life b_Model_life 2 (some .int) ∈ sy_T := sy_mem (i := 602) rfl rfl
theorem m_603 : Cond.methodLink R_Law 38 y_Model_set ∈ sy_T := sy_mem (i := 603) (by decide +kernel) rfl
theorem m_604 : Cond.instanceMethod y_Model_set ∈ sy_T := sy_mem (i := 604) (by decide +kernel) rfl
theorem m_605 : Cond.selects y_Model_set.cls y_Model_set y_Model_set ∈ sy_T := sy_mem (i := 605) (by decide +kernel) rfl
set_option maxRecDepth 100000 in
theorem m_606 : Cond.code y_Model_set b_Model_set 3 (some .int) ∈ sy_T := sy_mem (i := 606) rfl rfl
theorem m_607 : Cond.methodLink R_Law 43 y_Model_join ∈ sy_T := sy_mem (i := 607) (by decide +kernel) rfl
theorem m_608 : Cond.instanceMethod y_Model_join ∈ sy_T := sy_mem (i := 608) (by decide +kernel) rfl
theorem m_609 : Cond.selects y_Model_join.cls y_Model_join y_Model_join ∈ sy_T := sy_mem (i := 609) (by decide +kernel) rfl
set_option maxRecDepth 100000 in
theorem m_610 : Cond.code y_Model_join b_Model_join 4 (some .int) ∈ sy_T := sy_mem (i := 610) rfl rfl
theorem m_611 : Cond.methodLink R_Model 96 y_Model_isSet ∈ sy_T := sy_mem (i := 611) (by decide +kernel) rfl
theorem m_613 : Cond.instanceMethod y_Model_isSet ∈ sy_T := sy_mem (i := 613) (by decide +kernel) rfl
set_option maxRecDepth 100000 in
theorem m_614 : Cond.code y_Model_isSet b_Model_isSet 2 (some .boolean) ∈ sy_T := sy_mem (i := 614) rfl rfl
theorem m_615 : Cond.methodLink R_Model 99 y_Model_joinTo ∈ sy_T := sy_mem (i := 615) (by decide +kernel) rfl
theorem m_617 : Cond.instanceMethod y_Model_joinTo ∈ sy_T := sy_mem (i := 617) (by decide +kernel) rfl
set_option maxRecDepth 100000 in
theorem m_618 : Cond.code y_Model_joinTo b_Model_joinTo 3 (some .boolean) ∈ sy_T := sy_mem (i := 618) rfl rfl
theorem m_619 : Cond.methodLink R_Model 92 y_Model_bring ∈ sy_T := sy_mem (i := 619) (by decide +kernel) rfl
theorem m_621 : Cond.instanceMethod y_Model_bring ∈ sy_T := sy_mem (i := 621) (by decide +kernel) rfl
set_option maxRecDepth 100000 in
theorem m_622 : Cond.code y_Model_bring b_Model_bring 7 (some .boolean) ∈ sy_T := sy_mem (i := 622) rfl rfl
theorem m_623 : Cond.methodLink R_Model 102 y_Model_conflicts ∈ sy_T := sy_mem (i := 623) (by decide +kernel) rfl
theorem m_625 : Cond.instanceMethod y_Model_conflicts ∈ sy_T := sy_mem (i := 625) (by decide +kernel) rfl
set_option maxRecDepth 100000 in
theorem m_626 : Cond.code y_Model_conflicts b_Model_conflicts 4 (some .int) ∈ sy_T := sy_mem (i := 626) rfl rfl
theorem m_627 : Cond.methodLink R_Model 133 y_Model_isConflict ∈ sy_T := sy_mem (i := 627) (by decide +kernel) rfl
theorem m_629 : Cond.instanceMethod y_Model_isConflict ∈ sy_T := sy_mem (i := 629) (by decide +kernel) rfl
set_option maxRecDepth 100000 in
theorem m_630 : Cond.code y_Model_isConflict b_Model_isConflict 6 (some .boolean) ∈ sy_T := sy_mem (i := 630) rfl rfl
theorem m_631 : Cond.methodLink R_Model 109 y_Model_isHere ∈ sy_T := sy_mem (i := 631) (by decide +kernel) rfl
theorem m_633 : Cond.instanceMethod y_Model_isHere ∈ sy_T := sy_mem (i := 633) (by decide +kernel) rfl
set_option maxRecDepth 100000 in
theorem m_634 : Cond.code y_Model_isHere b_Model_isHere 3 (some .boolean) ∈ sy_T := sy_mem (i := 634) rfl rfl
theorem m_635 : Cond.methodLink R_Model 112 y_Model_isChosen ∈ sy_T := sy_mem (i := 635) (by decide +kernel) rfl
theorem m_637 : Cond.instanceMethod y_Model_isChosen ∈ sy_T := sy_mem (i := 637) (by decide +kernel) rfl
set_option maxRecDepth 100000 in
theorem m_638 : Cond.code y_Model_isChosen b_Model_isChosen 3 (some .boolean) ∈ sy_T := sy_mem (i := 638) rfl rfl
theorem m_639 : Cond.methodLink R_Model 115 y_Model_isSameKey ∈ sy_T := sy_mem (i := 639) (by decide +kernel) rfl
theorem m_641 : Cond.instanceMethod y_Model_isSameKey ∈ sy_T := sy_mem (i := 641) (by decide +kernel) rfl
set_option maxRecDepth 100000 in
theorem m_642 : Cond.code y_Model_isSameKey b_Model_isSameKey 3 (some .boolean) ∈ sy_T := sy_mem (i := 642) rfl rfl
theorem m_643 : Cond.methodLink R_Law 48 y_Model_correct ∈ sy_T := sy_mem (i := 643) (by decide +kernel) rfl
theorem m_644 : Cond.instanceMethod y_Model_correct ∈ sy_T := sy_mem (i := 644) (by decide +kernel) rfl
theorem m_645 : Cond.selects y_Model_correct.cls y_Model_correct y_Model_correct ∈ sy_T := sy_mem (i := 645) (by decide +kernel) rfl
set_option maxRecDepth 100000 in
theorem m_646 : Cond.code y_Model_correct b_Model_correct 11 (some .boolean) ∈ sy_T := sy_mem (i := 646) rfl rfl
theorem m_647 : Cond.methodLink R_Law 53 y_Model_last ∈ sy_T := sy_mem (i := 647) (by decide +kernel) rfl
theorem m_648 : Cond.instanceMethod y_Model_last ∈ sy_T := sy_mem (i := 648) (by decide +kernel) rfl
theorem m_649 : Cond.selects y_Model_last.cls y_Model_last y_Model_last ∈ sy_T := sy_mem (i := 649) (by decide +kernel) rfl
set_option maxRecDepth 100000 in
theorem m_650 : Cond.code y_Model_last b_Model_last 7 (some .long) ∈ sy_T := sy_mem (i := 650) rfl rfl
theorem m_651 : Cond.methodLink R_Model 121 y_Model_isSeen ∈ sy_T := sy_mem (i := 651) (by decide +kernel) rfl
theorem m_653 : Cond.instanceMethod y_Model_isSeen ∈ sy_T := sy_mem (i := 653) (by decide +kernel) rfl
set_option maxRecDepth 100000 in
theorem m_654 : Cond.code y_Model_isSeen b_Model_isSeen 6 (some .boolean) ∈ sy_T := sy_mem (i := 654) rfl rfl
theorem m_655 : Cond.methodLink R_Model 118 y_Model_isBefore ∈ sy_T := sy_mem (i := 655) (by decide +kernel) rfl
theorem m_657 : Cond.instanceMethod y_Model_isBefore ∈ sy_T := sy_mem (i := 657) (by decide +kernel) rfl
set_option maxRecDepth 100000 in
theorem m_658 : Cond.code y_Model_isBefore b_Model_isBefore 3 (some .boolean) ∈ sy_T := sy_mem (i := 658) rfl rfl
theorem m_659 : Cond.constantLong R_Model 124 (-9223372036854775808) ∈ sy_T := sy_mem (i := 659) (by decide +kernel) rfl
theorem m_660 : Cond.methodLink R_Law 58 y_Model_known ∈ sy_T := sy_mem (i := 660) (by decide +kernel) rfl
theorem m_661 : Cond.instanceMethod y_Model_known ∈ sy_T := sy_mem (i := 661) (by decide +kernel) rfl
theorem m_662 : Cond.selects y_Model_known.cls y_Model_known y_Model_known ∈ sy_T := sy_mem (i := 662) (by decide +kernel) rfl
set_option maxRecDepth 100000 in
theorem m_663 : Cond.code y_Model_known b_Model_known 13 (some .long) ∈ sy_T := sy_mem (i := 663) rfl rfl
theorem m_664 : Cond.methodLink R_Model 126 y_Model_isLater ∈ sy_T := sy_mem (i := 664) (by decide +kernel) rfl
theorem m_666 : Cond.instanceMethod y_Model_isLater ∈ sy_T := sy_mem (i := 666) (by decide +kernel) rfl
set_option maxRecDepth 100000 in
theorem m_667 : Cond.code y_Model_isLater b_Model_isLater 3 (some .boolean) ∈ sy_T := sy_mem (i := 667) rfl rfl
theorem m_668 : Cond.methodLink R_Law 63 y_Model_gap ∈ sy_T := sy_mem (i := 668) (by decide +kernel) rfl
theorem m_669 : Cond.instanceMethod y_Model_gap ∈ sy_T := sy_mem (i := 669) (by decide +kernel) rfl
theorem m_670 : Cond.selects y_Model_gap.cls y_Model_gap y_Model_gap ∈ sy_T := sy_mem (i := 670) (by decide +kernel) rfl
set_option maxRecDepth 100000 in
theorem m_671 : Cond.code y_Model_gap b_Model_gap 9 (some .int) ∈ sy_T := sy_mem (i := 671) rfl rfl
theorem m_672 : Cond.methodLink R_Model 129 y_Model_nextNumber ∈ sy_T := sy_mem (i := 672) (by decide +kernel) rfl
theorem m_674 : Cond.instanceMethod y_Model_nextNumber ∈ sy_T := sy_mem (i := 674) (by decide +kernel) rfl
set_option maxRecDepth 100000 in
theorem m_675 : Cond.code y_Model_nextNumber b_Model_nextNumber 8 (some .int) ∈ sy_T := sy_mem (i := 675) rfl rfl
theorem m_676 : Cond.methodLink R_Law 67 y_Model_conflict ∈ sy_T := sy_mem (i := 676) (by decide +kernel) rfl
theorem m_677 : Cond.instanceMethod y_Model_conflict ∈ sy_T := sy_mem (i := 677) (by decide +kernel) rfl
theorem m_678 : Cond.selects y_Model_conflict.cls y_Model_conflict y_Model_conflict ∈ sy_T := sy_mem (i := 678) (by decide +kernel) rfl
set_option maxRecDepth 100000 in
theorem m_679 : Cond.code y_Model_conflict b_Model_conflict 7 (some .int) ∈ sy_T := sy_mem (i := 679) rfl rfl
theorem m_680 : Cond.methodLink R_Model 136 y_Model_isKeyBefore ∈ sy_T := sy_mem (i := 680) (by decide +kernel) rfl
theorem m_682 : Cond.instanceMethod y_Model_isKeyBefore ∈ sy_T := sy_mem (i := 682) (by decide +kernel) rfl
set_option maxRecDepth 100000 in
theorem m_683 : Cond.code y_Model_isKeyBefore b_Model_isKeyBefore 3 (some .boolean) ∈ sy_T := sy_mem (i := 683) rfl rfl
theorem m_684 : Cond.methodLink R_Law 72 y_Model_settle ∈ sy_T := sy_mem (i := 684) (by decide +kernel) rfl
theorem m_685 : Cond.instanceMethod y_Model_settle ∈ sy_T := sy_mem (i := 685) (by decide +kernel) rfl
theorem m_686 : Cond.selects y_Model_settle.cls y_Model_settle y_Model_settle ∈ sy_T := sy_mem (i := 686) (by decide +kernel) rfl
set_option maxRecDepth 100000 in
theorem m_687 : Cond.code y_Model_settle b_Model_settle 9 (some .int) ∈ sy_T := sy_mem (i := 687) rfl rfl
theorem m_688 : Cond.methodLink R_Law 77 y_Model_equal ∈ sy_T := sy_mem (i := 688) (by decide +kernel) rfl
theorem m_689 : Cond.instanceMethod y_Model_equal ∈ sy_T := sy_mem (i := 689) (by decide +kernel) rfl
theorem m_690 : Cond.selects y_Model_equal.cls y_Model_equal y_Model_equal ∈ sy_T := sy_mem (i := 690) (by decide +kernel) rfl
set_option maxRecDepth 100000 in
theorem m_691 : Cond.code y_Model_equal b_Model_equal 7 (some .boolean) ∈ sy_T := sy_mem (i := 691) rfl rfl
theorem m_692 : Cond.methodLink R_Law 81 y_Model_batch ∈ sy_T := sy_mem (i := 692) (by decide +kernel) rfl
theorem m_693 : Cond.instanceMethod y_Model_batch ∈ sy_T := sy_mem (i := 693) (by decide +kernel) rfl
theorem m_694 : Cond.selects y_Model_batch.cls y_Model_batch y_Model_batch ∈ sy_T := sy_mem (i := 694) (by decide +kernel) rfl
set_option maxRecDepth 100000 in
theorem m_695 : Cond.code y_Model_batch b_Model_batch 4 (some .int) ∈ sy_T := sy_mem (i := 695) rfl rfl
theorem m_696 : Cond.methodLink R_Law 86 y_Model_endBatch ∈ sy_T := sy_mem (i := 696) (by decide +kernel) rfl
theorem m_697 : Cond.instanceMethod y_Model_endBatch ∈ sy_T := sy_mem (i := 697) (by decide +kernel) rfl
theorem m_698 : Cond.selects y_Model_endBatch.cls y_Model_endBatch y_Model_endBatch ∈ sy_T := sy_mem (i := 698) (by decide +kernel) rfl
set_option maxRecDepth 100000 in
theorem m_699 : Cond.code y_Model_endBatch b_Model_endBatch 4 (some .boolean) ∈ sy_T := sy_mem (i := 699) rfl rfl
theorem m_700 : Cond.methodLink R_Law 91 y_Model_retain ∈ sy_T := sy_mem (i := 700) (by decide +kernel) rfl
theorem m_701 : Cond.instanceMethod y_Model_retain ∈ sy_T := sy_mem (i := 701) (by decide +kernel) rfl
theorem m_702 : Cond.selects y_Model_retain.cls y_Model_retain y_Model_retain ∈ sy_T := sy_mem (i := 702) (by decide +kernel) rfl
set_option maxRecDepth 100000 in
theorem m_703 : Cond.code y_Model_retain b_Model_retain 6 (some .int) ∈ sy_T := sy_mem (i := 703) rfl rfl
theorem m_704 : Cond.constantLong R_Model 142 (2000000) ∈ sy_T := sy_mem (i := 704) (by decide +kernel) rfl
theorem m_705 : Cond.methodLink R_Law 96 y_Model_kept ∈ sy_T := sy_mem (i := 705) (by decide +kernel) rfl
theorem m_706 : Cond.instanceMethod y_Model_kept ∈ sy_T := sy_mem (i := 706) (by decide +kernel) rfl
theorem m_707 : Cond.selects y_Model_kept.cls y_Model_kept y_Model_kept ∈ sy_T := sy_mem (i := 707) (by decide +kernel) rfl
set_option maxRecDepth 100000 in
theorem m_708 : Cond.code y_Model_kept b_Model_kept 6 (some .long) ∈ sy_T := sy_mem (i := 708) rfl rfl
theorem m_709 : Cond.methodLink R_Law 101 y_Model_mark ∈ sy_T := sy_mem (i := 709) (by decide +kernel) rfl
theorem m_710 : Cond.instanceMethod y_Model_mark ∈ sy_T := sy_mem (i := 710) (by decide +kernel) rfl
theorem m_711 : Cond.selects y_Model_mark.cls y_Model_mark y_Model_mark ∈ sy_T := sy_mem (i := 711) (by decide +kernel) rfl
set_option maxRecDepth 100000 in
theorem m_712 : Cond.code y_Model_mark b_Model_mark 7 (some .boolean) ∈ sy_T := sy_mem (i := 712) rfl rfl
theorem m_713 : Cond.methodLink R_Law 106 y_Model_corrected ∈ sy_T := sy_mem (i := 713) (by decide +kernel) rfl
theorem m_714 : Cond.instanceMethod y_Model_corrected ∈ sy_T := sy_mem (i := 714) (by decide +kernel) rfl
theorem m_715 : Cond.selects y_Model_corrected.cls y_Model_corrected y_Model_corrected ∈ sy_T := sy_mem (i := 715) (by decide +kernel) rfl
set_option maxRecDepth 100000 in
theorem m_716 : Cond.code y_Model_corrected b_Model_corrected 13 (some .long) ∈ sy_T := sy_mem (i := 716) rfl rfl
theorem m_717 : Cond.methodLink R_Model 144 y_Model_common ∈ sy_T := sy_mem (i := 717) (by decide +kernel) rfl
theorem m_718 : Cond.static y_Model_common ∈ sy_T := sy_mem (i := 718) (by decide +kernel) rfl
set_option maxRecDepth 100000 in
theorem m_719 : Cond.code y_Model_common b_Model_common 10 (some .long) ∈ sy_T := sy_mem (i := 719) rfl rfl
theorem m_720 : Cond.methodLink R_Law 111 y_Model_play ∈ sy_T := sy_mem (i := 720) (by decide +kernel) rfl
theorem m_721 : Cond.instanceMethod y_Model_play ∈ sy_T := sy_mem (i := 721) (by decide +kernel) rfl
theorem m_722 : Cond.selects y_Model_play.cls y_Model_play y_Model_play ∈ sy_T := sy_mem (i := 722) (by decide +kernel) rfl
set_option maxRecDepth 100000 in
theorem m_723 : Cond.code y_Model_play b_Model_play 10 (some .int) ∈ sy_T := sy_mem (i := 723) rfl rfl
theorem m_724 : Cond.constantLong R_Model 148 (6364136223846793005) ∈ sy_T := sy_mem (i := 724) (by decide +kernel) rfl
theorem m_725 : Cond.constantLong R_Model 150 (1442695040888963407) ∈ sy_T := sy_mem (i := 725) (by decide +kernel) rfl
theorem m_726 : Cond.constantLong R_Law 18 (4294967295) ∈ sy_T := sy_mem (i := 726) (by decide +kernel) rfl
theorem i0_DeviceSets : ∀ w ∈ w_DeviceSets, w ∈ lw_tbl := by decide +kernel
theorem i1_DeviceSets : ∀ w ∈ w_DeviceSets, goodWord w = true := by decide +kernel
theorem i_DeviceSets : ∀ w ∈ w_DeviceSets, w ∈ sy_T := fun w h => List.mem_filter.mpr ⟨i0_DeviceSets w h, i1_DeviceSets w h⟩
theorem i0_Device : ∀ w ∈ w_Device, w ∈ lw_tbl := by decide +kernel
theorem i1_Device : ∀ w ∈ w_Device, goodWord w = true := by decide +kernel
theorem i_Device : ∀ w ∈ w_Device, w ∈ sy_T := fun w h => List.mem_filter.mpr ⟨i0_Device w h, i1_Device w h⟩
theorem i0_Clock : ∀ w ∈ w_Clock, w ∈ lw_tbl := by decide +kernel
theorem i1_Clock : ∀ w ∈ w_Clock, goodWord w = true := by decide +kernel
theorem i_Clock : ∀ w ∈ w_Clock, w ∈ sy_T := fun w h => List.mem_filter.mpr ⟨i0_Clock w h, i1_Clock w h⟩
theorem i0_Held : ∀ w ∈ w_Held, w ∈ lw_tbl := by decide +kernel
theorem i1_Held : ∀ w ∈ w_Held, goodWord w = true := by decide +kernel
theorem i_Held : ∀ w ∈ w_Held, w ∈ sy_T := fun w h => List.mem_filter.mpr ⟨i0_Held w h, i1_Held w h⟩
theorem i0_ToldSet : ∀ w ∈ w_ToldSet, w ∈ lw_tbl := by decide +kernel
theorem i1_ToldSet : ∀ w ∈ w_ToldSet, goodWord w = true := by decide +kernel
theorem i_ToldSet : ∀ w ∈ w_ToldSet, w ∈ sy_T := fun w h => List.mem_filter.mpr ⟨i0_ToldSet w h, i1_ToldSet w h⟩
theorem i0_Tellings : ∀ w ∈ w_Tellings, w ∈ lw_tbl := by decide +kernel
theorem i1_Tellings : ∀ w ∈ w_Tellings, goodWord w = true := by decide +kernel
theorem i_Tellings : ∀ w ∈ w_Tellings, w ∈ sy_T := fun w h => List.mem_filter.mpr ⟨i0_Tellings w h, i1_Tellings w h⟩
theorem i0_Corrections : ∀ w ∈ w_Corrections, w ∈ lw_tbl := by decide +kernel
theorem i1_Corrections : ∀ w ∈ w_Corrections, goodWord w = true := by decide +kernel
theorem i_Corrections : ∀ w ∈ w_Corrections, w ∈ sy_T := fun w h => List.mem_filter.mpr ⟨i0_Corrections w h, i1_Corrections w h⟩
theorem i0_Model : ∀ w ∈ w_Model, w ∈ lw_tbl := by decide +kernel
theorem i1_Model : ∀ w ∈ w_Model, goodWord w = true := by decide +kernel
theorem i_Model : ∀ w ∈ w_Model, w ∈ sy_T := fun w h => List.mem_filter.mpr ⟨i0_Model w h, i1_Model w h⟩
theorem cl_DeviceSets_23 : sy_LIN R_DeviceSets 23 y_Tellings_init R_DeviceSets b_Tellings_init 1 := ⟨m_56, m_54, m_55, m_31⟩
theorem cl_DeviceSets_30 : sy_LIN R_DeviceSets 30 y_Corrections_init R_DeviceSets b_Corrections_init 1 := ⟨m_91, m_89, m_90, m_32⟩
theorem cl_DeviceSets_39 : sy_LIN R_DeviceSets 39 y_Device_init R_DeviceSets b_Device_init 1 := ⟨m_142, m_140, m_141, m_34⟩
theorem cl_DeviceSets_40 : sy_LV R_DeviceSets 40 y_DeviceSets_deviceAt b_DeviceSets_deviceAt 2 (some (.object "DeviceSets$Device")) := ⟨m_178, m_175, m_177, m_0, m_30⟩
theorem cl_DeviceSets_44 : sy_LS R_DeviceSets 44 y_DeviceSets_isNumber b_DeviceSets_isNumber 2 (some .boolean) := ⟨m_181, m_179, m_180, m_30⟩
theorem cl_DeviceSets_52 : sy_LS R_DeviceSets 52 y_DeviceSets_isKind b_DeviceSets_isKind 1 (some .boolean) := ⟨m_185, m_183, m_184, m_30⟩
theorem cl_DeviceSets_56 : sy_LS R_DeviceSets 56 y_DeviceSets_isValue b_DeviceSets_isValue 2 (some .boolean) := ⟨m_188, m_186, m_187, m_30⟩
theorem cl_DeviceSets_62 : sy_LV R_DeviceSets 62 y_Tellings_has b_Tellings_has 10 (some .boolean) := ⟨m_194, m_191, m_192, m_193, m_31⟩
theorem cl_DeviceSets_66 : sy_LV R_DeviceSets 66 y_Tellings_add b_Tellings_add 11 (some .boolean) := ⟨m_198, m_195, m_196, m_197, m_31⟩
theorem cl_DeviceSets_73 : sy_LV R_DeviceSets 73 y_Tellings_ofDevice b_Tellings_ofDevice 5 (some .long) := ⟨m_215, m_212, m_213, m_214, m_31⟩
theorem cl_DeviceSets_77 : sy_LI R_DeviceSets 77 y_ToldSet_init b_ToldSet_init 3 := ⟨m_221, m_219, m_220, m_36⟩
theorem cl_DeviceSets_80 : sy_LV R_DeviceSets 80 y_DeviceSets_setAt b_DeviceSets_setAt 2 (some (.object "DeviceSets$ToldSet")) := ⟨m_266, m_263, m_265, m_1, m_30⟩
theorem cl_DeviceSets_84 : sy_LV R_DeviceSets 84 y_ToldSet_bring b_ToldSet_bring 2 (some .boolean) := ⟨m_270, m_267, m_268, m_269, m_36⟩
theorem cl_DeviceSets_92 : sy_LV R_DeviceSets 92 y_DeviceSets_conflictsIn b_DeviceSets_conflictsIn 2 (some .long) := ⟨m_282, m_279, m_281, m_2, m_30⟩
theorem cl_DeviceSets_96 : sy_LS R_DeviceSets 96 y_Long_bitCount b_Long_bitCount 2 (some .int) := ⟨m_306, m_304, m_305, m_39⟩
theorem cl_DeviceSets_102 : sy_LV R_DeviceSets 102 y_Corrections_findOrAdd b_Corrections_findOrAdd 10 (some .int) := ⟨m_317, m_314, m_315, m_316, m_32⟩
theorem cl_DeviceSets_110 : sy_LS R_DeviceSets 110 y_DeviceSets_bit b_DeviceSets_bit 1 (some .long) := ⟨m_218, m_294, m_217, m_30⟩
theorem cl_DeviceSets_115 : sy_LV R_DeviceSets 115 y_DeviceSets_seenIn b_DeviceSets_seenIn 4 (some .long) := ⟨m_330, m_327, m_329, m_5, m_30⟩
theorem cl_DeviceSets_119 : sy_LV R_DeviceSets 119 y_Tellings_latestNumbered b_Tellings_latestNumbered 5 (some .int) := ⟨m_350, m_347, m_348, m_349, m_31⟩
theorem cl_DeviceSets_126 : sy_LV R_DeviceSets 126 y_Tellings_latestKnown b_Tellings_latestKnown 9 (some .int) := ⟨m_358, m_355, m_356, m_357, m_31⟩
theorem cl_DeviceSets_133 : sy_LV R_DeviceSets 133 y_Corrections_latest b_Corrections_latest 11 (some .int) := ⟨m_366, m_363, m_364, m_365, m_32⟩
theorem cl_DeviceSets_140 : sy_LV R_DeviceSets 140 y_Tellings_missingNumber b_Tellings_missingNumber 11 (some .int) := ⟨m_379, m_376, m_377, m_378, m_31⟩
theorem cl_DeviceSets_144 : sy_LV R_DeviceSets 144 y_Tellings_inPlace b_Tellings_inPlace 5 (some .int) := ⟨m_395, m_392, m_393, m_394, m_31⟩
theorem cl_DeviceSets_147 : sy_LV R_DeviceSets 147 y_Tellings_keyPart b_Tellings_keyPart 3 (some .int) := ⟨m_403, m_400, m_401, m_402, m_31⟩
theorem cl_DeviceSets_151 : sy_LV R_DeviceSets 151 y_Tellings_ofKind b_Tellings_ofKind 6 (some .long) := ⟨m_334, m_331, m_332, m_333, m_31⟩
theorem cl_DeviceSets_155 : sy_LV R_DeviceSets 155 y_Tellings_first b_Tellings_first 5 (some .int) := ⟨m_342, m_408, m_340, m_341, m_31⟩
theorem cl_DeviceSets_158 : sy_LV R_DeviceSets 158 y_DeviceSets_liveIn b_DeviceSets_liveIn 2 (some .long) := ⟨m_286, m_283, m_285, m_3, m_30⟩
theorem cl_DeviceSets_161 : sy_LV R_DeviceSets 161 y_Tellings_ofKeyOf b_Tellings_ofKeyOf 7 (some .long) := ⟨m_302, m_409, m_300, m_301, m_31⟩
theorem cl_DeviceSets_168 : sy_LV R_DeviceSets 168 y_Held_isLike b_Held_isLike 2 (some .boolean) := ⟨m_417, m_414, m_415, m_416, m_37⟩
theorem cl_DeviceSets_178 : sy_LV R_DeviceSets 178 y_ToldSet_takeWaiting b_ToldSet_takeWaiting 1 none := ⟨m_429, m_426, m_427, m_428, m_36⟩
theorem cl_DeviceSets_194 : sy_LV R_DeviceSets 194 y_Tellings_sumOfKind b_Tellings_sumOfKind 7 (some .long) := ⟨m_448, m_445, m_446, m_447, m_31⟩
theorem cl_DeviceSets_202 : sy_LV R_DeviceSets 202 y_Clock_addMark b_Clock_addMark 5 (some .boolean) := ⟨m_456, m_453, m_454, m_455, m_35⟩
theorem cl_DeviceSets_208 : sy_LV R_DeviceSets 208 y_Clock_numerator b_Clock_numerator 8 (some .long) := ⟨m_464, m_461, m_462, m_463, m_35⟩
theorem cl_DeviceSets_212 : sy_LV R_DeviceSets 212 y_Clock_denominator b_Clock_denominator 4 (some .long) := ⟨m_479, m_476, m_477, m_478, m_35⟩
theorem cl_DeviceSets_218 : sy_LS R_DeviceSets 218 y_DeviceSets_commonDivisor b_DeviceSets_commonDivisor 11 (some .long) := ⟨m_485, m_483, m_484, m_30⟩
theorem cl_DeviceSets_221 : sy_LS R_DeviceSets 221 y_DeviceSets_nextDraw b_DeviceSets_nextDraw 2 (some .long) := ⟨m_492, m_490, m_491, m_30⟩
theorem cl_DeviceSets_224 : sy_LV R_DeviceSets 224 y_DeviceSets_joinChanges b_DeviceSets_joinChanges 5 (some .boolean) := ⟨m_498, m_495, m_497, m_14, m_30⟩
theorem cl_DeviceSets_228 : sy_LV R_DeviceSets 228 y_Tellings_notBelow b_Tellings_notBelow 8 (some .long) := ⟨m_290, m_287, m_288, m_289, m_31⟩
theorem cl_DeviceSets_231 : sy_LV R_DeviceSets 231 y_Tellings_unsettled b_Tellings_unsettled 12 (some .long) := ⟨m_298, m_295, m_296, m_297, m_31⟩
theorem cl_DeviceSets_234 : sy_LV R_DeviceSets 234 y_Tellings_holding b_Tellings_holding 10 (some .long) := ⟨m_338, m_335, m_336, m_337, m_31⟩
theorem cl_Model_73 : sy_LV R_Model 73 y_Model_isDevice b_Model_isDevice 2 (some .boolean) := ⟨m_587, m_584, m_586, m_15, m_33⟩
theorem cl_Model_79 : sy_LS R_Model 79 y_Model_isIn b_Model_isIn 6 (some .boolean) := ⟨m_591, m_589, m_590, m_33⟩
theorem cl_Model_92 : sy_LV R_Model 92 y_Model_bring b_Model_bring 7 (some .boolean) := ⟨m_622, m_619, m_621, m_18, m_33⟩
theorem cl_Model_96 : sy_LV R_Model 96 y_Model_isSet b_Model_isSet 2 (some .boolean) := ⟨m_614, m_611, m_613, m_16, m_33⟩
theorem cl_Model_99 : sy_LV R_Model 99 y_Model_joinTo b_Model_joinTo 3 (some .boolean) := ⟨m_618, m_615, m_617, m_17, m_33⟩
theorem cl_Model_102 : sy_LV R_Model 102 y_Model_conflicts b_Model_conflicts 4 (some .int) := ⟨m_626, m_623, m_625, m_19, m_33⟩
theorem cl_Model_109 : sy_LV R_Model 109 y_Model_isHere b_Model_isHere 3 (some .boolean) := ⟨m_634, m_631, m_633, m_21, m_33⟩
theorem cl_Model_112 : sy_LV R_Model 112 y_Model_isChosen b_Model_isChosen 3 (some .boolean) := ⟨m_638, m_635, m_637, m_22, m_33⟩
theorem cl_Model_115 : sy_LV R_Model 115 y_Model_isSameKey b_Model_isSameKey 3 (some .boolean) := ⟨m_642, m_639, m_641, m_23, m_33⟩
theorem cl_Model_118 : sy_LV R_Model 118 y_Model_isBefore b_Model_isBefore 3 (some .boolean) := ⟨m_658, m_655, m_657, m_25, m_33⟩
theorem cl_Model_121 : sy_LV R_Model 121 y_Model_isSeen b_Model_isSeen 6 (some .boolean) := ⟨m_654, m_651, m_653, m_24, m_33⟩
theorem cl_Model_126 : sy_LV R_Model 126 y_Model_isLater b_Model_isLater 3 (some .boolean) := ⟨m_667, m_664, m_666, m_26, m_33⟩
theorem cl_Model_129 : sy_LV R_Model 129 y_Model_nextNumber b_Model_nextNumber 8 (some .int) := ⟨m_675, m_672, m_674, m_27, m_33⟩
theorem cl_Model_133 : sy_LV R_Model 133 y_Model_isConflict b_Model_isConflict 6 (some .boolean) := ⟨m_630, m_627, m_629, m_20, m_33⟩
theorem cl_Model_136 : sy_LV R_Model 136 y_Model_isKeyBefore b_Model_isKeyBefore 3 (some .boolean) := ⟨m_683, m_680, m_682, m_28, m_33⟩
theorem cl_Model_144 : sy_LS R_Model 144 y_Model_common b_Model_common 10 (some .long) := ⟨m_719, m_717, m_718, m_33⟩
theorem cl_Clock_22 : sy_LV R_Clock 22 y_Clock_markBefore b_Clock_markBefore 5 (some .int) := ⟨m_468, m_465, m_467, m_12, m_35⟩
theorem cl_Clock_26 : sy_LV R_Clock 26 y_Clock_isBetween b_Clock_isBetween 2 (some .boolean) := ⟨m_472, m_469, m_471, m_13, m_35⟩
theorem cl_Corrections_32 : sy_LV R_Corrections 32 y_Corrections_isFor b_Corrections_isFor 6 (some .boolean) := ⟨m_321, m_318, m_320, m_4, m_32⟩
theorem cl_Corrections_36 : sy_LSN R_Corrections 36 y_DeviceSets_isIn R_DeviceSets b_DeviceSets_isIn 3 (some .boolean) := ⟨m_293, m_367, m_292, m_30⟩
theorem cl_Corrections_40 : sy_LV R_Corrections 40 y_Corrections_isStronger b_Corrections_isStronger 3 (some .boolean) := ⟨m_371, m_368, m_370, m_8, m_32⟩
theorem cl_Device_9 : sy_LIN R_Device 9 y_Clock_init R_DeviceSets b_Clock_init 1 := ⟨m_148, m_146, m_147, m_35⟩
theorem cl_Tellings_38 : sy_LSN R_Tellings 38 y_DeviceSets_bit R_DeviceSets b_DeviceSets_bit 1 (some .long) := ⟨m_218, m_216, m_217, m_30⟩
theorem cl_Tellings_42 : sy_LSN R_Tellings 42 y_DeviceSets_isIn R_DeviceSets b_DeviceSets_isIn 3 (some .boolean) := ⟨m_293, m_291, m_292, m_30⟩
theorem cl_Tellings_46 : sy_LV R_Tellings 46 y_Tellings_ofKeyOf b_Tellings_ofKeyOf 7 (some .long) := ⟨m_302, m_299, m_300, m_301, m_31⟩
theorem cl_Tellings_52 : sy_LV R_Tellings 52 y_Tellings_first b_Tellings_first 5 (some .int) := ⟨m_342, m_339, m_340, m_341, m_31⟩
theorem cl_Tellings_56 : sy_LV R_Tellings 56 y_Tellings_isBefore b_Tellings_isBefore 3 (some .boolean) := ⟨m_346, m_343, m_345, m_6, m_31⟩
theorem cl_Tellings_60 : sy_LV R_Tellings 60 y_Tellings_countBefore b_Tellings_countBefore 6 (some .int) := ⟨m_399, m_396, m_398, m_11, m_31⟩
theorem cl_Tellings_64 : sy_LV R_Tellings 64 y_Tellings_isOfLater b_Tellings_isOfLater 3 (some .boolean) := ⟨m_362, m_359, m_361, m_7, m_31⟩
theorem cl_Tellings_67 : sy_LV R_Tellings 67 y_Tellings_ofGreatestLife b_Tellings_ofGreatestLife 7 (some .long) := ⟨m_383, m_380, m_382, m_9, m_31⟩
theorem cl_Tellings_71 : sy_LV R_Tellings 71 y_Tellings_nextNumber b_Tellings_nextNumber 6 (some .int) := ⟨m_387, m_384, m_386, m_10, m_31⟩
theorem cl_ToldSet_11 : sy_LIN R_ToldSet 11 y_Held_init R_DeviceSets b_Held_init 1 := ⟨m_227, m_225, m_226, m_37⟩
theorem cl_ToldSet_29 : sy_LV R_ToldSet 29 y_Held_takeIn b_Held_takeIn 3 (some .boolean) := ⟨m_274, m_271, m_272, m_273, m_37⟩
theorem cl_ToldSet_33 : sy_LV R_ToldSet 33 y_Held_clear b_Held_clear 1 none := ⟨m_433, m_430, m_431, m_432, m_37⟩
theorem cl_Law_9 : sy_LI R_Law 9 y_DeviceSets_init b_DeviceSets_init 1 := ⟨m_44, m_42, m_43, m_30⟩
theorem cl_Law_12 : sy_LI R_Law 12 y_Model_init b_Model_init 2 := ⟨m_503, m_501, m_502, m_33⟩
theorem cl_Law_13 : sy_LV R_Law 13 y_DeviceSets_device b_DeviceSets_device 1 (some .int) := ⟨m_138, m_135, m_136, m_137, m_30⟩
theorem cl_Law_17 : sy_LV R_Law 17 y_Model_device b_Model_device 1 (some .int) := ⟨m_579, m_576, m_577, m_578, m_33⟩
theorem cl_Law_20 : sy_LV R_Law 20 y_DeviceSets_tell b_DeviceSets_tell 12 (some .int) := ⟨m_174, m_171, m_172, m_173, m_30⟩
theorem cl_Law_24 : sy_LV R_Law 24 y_Model_tell b_Model_tell 12 (some .int) := ⟨m_583, m_580, m_581, m_582, m_33⟩
theorem cl_Law_25 : sy_LV R_Law 25 y_DeviceSets_reset b_DeviceSets_reset 5 (some .boolean) := ⟨m_202, m_199, m_200, m_201, m_30⟩
theorem cl_Law_29 : sy_LV R_Law 29 y_Model_reset b_Model_reset 4 (some .boolean) := ⟨m_598, m_595, m_596, m_597, m_33⟩
theorem cl_Law_30 : sy_LV R_Law 30 y_DeviceSets_life b_DeviceSets_life 3 (some .int) := ⟨m_206, m_203, m_204, m_205, m_30⟩
theorem cl_Law_34 : sy_LV R_Law 34 y_Model_life b_Model_life 2 (some .int) := ⟨m_602, m_599, m_600, m_601, m_33⟩
theorem cl_Law_35 : sy_LV R_Law 35 y_DeviceSets_set b_DeviceSets_set 2 (some .int) := ⟨m_210, m_207, m_208, m_209, m_30⟩
theorem cl_Law_38 : sy_LV R_Law 38 y_Model_set b_Model_set 3 (some .int) := ⟨m_606, m_603, m_604, m_605, m_33⟩
theorem cl_Law_39 : sy_LV R_Law 39 y_DeviceSets_join b_DeviceSets_join 5 (some .int) := ⟨m_262, m_259, m_260, m_261, m_30⟩
theorem cl_Law_43 : sy_LV R_Law 43 y_Model_join b_Model_join 4 (some .int) := ⟨m_610, m_607, m_608, m_609, m_33⟩
theorem cl_Law_44 : sy_LV R_Law 44 y_DeviceSets_correct b_DeviceSets_correct 12 (some .boolean) := ⟨m_313, m_310, m_311, m_312, m_30⟩
theorem cl_Law_48 : sy_LV R_Law 48 y_Model_correct b_Model_correct 11 (some .boolean) := ⟨m_646, m_643, m_644, m_645, m_33⟩
theorem cl_Law_49 : sy_LV R_Law 49 y_DeviceSets_last b_DeviceSets_last 6 (some .long) := ⟨m_325, m_322, m_323, m_324, m_30⟩
theorem cl_Law_53 : sy_LV R_Law 53 y_Model_last b_Model_last 7 (some .long) := ⟨m_650, m_647, m_648, m_649, m_33⟩
theorem cl_Law_54 : sy_LV R_Law 54 y_DeviceSets_known b_DeviceSets_known 11 (some .long) := ⟨m_354, m_351, m_352, m_353, m_30⟩
theorem cl_Law_58 : sy_LV R_Law 58 y_Model_known b_Model_known 13 (some .long) := ⟨m_663, m_660, m_661, m_662, m_33⟩
theorem cl_Law_59 : sy_LV R_Law 59 y_DeviceSets_gap b_DeviceSets_gap 5 (some .int) := ⟨m_375, m_372, m_373, m_374, m_30⟩
theorem cl_Law_63 : sy_LV R_Law 63 y_Model_gap b_Model_gap 9 (some .int) := ⟨m_671, m_668, m_669, m_670, m_33⟩
theorem cl_Law_64 : sy_LV R_Law 64 y_DeviceSets_conflict b_DeviceSets_conflict 6 (some .int) := ⟨m_391, m_388, m_389, m_390, m_30⟩
theorem cl_Law_67 : sy_LV R_Law 67 y_Model_conflict b_Model_conflict 7 (some .int) := ⟨m_679, m_676, m_677, m_678, m_33⟩
theorem cl_Law_68 : sy_LV R_Law 68 y_DeviceSets_settle b_DeviceSets_settle 8 (some .int) := ⟨m_407, m_404, m_405, m_406, m_30⟩
theorem cl_Law_72 : sy_LV R_Law 72 y_Model_settle b_Model_settle 9 (some .int) := ⟨m_687, m_684, m_685, m_686, m_33⟩
theorem cl_Law_73 : sy_LV R_Law 73 y_DeviceSets_equal b_DeviceSets_equal 5 (some .boolean) := ⟨m_413, m_410, m_411, m_412, m_30⟩
theorem cl_Law_77 : sy_LV R_Law 77 y_Model_equal b_Model_equal 7 (some .boolean) := ⟨m_691, m_688, m_689, m_690, m_33⟩
theorem cl_Law_78 : sy_LV R_Law 78 y_DeviceSets_batch b_DeviceSets_batch 3 (some .int) := ⟨m_421, m_418, m_419, m_420, m_30⟩
theorem cl_Law_81 : sy_LV R_Law 81 y_Model_batch b_Model_batch 4 (some .int) := ⟨m_695, m_692, m_693, m_694, m_33⟩
theorem cl_Law_82 : sy_LV R_Law 82 y_DeviceSets_endBatch b_DeviceSets_endBatch 4 (some .boolean) := ⟨m_425, m_422, m_423, m_424, m_30⟩
theorem cl_Law_86 : sy_LV R_Law 86 y_Model_endBatch b_Model_endBatch 4 (some .boolean) := ⟨m_699, m_696, m_697, m_698, m_33⟩
theorem cl_Law_87 : sy_LV R_Law 87 y_DeviceSets_retain b_DeviceSets_retain 7 (some .int) := ⟨m_437, m_434, m_435, m_436, m_30⟩
theorem cl_Law_91 : sy_LV R_Law 91 y_Model_retain b_Model_retain 6 (some .int) := ⟨m_703, m_700, m_701, m_702, m_33⟩
theorem cl_Law_92 : sy_LV R_Law 92 y_DeviceSets_kept b_DeviceSets_kept 4 (some .long) := ⟨m_444, m_441, m_442, m_443, m_30⟩
theorem cl_Law_96 : sy_LV R_Law 96 y_Model_kept b_Model_kept 6 (some .long) := ⟨m_708, m_705, m_706, m_707, m_33⟩
theorem cl_Law_97 : sy_LV R_Law 97 y_DeviceSets_mark b_DeviceSets_mark 7 (some .boolean) := ⟨m_452, m_449, m_450, m_451, m_30⟩
theorem cl_Law_101 : sy_LV R_Law 101 y_Model_mark b_Model_mark 7 (some .boolean) := ⟨m_712, m_709, m_710, m_711, m_33⟩
theorem cl_Law_102 : sy_LV R_Law 102 y_DeviceSets_corrected b_DeviceSets_corrected 12 (some .long) := ⟨m_460, m_457, m_458, m_459, m_30⟩
theorem cl_Law_106 : sy_LV R_Law 106 y_Model_corrected b_Model_corrected 13 (some .long) := ⟨m_716, m_713, m_714, m_715, m_33⟩
theorem cl_Law_107 : sy_LV R_Law 107 y_DeviceSets_play b_DeviceSets_play 10 (some .int) := ⟨m_489, m_486, m_487, m_488, m_30⟩
theorem cl_Law_111 : sy_LV R_Law 111 y_Model_play b_Model_play 10 (some .int) := ⟨m_723, m_720, m_721, m_722, m_33⟩
end
section
/-! numbers below n with a property, as bits and otherwise -/
def bs_b (k : Nat) : Int64 := (1 : Int64) <<< ((nI k).toInt64 &&& 63)
def bs_in (x : Int64) (k : Nat) : Bool := decide (¬ (x &&& bs_b k) = 0)
def bs_m (p : Nat → Bool) : Nat → Int64
  | 0 => 0
  | k + 1 => if p k = true then bs_m p k ||| bs_b k else bs_m p k
def nn_any (p : Nat → Bool) : Nat → Bool
  | 0 => false
  | k + 1 => nn_any p k || p k
def nn_ct (p : Nat → Bool) : Nat → Nat
  | 0 => 0
  | k + 1 => if p k = true then nn_ct p k + 1 else nn_ct p k
def nn_sm (p : Nat → Bool) (f : Nat → Int64) : Nat → Int64
  | 0 => 0
  | k + 1 => if p k = true then nn_sm p f k + f k else nn_sm p f k
def nn_ff (p : Nat → Bool) : Nat → Option Nat
  | 0 => none
  | k + 1 => match nn_ff p k with
    | some j => some j
    | none => if p k = true then some k else none
def nn_up (lt : Nat → Nat → Bool) (k : Nat) : Option Nat → Option Nat
  | none => some k
  | some j => if lt k j = true then some k else some j
def nn_fm (p : Nat → Bool) (lt : Nat → Nat → Bool) : Nat → Option Nat
  | 0 => none
  | k + 1 => if p k = true then nn_up lt k (nn_fm p lt k) else nn_fm p lt k
theorem nn_fm_lt {p : Nat → Bool} {lt : Nat → Nat → Bool} : ∀ {n j : Nat}, nn_fm p lt n = some j → j < n := by
  intro n
  induction n with
  | zero => intro j h; simp [nn_fm] at h
  | succ n ih =>
    intro j h
    simp only [nn_fm] at h
    by_cases hp : p n = true
    · rw [if_pos hp] at h
      cases hq : nn_fm p lt n with
      | none => rw [hq] at h; simp [nn_up] at h; omega
      | some i =>
        rw [hq] at h
        have := ih hq
        simp only [nn_up] at h
        by_cases hl : lt n i = true
        · rw [if_pos hl] at h; cases h; omega
        · rw [if_neg hl] at h; cases h; omega
    · rw [if_neg hp] at h
      have := ih h
      omega
theorem nn_any_of {p : Nat → Bool} {k n : Nat} (hk : k < n) (hp : p k = true) : nn_any p n = true := by
  induction n with
  | zero => omega
  | succ n ih =>
    simp only [nn_any, Bool.or_eq_true]
    rcases Nat.lt_succ_iff_lt_or_eq.mp hk with h | h
    · exact Or.inl (ih h)
    · subst h; exact Or.inr hp
theorem nn_any_iff {p : Nat → Bool} {n : Nat} : nn_any p n = true ↔ ∃ k, k < n ∧ p k = true := by
  constructor
  · induction n with
    | zero => intro h; simp [nn_any] at h
    | succ n ih =>
      intro h
      simp only [nn_any, Bool.or_eq_true] at h
      rcases h with h | h
      · obtain ⟨k, h1, h2⟩ := ih h
        exact ⟨k, by omega, h2⟩
      · exact ⟨n, by omega, h⟩
  · rintro ⟨k, h1, h2⟩
    exact nn_any_of h1 h2
theorem nn_ff_of {p : Nat → Bool} {k n : Nat} (hk : k < n) (h0 : nn_ff p k = none) (hp : p k = true) : nn_ff p n = some k := by
  induction n with
  | zero => omega
  | succ n ih =>
    rcases Nat.lt_succ_iff_lt_or_eq.mp hk with h | h
    · simp [nn_ff, ih h]
    · subst h; simp [nn_ff, h0, hp]
theorem nn_ff_lt {p : Nat → Bool} : ∀ {n j : Nat}, nn_ff p n = some j → j < n ∧ p j = true := by
  intro n
  induction n with
  | zero => intro j h; simp [nn_ff] at h
  | succ n ih =>
    intro j h
    simp only [nn_ff] at h
    cases hq : nn_ff p n with
    | none =>
      rw [hq] at h
      by_cases hp : p n = true
      · simp [hp] at h; subst h; exact ⟨by omega, hp⟩
      · simp [hp] at h
    | some i =>
      rw [hq] at h
      cases h
      obtain ⟨h1, h2⟩ := ih hq
      exact ⟨by omega, h2⟩
theorem nn_ct_le {p : Nat → Bool} {n : Nat} : nn_ct p n ≤ n := by
  induction n with
  | zero => exact Nat.le_refl _
  | succ n ih =>
    simp only [nn_ct]
    by_cases hp : p n = true
    · rw [if_pos hp]; omega
    · rw [if_neg hp]; omega
theorem nn_fm_congr {p q : Nat → Bool} {lt lu : Nat → Nat → Bool} {n : Nat} (hp : ∀ i, i < n → p i = q i) (hl : ∀ i j, i < n → j < n → q i = true → q j = true → lt i j = lu i j) (hq : ∀ k j, k ≤ n → nn_fm q lu k = some j → q j = true) : nn_fm p lt n = nn_fm q lu n := by
  have K : ∀ k, k ≤ n → nn_fm p lt k = nn_fm q lu k := by
    intro k
    induction k with
    | zero => intro _; rfl
    | succ k ih =>
      intro hk
      have e := ih (by omega)
      simp only [nn_fm, e, hp k (by omega)]
      by_cases h : q k = true
      · rw [if_pos h, if_pos h]
        cases hf : nn_fm q lu k with
        | none => rfl
        | some j => simp only [nn_up]; rw [hl k j (by omega) (by have := nn_fm_lt hf; omega) h (hq k j (by omega) hf)]
      · rw [if_neg h, if_neg h]
  exact K n (Nat.le_refl n)
theorem nn_fm_p {p : Nat → Bool} {lt : Nat → Nat → Bool} : ∀ {n j : Nat}, nn_fm p lt n = some j → p j = true := by
  intro n
  induction n with
  | zero => intro j h; simp [nn_fm] at h
  | succ n ih =>
    intro j h
    simp only [nn_fm] at h
    by_cases hp : p n = true
    · rw [if_pos hp] at h
      cases hq : nn_fm p lt n with
      | none => rw [hq] at h; simp [nn_up] at h; subst h; exact hp
      | some i =>
        rw [hq] at h
        simp only [nn_up] at h
        by_cases hl : lt n i = true
        · rw [if_pos hl] at h; cases h; exact hp
        · rw [if_neg hl] at h; cases h; exact ih hq
    · rw [if_neg hp] at h
      exact ih h
theorem nn_fm_ext {p q : Nat → Bool} {lt lu : Nat → Nat → Bool} {n : Nat} (hp : ∀ i, i < n → p i = q i) (hl : ∀ i j, i < n → j < n → q i = true → q j = true → lt i j = lu i j) : nn_fm p lt n = nn_fm q lu n := nn_fm_congr hp hl (fun _ _ _ h => nn_fm_p h)
theorem nn_ff_ext {p q : Nat → Bool} {n : Nat} (hp : ∀ i, i < n → p i = q i) : nn_ff p n = nn_ff q n := by
  induction n with
  | zero => rfl
  | succ n ih => simp only [nn_ff, ih (fun i h => hp i (by omega)), hp n (by omega)]
theorem nn_ct_ext {p q : Nat → Bool} {n : Nat} (hp : ∀ i, i < n → p i = q i) : nn_ct p n = nn_ct q n := by
  induction n with
  | zero => rfl
  | succ n ih => simp only [nn_ct, ih (fun i h => hp i (by omega)), hp n (by omega)]
theorem nn_any_ext {p q : Nat → Bool} {n : Nat} (hp : ∀ i, i < n → p i = q i) : nn_any p n = nn_any q n := by
  induction n with
  | zero => rfl
  | succ n ih => simp only [nn_any, ih (fun i h => hp i (by omega)), hp n (by omega)]
theorem nn_sm_ext {p q : Nat → Bool} {f g : Nat → Int64} {n : Nat} (hp : ∀ i, i < n → p i = q i) (hf : ∀ i, i < n → q i = true → f i = g i) : nn_sm p f n = nn_sm q g n := by
  induction n with
  | zero => rfl
  | succ n ih =>
    simp only [nn_sm, ih (fun i h => hp i (by omega)) (fun i h => hf i (by omega)), hp n (by omega)]
    by_cases h : q n = true
    · rw [if_pos h, if_pos h, hf n (by omega) h]
    · rw [if_neg h, if_neg h]
theorem bs_m_ext {p q : Nat → Bool} {n : Nat} (hp : ∀ i, i < n → p i = q i) : bs_m p n = bs_m q n := by
  induction n with
  | zero => rfl
  | succ n ih => simp only [bs_m, ih (fun i h => hp i (by omega)), hp n (by omega)]
/-! the class's rows of tellings: fI 0 device, 1 life, 2 number, 3 kind; fL 0 second, 1 value, 2 on -/
def tl_sk (fI : Nat → Nat → Int32) (i t : Nat) : Bool := decide (fI 0 i = fI 0 t) && decide (fI 1 i = fI 1 t) && decide (fI 2 i = fI 2 t) && decide (fI 3 i = fI 3 t)
def tl_bf (fI : Nat → Nat → Int32) (fL : Nat → Nat → Int64) (a b : Nat) : Bool :=
  if ¬ fI 0 a = fI 0 b then decide (fI 0 a < fI 0 b) else if ¬ fI 1 a = fI 1 b then decide (fI 1 a < fI 1 b) else if ¬ fI 2 a = fI 2 b then decide (fI 2 a < fI 2 b) else if ¬ fI 3 a = fI 3 b then decide (fI 3 a < fI 3 b) else if ¬ fL 0 a = fL 0 b then decide (fL 0 a < fL 0 b) else decide (fL 1 a < fL 1 b)
def tl_eq (fI : Nat → Nat → Int32) (fL : Nat → Nat → Int64) (d lf nu kd : Int32) (se v : Int64) (i : Nat) : Bool := decide (fI 0 i = d) && decide (fI 1 i = lf) && decide (fI 2 i = nu) && decide (fI 3 i = kd) && decide (fL 0 i = se) && decide (fL 1 i = v)
def tl_has (fI : Nat → Nat → Int32) (fL : Nat → Nat → Int64) (n : Nat) (d lf nu kd : Int32) (se v : Int64) : Bool := nn_any (tl_eq fI fL d lf nu kd se v) n
def tl_pD (fI : Nat → Nat → Int32) (d : Int32) (i : Nat) : Bool := decide (fI 0 i = d)
def tl_ofD (fI : Nat → Nat → Int32) (n : Nat) (d : Int32) : Int64 := bs_m (tl_pD fI d) n
def tl_pK (fI : Nat → Nat → Int32) (d k : Int32) (i : Nat) : Bool := decide (fI 0 i = d) && decide (fI 3 i = k)
def tl_ofK (fI : Nat → Nat → Int32) (n : Nat) (d k : Int32) : Int64 := bs_m (tl_pK fI d k) n
def tl_pN (fL : Nat → Nat → Int64) (bd am : Int64) (i : Nat) : Bool := bs_in am i && decide (bd ≤ fL 0 i)
def tl_nb (fL : Nat → Nat → Int64) (n : Nat) (bd am : Int64) : Int64 := bs_m (tl_pN fL bd am) n
def tl_pS (fI : Nat → Nat → Int32) (t : Nat) (am : Int64) (i : Nat) : Bool := bs_in am i && tl_sk fI i t
def tl_key (fI : Nat → Nat → Int32) (n t : Nat) (am : Int64) : Int64 := bs_m (tl_pS fI t am) n
def tl_usr (fI : Nat → Nat → Int32) (n : Nat) (lv : Int64) : Nat → Int64
  | 0 => lv
  | k + 1 => if bs_in (tl_usr fI n lv k) k = true then tl_usr fI n lv k &&& (tl_key fI n k lv ^^^ (-1)) else tl_usr fI n lv k
def tl_pU (fI : Nat → Nat → Int32) (n : Nat) (lv ch : Int64) (i : Nat) : Bool := bs_in (tl_usr fI n lv i) i && !decide (tl_key fI n i lv = bs_b i) && decide (tl_key fI n i lv &&& ch = 0)
def tl_us (fI : Nat → Nat → Int32) (n : Nat) (lv ch : Int64) : Int64 := bs_m (tl_pU fI n lv ch) n
def tl_first (fI : Nat → Nat → Int32) (fL : Nat → Nat → Int64) (n : Nat) (am : Int64) : Option Nat := nn_fm (bs_in am) (tl_bf fI fL) n
def tl_pH (fI : Nat → Nat → Int32) (fL : Nat → Nat → Int64) (n : Nat) (lv ch : Int64) (i : Nat) : Bool := bs_in lv i && (decide (tl_key fI n i lv = bs_b i) || decide (tl_first fI fL n (tl_key fI n i lv &&& ch) = some i))
def tl_hold (fI : Nat → Nat → Int32) (fL : Nat → Nat → Int64) (n : Nat) (lv ch : Int64) : Int64 := bs_m (tl_pH fI fL n lv ch) n
def tl_pC (fI : Nat → Nat → Int32) (fL : Nat → Nat → Int64) (t : Nat) (am : Int64) (i : Nat) : Bool := bs_in am i && tl_bf fI fL i t
def tl_cb (fI : Nat → Nat → Int32) (fL : Nat → Nat → Int64) (n t : Nat) (am : Int64) : Nat := nn_ct (tl_pC fI fL t am) n
def tl_pI (fI : Nat → Nat → Int32) (fL : Nat → Nat → Int64) (n : Nat) (am : Int64) (pl : Int32) (i : Nat) : Bool := bs_in am i && decide (nI (tl_cb fI fL n i am) = pl)
def tl_ip (fI : Nat → Nat → Int32) (fL : Nat → Nat → Int64) (n : Nat) (am : Int64) (pl : Int32) : Option Nat := nn_ff (tl_pI fI fL n am pl) n
def tl_fb (fI : Nat → Nat → Int32) (fL : Nat → Nat → Int64) (i j : Nat) : Bool := tl_bf fI fL j i
def tl_ln (fI : Nat → Nat → Int32) (fL : Nat → Nat → Int64) (n : Nat) (am : Int64) : Option Nat := nn_fm (bs_in am) (tl_fb fI fL) n
def tl_lt (fI : Nat → Nat → Int32) (fL : Nat → Nat → Int64) (a b : Nat) : Bool := if ¬ fL 0 a = fL 0 b then decide (fL 0 b < fL 0 a) else tl_bf fI fL b a
def tl_pL (fL : Nat → Nat → Int64) (am up ao : Int64) (i : Nat) : Bool := bs_in am i && decide (fL 0 i ≤ up) && decide (fL 2 i ≤ ao)
def tl_lk (fI : Nat → Nat → Int32) (fL : Nat → Nat → Int64) (n : Nat) (am up ao : Int64) : Option Nat := nn_fm (tl_pL fL am up ao) (tl_lt fI fL) n
def tl_pW (fI : Nat → Nat → Int32) (am : Int64) (k : Int32) (i : Nat) : Bool := bs_in am i && decide (fI 3 i = k)
def tl_sum (fI : Nat → Nat → Int32) (fL : Nat → Nat → Int64) (n : Nat) (am : Int64) (k : Int32) : Int64 := nn_sm (tl_pW fI am k) (fL 1) n
def ok_num (x : Int64) : Bool := decide (0 ≤ x) && decide (x ≤ 1000000)
def ok_kind (x : Int32) : Bool := decide (0 ≤ x) && decide (x < 4)
def ok_val (x : Int64) : Bool := decide (-1000000000 ≤ x) && decide (x ≤ 1000000000)
def dr_next (x : Int64) : Int64 := x * 6364136223846793005 + 1442695040888963407
/-! corrections: fI 0 device, 1 kind; fL 0 second, 1 value, 2 told -/
def co_for (fI : Nat → Nat → Int32) (fL : Nat → Nat → Int64) (d kd : Int32) (se : Int64) (i : Nat) : Bool := decide (fI 0 i = d) && decide (fI 1 i = kd) && decide (fL 0 i = se)
def co_st (fL : Nat → Nat → Int64) (a b : Nat) : Bool := if ¬ fL 2 a = fL 2 b then decide (fL 2 b < fL 2 a) else decide (fL 1 b < fL 1 a)
def co_p (fI : Nat → Nat → Int32) (fL : Nat → Nat → Int64) (am : Int64) (d kd : Int32) (se ao : Int64) (i : Nat) : Bool := bs_in am i && co_for fI fL d kd se i && decide (fL 2 i ≤ ao)
def co_la (fI : Nat → Nat → Int32) (fL : Nat → Nat → Int64) (n : Nat) (am : Int64) (d kd : Int32) (se ao : Int64) : Option Nat := nn_fm (co_p fI fL am d kd se ao) (co_st fL) n
/-! a clock's marks: fL 0 seconds, 1 true seconds -/
def nn_fl (p : Nat → Bool) : Nat → Option Nat
  | 0 => none
  | k + 1 => if p k = true then some k else nn_fl p k
theorem nn_fl_lt {p : Nat → Bool} : ∀ {n j : Nat}, nn_fl p n = some j → j < n := by
  intro n
  induction n with
  | zero => intro j h; simp [nn_fl] at h
  | succ n ih =>
    intro j h
    simp only [nn_fl] at h
    by_cases hp : p n = true
    · rw [if_pos hp] at h; cases h; omega
    · rw [if_neg hp] at h; have := ih h; omega
def ck_bt (n : Nat) (o : Option Nat) : Bool := match o with
  | none => false
  | some j => decide (j + 1 < n)
def ck_p (fL : Nat → Nat → Int64) (x : Int64) (i : Nat) : Bool := decide (fL 0 i ≤ x)
def ck_mb (fL : Nat → Nat → Int64) (n : Nat) (x : Int64) : Option Nat := nn_fl (ck_p fL x) n
def tl_nx (fI : Nat → Nat → Int32) (am : Int64) (af : Int32) : Nat → Int32
  | 0 => -1
  | k + 1 => if bs_in am k = true ∧ ¬ fI 2 k ≤ af ∧ (tl_nx fI am af k = -1 ∨ fI 2 k < tl_nx fI am af k) then fI 2 k else tl_nx fI am af k
def tl_gl (fI : Nat → Nat → Int32) (am : Int64) : Nat → Int32 × Int64
  | 0 => (-1, 0)
  | k + 1 => if bs_in am k = true then (if (tl_gl fI am k).1 < fI 1 k then (fI 1 k, 0 ||| bs_b k) else if fI 1 k = (tl_gl fI am k).1 then ((tl_gl fI am k).1, (tl_gl fI am k).2 ||| bs_b k) else tl_gl fI am k) else tl_gl fI am k

/-! the reference's rows: mI 0 lives, 2 device, 3 life, 4 number, 5 kind, 6 second, 8 on, 14 open, 15 marks, 16 seconds of marks, 17 true ones; mL 1 begins, 7 value, 9 fixes, 13 bounds; mZ 10 has, 11 chosen, 12 fixed; sc 0 devices, 1 tellings, 2 corrections, 3 sets, 4 batches -/
def mo_in (v lo hi : Int64) : Bool := decide (lo ≤ v) && decide (v ≤ hi)
def mo_ok (n : Nat) (d : Int32) : Bool := decide (0 ≤ d) && decide (d < nI n)
theorem mo_ix {n : Nat} {d : Int32} (hn : n < 2 ^ 31) (h : mo_ok n d = true) : ∃ z, z < n ∧ d = nI z := by
  simp only [mo_ok, Bool.and_eq_true, decide_eq_true_eq] at h
  obtain ⟨j, hj, rfl⟩ := nI_of (x := d) (fun q => by rw [Int32.lt_iff_toInt_lt] at q; have := Int32.le_iff_toInt_le.mp h.1; omega)
  exact ⟨j, (nI_ltI hj hn).mp h.2, rfl⟩
def mo_he (mI : Nat → Nat → Int32) (mL : Nat → Nat → Int64) (mZ : Nat → Nat → Bool) (z i : Nat) : Bool := mZ 10 (60 * z + i) && decide (mL 13 z ≤ (mI 6 i).toInt64)
def mo_cs (mI : Nat → Nat → Int32) (mL : Nat → Nat → Int64) (mZ : Nat → Nat → Bool) (z i : Nat) : Bool := mo_he mI mL mZ z i && mZ 11 (60 * z + i)
def mo_sk (mI : Nat → Nat → Int32) (i j : Nat) : Bool := decide (mI 2 i = mI 2 j) && decide (mI 3 i = mI 3 j) && decide (mI 4 i = mI 4 j) && decide (mI 5 i = mI 5 j)
def mo_bf (mI : Nat → Nat → Int32) (mL : Nat → Nat → Int64) (i j : Nat) : Bool := if ¬ mI 6 i = mI 6 j then decide (mI 6 i < mI 6 j) else decide (mL 7 i < mL 7 j)
def mo_lt (mI : Nat → Nat → Int32) (i j : Nat) : Bool := if ¬ mI 6 i = mI 6 j then decide (mI 6 j < mI 6 i) else if ¬ mI 3 i = mI 3 j then decide (mI 3 j < mI 3 i) else decide (mI 4 j < mI 4 i)
def mo_kb (mI : Nat → Nat → Int32) (i j : Nat) : Bool := if ¬ mI 2 i = mI 2 j then decide (mI 2 i < mI 2 j) else if ¬ mI 3 i = mI 3 j then decide (mI 3 i < mI 3 j) else if ¬ mI 4 i = mI 4 j then decide (mI 4 i < mI 4 j) else decide (mI 5 i < mI 5 j)
def mo_so (mI : Nat → Nat → Int32) (mL : Nat → Nat → Int64) (mZ : Nat → Nat → Bool) (z i j : Nat) : Bool := !decide (j = i) && mo_sk mI i j && mo_he mI mL mZ z j
def mo_sp (mI : Nat → Nat → Int32) (mL : Nat → Nat → Int64) (mZ : Nat → Nat → Bool) (z i j : Nat) : Bool := mo_so mI mL mZ z i j && (mo_cs mI mL mZ z j && mo_bf mI mL j i)
def mo_se (mI : Nat → Nat → Int32) (mL : Nat → Nat → Int64) (mZ : Nat → Nat → Bool) (n z i : Nat) : Bool := mo_he mI mL mZ z i && (!nn_any (mo_so mI mL mZ z i) n || (mo_cs mI mL mZ z i && !nn_any (mo_sp mI mL mZ z i) n))
def mo_cc (mI : Nat → Nat → Int32) (mL : Nat → Nat → Int64) (mZ : Nat → Nat → Bool) (z i j : Nat) : Bool := mo_so mI mL mZ z i j && mo_cs mI mL mZ z j
def mo_ce (mI : Nat → Nat → Int32) (mL : Nat → Nat → Int64) (mZ : Nat → Nat → Bool) (z i j : Nat) : Bool := decide (j < i) && mo_so mI mL mZ z i j
def mo_cf (mI : Nat → Nat → Int32) (mL : Nat → Nat → Int64) (mZ : Nat → Nat → Bool) (n z i : Nat) : Bool := mo_he mI mL mZ z i && (!nn_any (mo_ce mI mL mZ z i) n && (nn_any (mo_so mI mL mZ z i) n && !(mo_cs mI mL mZ z i || nn_any (mo_cc mI mL mZ z i) n)))
def mo_cn (mI : Nat → Nat → Int32) (mL : Nat → Nat → Int64) (mZ : Nat → Nat → Bool) (n z : Nat) : Nat := nn_ct (mo_cf mI mL mZ n z) n
def mo_life (sc : Nat → Nat) (mI : Nat → Nat → Int32) (d : Int32) : Int32 := if mo_ok (sc 0) d = true then mI 0 d.toNatClampNeg else -1
def mo_kq (sc : Nat → Nat) (mI : Nat → Nat → Int32) (mL : Nat → Nat → Int64) (mZ : Nat → Nat → Bool) (d kd : Int32) (i : Nat) : Bool := mo_ok (sc 3) d && (decide (mI 5 i = kd) && (mZ 10 (60 * d.toNatClampNeg + i) && !mo_he mI mL mZ d.toNatClampNeg i))
def mo_kept (sc : Nat → Nat) (mI : Nat → Nat → Int32) (mL : Nat → Nat → Int64) (mZ : Nat → Nat → Bool) (d kd : Int32) : Int64 := nn_sm (mo_kq sc mI mL mZ d kd) (mL 7) (sc 1)
def mo_ll (mI : Nat → Nat → Int32) (i j : Nat) : Bool := decide (mI 3 j < mI 3 i) || (decide (mI 3 i = mI 3 j) && decide (mI 4 j < mI 4 i))
def mo_lp (sc : Nat → Nat) (mI : Nat → Nat → Int32) (mL : Nat → Nat → Int64) (mZ : Nat → Nat → Bool) (d dv kd : Int32) (i : Nat) : Bool := mo_ok (sc 3) d && (decide (mI 2 i = dv) && (decide (mI 5 i = kd) && mo_se mI mL mZ (sc 1) d.toNatClampNeg i))
def mo_vo (mL : Nat → Nat → Int64) : Option Nat → Int64
  | none => -9223372036854775808
  | some j => mL 7 j
def mo_last (sc : Nat → Nat) (mI : Nat → Nat → Int32) (mL : Nat → Nat → Int64) (mZ : Nat → Nat → Bool) (d dv kd : Int32) : Int64 := mo_vo mL (nn_fm (mo_lp sc mI mL mZ d dv kd) (mo_ll mI) (sc 1))
def mo_q1 (mZ : Nat → Nat → Bool) (z y i : Nat) : Bool := !(decide (mZ 10 (60 * z + i) = mZ 10 (60 * y + i)) && decide (mZ 11 (60 * z + i) = mZ 11 (60 * y + i)))
def mo_q2 (mZ : Nat → Nat → Bool) (z y i : Nat) : Bool := !decide (mZ 12 (20 * z + i) = mZ 12 (20 * y + i))
def mo_equal (sc : Nat → Nat) (mL : Nat → Nat → Int64) (mZ : Nat → Nat → Bool) (d dv : Int32) : Bool := mo_ok (sc 3) d && (mo_ok (sc 3) dv && (decide (mL 13 d.toNatClampNeg = mL 13 dv.toNatClampNeg) && !nn_any (mo_q1 mZ d.toNatClampNeg dv.toNatClampNeg) 60 && !nn_any (mo_q2 mZ d.toNatClampNeg dv.toNatClampNeg) 20))
abbrev ms_S : Type := (Nat → Nat) × (Nat → Nat → Int32) × (Nat → Nat → Int64) × (Nat → Nat → Bool)
def mo_device (sc : Nat → Nat) (mI : Nat → Nat → Int32) (mL : Nat → Nat → Int64) (mZ : Nat → Nat → Bool) : Int32 × ms_S := if sc 0 = 4 then (-1, sc, mI, mL, mZ) else (nI (sc 0), va_up sc 0 (sc 0 + 1), mI, mL, mZ)
def mo_reset (sc : Nat → Nat) (mI : Nat → Nat → Int32) (mL : Nat → Nat → Int64) (mZ : Nat → Nat → Bool) (d : Int32) (x : Int64) : Bool × ms_S :=
  if mo_ok (sc 0) d = true ∧ mo_in x 0 1000000 = true ∧ ¬ mI 0 d.toNatClampNeg = 99 then (true, sc, va_up mI 0 (upd (mI 0) d.toNatClampNeg (mI 0 d.toNatClampNeg + 1)), va_up mL 1 (vp_updL (mL 1) d.toNatClampNeg x), mZ) else (false, sc, mI, mL, mZ)
def jb_h (mZ : Nat → Nat → Bool) (to fr : Nat) : Nat → Nat → Bool
  | 0 => mZ 10
  | k + 1 => va_up (jb_h mZ to fr k) (60 * to + k) (jb_h mZ to fr k (60 * to + k) || jb_h mZ to fr k (60 * fr + k))
def jb_c (mZ : Nat → Nat → Bool) (to fr : Nat) : Nat → Nat → Bool
  | 0 => mZ 11
  | k + 1 => va_up (jb_c mZ to fr k) (60 * to + k) (jb_c mZ to fr k (60 * to + k) || jb_c mZ to fr k (60 * fr + k))
def jb_f (mZ : Nat → Nat → Bool) (to fr : Nat) : Nat → Nat → Bool
  | 0 => mZ 12
  | k + 1 => va_up (jb_f mZ to fr k) (20 * to + k) (jb_f mZ to fr k (20 * to + k) || jb_f mZ to fr k (20 * fr + k))
def jb_g (mL : Nat → Nat → Int64) (mZ : Nat → Nat → Bool) (to fr : Nat) : Nat → Bool
  | 0 => decide (mL 13 to < mL 13 fr)
  | k + 1 => jb_g mL mZ to fr k || ((jb_h mZ to fr k (60 * fr + k) && !jb_h mZ to fr k (60 * to + k)) || (jb_c mZ to fr k (60 * fr + k) && !jb_c mZ to fr k (60 * to + k)))
def jb_e (mL : Nat → Nat → Int64) (mZ : Nat → Nat → Bool) (to fr : Nat) : Nat → Bool
  | 0 => jb_g mL mZ to fr 60
  | k + 1 => jb_e mL mZ to fr k || (jb_f mZ to fr k (20 * fr + k) && !jb_f mZ to fr k (20 * to + k))
def jb_b (mL : Nat → Nat → Int64) (to fr : Nat) : Nat → Int64 := vp_updL (mL 13) to (if mL 13 to < mL 13 fr then mL 13 fr else mL 13 to)
def mo_bring (sc : Nat → Nat) (mI : Nat → Nat → Int32) (mL : Nat → Nat → Int64) (mZ : Nat → Nat → Bool) (to fr : Nat) : Bool × ms_S := (jb_e mL mZ to fr 20, sc, mI, va_up mL 13 (jb_b mL to fr), va_up (va_up (va_up mZ 10 (jb_h mZ to fr 60)) 11 (jb_c mZ to fr 60)) 12 (jb_f mZ to fr 20))
def mo_joinTo (sc : Nat → Nat) (mI : Nat → Nat → Int32) (mL : Nat → Nat → Int64) (mZ : Nat → Nat → Bool) (z y : Nat) : Bool × ms_S := mo_bring sc mI mL mZ (if 0 ≤ mI 14 z then 6 + z else z) y
def mo_te (mI : Nat → Nat → Int32) (mL : Nat → Nat → Int64) (d : Int32) (x : Int64) (kd : Int32) (se v : Int64) (i : Nat) : Bool := decide (mI 2 i = d) && (decide (mI 3 i = mI 0 d.toNatClampNeg) && (decide ((mI 4 i).toInt64 = x) && (decide (mI 5 i = kd) && (decide ((mI 6 i).toInt64 = se) && decide (mL 7 i = v)))))
def mo_tok (sc : Nat → Nat) (mL : Nat → Nat → Int64) (d : Int32) (x : Int64) (kd : Int32) (se v wh : Int64) : Bool := mo_ok (sc 0) d && (mo_in x (mL 1 d.toNatClampNeg) 1000000 && (mo_in kd.toInt64 0 3 && (mo_in se 0 1000000 && (mo_in v (-1000000000) 1000000000 && mo_in wh 0 1000000))))
def mo_tell (sc : Nat → Nat) (mI : Nat → Nat → Int32) (mL : Nat → Nat → Int64) (mZ : Nat → Nat → Bool) (d : Int32) (x : Int64) (kd : Int32) (se v wh : Int64) : Int32 × ms_S :=
  if mo_tok sc mL d x kd se v wh = false then (-1, sc, mI, mL, mZ) else if nn_any (mo_te mI mL d x kd se v) (sc 1) = true then (0, sc, mI, mL, mZ) else if sc 1 = 60 then (-1, sc, mI, mL, mZ) else
  (1, va_up sc 1 (sc 1 + 1), va_up (va_up (va_up (va_up (va_up (va_up mI 2 (upd (mI 2) (sc 1) d)) 3 (upd (mI 3) (sc 1) (mI 0 d.toNatClampNeg))) 4 (upd (mI 4) (sc 1) x.toInt32)) 5 (upd (mI 5) (sc 1) kd)) 6 (upd (mI 6) (sc 1) se.toInt32)) 8 (upd (mI 8) (sc 1) wh.toInt32), va_up mL 7 (vp_updL (mL 7) (sc 1) v), mZ)
def mo_zs (sc : Nat → Nat) (mI : Nat → Nat → Int32) (mZ : Nat → Nat → Bool) (d : Int32) : Nat → Nat → Bool
  | 0 => mZ 10
  | k + 1 => va_up (mo_zs sc mI mZ d k) (60 * sc 3 + k) (decide (mI 2 k = d))
def mo_set (sc : Nat → Nat) (mI : Nat → Nat → Int32) (mL : Nat → Nat → Int64) (mZ : Nat → Nat → Bool) (d : Int32) : Int32 × ms_S := if mo_ok (sc 0) d = false ∨ sc 3 = 6 then (-1, sc, mI, mL, mZ) else (nI (sc 3), va_up sc 3 (sc 3 + 1), mI, mL, va_up mZ 10 (mo_zs sc mI mZ d (sc 1)))
def mo_join (sc : Nat → Nat) (mI : Nat → Nat → Int32) (mL : Nat → Nat → Int64) (mZ : Nat → Nat → Bool) (d dv : Int32) : Int32 × ms_S := if mo_ok (sc 3) d = true ∧ mo_ok (sc 3) dv = true then (nI (mo_cn (mo_joinTo sc mI mL mZ d.toNatClampNeg dv.toNatClampNeg).2.2.1 (mo_joinTo sc mI mL mZ d.toNatClampNeg dv.toNatClampNeg).2.2.2.1 (mo_joinTo sc mI mL mZ d.toNatClampNeg dv.toNatClampNeg).2.2.2.2 (sc 1) d.toNatClampNeg), (mo_joinTo sc mI mL mZ d.toNatClampNeg dv.toNatClampNeg).2) else (-1, sc, mI, mL, mZ)

abbrev tl_S : Type := Nat × (Nat → Nat → Int32) × (Nat → Nat → Int64)
abbrev ck_S : Type := Nat × (Nat → Nat → Int64)
def tl_add (n : Nat) (fI : Nat → Nat → Int32) (fL : Nat → Nat → Int64) (d lf nu kd : Int32) (se v wh : Int64) : Bool × tl_S := if 60 ≤ n then (false, n, fI, fL) else (true, n + 1, va_up (va_up (va_up (va_up fI 0 (upd (fI 0) n d)) 1 (upd (fI 1) n lf)) 2 (upd (fI 2) n nu)) 3 (upd (fI 3) n kd), va_up (va_up (va_up fL 0 (vp_updL (fL 0) n se)) 1 (vp_updL (fL 1) n v)) 2 (vp_updL (fL 2) n wh))
def co_eq (fI : Nat → Nat → Int32) (fL : Nat → Nat → Int64) (d kd : Int32) (se v wh : Int64) (i : Nat) : Bool := co_for fI fL d kd se i && (decide (fL 1 i = v) && decide (fL 2 i = wh))
def co_put (n : Nat) (fI : Nat → Nat → Int32) (fL : Nat → Nat → Int64) (d kd : Int32) (se v wh : Int64) : tl_S := (n + 1, va_up (va_up fI 0 (upd (fI 0) n d)) 1 (upd (fI 1) n kd), va_up (va_up (va_up fL 0 (vp_updL (fL 0) n se)) 1 (vp_updL (fL 1) n v)) 2 (vp_updL (fL 2) n wh))
def co_add (n : Nat) (fI : Nat → Nat → Int32) (fL : Nat → Nat → Int64) (d kd : Int32) (se v wh : Int64) : Option Nat × tl_S := match nn_ff (co_eq fI fL d kd se v wh) n with
  | some i => (some i, n, fI, fL)
  | none => if 20 ≤ n then (none, n, fI, fL) else (some n, co_put n fI fL d kd se v wh)
def ck_add (n : Nat) (fL : Nat → Nat → Int64) (x y : Int64) : Bool × ck_S := if 10 ≤ n ∨ (0 < n ∧ (x ≤ fL 0 (n - 1) ∨ y < fL 1 (n - 1))) then (false, n, fL) else (true, n + 1, va_up (va_up fL 0 (vp_updL (fL 0) n x)) 1 (vp_updL (fL 1) n y))

def xa_at (g : Nat → Nat) (b w n : Nat) (d : Int32) : Option Nat := if mo_ok n d = true then some (g (b + w * d.toNatClampNeg)) else none
def xl_live (fL : Nat → Nat → Int64) (n : Nat) (hf : Nat → Int64) : Int64 := tl_nb fL n (hf 3) (hf 0)
def xl_conf (fI : Nat → Nat → Int32) (fL : Nat → Nat → Int64) (n : Nat) (hf : Nat → Int64) : Int64 := tl_us fI n (xl_live fL n hf) (hf 2)
def xl_seen (fI : Nat → Nat → Int32) (fL : Nat → Nat → Int64) (n : Nat) (hf : Nat → Int64) (d kd : Int32) : Int64 := tl_hold fI fL n (xl_live fL n hf &&& tl_ofK fI n d kd) (hf 2)
end
section
/-! the cells of an object and of what it holds -/
def tw (ca : Nat → ClassId) (h0 : Nat) (ad : Nat → Nat) (n : Nat) (fI : Nat → Nat → Int32) (fL : Nat → Nat → Int64) : va_W :=
  [(h0, .inr (5, [.ref (ad 0), .ref (ad 1), .ref (ad 2), .ref (ad 3), .ref (ad 4), .ref (ad 5), .ref (ad 6), .int (nI n)])),
   (ad 0, .inl (ca 0, 60, .inl (fI 0))), (ad 1, .inl (ca 0, 60, .inl (fI 1))), (ad 2, .inl (ca 0, 60, .inl (fI 2))), (ad 3, .inl (ca 0, 60, .inl (fI 3))),
   (ad 4, .inl (ca 1, 60, .inr (.inl (fL 0)))), (ad 5, .inl (ca 1, 60, .inr (.inl (fL 1)))), (ad 6, .inl (ca 1, 60, .inr (.inl (fL 2))))]
def cw (ca : Nat → ClassId) (h0 : Nat) (ad : Nat → Nat) (n : Nat) (fI : Nat → Nat → Int32) (fL : Nat → Nat → Int64) : va_W :=
  [(h0, .inr (6, [.ref (ad 0), .ref (ad 1), .ref (ad 2), .ref (ad 3), .ref (ad 4), .int (nI n)])),
   (ad 0, .inl (ca 0, 20, .inl (fI 0))), (ad 1, .inl (ca 0, 20, .inl (fI 1))),
   (ad 2, .inl (ca 1, 20, .inr (.inl (fL 0)))), (ad 3, .inl (ca 1, 20, .inr (.inl (fL 1)))), (ad 4, .inl (ca 1, 20, .inr (.inl (fL 2))))]
def kw (ca : Nat → ClassId) (h0 : Nat) (ad : Nat → Nat) (n : Nat) (fL : Nat → Nat → Int64) : va_W :=
  [(h0, .inr (2, [.ref (ad 0), .ref (ad 1), .int (nI n)])),
   (ad 0, .inl (ca 1, 10, .inr (.inl (fL 0)))), (ad 1, .inl (ca 1, 10, .inr (.inl (fL 1))))]
def mw (ca : Nat → ClassId) (ob : Nat) (ad : Nat → Nat) (sc : Nat → Nat) (mI : Nat → Nat → Int32) (mL : Nat → Nat → Int64) (mZ : Nat → Nat → Bool) : va_W :=
  [(ob, .inr (7, [.int (nI (sc 0)), .ref (ad 0), .ref (ad 1), .int (nI (sc 1)), .ref (ad 2), .ref (ad 3), .ref (ad 4), .ref (ad 5), .ref (ad 6), .ref (ad 7), .ref (ad 8), .int (nI (sc 2)), .ref (ad 9), .int (nI (sc 3)), .int (nI (sc 4)), .ref (ad 10), .ref (ad 11), .ref (ad 12), .ref (ad 13), .ref (ad 14), .ref (ad 15), .ref (ad 16), .ref (ad 17)])),
   (ad 0, .inl (ca 0, 4, .inl (mI 0))),
   (ad 1, .inl (ca 1, 4, .inr (.inl (mL 1)))),
   (ad 2, .inl (ca 0, 60, .inl (mI 2))),
   (ad 3, .inl (ca 0, 60, .inl (mI 3))),
   (ad 4, .inl (ca 0, 60, .inl (mI 4))),
   (ad 5, .inl (ca 0, 60, .inl (mI 5))),
   (ad 6, .inl (ca 0, 60, .inl (mI 6))),
   (ad 7, .inl (ca 1, 60, .inr (.inl (mL 7)))),
   (ad 8, .inl (ca 0, 60, .inl (mI 8))),
   (ad 9, .inl (ca 1, 100, .inr (.inl (mL 9)))),
   (ad 10, .inl (ca 2, 720, .inl (fun i => bI (mZ 10 i)))),
   (ad 11, .inl (ca 2, 720, .inl (fun i => bI (mZ 11 i)))),
   (ad 12, .inl (ca 2, 240, .inl (fun i => bI (mZ 12 i)))),
   (ad 13, .inl (ca 1, 12, .inr (.inl (mL 13)))),
   (ad 14, .inl (ca 0, 6, .inl (mI 14))),
   (ad 15, .inl (ca 0, 4, .inl (mI 15))),
   (ad 16, .inl (ca 0, 40, .inl (mI 16))),
   (ad 17, .inl (ca 0, 40, .inl (mI 17)))]

def hw (a : Nat) (f : Nat → Int64) : va_W := [(a, .inr (3, [.long (f 0), .long (f 1), .long (f 2), .long (f 3)]))]
def xw (ca : Nat → ClassId) (g : Nat → Nat) (nd ns nb : Nat) : va_W :=
  [(g 0, .inr (0, [.ref (g 1), .ref (g 2), .ref (g 3), .ref (g 11), .int (nI nd), .int (nI ns), .int (nI nb)])),
   (g 1, .inl (ca 3, 4, .inr (.inr (.inr (.inr (fun i => if i < nd then some (g (20 + 4 * i)) else none)))))),
   (g 2, .inl (ca 4, 6, .inr (.inr (.inr (.inr (fun i => if i < ns then some (g (40 + 3 * i)) else none))))))]
def dw (ca : Nat → ClassId) (g : Nat → Nat) (dl : Nat → Nat) (df : Nat → Int64) (dm : Nat → Nat) (dk : Nat → Nat → Nat → Int64) (d : Nat) : va_W :=
  (g (20 + 4 * d), .inr (1, [.ref (g (21 + 4 * d)), .int (nI (dl d)), .long (df d)])) :: kw ca (g (21 + 4 * d)) (fun k => g (22 + 4 * d + k)) (dm d) (dk d)
def sw (g : Nat → Nat) (so : Nat → Int32) (sh sv : Nat → Nat → Int64) (j : Nat) : va_W :=
  [(g (40 + 3 * j), .inr (4, [.ref (g (41 + 3 * j)), .ref (g (42 + 3 * j)), .int (so j)])),
   (g (41 + 3 * j), .inr (3, [.long (sh j 0), .long (sh j 1), .long (sh j 2), .long (sh j 3)])),
   (g (42 + 3 * j), .inr (3, [.long (sv j 0), .long (sv j 1), .long (sv j 2), .long (sv j 3)]))]
end
section
theorem d_DeviceSets_init_0 : decode b_DeviceSets_init 0 = .ok (.aload_n 0, 1) := by decide +kernel
theorem d_DeviceSets_init_1 : decode b_DeviceSets_init 1 = .ok (.invokespecial 1, 3) := by decide +kernel
theorem d_DeviceSets_init_4 : decode b_DeviceSets_init 4 = .ok (.aload_n 0, 1) := by decide +kernel
theorem d_DeviceSets_init_5 : decode b_DeviceSets_init 5 = .ok (.iconst 4, 1) := by decide +kernel
theorem d_DeviceSets_init_6 : decode b_DeviceSets_init 6 = .ok (.anewarray 9, 3) := by decide +kernel
theorem d_DeviceSets_init_9 : decode b_DeviceSets_init 9 = .ok (.putfield 11, 3) := by decide +kernel
theorem d_DeviceSets_init_12 : decode b_DeviceSets_init 12 = .ok (.aload_n 0, 1) := by decide +kernel
theorem d_DeviceSets_init_13 : decode b_DeviceSets_init 13 = .ok (.bipush 6, 2) := by decide +kernel
theorem d_DeviceSets_init_15 : decode b_DeviceSets_init 15 = .ok (.anewarray 15, 3) := by decide +kernel
theorem d_DeviceSets_init_18 : decode b_DeviceSets_init 18 = .ok (.putfield 17, 3) := by decide +kernel
theorem d_DeviceSets_init_21 : decode b_DeviceSets_init 21 = .ok (.aload_n 0, 1) := by decide +kernel
theorem d_DeviceSets_init_22 : decode b_DeviceSets_init 22 = .ok (.new 21, 3) := by decide +kernel
theorem d_DeviceSets_init_25 : decode b_DeviceSets_init 25 = .ok (.dup, 1) := by decide +kernel
theorem d_DeviceSets_init_26 : decode b_DeviceSets_init 26 = .ok (.invokespecial 23, 3) := by decide +kernel
theorem d_DeviceSets_init_29 : decode b_DeviceSets_init 29 = .ok (.putfield 24, 3) := by decide +kernel
theorem d_DeviceSets_init_32 : decode b_DeviceSets_init 32 = .ok (.aload_n 0, 1) := by decide +kernel
theorem d_DeviceSets_init_33 : decode b_DeviceSets_init 33 = .ok (.new 28, 3) := by decide +kernel
theorem d_DeviceSets_init_36 : decode b_DeviceSets_init 36 = .ok (.dup, 1) := by decide +kernel
theorem d_DeviceSets_init_37 : decode b_DeviceSets_init 37 = .ok (.invokespecial 30, 3) := by decide +kernel
theorem d_DeviceSets_init_40 : decode b_DeviceSets_init 40 = .ok (.putfield 31, 3) := by decide +kernel
theorem d_DeviceSets_init_43 : decode b_DeviceSets_init 43 = .ok (.return_, 1) := by decide +kernel
theorem d_DeviceSets_device_0 : decode b_DeviceSets_device 0 = .ok (.aload_n 0, 1) := by decide +kernel
theorem d_DeviceSets_device_1 : decode b_DeviceSets_device 1 = .ok (.getfield 35, 3) := by decide +kernel
theorem d_DeviceSets_device_4 : decode b_DeviceSets_device 4 = .ok (.iconst 4, 1) := by decide +kernel
theorem d_DeviceSets_device_5 : decode b_DeviceSets_device 5 = .ok (.if_icmp .lt 5, 3) := by decide +kernel
theorem d_DeviceSets_device_8 : decode b_DeviceSets_device 8 = .ok (.iconst (-1), 1) := by decide +kernel
theorem d_DeviceSets_device_9 : decode b_DeviceSets_device 9 = .ok (.ireturn, 1) := by decide +kernel
theorem d_DeviceSets_device_10 : decode b_DeviceSets_device 10 = .ok (.aload_n 0, 1) := by decide +kernel
theorem d_DeviceSets_device_11 : decode b_DeviceSets_device 11 = .ok (.getfield 11, 3) := by decide +kernel
theorem d_DeviceSets_device_14 : decode b_DeviceSets_device 14 = .ok (.aload_n 0, 1) := by decide +kernel
theorem d_DeviceSets_device_15 : decode b_DeviceSets_device 15 = .ok (.getfield 35, 3) := by decide +kernel
theorem d_DeviceSets_device_18 : decode b_DeviceSets_device 18 = .ok (.new 9, 3) := by decide +kernel
theorem d_DeviceSets_device_21 : decode b_DeviceSets_device 21 = .ok (.dup, 1) := by decide +kernel
theorem d_DeviceSets_device_22 : decode b_DeviceSets_device 22 = .ok (.invokespecial 39, 3) := by decide +kernel
theorem d_DeviceSets_device_25 : decode b_DeviceSets_device 25 = .ok (.aastore, 1) := by decide +kernel
theorem d_DeviceSets_device_26 : decode b_DeviceSets_device 26 = .ok (.aload_n 0, 1) := by decide +kernel
theorem d_DeviceSets_device_27 : decode b_DeviceSets_device 27 = .ok (.dup, 1) := by decide +kernel
theorem d_DeviceSets_device_28 : decode b_DeviceSets_device 28 = .ok (.getfield 35, 3) := by decide +kernel
theorem d_DeviceSets_device_31 : decode b_DeviceSets_device 31 = .ok (.iconst 1, 1) := by decide +kernel
theorem d_DeviceSets_device_32 : decode b_DeviceSets_device 32 = .ok (.iadd, 1) := by decide +kernel
theorem d_DeviceSets_device_33 : decode b_DeviceSets_device 33 = .ok (.putfield 35, 3) := by decide +kernel
theorem d_DeviceSets_device_36 : decode b_DeviceSets_device 36 = .ok (.aload_n 0, 1) := by decide +kernel
theorem d_DeviceSets_device_37 : decode b_DeviceSets_device 37 = .ok (.getfield 35, 3) := by decide +kernel
theorem d_DeviceSets_device_40 : decode b_DeviceSets_device 40 = .ok (.iconst 1, 1) := by decide +kernel
theorem d_DeviceSets_device_41 : decode b_DeviceSets_device 41 = .ok (.isub, 1) := by decide +kernel
theorem d_DeviceSets_device_42 : decode b_DeviceSets_device 42 = .ok (.ireturn, 1) := by decide +kernel
theorem d_DeviceSets_tell_0 : decode b_DeviceSets_tell 0 = .ok (.aload_n 0, 1) := by decide +kernel
theorem d_DeviceSets_tell_1 : decode b_DeviceSets_tell 1 = .ok (.iload_n 1, 1) := by decide +kernel
theorem d_DeviceSets_tell_2 : decode b_DeviceSets_tell 2 = .ok (.invokevirtual 40, 3) := by decide +kernel
theorem d_DeviceSets_tell_5 : decode b_DeviceSets_tell 5 = .ok (.astore 11, 2) := by decide +kernel
theorem d_DeviceSets_tell_7 : decode b_DeviceSets_tell 7 = .ok (.aload 11, 2) := by decide +kernel
theorem d_DeviceSets_tell_9 : decode b_DeviceSets_tell 9 = .ok (.ifnull 20, 3) := by decide +kernel
theorem d_DeviceSets_tell_12 : decode b_DeviceSets_tell 12 = .ok (.lload_n 2, 1) := by decide +kernel
theorem d_DeviceSets_tell_13 : decode b_DeviceSets_tell 13 = .ok (.invokestatic 44, 3) := by decide +kernel
theorem d_DeviceSets_tell_16 : decode b_DeviceSets_tell 16 = .ok (.ifCond .eq 13, 3) := by decide +kernel
theorem d_DeviceSets_tell_19 : decode b_DeviceSets_tell 19 = .ok (.lload_n 2, 1) := by decide +kernel
theorem d_DeviceSets_tell_20 : decode b_DeviceSets_tell 20 = .ok (.aload 11, 2) := by decide +kernel
theorem d_DeviceSets_tell_22 : decode b_DeviceSets_tell 22 = .ok (.getfield 48, 3) := by decide +kernel
theorem d_DeviceSets_tell_25 : decode b_DeviceSets_tell 25 = .ok (.lcmp, 1) := by decide +kernel
theorem d_DeviceSets_tell_26 : decode b_DeviceSets_tell 26 = .ok (.ifCond .ge 5, 3) := by decide +kernel
theorem d_DeviceSets_tell_29 : decode b_DeviceSets_tell 29 = .ok (.iconst (-1), 1) := by decide +kernel
theorem d_DeviceSets_tell_30 : decode b_DeviceSets_tell 30 = .ok (.ireturn, 1) := by decide +kernel
theorem d_DeviceSets_tell_31 : decode b_DeviceSets_tell 31 = .ok (.iload 4, 2) := by decide +kernel
theorem d_DeviceSets_tell_33 : decode b_DeviceSets_tell 33 = .ok (.invokestatic 52, 3) := by decide +kernel
theorem d_DeviceSets_tell_36 : decode b_DeviceSets_tell 36 = .ok (.ifCond .eq 27, 3) := by decide +kernel
theorem d_DeviceSets_tell_39 : decode b_DeviceSets_tell 39 = .ok (.lload 5, 2) := by decide +kernel
theorem d_DeviceSets_tell_41 : decode b_DeviceSets_tell 41 = .ok (.invokestatic 44, 3) := by decide +kernel
theorem d_DeviceSets_tell_44 : decode b_DeviceSets_tell 44 = .ok (.ifCond .eq 19, 3) := by decide +kernel
theorem d_DeviceSets_tell_47 : decode b_DeviceSets_tell 47 = .ok (.lload 7, 2) := by decide +kernel
theorem d_DeviceSets_tell_49 : decode b_DeviceSets_tell 49 = .ok (.invokestatic 56, 3) := by decide +kernel
theorem d_DeviceSets_tell_52 : decode b_DeviceSets_tell 52 = .ok (.ifCond .eq 11, 3) := by decide +kernel
theorem d_DeviceSets_tell_55 : decode b_DeviceSets_tell 55 = .ok (.lload 9, 2) := by decide +kernel
theorem d_DeviceSets_tell_57 : decode b_DeviceSets_tell 57 = .ok (.invokestatic 44, 3) := by decide +kernel
theorem d_DeviceSets_tell_60 : decode b_DeviceSets_tell 60 = .ok (.ifCond .ne 5, 3) := by decide +kernel
theorem d_DeviceSets_tell_63 : decode b_DeviceSets_tell 63 = .ok (.iconst (-1), 1) := by decide +kernel
theorem d_DeviceSets_tell_64 : decode b_DeviceSets_tell 64 = .ok (.ireturn, 1) := by decide +kernel
theorem d_DeviceSets_tell_65 : decode b_DeviceSets_tell 65 = .ok (.aload_n 0, 1) := by decide +kernel
theorem d_DeviceSets_tell_66 : decode b_DeviceSets_tell 66 = .ok (.getfield 24, 3) := by decide +kernel
theorem d_DeviceSets_tell_69 : decode b_DeviceSets_tell 69 = .ok (.iload_n 1, 1) := by decide +kernel
theorem d_DeviceSets_tell_70 : decode b_DeviceSets_tell 70 = .ok (.aload 11, 2) := by decide +kernel
theorem d_DeviceSets_tell_72 : decode b_DeviceSets_tell 72 = .ok (.getfield 59, 3) := by decide +kernel
theorem d_DeviceSets_tell_75 : decode b_DeviceSets_tell 75 = .ok (.lload_n 2, 1) := by decide +kernel
theorem d_DeviceSets_tell_76 : decode b_DeviceSets_tell 76 = .ok (.l2i, 1) := by decide +kernel
theorem d_DeviceSets_tell_77 : decode b_DeviceSets_tell 77 = .ok (.iload 4, 2) := by decide +kernel
theorem d_DeviceSets_tell_79 : decode b_DeviceSets_tell 79 = .ok (.lload 5, 2) := by decide +kernel
theorem d_DeviceSets_tell_81 : decode b_DeviceSets_tell 81 = .ok (.lload 7, 2) := by decide +kernel
theorem d_DeviceSets_tell_83 : decode b_DeviceSets_tell 83 = .ok (.invokevirtual 62, 3) := by decide +kernel
theorem d_DeviceSets_tell_86 : decode b_DeviceSets_tell 86 = .ok (.ifCond .eq 5, 3) := by decide +kernel
theorem d_DeviceSets_tell_89 : decode b_DeviceSets_tell 89 = .ok (.iconst 0, 1) := by decide +kernel
theorem d_DeviceSets_tell_90 : decode b_DeviceSets_tell 90 = .ok (.ireturn, 1) := by decide +kernel
theorem d_DeviceSets_tell_91 : decode b_DeviceSets_tell 91 = .ok (.aload_n 0, 1) := by decide +kernel
theorem d_DeviceSets_tell_92 : decode b_DeviceSets_tell 92 = .ok (.getfield 24, 3) := by decide +kernel
theorem d_DeviceSets_tell_95 : decode b_DeviceSets_tell 95 = .ok (.iload_n 1, 1) := by decide +kernel
theorem d_DeviceSets_tell_96 : decode b_DeviceSets_tell 96 = .ok (.aload 11, 2) := by decide +kernel
theorem d_DeviceSets_tell_98 : decode b_DeviceSets_tell 98 = .ok (.getfield 59, 3) := by decide +kernel
theorem d_DeviceSets_tell_101 : decode b_DeviceSets_tell 101 = .ok (.lload_n 2, 1) := by decide +kernel
theorem d_DeviceSets_tell_102 : decode b_DeviceSets_tell 102 = .ok (.l2i, 1) := by decide +kernel
theorem d_DeviceSets_tell_103 : decode b_DeviceSets_tell 103 = .ok (.iload 4, 2) := by decide +kernel
theorem d_DeviceSets_tell_105 : decode b_DeviceSets_tell 105 = .ok (.lload 5, 2) := by decide +kernel
theorem d_DeviceSets_tell_107 : decode b_DeviceSets_tell 107 = .ok (.lload 7, 2) := by decide +kernel
theorem d_DeviceSets_tell_109 : decode b_DeviceSets_tell 109 = .ok (.lload 9, 2) := by decide +kernel
theorem d_DeviceSets_tell_111 : decode b_DeviceSets_tell 111 = .ok (.invokevirtual 66, 3) := by decide +kernel
theorem d_DeviceSets_tell_114 : decode b_DeviceSets_tell 114 = .ok (.ifCond .eq 7, 3) := by decide +kernel
theorem d_DeviceSets_tell_117 : decode b_DeviceSets_tell 117 = .ok (.iconst 1, 1) := by decide +kernel
theorem d_DeviceSets_tell_118 : decode b_DeviceSets_tell 118 = .ok (.goto 4, 3) := by decide +kernel
theorem d_DeviceSets_tell_121 : decode b_DeviceSets_tell 121 = .ok (.iconst (-1), 1) := by decide +kernel
theorem d_DeviceSets_tell_122 : decode b_DeviceSets_tell 122 = .ok (.ireturn, 1) := by decide +kernel
theorem d_DeviceSets_reset_0 : decode b_DeviceSets_reset 0 = .ok (.aload_n 0, 1) := by decide +kernel
theorem d_DeviceSets_reset_1 : decode b_DeviceSets_reset 1 = .ok (.iload_n 1, 1) := by decide +kernel
theorem d_DeviceSets_reset_2 : decode b_DeviceSets_reset 2 = .ok (.invokevirtual 40, 3) := by decide +kernel
theorem d_DeviceSets_reset_5 : decode b_DeviceSets_reset 5 = .ok (.astore 4, 2) := by decide +kernel
theorem d_DeviceSets_reset_7 : decode b_DeviceSets_reset 7 = .ok (.aload 4, 2) := by decide +kernel
theorem d_DeviceSets_reset_9 : decode b_DeviceSets_reset 9 = .ok (.ifnull 20, 3) := by decide +kernel
theorem d_DeviceSets_reset_12 : decode b_DeviceSets_reset 12 = .ok (.lload_n 2, 1) := by decide +kernel
theorem d_DeviceSets_reset_13 : decode b_DeviceSets_reset 13 = .ok (.invokestatic 44, 3) := by decide +kernel
theorem d_DeviceSets_reset_16 : decode b_DeviceSets_reset 16 = .ok (.ifCond .eq 13, 3) := by decide +kernel
theorem d_DeviceSets_reset_19 : decode b_DeviceSets_reset 19 = .ok (.aload 4, 2) := by decide +kernel
theorem d_DeviceSets_reset_21 : decode b_DeviceSets_reset 21 = .ok (.getfield 59, 3) := by decide +kernel
theorem d_DeviceSets_reset_24 : decode b_DeviceSets_reset 24 = .ok (.bipush 99, 2) := by decide +kernel
theorem d_DeviceSets_reset_26 : decode b_DeviceSets_reset 26 = .ok (.if_icmp .lt 5, 3) := by decide +kernel
theorem d_DeviceSets_reset_29 : decode b_DeviceSets_reset 29 = .ok (.iconst 0, 1) := by decide +kernel
theorem d_DeviceSets_reset_30 : decode b_DeviceSets_reset 30 = .ok (.ireturn, 1) := by decide +kernel
theorem d_DeviceSets_reset_31 : decode b_DeviceSets_reset 31 = .ok (.aload 4, 2) := by decide +kernel
theorem d_DeviceSets_reset_33 : decode b_DeviceSets_reset 33 = .ok (.dup, 1) := by decide +kernel
theorem d_DeviceSets_reset_34 : decode b_DeviceSets_reset 34 = .ok (.getfield 59, 3) := by decide +kernel
theorem d_DeviceSets_reset_37 : decode b_DeviceSets_reset 37 = .ok (.iconst 1, 1) := by decide +kernel
theorem d_DeviceSets_reset_38 : decode b_DeviceSets_reset 38 = .ok (.iadd, 1) := by decide +kernel
theorem d_DeviceSets_reset_39 : decode b_DeviceSets_reset 39 = .ok (.putfield 59, 3) := by decide +kernel
theorem d_DeviceSets_reset_42 : decode b_DeviceSets_reset 42 = .ok (.aload 4, 2) := by decide +kernel
theorem d_DeviceSets_reset_44 : decode b_DeviceSets_reset 44 = .ok (.lload_n 2, 1) := by decide +kernel
theorem d_DeviceSets_reset_45 : decode b_DeviceSets_reset 45 = .ok (.putfield 48, 3) := by decide +kernel
theorem d_DeviceSets_reset_48 : decode b_DeviceSets_reset 48 = .ok (.iconst 1, 1) := by decide +kernel
theorem d_DeviceSets_reset_49 : decode b_DeviceSets_reset 49 = .ok (.ireturn, 1) := by decide +kernel
theorem d_DeviceSets_life_0 : decode b_DeviceSets_life 0 = .ok (.aload_n 0, 1) := by decide +kernel
theorem d_DeviceSets_life_1 : decode b_DeviceSets_life 1 = .ok (.iload_n 1, 1) := by decide +kernel
theorem d_DeviceSets_life_2 : decode b_DeviceSets_life 2 = .ok (.invokevirtual 40, 3) := by decide +kernel
theorem d_DeviceSets_life_5 : decode b_DeviceSets_life 5 = .ok (.astore_n 2, 1) := by decide +kernel
theorem d_DeviceSets_life_6 : decode b_DeviceSets_life 6 = .ok (.aload_n 2, 1) := by decide +kernel
theorem d_DeviceSets_life_7 : decode b_DeviceSets_life 7 = .ok (.ifnonnull 7, 3) := by decide +kernel
theorem d_DeviceSets_life_10 : decode b_DeviceSets_life 10 = .ok (.iconst (-1), 1) := by decide +kernel
theorem d_DeviceSets_life_11 : decode b_DeviceSets_life 11 = .ok (.goto 7, 3) := by decide +kernel
theorem d_DeviceSets_life_14 : decode b_DeviceSets_life 14 = .ok (.aload_n 2, 1) := by decide +kernel
theorem d_DeviceSets_life_15 : decode b_DeviceSets_life 15 = .ok (.getfield 59, 3) := by decide +kernel
theorem d_DeviceSets_life_18 : decode b_DeviceSets_life 18 = .ok (.ireturn, 1) := by decide +kernel
theorem d_DeviceSets_set_0 : decode b_DeviceSets_set 0 = .ok (.aload_n 0, 1) := by decide +kernel
theorem d_DeviceSets_set_1 : decode b_DeviceSets_set 1 = .ok (.getfield 70, 3) := by decide +kernel
theorem d_DeviceSets_set_4 : decode b_DeviceSets_set 4 = .ok (.bipush 6, 2) := by decide +kernel
theorem d_DeviceSets_set_6 : decode b_DeviceSets_set 6 = .ok (.if_icmp .ge 11, 3) := by decide +kernel
theorem d_DeviceSets_set_9 : decode b_DeviceSets_set 9 = .ok (.aload_n 0, 1) := by decide +kernel
theorem d_DeviceSets_set_10 : decode b_DeviceSets_set 10 = .ok (.iload_n 1, 1) := by decide +kernel
theorem d_DeviceSets_set_11 : decode b_DeviceSets_set 11 = .ok (.invokevirtual 40, 3) := by decide +kernel
theorem d_DeviceSets_set_14 : decode b_DeviceSets_set 14 = .ok (.ifnonnull 5, 3) := by decide +kernel
theorem d_DeviceSets_set_17 : decode b_DeviceSets_set 17 = .ok (.iconst (-1), 1) := by decide +kernel
theorem d_DeviceSets_set_18 : decode b_DeviceSets_set 18 = .ok (.ireturn, 1) := by decide +kernel
theorem d_DeviceSets_set_19 : decode b_DeviceSets_set 19 = .ok (.aload_n 0, 1) := by decide +kernel
theorem d_DeviceSets_set_20 : decode b_DeviceSets_set 20 = .ok (.getfield 17, 3) := by decide +kernel
theorem d_DeviceSets_set_23 : decode b_DeviceSets_set 23 = .ok (.aload_n 0, 1) := by decide +kernel
theorem d_DeviceSets_set_24 : decode b_DeviceSets_set 24 = .ok (.getfield 70, 3) := by decide +kernel
theorem d_DeviceSets_set_27 : decode b_DeviceSets_set 27 = .ok (.new 15, 3) := by decide +kernel
theorem d_DeviceSets_set_30 : decode b_DeviceSets_set 30 = .ok (.dup, 1) := by decide +kernel
theorem d_DeviceSets_set_31 : decode b_DeviceSets_set 31 = .ok (.aload_n 0, 1) := by decide +kernel
theorem d_DeviceSets_set_32 : decode b_DeviceSets_set 32 = .ok (.getfield 24, 3) := by decide +kernel
theorem d_DeviceSets_set_35 : decode b_DeviceSets_set 35 = .ok (.iload_n 1, 1) := by decide +kernel
theorem d_DeviceSets_set_36 : decode b_DeviceSets_set 36 = .ok (.invokevirtual 73, 3) := by decide +kernel
theorem d_DeviceSets_set_39 : decode b_DeviceSets_set 39 = .ok (.invokespecial 77, 3) := by decide +kernel
theorem d_DeviceSets_set_42 : decode b_DeviceSets_set 42 = .ok (.aastore, 1) := by decide +kernel
theorem d_DeviceSets_set_43 : decode b_DeviceSets_set 43 = .ok (.aload_n 0, 1) := by decide +kernel
theorem d_DeviceSets_set_44 : decode b_DeviceSets_set 44 = .ok (.dup, 1) := by decide +kernel
theorem d_DeviceSets_set_45 : decode b_DeviceSets_set 45 = .ok (.getfield 70, 3) := by decide +kernel
theorem d_DeviceSets_set_48 : decode b_DeviceSets_set 48 = .ok (.iconst 1, 1) := by decide +kernel
theorem d_DeviceSets_set_49 : decode b_DeviceSets_set 49 = .ok (.iadd, 1) := by decide +kernel
theorem d_DeviceSets_set_50 : decode b_DeviceSets_set 50 = .ok (.putfield 70, 3) := by decide +kernel
theorem d_DeviceSets_set_53 : decode b_DeviceSets_set 53 = .ok (.aload_n 0, 1) := by decide +kernel
theorem d_DeviceSets_set_54 : decode b_DeviceSets_set 54 = .ok (.getfield 70, 3) := by decide +kernel
theorem d_DeviceSets_set_57 : decode b_DeviceSets_set 57 = .ok (.iconst 1, 1) := by decide +kernel
theorem d_DeviceSets_set_58 : decode b_DeviceSets_set 58 = .ok (.isub, 1) := by decide +kernel
theorem d_DeviceSets_set_59 : decode b_DeviceSets_set 59 = .ok (.ireturn, 1) := by decide +kernel
theorem d_DeviceSets_join_0 : decode b_DeviceSets_join 0 = .ok (.aload_n 0, 1) := by decide +kernel
theorem d_DeviceSets_join_1 : decode b_DeviceSets_join 1 = .ok (.iload_n 1, 1) := by decide +kernel
theorem d_DeviceSets_join_2 : decode b_DeviceSets_join 2 = .ok (.invokevirtual 80, 3) := by decide +kernel
theorem d_DeviceSets_join_5 : decode b_DeviceSets_join 5 = .ok (.astore_n 3, 1) := by decide +kernel
theorem d_DeviceSets_join_6 : decode b_DeviceSets_join 6 = .ok (.aload_n 0, 1) := by decide +kernel
theorem d_DeviceSets_join_7 : decode b_DeviceSets_join 7 = .ok (.iload_n 2, 1) := by decide +kernel
theorem d_DeviceSets_join_8 : decode b_DeviceSets_join 8 = .ok (.invokevirtual 80, 3) := by decide +kernel
theorem d_DeviceSets_join_11 : decode b_DeviceSets_join 11 = .ok (.astore 4, 2) := by decide +kernel
theorem d_DeviceSets_join_13 : decode b_DeviceSets_join 13 = .ok (.aload_n 3, 1) := by decide +kernel
theorem d_DeviceSets_join_14 : decode b_DeviceSets_join 14 = .ok (.ifnull 8, 3) := by decide +kernel
theorem d_DeviceSets_join_17 : decode b_DeviceSets_join 17 = .ok (.aload 4, 2) := by decide +kernel
theorem d_DeviceSets_join_19 : decode b_DeviceSets_join 19 = .ok (.ifnonnull 5, 3) := by decide +kernel
theorem d_DeviceSets_join_22 : decode b_DeviceSets_join 22 = .ok (.iconst (-1), 1) := by decide +kernel
theorem d_DeviceSets_join_23 : decode b_DeviceSets_join 23 = .ok (.ireturn, 1) := by decide +kernel
theorem d_DeviceSets_join_24 : decode b_DeviceSets_join 24 = .ok (.aload_n 3, 1) := by decide +kernel
theorem d_DeviceSets_join_25 : decode b_DeviceSets_join 25 = .ok (.aload 4, 2) := by decide +kernel
theorem d_DeviceSets_join_27 : decode b_DeviceSets_join 27 = .ok (.invokevirtual 84, 3) := by decide +kernel
theorem d_DeviceSets_join_30 : decode b_DeviceSets_join 30 = .ok (.pop, 1) := by decide +kernel
theorem d_DeviceSets_join_31 : decode b_DeviceSets_join 31 = .ok (.aload_n 0, 1) := by decide +kernel
theorem d_DeviceSets_join_32 : decode b_DeviceSets_join 32 = .ok (.aload_n 3, 1) := by decide +kernel
theorem d_DeviceSets_join_33 : decode b_DeviceSets_join 33 = .ok (.getfield 88, 3) := by decide +kernel
theorem d_DeviceSets_join_36 : decode b_DeviceSets_join 36 = .ok (.invokevirtual 92, 3) := by decide +kernel
theorem d_DeviceSets_join_39 : decode b_DeviceSets_join 39 = .ok (.invokestatic 96, 3) := by decide +kernel
theorem d_DeviceSets_join_42 : decode b_DeviceSets_join 42 = .ok (.ireturn, 1) := by decide +kernel
theorem d_DeviceSets_correct_0 : decode b_DeviceSets_correct 0 = .ok (.aload_n 0, 1) := by decide +kernel
theorem d_DeviceSets_correct_1 : decode b_DeviceSets_correct 1 = .ok (.iload_n 1, 1) := by decide +kernel
theorem d_DeviceSets_correct_2 : decode b_DeviceSets_correct 2 = .ok (.invokevirtual 80, 3) := by decide +kernel
theorem d_DeviceSets_correct_5 : decode b_DeviceSets_correct 5 = .ok (.astore 10, 2) := by decide +kernel
theorem d_DeviceSets_correct_7 : decode b_DeviceSets_correct 7 = .ok (.aload 10, 2) := by decide +kernel
theorem d_DeviceSets_correct_9 : decode b_DeviceSets_correct 9 = .ok (.ifnull 18, 3) := by decide +kernel
theorem d_DeviceSets_correct_12 : decode b_DeviceSets_correct 12 = .ok (.aload_n 0, 1) := by decide +kernel
theorem d_DeviceSets_correct_13 : decode b_DeviceSets_correct 13 = .ok (.iload_n 2, 1) := by decide +kernel
theorem d_DeviceSets_correct_14 : decode b_DeviceSets_correct 14 = .ok (.invokevirtual 40, 3) := by decide +kernel
theorem d_DeviceSets_correct_17 : decode b_DeviceSets_correct 17 = .ok (.ifnull 10, 3) := by decide +kernel
theorem d_DeviceSets_correct_20 : decode b_DeviceSets_correct 20 = .ok (.iload_n 3, 1) := by decide +kernel
theorem d_DeviceSets_correct_21 : decode b_DeviceSets_correct 21 = .ok (.invokestatic 52, 3) := by decide +kernel
theorem d_DeviceSets_correct_24 : decode b_DeviceSets_correct 24 = .ok (.ifCond .ne 5, 3) := by decide +kernel
theorem d_DeviceSets_correct_27 : decode b_DeviceSets_correct 27 = .ok (.iconst 0, 1) := by decide +kernel
theorem d_DeviceSets_correct_28 : decode b_DeviceSets_correct 28 = .ok (.ireturn, 1) := by decide +kernel
theorem d_DeviceSets_correct_29 : decode b_DeviceSets_correct 29 = .ok (.lload 4, 2) := by decide +kernel
theorem d_DeviceSets_correct_31 : decode b_DeviceSets_correct 31 = .ok (.invokestatic 44, 3) := by decide +kernel
theorem d_DeviceSets_correct_34 : decode b_DeviceSets_correct 34 = .ok (.ifCond .eq 19, 3) := by decide +kernel
theorem d_DeviceSets_correct_37 : decode b_DeviceSets_correct 37 = .ok (.lload 6, 2) := by decide +kernel
theorem d_DeviceSets_correct_39 : decode b_DeviceSets_correct 39 = .ok (.invokestatic 56, 3) := by decide +kernel
theorem d_DeviceSets_correct_42 : decode b_DeviceSets_correct 42 = .ok (.ifCond .eq 11, 3) := by decide +kernel
theorem d_DeviceSets_correct_45 : decode b_DeviceSets_correct 45 = .ok (.lload 8, 2) := by decide +kernel
theorem d_DeviceSets_correct_47 : decode b_DeviceSets_correct 47 = .ok (.invokestatic 44, 3) := by decide +kernel
theorem d_DeviceSets_correct_50 : decode b_DeviceSets_correct 50 = .ok (.ifCond .ne 5, 3) := by decide +kernel
theorem d_DeviceSets_correct_53 : decode b_DeviceSets_correct 53 = .ok (.iconst 0, 1) := by decide +kernel
theorem d_DeviceSets_correct_54 : decode b_DeviceSets_correct 54 = .ok (.ireturn, 1) := by decide +kernel
theorem d_DeviceSets_correct_55 : decode b_DeviceSets_correct 55 = .ok (.aload_n 0, 1) := by decide +kernel
theorem d_DeviceSets_correct_56 : decode b_DeviceSets_correct 56 = .ok (.getfield 31, 3) := by decide +kernel
theorem d_DeviceSets_correct_59 : decode b_DeviceSets_correct 59 = .ok (.iload_n 2, 1) := by decide +kernel
theorem d_DeviceSets_correct_60 : decode b_DeviceSets_correct 60 = .ok (.iload_n 3, 1) := by decide +kernel
theorem d_DeviceSets_correct_61 : decode b_DeviceSets_correct 61 = .ok (.lload 4, 2) := by decide +kernel
theorem d_DeviceSets_correct_63 : decode b_DeviceSets_correct 63 = .ok (.lload 6, 2) := by decide +kernel
theorem d_DeviceSets_correct_65 : decode b_DeviceSets_correct 65 = .ok (.lload 8, 2) := by decide +kernel
theorem d_DeviceSets_correct_67 : decode b_DeviceSets_correct 67 = .ok (.invokevirtual 102, 3) := by decide +kernel
theorem d_DeviceSets_correct_70 : decode b_DeviceSets_correct 70 = .ok (.istore 11, 2) := by decide +kernel
theorem d_DeviceSets_correct_72 : decode b_DeviceSets_correct 72 = .ok (.iload 11, 2) := by decide +kernel
theorem d_DeviceSets_correct_74 : decode b_DeviceSets_correct 74 = .ok (.iconst (-1), 1) := by decide +kernel
theorem d_DeviceSets_correct_75 : decode b_DeviceSets_correct 75 = .ok (.if_icmp .ne 5, 3) := by decide +kernel
theorem d_DeviceSets_correct_78 : decode b_DeviceSets_correct 78 = .ok (.iconst 0, 1) := by decide +kernel
theorem d_DeviceSets_correct_79 : decode b_DeviceSets_correct 79 = .ok (.ireturn, 1) := by decide +kernel
theorem d_DeviceSets_correct_80 : decode b_DeviceSets_correct 80 = .ok (.aload 10, 2) := by decide +kernel
theorem d_DeviceSets_correct_82 : decode b_DeviceSets_correct 82 = .ok (.getfield 88, 3) := by decide +kernel
theorem d_DeviceSets_correct_85 : decode b_DeviceSets_correct 85 = .ok (.dup, 1) := by decide +kernel
theorem d_DeviceSets_correct_86 : decode b_DeviceSets_correct 86 = .ok (.getfield 106, 3) := by decide +kernel
theorem d_DeviceSets_correct_89 : decode b_DeviceSets_correct 89 = .ok (.iload 11, 2) := by decide +kernel
theorem d_DeviceSets_correct_91 : decode b_DeviceSets_correct 91 = .ok (.invokestatic 110, 3) := by decide +kernel
theorem d_DeviceSets_correct_94 : decode b_DeviceSets_correct 94 = .ok (.lor, 1) := by decide +kernel
theorem d_DeviceSets_correct_95 : decode b_DeviceSets_correct 95 = .ok (.putfield 106, 3) := by decide +kernel
theorem d_DeviceSets_correct_98 : decode b_DeviceSets_correct 98 = .ok (.iconst 1, 1) := by decide +kernel
theorem d_DeviceSets_correct_99 : decode b_DeviceSets_correct 99 = .ok (.ireturn, 1) := by decide +kernel
theorem d_DeviceSets_last_0 : decode b_DeviceSets_last 0 = .ok (.aload_n 0, 1) := by decide +kernel
theorem d_DeviceSets_last_1 : decode b_DeviceSets_last 1 = .ok (.iload_n 1, 1) := by decide +kernel
theorem d_DeviceSets_last_2 : decode b_DeviceSets_last 2 = .ok (.invokevirtual 80, 3) := by decide +kernel
theorem d_DeviceSets_last_5 : decode b_DeviceSets_last 5 = .ok (.astore 4, 2) := by decide +kernel
theorem d_DeviceSets_last_7 : decode b_DeviceSets_last 7 = .ok (.aload 4, 2) := by decide +kernel
theorem d_DeviceSets_last_9 : decode b_DeviceSets_last 9 = .ok (.ifnonnull 7, 3) := by decide +kernel
theorem d_DeviceSets_last_12 : decode b_DeviceSets_last 12 = .ok (.ldc2_w 113, 3) := by decide +kernel
theorem d_DeviceSets_last_15 : decode b_DeviceSets_last 15 = .ok (.lreturn, 1) := by decide +kernel
theorem d_DeviceSets_last_16 : decode b_DeviceSets_last 16 = .ok (.aload_n 0, 1) := by decide +kernel
theorem d_DeviceSets_last_17 : decode b_DeviceSets_last 17 = .ok (.getfield 24, 3) := by decide +kernel
theorem d_DeviceSets_last_20 : decode b_DeviceSets_last 20 = .ok (.aload_n 0, 1) := by decide +kernel
theorem d_DeviceSets_last_21 : decode b_DeviceSets_last 21 = .ok (.aload 4, 2) := by decide +kernel
theorem d_DeviceSets_last_23 : decode b_DeviceSets_last 23 = .ok (.getfield 88, 3) := by decide +kernel
theorem d_DeviceSets_last_26 : decode b_DeviceSets_last 26 = .ok (.iload_n 2, 1) := by decide +kernel
theorem d_DeviceSets_last_27 : decode b_DeviceSets_last 27 = .ok (.iload_n 3, 1) := by decide +kernel
theorem d_DeviceSets_last_28 : decode b_DeviceSets_last 28 = .ok (.invokevirtual 115, 3) := by decide +kernel
theorem d_DeviceSets_last_31 : decode b_DeviceSets_last 31 = .ok (.invokevirtual 119, 3) := by decide +kernel
theorem d_DeviceSets_last_34 : decode b_DeviceSets_last 34 = .ok (.istore 5, 2) := by decide +kernel
theorem d_DeviceSets_last_36 : decode b_DeviceSets_last 36 = .ok (.iload 5, 2) := by decide +kernel
theorem d_DeviceSets_last_38 : decode b_DeviceSets_last 38 = .ok (.iconst (-1), 1) := by decide +kernel
theorem d_DeviceSets_last_39 : decode b_DeviceSets_last 39 = .ok (.if_icmp .ne 9, 3) := by decide +kernel
theorem d_DeviceSets_last_42 : decode b_DeviceSets_last 42 = .ok (.ldc2_w 113, 3) := by decide +kernel
theorem d_DeviceSets_last_45 : decode b_DeviceSets_last 45 = .ok (.goto 13, 3) := by decide +kernel
theorem d_DeviceSets_last_48 : decode b_DeviceSets_last 48 = .ok (.aload_n 0, 1) := by decide +kernel
theorem d_DeviceSets_last_49 : decode b_DeviceSets_last 49 = .ok (.getfield 24, 3) := by decide +kernel
theorem d_DeviceSets_last_52 : decode b_DeviceSets_last 52 = .ok (.getfield 122, 3) := by decide +kernel
theorem d_DeviceSets_last_55 : decode b_DeviceSets_last 55 = .ok (.iload 5, 2) := by decide +kernel
theorem d_DeviceSets_last_57 : decode b_DeviceSets_last 57 = .ok (.laload, 1) := by decide +kernel
theorem d_DeviceSets_last_58 : decode b_DeviceSets_last 58 = .ok (.lreturn, 1) := by decide +kernel
theorem d_DeviceSets_known_0 : decode b_DeviceSets_known 0 = .ok (.aload_n 0, 1) := by decide +kernel
theorem d_DeviceSets_known_1 : decode b_DeviceSets_known 1 = .ok (.iload_n 1, 1) := by decide +kernel
theorem d_DeviceSets_known_2 : decode b_DeviceSets_known 2 = .ok (.invokevirtual 80, 3) := by decide +kernel
theorem d_DeviceSets_known_5 : decode b_DeviceSets_known 5 = .ok (.astore 8, 2) := by decide +kernel
theorem d_DeviceSets_known_7 : decode b_DeviceSets_known 7 = .ok (.aload 8, 2) := by decide +kernel
theorem d_DeviceSets_known_9 : decode b_DeviceSets_known 9 = .ok (.ifnonnull 7, 3) := by decide +kernel
theorem d_DeviceSets_known_12 : decode b_DeviceSets_known 12 = .ok (.ldc2_w 113, 3) := by decide +kernel
theorem d_DeviceSets_known_15 : decode b_DeviceSets_known 15 = .ok (.lreturn, 1) := by decide +kernel
theorem d_DeviceSets_known_16 : decode b_DeviceSets_known 16 = .ok (.aload_n 0, 1) := by decide +kernel
theorem d_DeviceSets_known_17 : decode b_DeviceSets_known 17 = .ok (.getfield 24, 3) := by decide +kernel
theorem d_DeviceSets_known_20 : decode b_DeviceSets_known 20 = .ok (.aload_n 0, 1) := by decide +kernel
theorem d_DeviceSets_known_21 : decode b_DeviceSets_known 21 = .ok (.aload 8, 2) := by decide +kernel
theorem d_DeviceSets_known_23 : decode b_DeviceSets_known 23 = .ok (.getfield 88, 3) := by decide +kernel
theorem d_DeviceSets_known_26 : decode b_DeviceSets_known 26 = .ok (.iload_n 2, 1) := by decide +kernel
theorem d_DeviceSets_known_27 : decode b_DeviceSets_known 27 = .ok (.iload_n 3, 1) := by decide +kernel
theorem d_DeviceSets_known_28 : decode b_DeviceSets_known 28 = .ok (.invokevirtual 115, 3) := by decide +kernel
theorem d_DeviceSets_known_31 : decode b_DeviceSets_known 31 = .ok (.lload 4, 2) := by decide +kernel
theorem d_DeviceSets_known_33 : decode b_DeviceSets_known 33 = .ok (.lload 6, 2) := by decide +kernel
theorem d_DeviceSets_known_35 : decode b_DeviceSets_known 35 = .ok (.invokevirtual 126, 3) := by decide +kernel
theorem d_DeviceSets_known_38 : decode b_DeviceSets_known 38 = .ok (.istore 9, 2) := by decide +kernel
theorem d_DeviceSets_known_40 : decode b_DeviceSets_known 40 = .ok (.iload 9, 2) := by decide +kernel
theorem d_DeviceSets_known_42 : decode b_DeviceSets_known 42 = .ok (.iconst (-1), 1) := by decide +kernel
theorem d_DeviceSets_known_43 : decode b_DeviceSets_known 43 = .ok (.if_icmp .ne 7, 3) := by decide +kernel
theorem d_DeviceSets_known_46 : decode b_DeviceSets_known 46 = .ok (.ldc2_w 113, 3) := by decide +kernel
theorem d_DeviceSets_known_49 : decode b_DeviceSets_known 49 = .ok (.lreturn, 1) := by decide +kernel
theorem d_DeviceSets_known_50 : decode b_DeviceSets_known 50 = .ok (.aload_n 0, 1) := by decide +kernel
theorem d_DeviceSets_known_51 : decode b_DeviceSets_known 51 = .ok (.getfield 31, 3) := by decide +kernel
theorem d_DeviceSets_known_54 : decode b_DeviceSets_known 54 = .ok (.aload 8, 2) := by decide +kernel
theorem d_DeviceSets_known_56 : decode b_DeviceSets_known 56 = .ok (.getfield 88, 3) := by decide +kernel
theorem d_DeviceSets_known_59 : decode b_DeviceSets_known 59 = .ok (.getfield 106, 3) := by decide +kernel
theorem d_DeviceSets_known_62 : decode b_DeviceSets_known 62 = .ok (.iload_n 2, 1) := by decide +kernel
theorem d_DeviceSets_known_63 : decode b_DeviceSets_known 63 = .ok (.iload_n 3, 1) := by decide +kernel
theorem d_DeviceSets_known_64 : decode b_DeviceSets_known 64 = .ok (.aload_n 0, 1) := by decide +kernel
theorem d_DeviceSets_known_65 : decode b_DeviceSets_known 65 = .ok (.getfield 24, 3) := by decide +kernel
theorem d_DeviceSets_known_68 : decode b_DeviceSets_known 68 = .ok (.getfield 130, 3) := by decide +kernel
theorem d_DeviceSets_known_71 : decode b_DeviceSets_known 71 = .ok (.iload 9, 2) := by decide +kernel
theorem d_DeviceSets_known_73 : decode b_DeviceSets_known 73 = .ok (.laload, 1) := by decide +kernel
theorem d_DeviceSets_known_74 : decode b_DeviceSets_known 74 = .ok (.lload 6, 2) := by decide +kernel
theorem d_DeviceSets_known_76 : decode b_DeviceSets_known 76 = .ok (.invokevirtual 133, 3) := by decide +kernel
theorem d_DeviceSets_known_79 : decode b_DeviceSets_known 79 = .ok (.istore 10, 2) := by decide +kernel
theorem d_DeviceSets_known_81 : decode b_DeviceSets_known 81 = .ok (.iload 10, 2) := by decide +kernel
theorem d_DeviceSets_known_83 : decode b_DeviceSets_known 83 = .ok (.iconst (-1), 1) := by decide +kernel
theorem d_DeviceSets_known_84 : decode b_DeviceSets_known 84 = .ok (.if_icmp .ne 16, 3) := by decide +kernel
theorem d_DeviceSets_known_87 : decode b_DeviceSets_known 87 = .ok (.aload_n 0, 1) := by decide +kernel
theorem d_DeviceSets_known_88 : decode b_DeviceSets_known 88 = .ok (.getfield 24, 3) := by decide +kernel
theorem d_DeviceSets_known_91 : decode b_DeviceSets_known 91 = .ok (.getfield 122, 3) := by decide +kernel
theorem d_DeviceSets_known_94 : decode b_DeviceSets_known 94 = .ok (.iload 9, 2) := by decide +kernel
theorem d_DeviceSets_known_96 : decode b_DeviceSets_known 96 = .ok (.laload, 1) := by decide +kernel
theorem d_DeviceSets_known_97 : decode b_DeviceSets_known 97 = .ok (.goto 13, 3) := by decide +kernel
theorem d_DeviceSets_known_100 : decode b_DeviceSets_known 100 = .ok (.aload_n 0, 1) := by decide +kernel
theorem d_DeviceSets_known_101 : decode b_DeviceSets_known 101 = .ok (.getfield 31, 3) := by decide +kernel
theorem d_DeviceSets_known_104 : decode b_DeviceSets_known 104 = .ok (.getfield 137, 3) := by decide +kernel
theorem d_DeviceSets_known_107 : decode b_DeviceSets_known 107 = .ok (.iload 10, 2) := by decide +kernel
theorem d_DeviceSets_known_109 : decode b_DeviceSets_known 109 = .ok (.laload, 1) := by decide +kernel
theorem d_DeviceSets_known_110 : decode b_DeviceSets_known 110 = .ok (.lreturn, 1) := by decide +kernel
theorem d_DeviceSets_gap_0 : decode b_DeviceSets_gap 0 = .ok (.aload_n 0, 1) := by decide +kernel
theorem d_DeviceSets_gap_1 : decode b_DeviceSets_gap 1 = .ok (.iload_n 1, 1) := by decide +kernel
theorem d_DeviceSets_gap_2 : decode b_DeviceSets_gap 2 = .ok (.invokevirtual 80, 3) := by decide +kernel
theorem d_DeviceSets_gap_5 : decode b_DeviceSets_gap 5 = .ok (.astore 4, 2) := by decide +kernel
theorem d_DeviceSets_gap_7 : decode b_DeviceSets_gap 7 = .ok (.aload 4, 2) := by decide +kernel
theorem d_DeviceSets_gap_9 : decode b_DeviceSets_gap 9 = .ok (.ifnull 7, 3) := by decide +kernel
theorem d_DeviceSets_gap_12 : decode b_DeviceSets_gap 12 = .ok (.iload_n 3, 1) := by decide +kernel
theorem d_DeviceSets_gap_13 : decode b_DeviceSets_gap 13 = .ok (.ifCond .ge 5, 3) := by decide +kernel
theorem d_DeviceSets_gap_16 : decode b_DeviceSets_gap 16 = .ok (.iconst (-1), 1) := by decide +kernel
theorem d_DeviceSets_gap_17 : decode b_DeviceSets_gap 17 = .ok (.ireturn, 1) := by decide +kernel
theorem d_DeviceSets_gap_18 : decode b_DeviceSets_gap 18 = .ok (.aload_n 0, 1) := by decide +kernel
theorem d_DeviceSets_gap_19 : decode b_DeviceSets_gap 19 = .ok (.getfield 24, 3) := by decide +kernel
theorem d_DeviceSets_gap_22 : decode b_DeviceSets_gap 22 = .ok (.aload 4, 2) := by decide +kernel
theorem d_DeviceSets_gap_24 : decode b_DeviceSets_gap 24 = .ok (.getfield 88, 3) := by decide +kernel
theorem d_DeviceSets_gap_27 : decode b_DeviceSets_gap 27 = .ok (.getfield 138, 3) := by decide +kernel
theorem d_DeviceSets_gap_30 : decode b_DeviceSets_gap 30 = .ok (.aload_n 0, 1) := by decide +kernel
theorem d_DeviceSets_gap_31 : decode b_DeviceSets_gap 31 = .ok (.getfield 24, 3) := by decide +kernel
theorem d_DeviceSets_gap_34 : decode b_DeviceSets_gap 34 = .ok (.iload_n 2, 1) := by decide +kernel
theorem d_DeviceSets_gap_35 : decode b_DeviceSets_gap 35 = .ok (.invokevirtual 73, 3) := by decide +kernel
theorem d_DeviceSets_gap_38 : decode b_DeviceSets_gap 38 = .ok (.land, 1) := by decide +kernel
theorem d_DeviceSets_gap_39 : decode b_DeviceSets_gap 39 = .ok (.iload_n 3, 1) := by decide +kernel
theorem d_DeviceSets_gap_40 : decode b_DeviceSets_gap 40 = .ok (.invokevirtual 140, 3) := by decide +kernel
theorem d_DeviceSets_gap_43 : decode b_DeviceSets_gap 43 = .ok (.ireturn, 1) := by decide +kernel
theorem d_DeviceSets_conflict_0 : decode b_DeviceSets_conflict 0 = .ok (.aload_n 0, 1) := by decide +kernel
theorem d_DeviceSets_conflict_1 : decode b_DeviceSets_conflict 1 = .ok (.iload_n 1, 1) := by decide +kernel
theorem d_DeviceSets_conflict_2 : decode b_DeviceSets_conflict 2 = .ok (.invokevirtual 80, 3) := by decide +kernel
theorem d_DeviceSets_conflict_5 : decode b_DeviceSets_conflict 5 = .ok (.astore 4, 2) := by decide +kernel
theorem d_DeviceSets_conflict_7 : decode b_DeviceSets_conflict 7 = .ok (.aload 4, 2) := by decide +kernel
theorem d_DeviceSets_conflict_9 : decode b_DeviceSets_conflict 9 = .ok (.ifnonnull 5, 3) := by decide +kernel
theorem d_DeviceSets_conflict_12 : decode b_DeviceSets_conflict 12 = .ok (.iconst (-1), 1) := by decide +kernel
theorem d_DeviceSets_conflict_13 : decode b_DeviceSets_conflict 13 = .ok (.ireturn, 1) := by decide +kernel
theorem d_DeviceSets_conflict_14 : decode b_DeviceSets_conflict 14 = .ok (.aload_n 0, 1) := by decide +kernel
theorem d_DeviceSets_conflict_15 : decode b_DeviceSets_conflict 15 = .ok (.getfield 24, 3) := by decide +kernel
theorem d_DeviceSets_conflict_18 : decode b_DeviceSets_conflict 18 = .ok (.aload_n 0, 1) := by decide +kernel
theorem d_DeviceSets_conflict_19 : decode b_DeviceSets_conflict 19 = .ok (.aload 4, 2) := by decide +kernel
theorem d_DeviceSets_conflict_21 : decode b_DeviceSets_conflict 21 = .ok (.getfield 88, 3) := by decide +kernel
theorem d_DeviceSets_conflict_24 : decode b_DeviceSets_conflict 24 = .ok (.invokevirtual 92, 3) := by decide +kernel
theorem d_DeviceSets_conflict_27 : decode b_DeviceSets_conflict 27 = .ok (.iload_n 2, 1) := by decide +kernel
theorem d_DeviceSets_conflict_28 : decode b_DeviceSets_conflict 28 = .ok (.invokevirtual 144, 3) := by decide +kernel
theorem d_DeviceSets_conflict_31 : decode b_DeviceSets_conflict 31 = .ok (.istore 5, 2) := by decide +kernel
theorem d_DeviceSets_conflict_33 : decode b_DeviceSets_conflict 33 = .ok (.iload 5, 2) := by decide +kernel
theorem d_DeviceSets_conflict_35 : decode b_DeviceSets_conflict 35 = .ok (.iconst (-1), 1) := by decide +kernel
theorem d_DeviceSets_conflict_36 : decode b_DeviceSets_conflict 36 = .ok (.if_icmp .ne 7, 3) := by decide +kernel
theorem d_DeviceSets_conflict_39 : decode b_DeviceSets_conflict 39 = .ok (.iconst (-1), 1) := by decide +kernel
theorem d_DeviceSets_conflict_40 : decode b_DeviceSets_conflict 40 = .ok (.goto 13, 3) := by decide +kernel
theorem d_DeviceSets_conflict_43 : decode b_DeviceSets_conflict 43 = .ok (.aload_n 0, 1) := by decide +kernel
theorem d_DeviceSets_conflict_44 : decode b_DeviceSets_conflict 44 = .ok (.getfield 24, 3) := by decide +kernel
theorem d_DeviceSets_conflict_47 : decode b_DeviceSets_conflict 47 = .ok (.iload 5, 2) := by decide +kernel
theorem d_DeviceSets_conflict_49 : decode b_DeviceSets_conflict 49 = .ok (.iload_n 3, 1) := by decide +kernel
theorem d_DeviceSets_conflict_50 : decode b_DeviceSets_conflict 50 = .ok (.invokevirtual 147, 3) := by decide +kernel
theorem d_DeviceSets_conflict_53 : decode b_DeviceSets_conflict 53 = .ok (.ireturn, 1) := by decide +kernel
theorem d_DeviceSets_settle_0 : decode b_DeviceSets_settle 0 = .ok (.aload_n 0, 1) := by decide +kernel
theorem d_DeviceSets_settle_1 : decode b_DeviceSets_settle 1 = .ok (.iload_n 1, 1) := by decide +kernel
theorem d_DeviceSets_settle_2 : decode b_DeviceSets_settle 2 = .ok (.invokevirtual 80, 3) := by decide +kernel
theorem d_DeviceSets_settle_5 : decode b_DeviceSets_settle 5 = .ok (.astore 5, 2) := by decide +kernel
theorem d_DeviceSets_settle_7 : decode b_DeviceSets_settle 7 = .ok (.aload 5, 2) := by decide +kernel
theorem d_DeviceSets_settle_9 : decode b_DeviceSets_settle 9 = .ok (.ifnonnull 5, 3) := by decide +kernel
theorem d_DeviceSets_settle_12 : decode b_DeviceSets_settle 12 = .ok (.iconst (-1), 1) := by decide +kernel
theorem d_DeviceSets_settle_13 : decode b_DeviceSets_settle 13 = .ok (.ireturn, 1) := by decide +kernel
theorem d_DeviceSets_settle_14 : decode b_DeviceSets_settle 14 = .ok (.aload_n 0, 1) := by decide +kernel
theorem d_DeviceSets_settle_15 : decode b_DeviceSets_settle 15 = .ok (.getfield 24, 3) := by decide +kernel
theorem d_DeviceSets_settle_18 : decode b_DeviceSets_settle 18 = .ok (.aload_n 0, 1) := by decide +kernel
theorem d_DeviceSets_settle_19 : decode b_DeviceSets_settle 19 = .ok (.aload 5, 2) := by decide +kernel
theorem d_DeviceSets_settle_21 : decode b_DeviceSets_settle 21 = .ok (.getfield 88, 3) := by decide +kernel
theorem d_DeviceSets_settle_24 : decode b_DeviceSets_settle 24 = .ok (.invokevirtual 92, 3) := by decide +kernel
theorem d_DeviceSets_settle_27 : decode b_DeviceSets_settle 27 = .ok (.aload_n 0, 1) := by decide +kernel
theorem d_DeviceSets_settle_28 : decode b_DeviceSets_settle 28 = .ok (.getfield 24, 3) := by decide +kernel
theorem d_DeviceSets_settle_31 : decode b_DeviceSets_settle 31 = .ok (.iload_n 2, 1) := by decide +kernel
theorem d_DeviceSets_settle_32 : decode b_DeviceSets_settle 32 = .ok (.iload_n 3, 1) := by decide +kernel
theorem d_DeviceSets_settle_33 : decode b_DeviceSets_settle 33 = .ok (.invokevirtual 151, 3) := by decide +kernel
theorem d_DeviceSets_settle_36 : decode b_DeviceSets_settle 36 = .ok (.land, 1) := by decide +kernel
theorem d_DeviceSets_settle_37 : decode b_DeviceSets_settle 37 = .ok (.invokevirtual 155, 3) := by decide +kernel
theorem d_DeviceSets_settle_40 : decode b_DeviceSets_settle 40 = .ok (.istore 6, 2) := by decide +kernel
theorem d_DeviceSets_settle_42 : decode b_DeviceSets_settle 42 = .ok (.iload 6, 2) := by decide +kernel
theorem d_DeviceSets_settle_44 : decode b_DeviceSets_settle 44 = .ok (.iconst (-1), 1) := by decide +kernel
theorem d_DeviceSets_settle_45 : decode b_DeviceSets_settle 45 = .ok (.if_icmp .ne 5, 3) := by decide +kernel
theorem d_DeviceSets_settle_48 : decode b_DeviceSets_settle 48 = .ok (.iconst (-1), 1) := by decide +kernel
theorem d_DeviceSets_settle_49 : decode b_DeviceSets_settle 49 = .ok (.ireturn, 1) := by decide +kernel
theorem d_DeviceSets_settle_50 : decode b_DeviceSets_settle 50 = .ok (.aload_n 0, 1) := by decide +kernel
theorem d_DeviceSets_settle_51 : decode b_DeviceSets_settle 51 = .ok (.getfield 24, 3) := by decide +kernel
theorem d_DeviceSets_settle_54 : decode b_DeviceSets_settle 54 = .ok (.aload_n 0, 1) := by decide +kernel
theorem d_DeviceSets_settle_55 : decode b_DeviceSets_settle 55 = .ok (.getfield 24, 3) := by decide +kernel
theorem d_DeviceSets_settle_58 : decode b_DeviceSets_settle 58 = .ok (.iload 6, 2) := by decide +kernel
theorem d_DeviceSets_settle_60 : decode b_DeviceSets_settle 60 = .ok (.aload_n 0, 1) := by decide +kernel
theorem d_DeviceSets_settle_61 : decode b_DeviceSets_settle 61 = .ok (.aload 5, 2) := by decide +kernel
theorem d_DeviceSets_settle_63 : decode b_DeviceSets_settle 63 = .ok (.getfield 88, 3) := by decide +kernel
theorem d_DeviceSets_settle_66 : decode b_DeviceSets_settle 66 = .ok (.invokevirtual 158, 3) := by decide +kernel
theorem d_DeviceSets_settle_69 : decode b_DeviceSets_settle 69 = .ok (.invokevirtual 161, 3) := by decide +kernel
theorem d_DeviceSets_settle_72 : decode b_DeviceSets_settle 72 = .ok (.iload 4, 2) := by decide +kernel
theorem d_DeviceSets_settle_74 : decode b_DeviceSets_settle 74 = .ok (.invokevirtual 144, 3) := by decide +kernel
theorem d_DeviceSets_settle_77 : decode b_DeviceSets_settle 77 = .ok (.istore 7, 2) := by decide +kernel
theorem d_DeviceSets_settle_79 : decode b_DeviceSets_settle 79 = .ok (.iload 7, 2) := by decide +kernel
theorem d_DeviceSets_settle_81 : decode b_DeviceSets_settle 81 = .ok (.iconst (-1), 1) := by decide +kernel
theorem d_DeviceSets_settle_82 : decode b_DeviceSets_settle 82 = .ok (.if_icmp .ne 5, 3) := by decide +kernel
theorem d_DeviceSets_settle_85 : decode b_DeviceSets_settle 85 = .ok (.iconst (-1), 1) := by decide +kernel
theorem d_DeviceSets_settle_86 : decode b_DeviceSets_settle 86 = .ok (.ireturn, 1) := by decide +kernel
theorem d_DeviceSets_settle_87 : decode b_DeviceSets_settle 87 = .ok (.aload 5, 2) := by decide +kernel
theorem d_DeviceSets_settle_89 : decode b_DeviceSets_settle 89 = .ok (.getfield 88, 3) := by decide +kernel
theorem d_DeviceSets_settle_92 : decode b_DeviceSets_settle 92 = .ok (.dup, 1) := by decide +kernel
theorem d_DeviceSets_settle_93 : decode b_DeviceSets_settle 93 = .ok (.getfield 165, 3) := by decide +kernel
theorem d_DeviceSets_settle_96 : decode b_DeviceSets_settle 96 = .ok (.iload 7, 2) := by decide +kernel
theorem d_DeviceSets_settle_98 : decode b_DeviceSets_settle 98 = .ok (.invokestatic 110, 3) := by decide +kernel
theorem d_DeviceSets_settle_101 : decode b_DeviceSets_settle 101 = .ok (.lor, 1) := by decide +kernel
theorem d_DeviceSets_settle_102 : decode b_DeviceSets_settle 102 = .ok (.putfield 165, 3) := by decide +kernel
theorem d_DeviceSets_settle_105 : decode b_DeviceSets_settle 105 = .ok (.aload_n 0, 1) := by decide +kernel
theorem d_DeviceSets_settle_106 : decode b_DeviceSets_settle 106 = .ok (.aload 5, 2) := by decide +kernel
theorem d_DeviceSets_settle_108 : decode b_DeviceSets_settle 108 = .ok (.getfield 88, 3) := by decide +kernel
theorem d_DeviceSets_settle_111 : decode b_DeviceSets_settle 111 = .ok (.invokevirtual 92, 3) := by decide +kernel
theorem d_DeviceSets_settle_114 : decode b_DeviceSets_settle 114 = .ok (.invokestatic 96, 3) := by decide +kernel
theorem d_DeviceSets_settle_117 : decode b_DeviceSets_settle 117 = .ok (.ireturn, 1) := by decide +kernel
theorem d_DeviceSets_equal_0 : decode b_DeviceSets_equal 0 = .ok (.aload_n 0, 1) := by decide +kernel
theorem d_DeviceSets_equal_1 : decode b_DeviceSets_equal 1 = .ok (.iload_n 1, 1) := by decide +kernel
theorem d_DeviceSets_equal_2 : decode b_DeviceSets_equal 2 = .ok (.invokevirtual 80, 3) := by decide +kernel
theorem d_DeviceSets_equal_5 : decode b_DeviceSets_equal 5 = .ok (.astore_n 3, 1) := by decide +kernel
theorem d_DeviceSets_equal_6 : decode b_DeviceSets_equal 6 = .ok (.aload_n 0, 1) := by decide +kernel
theorem d_DeviceSets_equal_7 : decode b_DeviceSets_equal 7 = .ok (.iload_n 2, 1) := by decide +kernel
theorem d_DeviceSets_equal_8 : decode b_DeviceSets_equal 8 = .ok (.invokevirtual 80, 3) := by decide +kernel
theorem d_DeviceSets_equal_11 : decode b_DeviceSets_equal 11 = .ok (.astore 4, 2) := by decide +kernel
theorem d_DeviceSets_equal_13 : decode b_DeviceSets_equal 13 = .ok (.aload_n 3, 1) := by decide +kernel
theorem d_DeviceSets_equal_14 : decode b_DeviceSets_equal 14 = .ok (.ifnull 27, 3) := by decide +kernel
theorem d_DeviceSets_equal_17 : decode b_DeviceSets_equal 17 = .ok (.aload 4, 2) := by decide +kernel
theorem d_DeviceSets_equal_19 : decode b_DeviceSets_equal 19 = .ok (.ifnull 22, 3) := by decide +kernel
theorem d_DeviceSets_equal_22 : decode b_DeviceSets_equal 22 = .ok (.aload_n 3, 1) := by decide +kernel
theorem d_DeviceSets_equal_23 : decode b_DeviceSets_equal 23 = .ok (.getfield 88, 3) := by decide +kernel
theorem d_DeviceSets_equal_26 : decode b_DeviceSets_equal 26 = .ok (.aload 4, 2) := by decide +kernel
theorem d_DeviceSets_equal_28 : decode b_DeviceSets_equal 28 = .ok (.getfield 88, 3) := by decide +kernel
theorem d_DeviceSets_equal_31 : decode b_DeviceSets_equal 31 = .ok (.invokevirtual 168, 3) := by decide +kernel
theorem d_DeviceSets_equal_34 : decode b_DeviceSets_equal 34 = .ok (.ifCond .eq 7, 3) := by decide +kernel
theorem d_DeviceSets_equal_37 : decode b_DeviceSets_equal 37 = .ok (.iconst 1, 1) := by decide +kernel
theorem d_DeviceSets_equal_38 : decode b_DeviceSets_equal 38 = .ok (.goto 4, 3) := by decide +kernel
theorem d_DeviceSets_equal_41 : decode b_DeviceSets_equal 41 = .ok (.iconst 0, 1) := by decide +kernel
theorem d_DeviceSets_equal_42 : decode b_DeviceSets_equal 42 = .ok (.ireturn, 1) := by decide +kernel
theorem d_DeviceSets_batch_0 : decode b_DeviceSets_batch 0 = .ok (.aload_n 0, 1) := by decide +kernel
theorem d_DeviceSets_batch_1 : decode b_DeviceSets_batch 1 = .ok (.iload_n 1, 1) := by decide +kernel
theorem d_DeviceSets_batch_2 : decode b_DeviceSets_batch 2 = .ok (.invokevirtual 80, 3) := by decide +kernel
theorem d_DeviceSets_batch_5 : decode b_DeviceSets_batch 5 = .ok (.astore_n 2, 1) := by decide +kernel
theorem d_DeviceSets_batch_6 : decode b_DeviceSets_batch 6 = .ok (.aload_n 2, 1) := by decide +kernel
theorem d_DeviceSets_batch_7 : decode b_DeviceSets_batch 7 = .ok (.ifnull 11, 3) := by decide +kernel
theorem d_DeviceSets_batch_10 : decode b_DeviceSets_batch 10 = .ok (.aload_n 2, 1) := by decide +kernel
theorem d_DeviceSets_batch_11 : decode b_DeviceSets_batch 11 = .ok (.getfield 172, 3) := by decide +kernel
theorem d_DeviceSets_batch_14 : decode b_DeviceSets_batch 14 = .ok (.iconst (-1), 1) := by decide +kernel
theorem d_DeviceSets_batch_15 : decode b_DeviceSets_batch 15 = .ok (.if_icmp .eq 5, 3) := by decide +kernel
theorem d_DeviceSets_batch_18 : decode b_DeviceSets_batch 18 = .ok (.iconst (-1), 1) := by decide +kernel
theorem d_DeviceSets_batch_19 : decode b_DeviceSets_batch 19 = .ok (.ireturn, 1) := by decide +kernel
theorem d_DeviceSets_batch_20 : decode b_DeviceSets_batch 20 = .ok (.aload_n 2, 1) := by decide +kernel
theorem d_DeviceSets_batch_21 : decode b_DeviceSets_batch 21 = .ok (.aload_n 0, 1) := by decide +kernel
theorem d_DeviceSets_batch_22 : decode b_DeviceSets_batch 22 = .ok (.getfield 175, 3) := by decide +kernel
theorem d_DeviceSets_batch_25 : decode b_DeviceSets_batch 25 = .ok (.putfield 172, 3) := by decide +kernel
theorem d_DeviceSets_batch_28 : decode b_DeviceSets_batch 28 = .ok (.aload_n 0, 1) := by decide +kernel
theorem d_DeviceSets_batch_29 : decode b_DeviceSets_batch 29 = .ok (.dup, 1) := by decide +kernel
theorem d_DeviceSets_batch_30 : decode b_DeviceSets_batch 30 = .ok (.getfield 175, 3) := by decide +kernel
theorem d_DeviceSets_batch_33 : decode b_DeviceSets_batch 33 = .ok (.iconst 1, 1) := by decide +kernel
theorem d_DeviceSets_batch_34 : decode b_DeviceSets_batch 34 = .ok (.iadd, 1) := by decide +kernel
theorem d_DeviceSets_batch_35 : decode b_DeviceSets_batch 35 = .ok (.putfield 175, 3) := by decide +kernel
theorem d_DeviceSets_batch_38 : decode b_DeviceSets_batch 38 = .ok (.aload_n 2, 1) := by decide +kernel
theorem d_DeviceSets_batch_39 : decode b_DeviceSets_batch 39 = .ok (.getfield 172, 3) := by decide +kernel
theorem d_DeviceSets_batch_42 : decode b_DeviceSets_batch 42 = .ok (.ireturn, 1) := by decide +kernel
theorem d_DeviceSets_endBatch_0 : decode b_DeviceSets_endBatch 0 = .ok (.iload_n 1, 1) := by decide +kernel
theorem d_DeviceSets_endBatch_1 : decode b_DeviceSets_endBatch 1 = .ok (.ifCond .ge 5, 3) := by decide +kernel
theorem d_DeviceSets_endBatch_4 : decode b_DeviceSets_endBatch 4 = .ok (.iconst 0, 1) := by decide +kernel
theorem d_DeviceSets_endBatch_5 : decode b_DeviceSets_endBatch 5 = .ok (.ireturn, 1) := by decide +kernel
theorem d_DeviceSets_endBatch_6 : decode b_DeviceSets_endBatch 6 = .ok (.iconst 0, 1) := by decide +kernel
theorem d_DeviceSets_endBatch_7 : decode b_DeviceSets_endBatch 7 = .ok (.istore_n 2, 1) := by decide +kernel
theorem d_DeviceSets_endBatch_8 : decode b_DeviceSets_endBatch 8 = .ok (.iload_n 2, 1) := by decide +kernel
theorem d_DeviceSets_endBatch_9 : decode b_DeviceSets_endBatch 9 = .ok (.aload_n 0, 1) := by decide +kernel
theorem d_DeviceSets_endBatch_10 : decode b_DeviceSets_endBatch 10 = .ok (.getfield 70, 3) := by decide +kernel
theorem d_DeviceSets_endBatch_13 : decode b_DeviceSets_endBatch 13 = .ok (.if_icmp .ge 33, 3) := by decide +kernel
theorem d_DeviceSets_endBatch_16 : decode b_DeviceSets_endBatch 16 = .ok (.aload_n 0, 1) := by decide +kernel
theorem d_DeviceSets_endBatch_17 : decode b_DeviceSets_endBatch 17 = .ok (.iload_n 2, 1) := by decide +kernel
theorem d_DeviceSets_endBatch_18 : decode b_DeviceSets_endBatch 18 = .ok (.invokevirtual 80, 3) := by decide +kernel
theorem d_DeviceSets_endBatch_21 : decode b_DeviceSets_endBatch 21 = .ok (.astore_n 3, 1) := by decide +kernel
theorem d_DeviceSets_endBatch_22 : decode b_DeviceSets_endBatch 22 = .ok (.aload_n 3, 1) := by decide +kernel
theorem d_DeviceSets_endBatch_23 : decode b_DeviceSets_endBatch 23 = .ok (.ifnull 17, 3) := by decide +kernel
theorem d_DeviceSets_endBatch_26 : decode b_DeviceSets_endBatch 26 = .ok (.aload_n 3, 1) := by decide +kernel
theorem d_DeviceSets_endBatch_27 : decode b_DeviceSets_endBatch 27 = .ok (.getfield 172, 3) := by decide +kernel
theorem d_DeviceSets_endBatch_30 : decode b_DeviceSets_endBatch 30 = .ok (.iload_n 1, 1) := by decide +kernel
theorem d_DeviceSets_endBatch_31 : decode b_DeviceSets_endBatch 31 = .ok (.if_icmp .ne 9, 3) := by decide +kernel
theorem d_DeviceSets_endBatch_34 : decode b_DeviceSets_endBatch 34 = .ok (.aload_n 3, 1) := by decide +kernel
theorem d_DeviceSets_endBatch_35 : decode b_DeviceSets_endBatch 35 = .ok (.invokevirtual 178, 3) := by decide +kernel
theorem d_DeviceSets_endBatch_38 : decode b_DeviceSets_endBatch 38 = .ok (.iconst 1, 1) := by decide +kernel
theorem d_DeviceSets_endBatch_39 : decode b_DeviceSets_endBatch 39 = .ok (.ireturn, 1) := by decide +kernel
theorem d_DeviceSets_endBatch_40 : decode b_DeviceSets_endBatch 40 = .ok (.iinc 2 1, 3) := by decide +kernel
theorem d_DeviceSets_endBatch_43 : decode b_DeviceSets_endBatch 43 = .ok (.goto (-35), 3) := by decide +kernel
theorem d_DeviceSets_endBatch_46 : decode b_DeviceSets_endBatch 46 = .ok (.iconst 0, 1) := by decide +kernel
theorem d_DeviceSets_endBatch_47 : decode b_DeviceSets_endBatch 47 = .ok (.ireturn, 1) := by decide +kernel
theorem d_DeviceSets_retain_0 : decode b_DeviceSets_retain 0 = .ok (.aload_n 0, 1) := by decide +kernel
theorem d_DeviceSets_retain_1 : decode b_DeviceSets_retain 1 = .ok (.iload_n 1, 1) := by decide +kernel
theorem d_DeviceSets_retain_2 : decode b_DeviceSets_retain 2 = .ok (.invokevirtual 80, 3) := by decide +kernel
theorem d_DeviceSets_retain_5 : decode b_DeviceSets_retain 5 = .ok (.astore 4, 2) := by decide +kernel
theorem d_DeviceSets_retain_7 : decode b_DeviceSets_retain 7 = .ok (.aload 4, 2) := by decide +kernel
theorem d_DeviceSets_retain_9 : decode b_DeviceSets_retain 9 = .ok (.ifnull 17, 3) := by decide +kernel
theorem d_DeviceSets_retain_12 : decode b_DeviceSets_retain 12 = .ok (.lload_n 2, 1) := by decide +kernel
theorem d_DeviceSets_retain_13 : decode b_DeviceSets_retain 13 = .ok (.lconst 0, 1) := by decide +kernel
theorem d_DeviceSets_retain_14 : decode b_DeviceSets_retain 14 = .ok (.lcmp, 1) := by decide +kernel
theorem d_DeviceSets_retain_15 : decode b_DeviceSets_retain 15 = .ok (.ifCond .lt 11, 3) := by decide +kernel
theorem d_DeviceSets_retain_18 : decode b_DeviceSets_retain 18 = .ok (.lload_n 2, 1) := by decide +kernel
theorem d_DeviceSets_retain_19 : decode b_DeviceSets_retain 19 = .ok (.ldc2_w 181, 3) := by decide +kernel
theorem d_DeviceSets_retain_22 : decode b_DeviceSets_retain 22 = .ok (.lcmp, 1) := by decide +kernel
theorem d_DeviceSets_retain_23 : decode b_DeviceSets_retain 23 = .ok (.ifCond .le 5, 3) := by decide +kernel
theorem d_DeviceSets_retain_26 : decode b_DeviceSets_retain 26 = .ok (.iconst (-1), 1) := by decide +kernel
theorem d_DeviceSets_retain_27 : decode b_DeviceSets_retain 27 = .ok (.ireturn, 1) := by decide +kernel
theorem d_DeviceSets_retain_28 : decode b_DeviceSets_retain 28 = .ok (.aload_n 0, 1) := by decide +kernel
theorem d_DeviceSets_retain_29 : decode b_DeviceSets_retain 29 = .ok (.aload 4, 2) := by decide +kernel
theorem d_DeviceSets_retain_31 : decode b_DeviceSets_retain 31 = .ok (.getfield 88, 3) := by decide +kernel
theorem d_DeviceSets_retain_34 : decode b_DeviceSets_retain 34 = .ok (.invokevirtual 158, 3) := by decide +kernel
theorem d_DeviceSets_retain_37 : decode b_DeviceSets_retain 37 = .ok (.lstore 5, 2) := by decide +kernel
theorem d_DeviceSets_retain_39 : decode b_DeviceSets_retain 39 = .ok (.aload 4, 2) := by decide +kernel
theorem d_DeviceSets_retain_41 : decode b_DeviceSets_retain 41 = .ok (.getfield 88, 3) := by decide +kernel
theorem d_DeviceSets_retain_44 : decode b_DeviceSets_retain 44 = .ok (.aload 4, 2) := by decide +kernel
theorem d_DeviceSets_retain_46 : decode b_DeviceSets_retain 46 = .ok (.getfield 88, 3) := by decide +kernel
theorem d_DeviceSets_retain_49 : decode b_DeviceSets_retain 49 = .ok (.getfield 183, 3) := by decide +kernel
theorem d_DeviceSets_retain_52 : decode b_DeviceSets_retain 52 = .ok (.lload_n 2, 1) := by decide +kernel
theorem d_DeviceSets_retain_53 : decode b_DeviceSets_retain 53 = .ok (.invokestatic 186, 3) := by decide +kernel
theorem d_DeviceSets_retain_56 : decode b_DeviceSets_retain 56 = .ok (.putfield 183, 3) := by decide +kernel
theorem d_DeviceSets_retain_59 : decode b_DeviceSets_retain 59 = .ok (.lload 5, 2) := by decide +kernel
theorem d_DeviceSets_retain_61 : decode b_DeviceSets_retain 61 = .ok (.aload_n 0, 1) := by decide +kernel
theorem d_DeviceSets_retain_62 : decode b_DeviceSets_retain 62 = .ok (.aload 4, 2) := by decide +kernel
theorem d_DeviceSets_retain_64 : decode b_DeviceSets_retain 64 = .ok (.getfield 88, 3) := by decide +kernel
theorem d_DeviceSets_retain_67 : decode b_DeviceSets_retain 67 = .ok (.invokevirtual 158, 3) := by decide +kernel
theorem d_DeviceSets_retain_70 : decode b_DeviceSets_retain 70 = .ok (.ldc2_w 192, 3) := by decide +kernel
theorem d_DeviceSets_retain_73 : decode b_DeviceSets_retain 73 = .ok (.lxor, 1) := by decide +kernel
theorem d_DeviceSets_retain_74 : decode b_DeviceSets_retain 74 = .ok (.land, 1) := by decide +kernel
theorem d_DeviceSets_retain_75 : decode b_DeviceSets_retain 75 = .ok (.invokestatic 96, 3) := by decide +kernel
theorem d_DeviceSets_retain_78 : decode b_DeviceSets_retain 78 = .ok (.ireturn, 1) := by decide +kernel
theorem d_DeviceSets_kept_0 : decode b_DeviceSets_kept 0 = .ok (.aload_n 0, 1) := by decide +kernel
theorem d_DeviceSets_kept_1 : decode b_DeviceSets_kept 1 = .ok (.iload_n 1, 1) := by decide +kernel
theorem d_DeviceSets_kept_2 : decode b_DeviceSets_kept 2 = .ok (.invokevirtual 80, 3) := by decide +kernel
theorem d_DeviceSets_kept_5 : decode b_DeviceSets_kept 5 = .ok (.astore_n 3, 1) := by decide +kernel
theorem d_DeviceSets_kept_6 : decode b_DeviceSets_kept 6 = .ok (.aload_n 3, 1) := by decide +kernel
theorem d_DeviceSets_kept_7 : decode b_DeviceSets_kept 7 = .ok (.ifnonnull 7, 3) := by decide +kernel
theorem d_DeviceSets_kept_10 : decode b_DeviceSets_kept 10 = .ok (.lconst 0, 1) := by decide +kernel
theorem d_DeviceSets_kept_11 : decode b_DeviceSets_kept 11 = .ok (.goto 31, 3) := by decide +kernel
theorem d_DeviceSets_kept_14 : decode b_DeviceSets_kept 14 = .ok (.aload_n 0, 1) := by decide +kernel
theorem d_DeviceSets_kept_15 : decode b_DeviceSets_kept 15 = .ok (.getfield 24, 3) := by decide +kernel
theorem d_DeviceSets_kept_18 : decode b_DeviceSets_kept 18 = .ok (.aload_n 3, 1) := by decide +kernel
theorem d_DeviceSets_kept_19 : decode b_DeviceSets_kept 19 = .ok (.getfield 88, 3) := by decide +kernel
theorem d_DeviceSets_kept_22 : decode b_DeviceSets_kept 22 = .ok (.getfield 138, 3) := by decide +kernel
theorem d_DeviceSets_kept_25 : decode b_DeviceSets_kept 25 = .ok (.aload_n 0, 1) := by decide +kernel
theorem d_DeviceSets_kept_26 : decode b_DeviceSets_kept 26 = .ok (.aload_n 3, 1) := by decide +kernel
theorem d_DeviceSets_kept_27 : decode b_DeviceSets_kept 27 = .ok (.getfield 88, 3) := by decide +kernel
theorem d_DeviceSets_kept_30 : decode b_DeviceSets_kept 30 = .ok (.invokevirtual 158, 3) := by decide +kernel
theorem d_DeviceSets_kept_33 : decode b_DeviceSets_kept 33 = .ok (.ldc2_w 192, 3) := by decide +kernel
theorem d_DeviceSets_kept_36 : decode b_DeviceSets_kept 36 = .ok (.lxor, 1) := by decide +kernel
theorem d_DeviceSets_kept_37 : decode b_DeviceSets_kept 37 = .ok (.land, 1) := by decide +kernel
theorem d_DeviceSets_kept_38 : decode b_DeviceSets_kept 38 = .ok (.iload_n 2, 1) := by decide +kernel
theorem d_DeviceSets_kept_39 : decode b_DeviceSets_kept 39 = .ok (.invokevirtual 194, 3) := by decide +kernel
theorem d_DeviceSets_kept_42 : decode b_DeviceSets_kept 42 = .ok (.lreturn, 1) := by decide +kernel
theorem d_DeviceSets_mark_0 : decode b_DeviceSets_mark 0 = .ok (.aload_n 0, 1) := by decide +kernel
theorem d_DeviceSets_mark_1 : decode b_DeviceSets_mark 1 = .ok (.iload_n 1, 1) := by decide +kernel
theorem d_DeviceSets_mark_2 : decode b_DeviceSets_mark 2 = .ok (.invokevirtual 40, 3) := by decide +kernel
theorem d_DeviceSets_mark_5 : decode b_DeviceSets_mark 5 = .ok (.astore 6, 2) := by decide +kernel
theorem d_DeviceSets_mark_7 : decode b_DeviceSets_mark 7 = .ok (.aload 6, 2) := by decide +kernel
theorem d_DeviceSets_mark_9 : decode b_DeviceSets_mark 9 = .ok (.ifnull 36, 3) := by decide +kernel
theorem d_DeviceSets_mark_12 : decode b_DeviceSets_mark 12 = .ok (.lload_n 2, 1) := by decide +kernel
theorem d_DeviceSets_mark_13 : decode b_DeviceSets_mark 13 = .ok (.invokestatic 44, 3) := by decide +kernel
theorem d_DeviceSets_mark_16 : decode b_DeviceSets_mark 16 = .ok (.ifCond .eq 29, 3) := by decide +kernel
theorem d_DeviceSets_mark_19 : decode b_DeviceSets_mark 19 = .ok (.lload 4, 2) := by decide +kernel
theorem d_DeviceSets_mark_21 : decode b_DeviceSets_mark 21 = .ok (.invokestatic 44, 3) := by decide +kernel
theorem d_DeviceSets_mark_24 : decode b_DeviceSets_mark 24 = .ok (.ifCond .eq 21, 3) := by decide +kernel
theorem d_DeviceSets_mark_27 : decode b_DeviceSets_mark 27 = .ok (.aload 6, 2) := by decide +kernel
theorem d_DeviceSets_mark_29 : decode b_DeviceSets_mark 29 = .ok (.getfield 198, 3) := by decide +kernel
theorem d_DeviceSets_mark_32 : decode b_DeviceSets_mark 32 = .ok (.lload_n 2, 1) := by decide +kernel
theorem d_DeviceSets_mark_33 : decode b_DeviceSets_mark 33 = .ok (.lload 4, 2) := by decide +kernel
theorem d_DeviceSets_mark_35 : decode b_DeviceSets_mark 35 = .ok (.invokevirtual 202, 3) := by decide +kernel
theorem d_DeviceSets_mark_38 : decode b_DeviceSets_mark 38 = .ok (.ifCond .eq 7, 3) := by decide +kernel
theorem d_DeviceSets_mark_41 : decode b_DeviceSets_mark 41 = .ok (.iconst 1, 1) := by decide +kernel
theorem d_DeviceSets_mark_42 : decode b_DeviceSets_mark 42 = .ok (.goto 4, 3) := by decide +kernel
theorem d_DeviceSets_mark_45 : decode b_DeviceSets_mark 45 = .ok (.iconst 0, 1) := by decide +kernel
theorem d_DeviceSets_mark_46 : decode b_DeviceSets_mark 46 = .ok (.ireturn, 1) := by decide +kernel
theorem d_DeviceSets_corrected_0 : decode b_DeviceSets_corrected 0 = .ok (.aload_n 0, 1) := by decide +kernel
theorem d_DeviceSets_corrected_1 : decode b_DeviceSets_corrected 1 = .ok (.iload_n 1, 1) := by decide +kernel
theorem d_DeviceSets_corrected_2 : decode b_DeviceSets_corrected 2 = .ok (.invokevirtual 40, 3) := by decide +kernel
theorem d_DeviceSets_corrected_5 : decode b_DeviceSets_corrected 5 = .ok (.astore 5, 2) := by decide +kernel
theorem d_DeviceSets_corrected_7 : decode b_DeviceSets_corrected 7 = .ok (.aload 5, 2) := by decide +kernel
theorem d_DeviceSets_corrected_9 : decode b_DeviceSets_corrected 9 = .ok (.ifnull 21, 3) := by decide +kernel
theorem d_DeviceSets_corrected_12 : decode b_DeviceSets_corrected 12 = .ok (.lload_n 2, 1) := by decide +kernel
theorem d_DeviceSets_corrected_13 : decode b_DeviceSets_corrected 13 = .ok (.invokestatic 44, 3) := by decide +kernel
theorem d_DeviceSets_corrected_16 : decode b_DeviceSets_corrected 16 = .ok (.ifCond .eq 14, 3) := by decide +kernel
theorem d_DeviceSets_corrected_19 : decode b_DeviceSets_corrected 19 = .ok (.iload 4, 2) := by decide +kernel
theorem d_DeviceSets_corrected_21 : decode b_DeviceSets_corrected 21 = .ok (.ifCond .lt 9, 3) := by decide +kernel
theorem d_DeviceSets_corrected_24 : decode b_DeviceSets_corrected 24 = .ok (.iload 4, 2) := by decide +kernel
theorem d_DeviceSets_corrected_26 : decode b_DeviceSets_corrected 26 = .ok (.iconst 1, 1) := by decide +kernel
theorem d_DeviceSets_corrected_27 : decode b_DeviceSets_corrected 27 = .ok (.if_icmp .le 7, 3) := by decide +kernel
theorem d_DeviceSets_corrected_30 : decode b_DeviceSets_corrected 30 = .ok (.ldc2_w 113, 3) := by decide +kernel
theorem d_DeviceSets_corrected_33 : decode b_DeviceSets_corrected 33 = .ok (.lreturn, 1) := by decide +kernel
theorem d_DeviceSets_corrected_34 : decode b_DeviceSets_corrected 34 = .ok (.aload 5, 2) := by decide +kernel
theorem d_DeviceSets_corrected_36 : decode b_DeviceSets_corrected 36 = .ok (.getfield 198, 3) := by decide +kernel
theorem d_DeviceSets_corrected_39 : decode b_DeviceSets_corrected 39 = .ok (.lload_n 2, 1) := by decide +kernel
theorem d_DeviceSets_corrected_40 : decode b_DeviceSets_corrected 40 = .ok (.invokevirtual 208, 3) := by decide +kernel
theorem d_DeviceSets_corrected_43 : decode b_DeviceSets_corrected 43 = .ok (.lstore 6, 2) := by decide +kernel
theorem d_DeviceSets_corrected_45 : decode b_DeviceSets_corrected 45 = .ok (.aload 5, 2) := by decide +kernel
theorem d_DeviceSets_corrected_47 : decode b_DeviceSets_corrected 47 = .ok (.getfield 198, 3) := by decide +kernel
theorem d_DeviceSets_corrected_50 : decode b_DeviceSets_corrected 50 = .ok (.lload_n 2, 1) := by decide +kernel
theorem d_DeviceSets_corrected_51 : decode b_DeviceSets_corrected 51 = .ok (.invokevirtual 212, 3) := by decide +kernel
theorem d_DeviceSets_corrected_54 : decode b_DeviceSets_corrected 54 = .ok (.lstore 8, 2) := by decide +kernel
theorem d_DeviceSets_corrected_56 : decode b_DeviceSets_corrected 56 = .ok (.lload 6, 2) := by decide +kernel
theorem d_DeviceSets_corrected_58 : decode b_DeviceSets_corrected 58 = .ok (.invokestatic 215, 3) := by decide +kernel
theorem d_DeviceSets_corrected_61 : decode b_DeviceSets_corrected 61 = .ok (.lload 8, 2) := by decide +kernel
theorem d_DeviceSets_corrected_63 : decode b_DeviceSets_corrected 63 = .ok (.invokestatic 218, 3) := by decide +kernel
theorem d_DeviceSets_corrected_66 : decode b_DeviceSets_corrected 66 = .ok (.lstore 10, 2) := by decide +kernel
theorem d_DeviceSets_corrected_68 : decode b_DeviceSets_corrected 68 = .ok (.lload 10, 2) := by decide +kernel
theorem d_DeviceSets_corrected_70 : decode b_DeviceSets_corrected 70 = .ok (.lconst 0, 1) := by decide +kernel
theorem d_DeviceSets_corrected_71 : decode b_DeviceSets_corrected 71 = .ok (.lcmp, 1) := by decide +kernel
theorem d_DeviceSets_corrected_72 : decode b_DeviceSets_corrected 72 = .ok (.ifCond .ne 7, 3) := by decide +kernel
theorem d_DeviceSets_corrected_75 : decode b_DeviceSets_corrected 75 = .ok (.ldc2_w 113, 3) := by decide +kernel
theorem d_DeviceSets_corrected_78 : decode b_DeviceSets_corrected 78 = .ok (.lreturn, 1) := by decide +kernel
theorem d_DeviceSets_corrected_79 : decode b_DeviceSets_corrected 79 = .ok (.iload 4, 2) := by decide +kernel
theorem d_DeviceSets_corrected_81 : decode b_DeviceSets_corrected 81 = .ok (.ifCond .ne 8, 3) := by decide +kernel
theorem d_DeviceSets_corrected_84 : decode b_DeviceSets_corrected 84 = .ok (.lload 6, 2) := by decide +kernel
theorem d_DeviceSets_corrected_86 : decode b_DeviceSets_corrected 86 = .ok (.goto 5, 3) := by decide +kernel
theorem d_DeviceSets_corrected_89 : decode b_DeviceSets_corrected 89 = .ok (.lload 8, 2) := by decide +kernel
theorem d_DeviceSets_corrected_91 : decode b_DeviceSets_corrected 91 = .ok (.lload 10, 2) := by decide +kernel
theorem d_DeviceSets_corrected_93 : decode b_DeviceSets_corrected 93 = .ok (.ldiv, 1) := by decide +kernel
theorem d_DeviceSets_corrected_94 : decode b_DeviceSets_corrected 94 = .ok (.lreturn, 1) := by decide +kernel
theorem d_DeviceSets_play_0 : decode b_DeviceSets_play 0 = .ok (.aload_n 0, 1) := by decide +kernel
theorem d_DeviceSets_play_1 : decode b_DeviceSets_play 1 = .ok (.getfield 70, 3) := by decide +kernel
theorem d_DeviceSets_play_4 : decode b_DeviceSets_play 4 = .ok (.ifCond .eq 14, 3) := by decide +kernel
theorem d_DeviceSets_play_7 : decode b_DeviceSets_play 7 = .ok (.iload_n 3, 1) := by decide +kernel
theorem d_DeviceSets_play_8 : decode b_DeviceSets_play 8 = .ok (.ifCond .lt 10, 3) := by decide +kernel
theorem d_DeviceSets_play_11 : decode b_DeviceSets_play 11 = .ok (.iload_n 3, 1) := by decide +kernel
theorem d_DeviceSets_play_12 : decode b_DeviceSets_play 12 = .ok (.sipush 1000, 3) := by decide +kernel
theorem d_DeviceSets_play_15 : decode b_DeviceSets_play 15 = .ok (.if_icmp .le 5, 3) := by decide +kernel
theorem d_DeviceSets_play_18 : decode b_DeviceSets_play 18 = .ok (.iconst (-1), 1) := by decide +kernel
theorem d_DeviceSets_play_19 : decode b_DeviceSets_play 19 = .ok (.ireturn, 1) := by decide +kernel
theorem d_DeviceSets_play_20 : decode b_DeviceSets_play 20 = .ok (.lload_n 1, 1) := by decide +kernel
theorem d_DeviceSets_play_21 : decode b_DeviceSets_play 21 = .ok (.lstore 4, 2) := by decide +kernel
theorem d_DeviceSets_play_23 : decode b_DeviceSets_play 23 = .ok (.iconst 0, 1) := by decide +kernel
theorem d_DeviceSets_play_24 : decode b_DeviceSets_play 24 = .ok (.istore 6, 2) := by decide +kernel
theorem d_DeviceSets_play_26 : decode b_DeviceSets_play 26 = .ok (.iconst 0, 1) := by decide +kernel
theorem d_DeviceSets_play_27 : decode b_DeviceSets_play 27 = .ok (.istore 7, 2) := by decide +kernel
theorem d_DeviceSets_play_29 : decode b_DeviceSets_play 29 = .ok (.iload 7, 2) := by decide +kernel
theorem d_DeviceSets_play_31 : decode b_DeviceSets_play 31 = .ok (.iload_n 3, 1) := by decide +kernel
theorem d_DeviceSets_play_32 : decode b_DeviceSets_play 32 = .ok (.if_icmp .ge 72, 3) := by decide +kernel
theorem d_DeviceSets_play_35 : decode b_DeviceSets_play 35 = .ok (.lload 4, 2) := by decide +kernel
theorem d_DeviceSets_play_37 : decode b_DeviceSets_play 37 = .ok (.invokestatic 221, 3) := by decide +kernel
theorem d_DeviceSets_play_40 : decode b_DeviceSets_play 40 = .ok (.lstore 4, 2) := by decide +kernel
theorem d_DeviceSets_play_42 : decode b_DeviceSets_play 42 = .ok (.lload 4, 2) := by decide +kernel
theorem d_DeviceSets_play_44 : decode b_DeviceSets_play 44 = .ok (.bipush 33, 2) := by decide +kernel
theorem d_DeviceSets_play_46 : decode b_DeviceSets_play 46 = .ok (.lushr, 1) := by decide +kernel
theorem d_DeviceSets_play_47 : decode b_DeviceSets_play 47 = .ok (.aload_n 0, 1) := by decide +kernel
theorem d_DeviceSets_play_48 : decode b_DeviceSets_play 48 = .ok (.getfield 70, 3) := by decide +kernel
theorem d_DeviceSets_play_51 : decode b_DeviceSets_play 51 = .ok (.i2l, 1) := by decide +kernel
theorem d_DeviceSets_play_52 : decode b_DeviceSets_play 52 = .ok (.lrem, 1) := by decide +kernel
theorem d_DeviceSets_play_53 : decode b_DeviceSets_play 53 = .ok (.l2i, 1) := by decide +kernel
theorem d_DeviceSets_play_54 : decode b_DeviceSets_play 54 = .ok (.istore 8, 2) := by decide +kernel
theorem d_DeviceSets_play_56 : decode b_DeviceSets_play 56 = .ok (.lload 4, 2) := by decide +kernel
theorem d_DeviceSets_play_58 : decode b_DeviceSets_play 58 = .ok (.invokestatic 221, 3) := by decide +kernel
theorem d_DeviceSets_play_61 : decode b_DeviceSets_play 61 = .ok (.lstore 4, 2) := by decide +kernel
theorem d_DeviceSets_play_63 : decode b_DeviceSets_play 63 = .ok (.lload 4, 2) := by decide +kernel
theorem d_DeviceSets_play_65 : decode b_DeviceSets_play 65 = .ok (.bipush 33, 2) := by decide +kernel
theorem d_DeviceSets_play_67 : decode b_DeviceSets_play 67 = .ok (.lushr, 1) := by decide +kernel
theorem d_DeviceSets_play_68 : decode b_DeviceSets_play 68 = .ok (.aload_n 0, 1) := by decide +kernel
theorem d_DeviceSets_play_69 : decode b_DeviceSets_play 69 = .ok (.getfield 70, 3) := by decide +kernel
theorem d_DeviceSets_play_72 : decode b_DeviceSets_play 72 = .ok (.i2l, 1) := by decide +kernel
theorem d_DeviceSets_play_73 : decode b_DeviceSets_play 73 = .ok (.lrem, 1) := by decide +kernel
theorem d_DeviceSets_play_74 : decode b_DeviceSets_play 74 = .ok (.l2i, 1) := by decide +kernel
theorem d_DeviceSets_play_75 : decode b_DeviceSets_play 75 = .ok (.istore 9, 2) := by decide +kernel
theorem d_DeviceSets_play_77 : decode b_DeviceSets_play 77 = .ok (.iload 8, 2) := by decide +kernel
theorem d_DeviceSets_play_79 : decode b_DeviceSets_play 79 = .ok (.iload 9, 2) := by decide +kernel
theorem d_DeviceSets_play_81 : decode b_DeviceSets_play 81 = .ok (.if_icmp .eq 17, 3) := by decide +kernel
theorem d_DeviceSets_play_84 : decode b_DeviceSets_play 84 = .ok (.aload_n 0, 1) := by decide +kernel
theorem d_DeviceSets_play_85 : decode b_DeviceSets_play 85 = .ok (.iload 8, 2) := by decide +kernel
theorem d_DeviceSets_play_87 : decode b_DeviceSets_play 87 = .ok (.iload 9, 2) := by decide +kernel
theorem d_DeviceSets_play_89 : decode b_DeviceSets_play 89 = .ok (.invokevirtual 224, 3) := by decide +kernel
theorem d_DeviceSets_play_92 : decode b_DeviceSets_play 92 = .ok (.ifCond .eq 6, 3) := by decide +kernel
theorem d_DeviceSets_play_95 : decode b_DeviceSets_play 95 = .ok (.iinc 6 1, 3) := by decide +kernel
theorem d_DeviceSets_play_98 : decode b_DeviceSets_play 98 = .ok (.iinc 7 1, 3) := by decide +kernel
theorem d_DeviceSets_play_101 : decode b_DeviceSets_play 101 = .ok (.goto (-72), 3) := by decide +kernel
theorem d_DeviceSets_play_104 : decode b_DeviceSets_play 104 = .ok (.iload 6, 2) := by decide +kernel
theorem d_DeviceSets_play_106 : decode b_DeviceSets_play 106 = .ok (.ireturn, 1) := by decide +kernel
theorem d_DeviceSets_deviceAt_0 : decode b_DeviceSets_deviceAt 0 = .ok (.iload_n 1, 1) := by decide +kernel
theorem d_DeviceSets_deviceAt_1 : decode b_DeviceSets_deviceAt 1 = .ok (.ifCond .lt 20, 3) := by decide +kernel
theorem d_DeviceSets_deviceAt_4 : decode b_DeviceSets_deviceAt 4 = .ok (.iload_n 1, 1) := by decide +kernel
theorem d_DeviceSets_deviceAt_5 : decode b_DeviceSets_deviceAt 5 = .ok (.aload_n 0, 1) := by decide +kernel
theorem d_DeviceSets_deviceAt_6 : decode b_DeviceSets_deviceAt 6 = .ok (.getfield 35, 3) := by decide +kernel
theorem d_DeviceSets_deviceAt_9 : decode b_DeviceSets_deviceAt 9 = .ok (.if_icmp .ge 12, 3) := by decide +kernel
theorem d_DeviceSets_deviceAt_12 : decode b_DeviceSets_deviceAt 12 = .ok (.aload_n 0, 1) := by decide +kernel
theorem d_DeviceSets_deviceAt_13 : decode b_DeviceSets_deviceAt 13 = .ok (.getfield 11, 3) := by decide +kernel
theorem d_DeviceSets_deviceAt_16 : decode b_DeviceSets_deviceAt 16 = .ok (.iload_n 1, 1) := by decide +kernel
theorem d_DeviceSets_deviceAt_17 : decode b_DeviceSets_deviceAt 17 = .ok (.aaload, 1) := by decide +kernel
theorem d_DeviceSets_deviceAt_18 : decode b_DeviceSets_deviceAt 18 = .ok (.goto 4, 3) := by decide +kernel
theorem d_DeviceSets_deviceAt_21 : decode b_DeviceSets_deviceAt 21 = .ok (.aconst_null, 1) := by decide +kernel
theorem d_DeviceSets_deviceAt_22 : decode b_DeviceSets_deviceAt 22 = .ok (.areturn, 1) := by decide +kernel
theorem d_DeviceSets_setAt_0 : decode b_DeviceSets_setAt 0 = .ok (.iload_n 1, 1) := by decide +kernel
theorem d_DeviceSets_setAt_1 : decode b_DeviceSets_setAt 1 = .ok (.ifCond .lt 20, 3) := by decide +kernel
theorem d_DeviceSets_setAt_4 : decode b_DeviceSets_setAt 4 = .ok (.iload_n 1, 1) := by decide +kernel
theorem d_DeviceSets_setAt_5 : decode b_DeviceSets_setAt 5 = .ok (.aload_n 0, 1) := by decide +kernel
theorem d_DeviceSets_setAt_6 : decode b_DeviceSets_setAt 6 = .ok (.getfield 70, 3) := by decide +kernel
theorem d_DeviceSets_setAt_9 : decode b_DeviceSets_setAt 9 = .ok (.if_icmp .ge 12, 3) := by decide +kernel
theorem d_DeviceSets_setAt_12 : decode b_DeviceSets_setAt 12 = .ok (.aload_n 0, 1) := by decide +kernel
theorem d_DeviceSets_setAt_13 : decode b_DeviceSets_setAt 13 = .ok (.getfield 17, 3) := by decide +kernel
theorem d_DeviceSets_setAt_16 : decode b_DeviceSets_setAt 16 = .ok (.iload_n 1, 1) := by decide +kernel
theorem d_DeviceSets_setAt_17 : decode b_DeviceSets_setAt 17 = .ok (.aaload, 1) := by decide +kernel
theorem d_DeviceSets_setAt_18 : decode b_DeviceSets_setAt 18 = .ok (.goto 4, 3) := by decide +kernel
theorem d_DeviceSets_setAt_21 : decode b_DeviceSets_setAt 21 = .ok (.aconst_null, 1) := by decide +kernel
theorem d_DeviceSets_setAt_22 : decode b_DeviceSets_setAt 22 = .ok (.areturn, 1) := by decide +kernel
theorem d_DeviceSets_joinChanges_0 : decode b_DeviceSets_joinChanges 0 = .ok (.aload_n 0, 1) := by decide +kernel
theorem d_DeviceSets_joinChanges_1 : decode b_DeviceSets_joinChanges 1 = .ok (.iload_n 1, 1) := by decide +kernel
theorem d_DeviceSets_joinChanges_2 : decode b_DeviceSets_joinChanges 2 = .ok (.invokevirtual 80, 3) := by decide +kernel
theorem d_DeviceSets_joinChanges_5 : decode b_DeviceSets_joinChanges 5 = .ok (.astore_n 3, 1) := by decide +kernel
theorem d_DeviceSets_joinChanges_6 : decode b_DeviceSets_joinChanges 6 = .ok (.aload_n 0, 1) := by decide +kernel
theorem d_DeviceSets_joinChanges_7 : decode b_DeviceSets_joinChanges 7 = .ok (.iload_n 2, 1) := by decide +kernel
theorem d_DeviceSets_joinChanges_8 : decode b_DeviceSets_joinChanges 8 = .ok (.invokevirtual 80, 3) := by decide +kernel
theorem d_DeviceSets_joinChanges_11 : decode b_DeviceSets_joinChanges 11 = .ok (.astore 4, 2) := by decide +kernel
theorem d_DeviceSets_joinChanges_13 : decode b_DeviceSets_joinChanges 13 = .ok (.aload_n 3, 1) := by decide +kernel
theorem d_DeviceSets_joinChanges_14 : decode b_DeviceSets_joinChanges 14 = .ok (.ifnull 21, 3) := by decide +kernel
theorem d_DeviceSets_joinChanges_17 : decode b_DeviceSets_joinChanges 17 = .ok (.aload 4, 2) := by decide +kernel
theorem d_DeviceSets_joinChanges_19 : decode b_DeviceSets_joinChanges 19 = .ok (.ifnull 16, 3) := by decide +kernel
theorem d_DeviceSets_joinChanges_22 : decode b_DeviceSets_joinChanges 22 = .ok (.aload_n 3, 1) := by decide +kernel
theorem d_DeviceSets_joinChanges_23 : decode b_DeviceSets_joinChanges 23 = .ok (.aload 4, 2) := by decide +kernel
theorem d_DeviceSets_joinChanges_25 : decode b_DeviceSets_joinChanges 25 = .ok (.invokevirtual 84, 3) := by decide +kernel
theorem d_DeviceSets_joinChanges_28 : decode b_DeviceSets_joinChanges 28 = .ok (.ifCond .eq 7, 3) := by decide +kernel
theorem d_DeviceSets_joinChanges_31 : decode b_DeviceSets_joinChanges 31 = .ok (.iconst 1, 1) := by decide +kernel
theorem d_DeviceSets_joinChanges_32 : decode b_DeviceSets_joinChanges 32 = .ok (.goto 4, 3) := by decide +kernel
theorem d_DeviceSets_joinChanges_35 : decode b_DeviceSets_joinChanges 35 = .ok (.iconst 0, 1) := by decide +kernel
theorem d_DeviceSets_joinChanges_36 : decode b_DeviceSets_joinChanges 36 = .ok (.ireturn, 1) := by decide +kernel
theorem d_DeviceSets_liveIn_0 : decode b_DeviceSets_liveIn 0 = .ok (.aload_n 0, 1) := by decide +kernel
theorem d_DeviceSets_liveIn_1 : decode b_DeviceSets_liveIn 1 = .ok (.getfield 24, 3) := by decide +kernel
theorem d_DeviceSets_liveIn_4 : decode b_DeviceSets_liveIn 4 = .ok (.aload_n 1, 1) := by decide +kernel
theorem d_DeviceSets_liveIn_5 : decode b_DeviceSets_liveIn 5 = .ok (.getfield 183, 3) := by decide +kernel
theorem d_DeviceSets_liveIn_8 : decode b_DeviceSets_liveIn 8 = .ok (.aload_n 1, 1) := by decide +kernel
theorem d_DeviceSets_liveIn_9 : decode b_DeviceSets_liveIn 9 = .ok (.getfield 138, 3) := by decide +kernel
theorem d_DeviceSets_liveIn_12 : decode b_DeviceSets_liveIn 12 = .ok (.invokevirtual 228, 3) := by decide +kernel
theorem d_DeviceSets_liveIn_15 : decode b_DeviceSets_liveIn 15 = .ok (.lreturn, 1) := by decide +kernel
theorem d_DeviceSets_conflictsIn_0 : decode b_DeviceSets_conflictsIn 0 = .ok (.aload_n 0, 1) := by decide +kernel
theorem d_DeviceSets_conflictsIn_1 : decode b_DeviceSets_conflictsIn 1 = .ok (.getfield 24, 3) := by decide +kernel
theorem d_DeviceSets_conflictsIn_4 : decode b_DeviceSets_conflictsIn 4 = .ok (.aload_n 0, 1) := by decide +kernel
theorem d_DeviceSets_conflictsIn_5 : decode b_DeviceSets_conflictsIn 5 = .ok (.aload_n 1, 1) := by decide +kernel
theorem d_DeviceSets_conflictsIn_6 : decode b_DeviceSets_conflictsIn 6 = .ok (.invokevirtual 158, 3) := by decide +kernel
theorem d_DeviceSets_conflictsIn_9 : decode b_DeviceSets_conflictsIn 9 = .ok (.aload_n 1, 1) := by decide +kernel
theorem d_DeviceSets_conflictsIn_10 : decode b_DeviceSets_conflictsIn 10 = .ok (.getfield 165, 3) := by decide +kernel
theorem d_DeviceSets_conflictsIn_13 : decode b_DeviceSets_conflictsIn 13 = .ok (.invokevirtual 231, 3) := by decide +kernel
theorem d_DeviceSets_conflictsIn_16 : decode b_DeviceSets_conflictsIn 16 = .ok (.lreturn, 1) := by decide +kernel
theorem d_DeviceSets_seenIn_0 : decode b_DeviceSets_seenIn 0 = .ok (.aload_n 0, 1) := by decide +kernel
theorem d_DeviceSets_seenIn_1 : decode b_DeviceSets_seenIn 1 = .ok (.getfield 24, 3) := by decide +kernel
theorem d_DeviceSets_seenIn_4 : decode b_DeviceSets_seenIn 4 = .ok (.aload_n 0, 1) := by decide +kernel
theorem d_DeviceSets_seenIn_5 : decode b_DeviceSets_seenIn 5 = .ok (.aload_n 1, 1) := by decide +kernel
theorem d_DeviceSets_seenIn_6 : decode b_DeviceSets_seenIn 6 = .ok (.invokevirtual 158, 3) := by decide +kernel
theorem d_DeviceSets_seenIn_9 : decode b_DeviceSets_seenIn 9 = .ok (.aload_n 0, 1) := by decide +kernel
theorem d_DeviceSets_seenIn_10 : decode b_DeviceSets_seenIn 10 = .ok (.getfield 24, 3) := by decide +kernel
theorem d_DeviceSets_seenIn_13 : decode b_DeviceSets_seenIn 13 = .ok (.iload_n 2, 1) := by decide +kernel
theorem d_DeviceSets_seenIn_14 : decode b_DeviceSets_seenIn 14 = .ok (.iload_n 3, 1) := by decide +kernel
theorem d_DeviceSets_seenIn_15 : decode b_DeviceSets_seenIn 15 = .ok (.invokevirtual 151, 3) := by decide +kernel
theorem d_DeviceSets_seenIn_18 : decode b_DeviceSets_seenIn 18 = .ok (.land, 1) := by decide +kernel
theorem d_DeviceSets_seenIn_19 : decode b_DeviceSets_seenIn 19 = .ok (.aload_n 1, 1) := by decide +kernel
theorem d_DeviceSets_seenIn_20 : decode b_DeviceSets_seenIn 20 = .ok (.getfield 165, 3) := by decide +kernel
theorem d_DeviceSets_seenIn_23 : decode b_DeviceSets_seenIn 23 = .ok (.invokevirtual 234, 3) := by decide +kernel
theorem d_DeviceSets_seenIn_26 : decode b_DeviceSets_seenIn 26 = .ok (.lreturn, 1) := by decide +kernel
theorem d_DeviceSets_isNumber_0 : decode b_DeviceSets_isNumber 0 = .ok (.lload_n 0, 1) := by decide +kernel
theorem d_DeviceSets_isNumber_1 : decode b_DeviceSets_isNumber 1 = .ok (.lconst 0, 1) := by decide +kernel
theorem d_DeviceSets_isNumber_2 : decode b_DeviceSets_isNumber 2 = .ok (.lcmp, 1) := by decide +kernel
theorem d_DeviceSets_isNumber_3 : decode b_DeviceSets_isNumber 3 = .ok (.ifCond .lt 15, 3) := by decide +kernel
theorem d_DeviceSets_isNumber_6 : decode b_DeviceSets_isNumber 6 = .ok (.lload_n 0, 1) := by decide +kernel
theorem d_DeviceSets_isNumber_7 : decode b_DeviceSets_isNumber 7 = .ok (.ldc2_w 237, 3) := by decide +kernel
theorem d_DeviceSets_isNumber_10 : decode b_DeviceSets_isNumber 10 = .ok (.lcmp, 1) := by decide +kernel
theorem d_DeviceSets_isNumber_11 : decode b_DeviceSets_isNumber 11 = .ok (.ifCond .gt 7, 3) := by decide +kernel
theorem d_DeviceSets_isNumber_14 : decode b_DeviceSets_isNumber 14 = .ok (.iconst 1, 1) := by decide +kernel
theorem d_DeviceSets_isNumber_15 : decode b_DeviceSets_isNumber 15 = .ok (.goto 4, 3) := by decide +kernel
theorem d_DeviceSets_isNumber_18 : decode b_DeviceSets_isNumber 18 = .ok (.iconst 0, 1) := by decide +kernel
theorem d_DeviceSets_isNumber_19 : decode b_DeviceSets_isNumber 19 = .ok (.ireturn, 1) := by decide +kernel
theorem d_DeviceSets_isKind_0 : decode b_DeviceSets_isKind 0 = .ok (.iload_n 0, 1) := by decide +kernel
theorem d_DeviceSets_isKind_1 : decode b_DeviceSets_isKind 1 = .ok (.ifCond .lt 12, 3) := by decide +kernel
theorem d_DeviceSets_isKind_4 : decode b_DeviceSets_isKind 4 = .ok (.iload_n 0, 1) := by decide +kernel
theorem d_DeviceSets_isKind_5 : decode b_DeviceSets_isKind 5 = .ok (.iconst 4, 1) := by decide +kernel
theorem d_DeviceSets_isKind_6 : decode b_DeviceSets_isKind 6 = .ok (.if_icmp .ge 7, 3) := by decide +kernel
theorem d_DeviceSets_isKind_9 : decode b_DeviceSets_isKind 9 = .ok (.iconst 1, 1) := by decide +kernel
theorem d_DeviceSets_isKind_10 : decode b_DeviceSets_isKind 10 = .ok (.goto 4, 3) := by decide +kernel
theorem d_DeviceSets_isKind_13 : decode b_DeviceSets_isKind 13 = .ok (.iconst 0, 1) := by decide +kernel
theorem d_DeviceSets_isKind_14 : decode b_DeviceSets_isKind 14 = .ok (.ireturn, 1) := by decide +kernel
theorem d_DeviceSets_isValue_0 : decode b_DeviceSets_isValue 0 = .ok (.lload_n 0, 1) := by decide +kernel
theorem d_DeviceSets_isValue_1 : decode b_DeviceSets_isValue 1 = .ok (.ldc2_w 239, 3) := by decide +kernel
theorem d_DeviceSets_isValue_4 : decode b_DeviceSets_isValue 4 = .ok (.lcmp, 1) := by decide +kernel
theorem d_DeviceSets_isValue_5 : decode b_DeviceSets_isValue 5 = .ok (.ifCond .lt 15, 3) := by decide +kernel
theorem d_DeviceSets_isValue_8 : decode b_DeviceSets_isValue 8 = .ok (.lload_n 0, 1) := by decide +kernel
theorem d_DeviceSets_isValue_9 : decode b_DeviceSets_isValue 9 = .ok (.ldc2_w 241, 3) := by decide +kernel
theorem d_DeviceSets_isValue_12 : decode b_DeviceSets_isValue 12 = .ok (.lcmp, 1) := by decide +kernel
theorem d_DeviceSets_isValue_13 : decode b_DeviceSets_isValue 13 = .ok (.ifCond .gt 7, 3) := by decide +kernel
theorem d_DeviceSets_isValue_16 : decode b_DeviceSets_isValue 16 = .ok (.iconst 1, 1) := by decide +kernel
theorem d_DeviceSets_isValue_17 : decode b_DeviceSets_isValue 17 = .ok (.goto 4, 3) := by decide +kernel
theorem d_DeviceSets_isValue_20 : decode b_DeviceSets_isValue 20 = .ok (.iconst 0, 1) := by decide +kernel
theorem d_DeviceSets_isValue_21 : decode b_DeviceSets_isValue 21 = .ok (.ireturn, 1) := by decide +kernel
theorem d_DeviceSets_bit_0 : decode b_DeviceSets_bit 0 = .ok (.lconst 1, 1) := by decide +kernel
theorem d_DeviceSets_bit_1 : decode b_DeviceSets_bit 1 = .ok (.iload_n 0, 1) := by decide +kernel
theorem d_DeviceSets_bit_2 : decode b_DeviceSets_bit 2 = .ok (.lshl, 1) := by decide +kernel
theorem d_DeviceSets_bit_3 : decode b_DeviceSets_bit 3 = .ok (.lreturn, 1) := by decide +kernel
theorem d_DeviceSets_isIn_0 : decode b_DeviceSets_isIn 0 = .ok (.lload_n 1, 1) := by decide +kernel
theorem d_DeviceSets_isIn_1 : decode b_DeviceSets_isIn 1 = .ok (.iload_n 0, 1) := by decide +kernel
theorem d_DeviceSets_isIn_2 : decode b_DeviceSets_isIn 2 = .ok (.invokestatic 110, 3) := by decide +kernel
theorem d_DeviceSets_isIn_5 : decode b_DeviceSets_isIn 5 = .ok (.land, 1) := by decide +kernel
theorem d_DeviceSets_isIn_6 : decode b_DeviceSets_isIn 6 = .ok (.lconst 0, 1) := by decide +kernel
theorem d_DeviceSets_isIn_7 : decode b_DeviceSets_isIn 7 = .ok (.lcmp, 1) := by decide +kernel
theorem d_DeviceSets_isIn_8 : decode b_DeviceSets_isIn 8 = .ok (.ifCond .eq 7, 3) := by decide +kernel
theorem d_DeviceSets_isIn_11 : decode b_DeviceSets_isIn 11 = .ok (.iconst 1, 1) := by decide +kernel
theorem d_DeviceSets_isIn_12 : decode b_DeviceSets_isIn 12 = .ok (.goto 4, 3) := by decide +kernel
theorem d_DeviceSets_isIn_15 : decode b_DeviceSets_isIn 15 = .ok (.iconst 0, 1) := by decide +kernel
theorem d_DeviceSets_isIn_16 : decode b_DeviceSets_isIn 16 = .ok (.ireturn, 1) := by decide +kernel
theorem d_DeviceSets_nextDraw_0 : decode b_DeviceSets_nextDraw 0 = .ok (.lload_n 0, 1) := by decide +kernel
theorem d_DeviceSets_nextDraw_1 : decode b_DeviceSets_nextDraw 1 = .ok (.ldc2_w 243, 3) := by decide +kernel
theorem d_DeviceSets_nextDraw_4 : decode b_DeviceSets_nextDraw 4 = .ok (.lmul, 1) := by decide +kernel
theorem d_DeviceSets_nextDraw_5 : decode b_DeviceSets_nextDraw 5 = .ok (.ldc2_w 245, 3) := by decide +kernel
theorem d_DeviceSets_nextDraw_8 : decode b_DeviceSets_nextDraw 8 = .ok (.ladd, 1) := by decide +kernel
theorem d_DeviceSets_nextDraw_9 : decode b_DeviceSets_nextDraw 9 = .ok (.lreturn, 1) := by decide +kernel
theorem d_DeviceSets_commonDivisor_0 : decode b_DeviceSets_commonDivisor 0 = .ok (.lload_n 0, 1) := by decide +kernel
theorem d_DeviceSets_commonDivisor_1 : decode b_DeviceSets_commonDivisor 1 = .ok (.lstore 4, 2) := by decide +kernel
theorem d_DeviceSets_commonDivisor_3 : decode b_DeviceSets_commonDivisor 3 = .ok (.lload_n 2, 1) := by decide +kernel
theorem d_DeviceSets_commonDivisor_4 : decode b_DeviceSets_commonDivisor 4 = .ok (.lstore 6, 2) := by decide +kernel
theorem d_DeviceSets_commonDivisor_6 : decode b_DeviceSets_commonDivisor 6 = .ok (.iconst 0, 1) := by decide +kernel
theorem d_DeviceSets_commonDivisor_7 : decode b_DeviceSets_commonDivisor 7 = .ok (.istore 8, 2) := by decide +kernel
theorem d_DeviceSets_commonDivisor_9 : decode b_DeviceSets_commonDivisor 9 = .ok (.iload 8, 2) := by decide +kernel
theorem d_DeviceSets_commonDivisor_11 : decode b_DeviceSets_commonDivisor 11 = .ok (.bipush 100, 2) := by decide +kernel
theorem d_DeviceSets_commonDivisor_13 : decode b_DeviceSets_commonDivisor 13 = .ok (.if_icmp .ge 31, 3) := by decide +kernel
theorem d_DeviceSets_commonDivisor_16 : decode b_DeviceSets_commonDivisor 16 = .ok (.lload 6, 2) := by decide +kernel
theorem d_DeviceSets_commonDivisor_18 : decode b_DeviceSets_commonDivisor 18 = .ok (.lconst 0, 1) := by decide +kernel
theorem d_DeviceSets_commonDivisor_19 : decode b_DeviceSets_commonDivisor 19 = .ok (.lcmp, 1) := by decide +kernel
theorem d_DeviceSets_commonDivisor_20 : decode b_DeviceSets_commonDivisor 20 = .ok (.ifCond .eq 24, 3) := by decide +kernel
theorem d_DeviceSets_commonDivisor_23 : decode b_DeviceSets_commonDivisor 23 = .ok (.lload 4, 2) := by decide +kernel
theorem d_DeviceSets_commonDivisor_25 : decode b_DeviceSets_commonDivisor 25 = .ok (.lload 6, 2) := by decide +kernel
theorem d_DeviceSets_commonDivisor_27 : decode b_DeviceSets_commonDivisor 27 = .ok (.lrem, 1) := by decide +kernel
theorem d_DeviceSets_commonDivisor_28 : decode b_DeviceSets_commonDivisor 28 = .ok (.lstore 9, 2) := by decide +kernel
theorem d_DeviceSets_commonDivisor_30 : decode b_DeviceSets_commonDivisor 30 = .ok (.lload 6, 2) := by decide +kernel
theorem d_DeviceSets_commonDivisor_32 : decode b_DeviceSets_commonDivisor 32 = .ok (.lstore 4, 2) := by decide +kernel
theorem d_DeviceSets_commonDivisor_34 : decode b_DeviceSets_commonDivisor 34 = .ok (.lload 9, 2) := by decide +kernel
theorem d_DeviceSets_commonDivisor_36 : decode b_DeviceSets_commonDivisor 36 = .ok (.lstore 6, 2) := by decide +kernel
theorem d_DeviceSets_commonDivisor_38 : decode b_DeviceSets_commonDivisor 38 = .ok (.iinc 8 1, 3) := by decide +kernel
theorem d_DeviceSets_commonDivisor_41 : decode b_DeviceSets_commonDivisor 41 = .ok (.goto (-32), 3) := by decide +kernel
theorem d_DeviceSets_commonDivisor_44 : decode b_DeviceSets_commonDivisor 44 = .ok (.lload 4, 2) := by decide +kernel
theorem d_DeviceSets_commonDivisor_46 : decode b_DeviceSets_commonDivisor 46 = .ok (.lreturn, 1) := by decide +kernel
theorem d_Device_init_0 : decode b_Device_init 0 = .ok (.aload_n 0, 1) := by decide +kernel
theorem d_Device_init_1 : decode b_Device_init 1 = .ok (.invokespecial 1, 3) := by decide +kernel
theorem d_Device_init_4 : decode b_Device_init 4 = .ok (.aload_n 0, 1) := by decide +kernel
theorem d_Device_init_5 : decode b_Device_init 5 = .ok (.new 7, 3) := by decide +kernel
theorem d_Device_init_8 : decode b_Device_init 8 = .ok (.dup, 1) := by decide +kernel
theorem d_Device_init_9 : decode b_Device_init 9 = .ok (.invokespecial 9, 3) := by decide +kernel
theorem d_Device_init_12 : decode b_Device_init 12 = .ok (.putfield 10, 3) := by decide +kernel
theorem d_Device_init_15 : decode b_Device_init 15 = .ok (.return_, 1) := by decide +kernel
theorem d_Clock_init_0 : decode b_Clock_init 0 = .ok (.aload_n 0, 1) := by decide +kernel
theorem d_Clock_init_1 : decode b_Clock_init 1 = .ok (.invokespecial 3, 3) := by decide +kernel
theorem d_Clock_init_4 : decode b_Clock_init 4 = .ok (.aload_n 0, 1) := by decide +kernel
theorem d_Clock_init_5 : decode b_Clock_init 5 = .ok (.bipush 10, 2) := by decide +kernel
theorem d_Clock_init_7 : decode b_Clock_init 7 = .ok (.newarray .long, 2) := by decide +kernel
theorem d_Clock_init_9 : decode b_Clock_init 9 = .ok (.putfield 9, 3) := by decide +kernel
theorem d_Clock_init_12 : decode b_Clock_init 12 = .ok (.aload_n 0, 1) := by decide +kernel
theorem d_Clock_init_13 : decode b_Clock_init 13 = .ok (.bipush 10, 2) := by decide +kernel
theorem d_Clock_init_15 : decode b_Clock_init 15 = .ok (.newarray .long, 2) := by decide +kernel
theorem d_Clock_init_17 : decode b_Clock_init 17 = .ok (.putfield 15, 3) := by decide +kernel
theorem d_Clock_init_20 : decode b_Clock_init 20 = .ok (.return_, 1) := by decide +kernel
theorem d_Clock_addMark_0 : decode b_Clock_addMark 0 = .ok (.aload_n 0, 1) := by decide +kernel
theorem d_Clock_addMark_1 : decode b_Clock_addMark 1 = .ok (.getfield 18, 3) := by decide +kernel
theorem d_Clock_addMark_4 : decode b_Clock_addMark 4 = .ok (.bipush 10, 2) := by decide +kernel
theorem d_Clock_addMark_6 : decode b_Clock_addMark 6 = .ok (.if_icmp .lt 5, 3) := by decide +kernel
theorem d_Clock_addMark_9 : decode b_Clock_addMark 9 = .ok (.iconst 0, 1) := by decide +kernel
theorem d_Clock_addMark_10 : decode b_Clock_addMark 10 = .ok (.ireturn, 1) := by decide +kernel
theorem d_Clock_addMark_11 : decode b_Clock_addMark 11 = .ok (.aload_n 0, 1) := by decide +kernel
theorem d_Clock_addMark_12 : decode b_Clock_addMark 12 = .ok (.getfield 18, 3) := by decide +kernel
theorem d_Clock_addMark_15 : decode b_Clock_addMark 15 = .ok (.ifCond .le 37, 3) := by decide +kernel
theorem d_Clock_addMark_18 : decode b_Clock_addMark 18 = .ok (.lload_n 1, 1) := by decide +kernel
theorem d_Clock_addMark_19 : decode b_Clock_addMark 19 = .ok (.aload_n 0, 1) := by decide +kernel
theorem d_Clock_addMark_20 : decode b_Clock_addMark 20 = .ok (.getfield 9, 3) := by decide +kernel
theorem d_Clock_addMark_23 : decode b_Clock_addMark 23 = .ok (.aload_n 0, 1) := by decide +kernel
theorem d_Clock_addMark_24 : decode b_Clock_addMark 24 = .ok (.getfield 18, 3) := by decide +kernel
theorem d_Clock_addMark_27 : decode b_Clock_addMark 27 = .ok (.iconst 1, 1) := by decide +kernel
theorem d_Clock_addMark_28 : decode b_Clock_addMark 28 = .ok (.isub, 1) := by decide +kernel
theorem d_Clock_addMark_29 : decode b_Clock_addMark 29 = .ok (.laload, 1) := by decide +kernel
theorem d_Clock_addMark_30 : decode b_Clock_addMark 30 = .ok (.lcmp, 1) := by decide +kernel
theorem d_Clock_addMark_31 : decode b_Clock_addMark 31 = .ok (.ifCond .le 19, 3) := by decide +kernel
theorem d_Clock_addMark_34 : decode b_Clock_addMark 34 = .ok (.lload_n 3, 1) := by decide +kernel
theorem d_Clock_addMark_35 : decode b_Clock_addMark 35 = .ok (.aload_n 0, 1) := by decide +kernel
theorem d_Clock_addMark_36 : decode b_Clock_addMark 36 = .ok (.getfield 15, 3) := by decide +kernel
theorem d_Clock_addMark_39 : decode b_Clock_addMark 39 = .ok (.aload_n 0, 1) := by decide +kernel
theorem d_Clock_addMark_40 : decode b_Clock_addMark 40 = .ok (.getfield 18, 3) := by decide +kernel
theorem d_Clock_addMark_43 : decode b_Clock_addMark 43 = .ok (.iconst 1, 1) := by decide +kernel
theorem d_Clock_addMark_44 : decode b_Clock_addMark 44 = .ok (.isub, 1) := by decide +kernel
theorem d_Clock_addMark_45 : decode b_Clock_addMark 45 = .ok (.laload, 1) := by decide +kernel
theorem d_Clock_addMark_46 : decode b_Clock_addMark 46 = .ok (.lcmp, 1) := by decide +kernel
theorem d_Clock_addMark_47 : decode b_Clock_addMark 47 = .ok (.ifCond .ge 5, 3) := by decide +kernel
theorem d_Clock_addMark_50 : decode b_Clock_addMark 50 = .ok (.iconst 0, 1) := by decide +kernel
theorem d_Clock_addMark_51 : decode b_Clock_addMark 51 = .ok (.ireturn, 1) := by decide +kernel
theorem d_Clock_addMark_52 : decode b_Clock_addMark 52 = .ok (.aload_n 0, 1) := by decide +kernel
theorem d_Clock_addMark_53 : decode b_Clock_addMark 53 = .ok (.getfield 9, 3) := by decide +kernel
theorem d_Clock_addMark_56 : decode b_Clock_addMark 56 = .ok (.aload_n 0, 1) := by decide +kernel
theorem d_Clock_addMark_57 : decode b_Clock_addMark 57 = .ok (.getfield 18, 3) := by decide +kernel
theorem d_Clock_addMark_60 : decode b_Clock_addMark 60 = .ok (.lload_n 1, 1) := by decide +kernel
theorem d_Clock_addMark_61 : decode b_Clock_addMark 61 = .ok (.lastore, 1) := by decide +kernel
theorem d_Clock_addMark_62 : decode b_Clock_addMark 62 = .ok (.aload_n 0, 1) := by decide +kernel
theorem d_Clock_addMark_63 : decode b_Clock_addMark 63 = .ok (.getfield 15, 3) := by decide +kernel
theorem d_Clock_addMark_66 : decode b_Clock_addMark 66 = .ok (.aload_n 0, 1) := by decide +kernel
theorem d_Clock_addMark_67 : decode b_Clock_addMark 67 = .ok (.getfield 18, 3) := by decide +kernel
theorem d_Clock_addMark_70 : decode b_Clock_addMark 70 = .ok (.lload_n 3, 1) := by decide +kernel
theorem d_Clock_addMark_71 : decode b_Clock_addMark 71 = .ok (.lastore, 1) := by decide +kernel
theorem d_Clock_addMark_72 : decode b_Clock_addMark 72 = .ok (.aload_n 0, 1) := by decide +kernel
theorem d_Clock_addMark_73 : decode b_Clock_addMark 73 = .ok (.dup, 1) := by decide +kernel
theorem d_Clock_addMark_74 : decode b_Clock_addMark 74 = .ok (.getfield 18, 3) := by decide +kernel
theorem d_Clock_addMark_77 : decode b_Clock_addMark 77 = .ok (.iconst 1, 1) := by decide +kernel
theorem d_Clock_addMark_78 : decode b_Clock_addMark 78 = .ok (.iadd, 1) := by decide +kernel
theorem d_Clock_addMark_79 : decode b_Clock_addMark 79 = .ok (.putfield 18, 3) := by decide +kernel
theorem d_Clock_addMark_82 : decode b_Clock_addMark 82 = .ok (.iconst 1, 1) := by decide +kernel
theorem d_Clock_addMark_83 : decode b_Clock_addMark 83 = .ok (.ireturn, 1) := by decide +kernel
theorem d_Clock_denominator_0 : decode b_Clock_denominator 0 = .ok (.aload_n 0, 1) := by decide +kernel
theorem d_Clock_denominator_1 : decode b_Clock_denominator 1 = .ok (.lload_n 1, 1) := by decide +kernel
theorem d_Clock_denominator_2 : decode b_Clock_denominator 2 = .ok (.invokevirtual 22, 3) := by decide +kernel
theorem d_Clock_denominator_5 : decode b_Clock_denominator 5 = .ok (.istore_n 3, 1) := by decide +kernel
theorem d_Clock_denominator_6 : decode b_Clock_denominator 6 = .ok (.aload_n 0, 1) := by decide +kernel
theorem d_Clock_denominator_7 : decode b_Clock_denominator 7 = .ok (.iload_n 3, 1) := by decide +kernel
theorem d_Clock_denominator_8 : decode b_Clock_denominator 8 = .ok (.invokevirtual 26, 3) := by decide +kernel
theorem d_Clock_denominator_11 : decode b_Clock_denominator 11 = .ok (.ifCond .eq 21, 3) := by decide +kernel
theorem d_Clock_denominator_14 : decode b_Clock_denominator 14 = .ok (.aload_n 0, 1) := by decide +kernel
theorem d_Clock_denominator_15 : decode b_Clock_denominator 15 = .ok (.getfield 9, 3) := by decide +kernel
theorem d_Clock_denominator_18 : decode b_Clock_denominator 18 = .ok (.iload_n 3, 1) := by decide +kernel
theorem d_Clock_denominator_19 : decode b_Clock_denominator 19 = .ok (.iconst 1, 1) := by decide +kernel
theorem d_Clock_denominator_20 : decode b_Clock_denominator 20 = .ok (.iadd, 1) := by decide +kernel
theorem d_Clock_denominator_21 : decode b_Clock_denominator 21 = .ok (.laload, 1) := by decide +kernel
theorem d_Clock_denominator_22 : decode b_Clock_denominator 22 = .ok (.aload_n 0, 1) := by decide +kernel
theorem d_Clock_denominator_23 : decode b_Clock_denominator 23 = .ok (.getfield 9, 3) := by decide +kernel
theorem d_Clock_denominator_26 : decode b_Clock_denominator 26 = .ok (.iload_n 3, 1) := by decide +kernel
theorem d_Clock_denominator_27 : decode b_Clock_denominator 27 = .ok (.laload, 1) := by decide +kernel
theorem d_Clock_denominator_28 : decode b_Clock_denominator 28 = .ok (.lsub, 1) := by decide +kernel
theorem d_Clock_denominator_29 : decode b_Clock_denominator 29 = .ok (.goto 4, 3) := by decide +kernel
theorem d_Clock_denominator_32 : decode b_Clock_denominator 32 = .ok (.lconst 1, 1) := by decide +kernel
theorem d_Clock_denominator_33 : decode b_Clock_denominator 33 = .ok (.lreturn, 1) := by decide +kernel
theorem d_Clock_numerator_0 : decode b_Clock_numerator 0 = .ok (.aload_n 0, 1) := by decide +kernel
theorem d_Clock_numerator_1 : decode b_Clock_numerator 1 = .ok (.getfield 18, 3) := by decide +kernel
theorem d_Clock_numerator_4 : decode b_Clock_numerator 4 = .ok (.ifCond .ne 5, 3) := by decide +kernel
theorem d_Clock_numerator_7 : decode b_Clock_numerator 7 = .ok (.lload_n 1, 1) := by decide +kernel
theorem d_Clock_numerator_8 : decode b_Clock_numerator 8 = .ok (.lreturn, 1) := by decide +kernel
theorem d_Clock_numerator_9 : decode b_Clock_numerator 9 = .ok (.aload_n 0, 1) := by decide +kernel
theorem d_Clock_numerator_10 : decode b_Clock_numerator 10 = .ok (.lload_n 1, 1) := by decide +kernel
theorem d_Clock_numerator_11 : decode b_Clock_numerator 11 = .ok (.invokevirtual 22, 3) := by decide +kernel
theorem d_Clock_numerator_14 : decode b_Clock_numerator 14 = .ok (.istore_n 3, 1) := by decide +kernel
theorem d_Clock_numerator_15 : decode b_Clock_numerator 15 = .ok (.aload_n 0, 1) := by decide +kernel
theorem d_Clock_numerator_16 : decode b_Clock_numerator 16 = .ok (.iload_n 3, 1) := by decide +kernel
theorem d_Clock_numerator_17 : decode b_Clock_numerator 17 = .ok (.invokevirtual 26, 3) := by decide +kernel
theorem d_Clock_numerator_20 : decode b_Clock_numerator 20 = .ok (.ifCond .eq 59, 3) := by decide +kernel
theorem d_Clock_numerator_23 : decode b_Clock_numerator 23 = .ok (.aload_n 0, 1) := by decide +kernel
theorem d_Clock_numerator_24 : decode b_Clock_numerator 24 = .ok (.getfield 9, 3) := by decide +kernel
theorem d_Clock_numerator_27 : decode b_Clock_numerator 27 = .ok (.iload_n 3, 1) := by decide +kernel
theorem d_Clock_numerator_28 : decode b_Clock_numerator 28 = .ok (.iconst 1, 1) := by decide +kernel
theorem d_Clock_numerator_29 : decode b_Clock_numerator 29 = .ok (.iadd, 1) := by decide +kernel
theorem d_Clock_numerator_30 : decode b_Clock_numerator 30 = .ok (.laload, 1) := by decide +kernel
theorem d_Clock_numerator_31 : decode b_Clock_numerator 31 = .ok (.aload_n 0, 1) := by decide +kernel
theorem d_Clock_numerator_32 : decode b_Clock_numerator 32 = .ok (.getfield 9, 3) := by decide +kernel
theorem d_Clock_numerator_35 : decode b_Clock_numerator 35 = .ok (.iload_n 3, 1) := by decide +kernel
theorem d_Clock_numerator_36 : decode b_Clock_numerator 36 = .ok (.laload, 1) := by decide +kernel
theorem d_Clock_numerator_37 : decode b_Clock_numerator 37 = .ok (.lsub, 1) := by decide +kernel
theorem d_Clock_numerator_38 : decode b_Clock_numerator 38 = .ok (.lstore 4, 2) := by decide +kernel
theorem d_Clock_numerator_40 : decode b_Clock_numerator 40 = .ok (.aload_n 0, 1) := by decide +kernel
theorem d_Clock_numerator_41 : decode b_Clock_numerator 41 = .ok (.getfield 15, 3) := by decide +kernel
theorem d_Clock_numerator_44 : decode b_Clock_numerator 44 = .ok (.iload_n 3, 1) := by decide +kernel
theorem d_Clock_numerator_45 : decode b_Clock_numerator 45 = .ok (.iconst 1, 1) := by decide +kernel
theorem d_Clock_numerator_46 : decode b_Clock_numerator 46 = .ok (.iadd, 1) := by decide +kernel
theorem d_Clock_numerator_47 : decode b_Clock_numerator 47 = .ok (.laload, 1) := by decide +kernel
theorem d_Clock_numerator_48 : decode b_Clock_numerator 48 = .ok (.aload_n 0, 1) := by decide +kernel
theorem d_Clock_numerator_49 : decode b_Clock_numerator 49 = .ok (.getfield 15, 3) := by decide +kernel
theorem d_Clock_numerator_52 : decode b_Clock_numerator 52 = .ok (.iload_n 3, 1) := by decide +kernel
theorem d_Clock_numerator_53 : decode b_Clock_numerator 53 = .ok (.laload, 1) := by decide +kernel
theorem d_Clock_numerator_54 : decode b_Clock_numerator 54 = .ok (.lsub, 1) := by decide +kernel
theorem d_Clock_numerator_55 : decode b_Clock_numerator 55 = .ok (.lstore 6, 2) := by decide +kernel
theorem d_Clock_numerator_57 : decode b_Clock_numerator 57 = .ok (.aload_n 0, 1) := by decide +kernel
theorem d_Clock_numerator_58 : decode b_Clock_numerator 58 = .ok (.getfield 15, 3) := by decide +kernel
theorem d_Clock_numerator_61 : decode b_Clock_numerator 61 = .ok (.iload_n 3, 1) := by decide +kernel
theorem d_Clock_numerator_62 : decode b_Clock_numerator 62 = .ok (.laload, 1) := by decide +kernel
theorem d_Clock_numerator_63 : decode b_Clock_numerator 63 = .ok (.lload 4, 2) := by decide +kernel
theorem d_Clock_numerator_65 : decode b_Clock_numerator 65 = .ok (.lmul, 1) := by decide +kernel
theorem d_Clock_numerator_66 : decode b_Clock_numerator 66 = .ok (.lload_n 1, 1) := by decide +kernel
theorem d_Clock_numerator_67 : decode b_Clock_numerator 67 = .ok (.aload_n 0, 1) := by decide +kernel
theorem d_Clock_numerator_68 : decode b_Clock_numerator 68 = .ok (.getfield 9, 3) := by decide +kernel
theorem d_Clock_numerator_71 : decode b_Clock_numerator 71 = .ok (.iload_n 3, 1) := by decide +kernel
theorem d_Clock_numerator_72 : decode b_Clock_numerator 72 = .ok (.laload, 1) := by decide +kernel
theorem d_Clock_numerator_73 : decode b_Clock_numerator 73 = .ok (.lsub, 1) := by decide +kernel
theorem d_Clock_numerator_74 : decode b_Clock_numerator 74 = .ok (.lload 6, 2) := by decide +kernel
theorem d_Clock_numerator_76 : decode b_Clock_numerator 76 = .ok (.lmul, 1) := by decide +kernel
theorem d_Clock_numerator_77 : decode b_Clock_numerator 77 = .ok (.ladd, 1) := by decide +kernel
theorem d_Clock_numerator_78 : decode b_Clock_numerator 78 = .ok (.lreturn, 1) := by decide +kernel
theorem d_Clock_numerator_79 : decode b_Clock_numerator 79 = .ok (.iload_n 3, 1) := by decide +kernel
theorem d_Clock_numerator_80 : decode b_Clock_numerator 80 = .ok (.iconst 0, 1) := by decide +kernel
theorem d_Clock_numerator_81 : decode b_Clock_numerator 81 = .ok (.invokestatic 30, 3) := by decide +kernel
theorem d_Clock_numerator_84 : decode b_Clock_numerator 84 = .ok (.istore 4, 2) := by decide +kernel
theorem d_Clock_numerator_86 : decode b_Clock_numerator 86 = .ok (.lload_n 1, 1) := by decide +kernel
theorem d_Clock_numerator_87 : decode b_Clock_numerator 87 = .ok (.aload_n 0, 1) := by decide +kernel
theorem d_Clock_numerator_88 : decode b_Clock_numerator 88 = .ok (.getfield 15, 3) := by decide +kernel
theorem d_Clock_numerator_91 : decode b_Clock_numerator 91 = .ok (.iload 4, 2) := by decide +kernel
theorem d_Clock_numerator_93 : decode b_Clock_numerator 93 = .ok (.laload, 1) := by decide +kernel
theorem d_Clock_numerator_94 : decode b_Clock_numerator 94 = .ok (.ladd, 1) := by decide +kernel
theorem d_Clock_numerator_95 : decode b_Clock_numerator 95 = .ok (.aload_n 0, 1) := by decide +kernel
theorem d_Clock_numerator_96 : decode b_Clock_numerator 96 = .ok (.getfield 9, 3) := by decide +kernel
theorem d_Clock_numerator_99 : decode b_Clock_numerator 99 = .ok (.iload 4, 2) := by decide +kernel
theorem d_Clock_numerator_101 : decode b_Clock_numerator 101 = .ok (.laload, 1) := by decide +kernel
theorem d_Clock_numerator_102 : decode b_Clock_numerator 102 = .ok (.lsub, 1) := by decide +kernel
theorem d_Clock_numerator_103 : decode b_Clock_numerator 103 = .ok (.lreturn, 1) := by decide +kernel
theorem d_Clock_isBetween_0 : decode b_Clock_isBetween 0 = .ok (.iload_n 1, 1) := by decide +kernel
theorem d_Clock_isBetween_1 : decode b_Clock_isBetween 1 = .ok (.ifCond .lt 17, 3) := by decide +kernel
theorem d_Clock_isBetween_4 : decode b_Clock_isBetween 4 = .ok (.iload_n 1, 1) := by decide +kernel
theorem d_Clock_isBetween_5 : decode b_Clock_isBetween 5 = .ok (.aload_n 0, 1) := by decide +kernel
theorem d_Clock_isBetween_6 : decode b_Clock_isBetween 6 = .ok (.getfield 18, 3) := by decide +kernel
theorem d_Clock_isBetween_9 : decode b_Clock_isBetween 9 = .ok (.iconst 1, 1) := by decide +kernel
theorem d_Clock_isBetween_10 : decode b_Clock_isBetween 10 = .ok (.isub, 1) := by decide +kernel
theorem d_Clock_isBetween_11 : decode b_Clock_isBetween 11 = .ok (.if_icmp .ge 7, 3) := by decide +kernel
theorem d_Clock_isBetween_14 : decode b_Clock_isBetween 14 = .ok (.iconst 1, 1) := by decide +kernel
theorem d_Clock_isBetween_15 : decode b_Clock_isBetween 15 = .ok (.goto 4, 3) := by decide +kernel
theorem d_Clock_isBetween_18 : decode b_Clock_isBetween 18 = .ok (.iconst 0, 1) := by decide +kernel
theorem d_Clock_isBetween_19 : decode b_Clock_isBetween 19 = .ok (.ireturn, 1) := by decide +kernel
theorem d_Clock_markBefore_0 : decode b_Clock_markBefore 0 = .ok (.iconst (-1), 1) := by decide +kernel
theorem d_Clock_markBefore_1 : decode b_Clock_markBefore 1 = .ok (.istore_n 3, 1) := by decide +kernel
theorem d_Clock_markBefore_2 : decode b_Clock_markBefore 2 = .ok (.iconst 0, 1) := by decide +kernel
theorem d_Clock_markBefore_3 : decode b_Clock_markBefore 3 = .ok (.istore 4, 2) := by decide +kernel
theorem d_Clock_markBefore_5 : decode b_Clock_markBefore 5 = .ok (.iload 4, 2) := by decide +kernel
theorem d_Clock_markBefore_7 : decode b_Clock_markBefore 7 = .ok (.aload_n 0, 1) := by decide +kernel
theorem d_Clock_markBefore_8 : decode b_Clock_markBefore 8 = .ok (.getfield 18, 3) := by decide +kernel
theorem d_Clock_markBefore_11 : decode b_Clock_markBefore 11 = .ok (.if_icmp .ge 24, 3) := by decide +kernel
theorem d_Clock_markBefore_14 : decode b_Clock_markBefore 14 = .ok (.aload_n 0, 1) := by decide +kernel
theorem d_Clock_markBefore_15 : decode b_Clock_markBefore 15 = .ok (.getfield 9, 3) := by decide +kernel
theorem d_Clock_markBefore_18 : decode b_Clock_markBefore 18 = .ok (.iload 4, 2) := by decide +kernel
theorem d_Clock_markBefore_20 : decode b_Clock_markBefore 20 = .ok (.laload, 1) := by decide +kernel
theorem d_Clock_markBefore_21 : decode b_Clock_markBefore 21 = .ok (.lload_n 1, 1) := by decide +kernel
theorem d_Clock_markBefore_22 : decode b_Clock_markBefore 22 = .ok (.lcmp, 1) := by decide +kernel
theorem d_Clock_markBefore_23 : decode b_Clock_markBefore 23 = .ok (.ifCond .gt 6, 3) := by decide +kernel
theorem d_Clock_markBefore_26 : decode b_Clock_markBefore 26 = .ok (.iload 4, 2) := by decide +kernel
theorem d_Clock_markBefore_28 : decode b_Clock_markBefore 28 = .ok (.istore_n 3, 1) := by decide +kernel
theorem d_Clock_markBefore_29 : decode b_Clock_markBefore 29 = .ok (.iinc 4 1, 3) := by decide +kernel
theorem d_Clock_markBefore_32 : decode b_Clock_markBefore 32 = .ok (.goto (-27), 3) := by decide +kernel
theorem d_Clock_markBefore_35 : decode b_Clock_markBefore 35 = .ok (.iload_n 3, 1) := by decide +kernel
theorem d_Clock_markBefore_36 : decode b_Clock_markBefore 36 = .ok (.ireturn, 1) := by decide +kernel
theorem d_Held_init_0 : decode b_Held_init 0 = .ok (.aload_n 0, 1) := by decide +kernel
theorem d_Held_init_1 : decode b_Held_init 1 = .ok (.invokespecial 1, 3) := by decide +kernel
theorem d_Held_init_4 : decode b_Held_init 4 = .ok (.return_, 1) := by decide +kernel
theorem d_Held_takeIn_0 : decode b_Held_takeIn 0 = .ok (.aload_n 1, 1) := by decide +kernel
theorem d_Held_takeIn_1 : decode b_Held_takeIn 1 = .ok (.getfield 7, 3) := by decide +kernel
theorem d_Held_takeIn_4 : decode b_Held_takeIn 4 = .ok (.aload_n 0, 1) := by decide +kernel
theorem d_Held_takeIn_5 : decode b_Held_takeIn 5 = .ok (.getfield 7, 3) := by decide +kernel
theorem d_Held_takeIn_8 : decode b_Held_takeIn 8 = .ok (.ldc2_w 13, 3) := by decide +kernel
theorem d_Held_takeIn_11 : decode b_Held_takeIn 11 = .ok (.lxor, 1) := by decide +kernel
theorem d_Held_takeIn_12 : decode b_Held_takeIn 12 = .ok (.land, 1) := by decide +kernel
theorem d_Held_takeIn_13 : decode b_Held_takeIn 13 = .ok (.lconst 0, 1) := by decide +kernel
theorem d_Held_takeIn_14 : decode b_Held_takeIn 14 = .ok (.lcmp, 1) := by decide +kernel
theorem d_Held_takeIn_15 : decode b_Held_takeIn 15 = .ok (.ifCond .ne 51, 3) := by decide +kernel
theorem d_Held_takeIn_18 : decode b_Held_takeIn 18 = .ok (.aload_n 1, 1) := by decide +kernel
theorem d_Held_takeIn_19 : decode b_Held_takeIn 19 = .ok (.getfield 15, 3) := by decide +kernel
theorem d_Held_takeIn_22 : decode b_Held_takeIn 22 = .ok (.aload_n 0, 1) := by decide +kernel
theorem d_Held_takeIn_23 : decode b_Held_takeIn 23 = .ok (.getfield 15, 3) := by decide +kernel
theorem d_Held_takeIn_26 : decode b_Held_takeIn 26 = .ok (.ldc2_w 13, 3) := by decide +kernel
theorem d_Held_takeIn_29 : decode b_Held_takeIn 29 = .ok (.lxor, 1) := by decide +kernel
theorem d_Held_takeIn_30 : decode b_Held_takeIn 30 = .ok (.land, 1) := by decide +kernel
theorem d_Held_takeIn_31 : decode b_Held_takeIn 31 = .ok (.lconst 0, 1) := by decide +kernel
theorem d_Held_takeIn_32 : decode b_Held_takeIn 32 = .ok (.lcmp, 1) := by decide +kernel
theorem d_Held_takeIn_33 : decode b_Held_takeIn 33 = .ok (.ifCond .ne 33, 3) := by decide +kernel
theorem d_Held_takeIn_36 : decode b_Held_takeIn 36 = .ok (.aload_n 1, 1) := by decide +kernel
theorem d_Held_takeIn_37 : decode b_Held_takeIn 37 = .ok (.getfield 18, 3) := by decide +kernel
theorem d_Held_takeIn_40 : decode b_Held_takeIn 40 = .ok (.aload_n 0, 1) := by decide +kernel
theorem d_Held_takeIn_41 : decode b_Held_takeIn 41 = .ok (.getfield 18, 3) := by decide +kernel
theorem d_Held_takeIn_44 : decode b_Held_takeIn 44 = .ok (.ldc2_w 13, 3) := by decide +kernel
theorem d_Held_takeIn_47 : decode b_Held_takeIn 47 = .ok (.lxor, 1) := by decide +kernel
theorem d_Held_takeIn_48 : decode b_Held_takeIn 48 = .ok (.land, 1) := by decide +kernel
theorem d_Held_takeIn_49 : decode b_Held_takeIn 49 = .ok (.lconst 0, 1) := by decide +kernel
theorem d_Held_takeIn_50 : decode b_Held_takeIn 50 = .ok (.lcmp, 1) := by decide +kernel
theorem d_Held_takeIn_51 : decode b_Held_takeIn 51 = .ok (.ifCond .ne 15, 3) := by decide +kernel
theorem d_Held_takeIn_54 : decode b_Held_takeIn 54 = .ok (.aload_n 1, 1) := by decide +kernel
theorem d_Held_takeIn_55 : decode b_Held_takeIn 55 = .ok (.getfield 21, 3) := by decide +kernel
theorem d_Held_takeIn_58 : decode b_Held_takeIn 58 = .ok (.aload_n 0, 1) := by decide +kernel
theorem d_Held_takeIn_59 : decode b_Held_takeIn 59 = .ok (.getfield 21, 3) := by decide +kernel
theorem d_Held_takeIn_62 : decode b_Held_takeIn 62 = .ok (.lcmp, 1) := by decide +kernel
theorem d_Held_takeIn_63 : decode b_Held_takeIn 63 = .ok (.ifCond .le 7, 3) := by decide +kernel
theorem d_Held_takeIn_66 : decode b_Held_takeIn 66 = .ok (.iconst 1, 1) := by decide +kernel
theorem d_Held_takeIn_67 : decode b_Held_takeIn 67 = .ok (.goto 4, 3) := by decide +kernel
theorem d_Held_takeIn_70 : decode b_Held_takeIn 70 = .ok (.iconst 0, 1) := by decide +kernel
theorem d_Held_takeIn_71 : decode b_Held_takeIn 71 = .ok (.istore_n 2, 1) := by decide +kernel
theorem d_Held_takeIn_72 : decode b_Held_takeIn 72 = .ok (.aload_n 0, 1) := by decide +kernel
theorem d_Held_takeIn_73 : decode b_Held_takeIn 73 = .ok (.dup, 1) := by decide +kernel
theorem d_Held_takeIn_74 : decode b_Held_takeIn 74 = .ok (.getfield 7, 3) := by decide +kernel
theorem d_Held_takeIn_77 : decode b_Held_takeIn 77 = .ok (.aload_n 1, 1) := by decide +kernel
theorem d_Held_takeIn_78 : decode b_Held_takeIn 78 = .ok (.getfield 7, 3) := by decide +kernel
theorem d_Held_takeIn_81 : decode b_Held_takeIn 81 = .ok (.lor, 1) := by decide +kernel
theorem d_Held_takeIn_82 : decode b_Held_takeIn 82 = .ok (.putfield 7, 3) := by decide +kernel
theorem d_Held_takeIn_85 : decode b_Held_takeIn 85 = .ok (.aload_n 0, 1) := by decide +kernel
theorem d_Held_takeIn_86 : decode b_Held_takeIn 86 = .ok (.dup, 1) := by decide +kernel
theorem d_Held_takeIn_87 : decode b_Held_takeIn 87 = .ok (.getfield 15, 3) := by decide +kernel
theorem d_Held_takeIn_90 : decode b_Held_takeIn 90 = .ok (.aload_n 1, 1) := by decide +kernel
theorem d_Held_takeIn_91 : decode b_Held_takeIn 91 = .ok (.getfield 15, 3) := by decide +kernel
theorem d_Held_takeIn_94 : decode b_Held_takeIn 94 = .ok (.lor, 1) := by decide +kernel
theorem d_Held_takeIn_95 : decode b_Held_takeIn 95 = .ok (.putfield 15, 3) := by decide +kernel
theorem d_Held_takeIn_98 : decode b_Held_takeIn 98 = .ok (.aload_n 0, 1) := by decide +kernel
theorem d_Held_takeIn_99 : decode b_Held_takeIn 99 = .ok (.dup, 1) := by decide +kernel
theorem d_Held_takeIn_100 : decode b_Held_takeIn 100 = .ok (.getfield 18, 3) := by decide +kernel
theorem d_Held_takeIn_103 : decode b_Held_takeIn 103 = .ok (.aload_n 1, 1) := by decide +kernel
theorem d_Held_takeIn_104 : decode b_Held_takeIn 104 = .ok (.getfield 18, 3) := by decide +kernel
theorem d_Held_takeIn_107 : decode b_Held_takeIn 107 = .ok (.lor, 1) := by decide +kernel
theorem d_Held_takeIn_108 : decode b_Held_takeIn 108 = .ok (.putfield 18, 3) := by decide +kernel
theorem d_Held_takeIn_111 : decode b_Held_takeIn 111 = .ok (.aload_n 0, 1) := by decide +kernel
theorem d_Held_takeIn_112 : decode b_Held_takeIn 112 = .ok (.aload_n 0, 1) := by decide +kernel
theorem d_Held_takeIn_113 : decode b_Held_takeIn 113 = .ok (.getfield 21, 3) := by decide +kernel
theorem d_Held_takeIn_116 : decode b_Held_takeIn 116 = .ok (.aload_n 1, 1) := by decide +kernel
theorem d_Held_takeIn_117 : decode b_Held_takeIn 117 = .ok (.getfield 21, 3) := by decide +kernel
theorem d_Held_takeIn_120 : decode b_Held_takeIn 120 = .ok (.invokestatic 24, 3) := by decide +kernel
theorem d_Held_takeIn_123 : decode b_Held_takeIn 123 = .ok (.putfield 21, 3) := by decide +kernel
theorem d_Held_takeIn_126 : decode b_Held_takeIn 126 = .ok (.iload_n 2, 1) := by decide +kernel
theorem d_Held_takeIn_127 : decode b_Held_takeIn 127 = .ok (.ireturn, 1) := by decide +kernel
theorem d_Held_isLike_0 : decode b_Held_isLike 0 = .ok (.aload_n 0, 1) := by decide +kernel
theorem d_Held_isLike_1 : decode b_Held_isLike 1 = .ok (.getfield 7, 3) := by decide +kernel
theorem d_Held_isLike_4 : decode b_Held_isLike 4 = .ok (.aload_n 1, 1) := by decide +kernel
theorem d_Held_isLike_5 : decode b_Held_isLike 5 = .ok (.getfield 7, 3) := by decide +kernel
theorem d_Held_isLike_8 : decode b_Held_isLike 8 = .ok (.lcmp, 1) := by decide +kernel
theorem d_Held_isLike_9 : decode b_Held_isLike 9 = .ok (.ifCond .ne 43, 3) := by decide +kernel
theorem d_Held_isLike_12 : decode b_Held_isLike 12 = .ok (.aload_n 0, 1) := by decide +kernel
theorem d_Held_isLike_13 : decode b_Held_isLike 13 = .ok (.getfield 15, 3) := by decide +kernel
theorem d_Held_isLike_16 : decode b_Held_isLike 16 = .ok (.aload_n 1, 1) := by decide +kernel
theorem d_Held_isLike_17 : decode b_Held_isLike 17 = .ok (.getfield 15, 3) := by decide +kernel
theorem d_Held_isLike_20 : decode b_Held_isLike 20 = .ok (.lcmp, 1) := by decide +kernel
theorem d_Held_isLike_21 : decode b_Held_isLike 21 = .ok (.ifCond .ne 31, 3) := by decide +kernel
theorem d_Held_isLike_24 : decode b_Held_isLike 24 = .ok (.aload_n 0, 1) := by decide +kernel
theorem d_Held_isLike_25 : decode b_Held_isLike 25 = .ok (.getfield 18, 3) := by decide +kernel
theorem d_Held_isLike_28 : decode b_Held_isLike 28 = .ok (.aload_n 1, 1) := by decide +kernel
theorem d_Held_isLike_29 : decode b_Held_isLike 29 = .ok (.getfield 18, 3) := by decide +kernel
theorem d_Held_isLike_32 : decode b_Held_isLike 32 = .ok (.lcmp, 1) := by decide +kernel
theorem d_Held_isLike_33 : decode b_Held_isLike 33 = .ok (.ifCond .ne 19, 3) := by decide +kernel
theorem d_Held_isLike_36 : decode b_Held_isLike 36 = .ok (.aload_n 0, 1) := by decide +kernel
theorem d_Held_isLike_37 : decode b_Held_isLike 37 = .ok (.getfield 21, 3) := by decide +kernel
theorem d_Held_isLike_40 : decode b_Held_isLike 40 = .ok (.aload_n 1, 1) := by decide +kernel
theorem d_Held_isLike_41 : decode b_Held_isLike 41 = .ok (.getfield 21, 3) := by decide +kernel
theorem d_Held_isLike_44 : decode b_Held_isLike 44 = .ok (.lcmp, 1) := by decide +kernel
theorem d_Held_isLike_45 : decode b_Held_isLike 45 = .ok (.ifCond .ne 7, 3) := by decide +kernel
theorem d_Held_isLike_48 : decode b_Held_isLike 48 = .ok (.iconst 1, 1) := by decide +kernel
theorem d_Held_isLike_49 : decode b_Held_isLike 49 = .ok (.goto 4, 3) := by decide +kernel
theorem d_Held_isLike_52 : decode b_Held_isLike 52 = .ok (.iconst 0, 1) := by decide +kernel
theorem d_Held_isLike_53 : decode b_Held_isLike 53 = .ok (.ireturn, 1) := by decide +kernel
theorem d_Held_clear_0 : decode b_Held_clear 0 = .ok (.aload_n 0, 1) := by decide +kernel
theorem d_Held_clear_1 : decode b_Held_clear 1 = .ok (.lconst 0, 1) := by decide +kernel
theorem d_Held_clear_2 : decode b_Held_clear 2 = .ok (.putfield 7, 3) := by decide +kernel
theorem d_Held_clear_5 : decode b_Held_clear 5 = .ok (.aload_n 0, 1) := by decide +kernel
theorem d_Held_clear_6 : decode b_Held_clear 6 = .ok (.lconst 0, 1) := by decide +kernel
theorem d_Held_clear_7 : decode b_Held_clear 7 = .ok (.putfield 15, 3) := by decide +kernel
theorem d_Held_clear_10 : decode b_Held_clear 10 = .ok (.aload_n 0, 1) := by decide +kernel
theorem d_Held_clear_11 : decode b_Held_clear 11 = .ok (.lconst 0, 1) := by decide +kernel
theorem d_Held_clear_12 : decode b_Held_clear 12 = .ok (.putfield 18, 3) := by decide +kernel
theorem d_Held_clear_15 : decode b_Held_clear 15 = .ok (.aload_n 0, 1) := by decide +kernel
theorem d_Held_clear_16 : decode b_Held_clear 16 = .ok (.lconst 0, 1) := by decide +kernel
theorem d_Held_clear_17 : decode b_Held_clear 17 = .ok (.putfield 21, 3) := by decide +kernel
theorem d_Held_clear_20 : decode b_Held_clear 20 = .ok (.return_, 1) := by decide +kernel
theorem d_ToldSet_init_0 : decode b_ToldSet_init 0 = .ok (.aload_n 0, 1) := by decide +kernel
theorem d_ToldSet_init_1 : decode b_ToldSet_init 1 = .ok (.invokespecial 3, 3) := by decide +kernel
theorem d_ToldSet_init_4 : decode b_ToldSet_init 4 = .ok (.aload_n 0, 1) := by decide +kernel
theorem d_ToldSet_init_5 : decode b_ToldSet_init 5 = .ok (.new 9, 3) := by decide +kernel
theorem d_ToldSet_init_8 : decode b_ToldSet_init 8 = .ok (.dup, 1) := by decide +kernel
theorem d_ToldSet_init_9 : decode b_ToldSet_init 9 = .ok (.invokespecial 11, 3) := by decide +kernel
theorem d_ToldSet_init_12 : decode b_ToldSet_init 12 = .ok (.putfield 12, 3) := by decide +kernel
theorem d_ToldSet_init_15 : decode b_ToldSet_init 15 = .ok (.aload_n 0, 1) := by decide +kernel
theorem d_ToldSet_init_16 : decode b_ToldSet_init 16 = .ok (.new 9, 3) := by decide +kernel
theorem d_ToldSet_init_19 : decode b_ToldSet_init 19 = .ok (.dup, 1) := by decide +kernel
theorem d_ToldSet_init_20 : decode b_ToldSet_init 20 = .ok (.invokespecial 11, 3) := by decide +kernel
theorem d_ToldSet_init_23 : decode b_ToldSet_init 23 = .ok (.putfield 18, 3) := by decide +kernel
theorem d_ToldSet_init_26 : decode b_ToldSet_init 26 = .ok (.aload_n 0, 1) := by decide +kernel
theorem d_ToldSet_init_27 : decode b_ToldSet_init 27 = .ok (.iconst (-1), 1) := by decide +kernel
theorem d_ToldSet_init_28 : decode b_ToldSet_init 28 = .ok (.putfield 21, 3) := by decide +kernel
theorem d_ToldSet_init_31 : decode b_ToldSet_init 31 = .ok (.aload_n 0, 1) := by decide +kernel
theorem d_ToldSet_init_32 : decode b_ToldSet_init 32 = .ok (.getfield 12, 3) := by decide +kernel
theorem d_ToldSet_init_35 : decode b_ToldSet_init 35 = .ok (.lload_n 1, 1) := by decide +kernel
theorem d_ToldSet_init_36 : decode b_ToldSet_init 36 = .ok (.putfield 25, 3) := by decide +kernel
theorem d_ToldSet_init_39 : decode b_ToldSet_init 39 = .ok (.return_, 1) := by decide +kernel
theorem d_ToldSet_bring_0 : decode b_ToldSet_bring 0 = .ok (.aload_n 0, 1) := by decide +kernel
theorem d_ToldSet_bring_1 : decode b_ToldSet_bring 1 = .ok (.getfield 21, 3) := by decide +kernel
theorem d_ToldSet_bring_4 : decode b_ToldSet_bring 4 = .ok (.iconst (-1), 1) := by decide +kernel
theorem d_ToldSet_bring_5 : decode b_ToldSet_bring 5 = .ok (.if_icmp .ne 17, 3) := by decide +kernel
theorem d_ToldSet_bring_8 : decode b_ToldSet_bring 8 = .ok (.aload_n 0, 1) := by decide +kernel
theorem d_ToldSet_bring_9 : decode b_ToldSet_bring 9 = .ok (.getfield 12, 3) := by decide +kernel
theorem d_ToldSet_bring_12 : decode b_ToldSet_bring 12 = .ok (.aload_n 1, 1) := by decide +kernel
theorem d_ToldSet_bring_13 : decode b_ToldSet_bring 13 = .ok (.getfield 12, 3) := by decide +kernel
theorem d_ToldSet_bring_16 : decode b_ToldSet_bring 16 = .ok (.invokevirtual 29, 3) := by decide +kernel
theorem d_ToldSet_bring_19 : decode b_ToldSet_bring 19 = .ok (.goto 14, 3) := by decide +kernel
theorem d_ToldSet_bring_22 : decode b_ToldSet_bring 22 = .ok (.aload_n 0, 1) := by decide +kernel
theorem d_ToldSet_bring_23 : decode b_ToldSet_bring 23 = .ok (.getfield 18, 3) := by decide +kernel
theorem d_ToldSet_bring_26 : decode b_ToldSet_bring 26 = .ok (.aload_n 1, 1) := by decide +kernel
theorem d_ToldSet_bring_27 : decode b_ToldSet_bring 27 = .ok (.getfield 12, 3) := by decide +kernel
theorem d_ToldSet_bring_30 : decode b_ToldSet_bring 30 = .ok (.invokevirtual 29, 3) := by decide +kernel
theorem d_ToldSet_bring_33 : decode b_ToldSet_bring 33 = .ok (.ireturn, 1) := by decide +kernel
theorem d_ToldSet_takeWaiting_0 : decode b_ToldSet_takeWaiting 0 = .ok (.aload_n 0, 1) := by decide +kernel
theorem d_ToldSet_takeWaiting_1 : decode b_ToldSet_takeWaiting 1 = .ok (.getfield 12, 3) := by decide +kernel
theorem d_ToldSet_takeWaiting_4 : decode b_ToldSet_takeWaiting 4 = .ok (.aload_n 0, 1) := by decide +kernel
theorem d_ToldSet_takeWaiting_5 : decode b_ToldSet_takeWaiting 5 = .ok (.getfield 18, 3) := by decide +kernel
theorem d_ToldSet_takeWaiting_8 : decode b_ToldSet_takeWaiting 8 = .ok (.invokevirtual 29, 3) := by decide +kernel
theorem d_ToldSet_takeWaiting_11 : decode b_ToldSet_takeWaiting 11 = .ok (.pop, 1) := by decide +kernel
theorem d_ToldSet_takeWaiting_12 : decode b_ToldSet_takeWaiting 12 = .ok (.aload_n 0, 1) := by decide +kernel
theorem d_ToldSet_takeWaiting_13 : decode b_ToldSet_takeWaiting 13 = .ok (.getfield 18, 3) := by decide +kernel
theorem d_ToldSet_takeWaiting_16 : decode b_ToldSet_takeWaiting 16 = .ok (.invokevirtual 33, 3) := by decide +kernel
theorem d_ToldSet_takeWaiting_19 : decode b_ToldSet_takeWaiting 19 = .ok (.aload_n 0, 1) := by decide +kernel
theorem d_ToldSet_takeWaiting_20 : decode b_ToldSet_takeWaiting 20 = .ok (.iconst (-1), 1) := by decide +kernel
theorem d_ToldSet_takeWaiting_21 : decode b_ToldSet_takeWaiting 21 = .ok (.putfield 21, 3) := by decide +kernel
theorem d_ToldSet_takeWaiting_24 : decode b_ToldSet_takeWaiting 24 = .ok (.return_, 1) := by decide +kernel
theorem d_Tellings_init_0 : decode b_Tellings_init 0 = .ok (.aload_n 0, 1) := by decide +kernel
theorem d_Tellings_init_1 : decode b_Tellings_init 1 = .ok (.invokespecial 3, 3) := by decide +kernel
theorem d_Tellings_init_4 : decode b_Tellings_init 4 = .ok (.aload_n 0, 1) := by decide +kernel
theorem d_Tellings_init_5 : decode b_Tellings_init 5 = .ok (.bipush 60, 2) := by decide +kernel
theorem d_Tellings_init_7 : decode b_Tellings_init 7 = .ok (.newarray .int, 2) := by decide +kernel
theorem d_Tellings_init_9 : decode b_Tellings_init 9 = .ok (.putfield 9, 3) := by decide +kernel
theorem d_Tellings_init_12 : decode b_Tellings_init 12 = .ok (.aload_n 0, 1) := by decide +kernel
theorem d_Tellings_init_13 : decode b_Tellings_init 13 = .ok (.bipush 60, 2) := by decide +kernel
theorem d_Tellings_init_15 : decode b_Tellings_init 15 = .ok (.newarray .int, 2) := by decide +kernel
theorem d_Tellings_init_17 : decode b_Tellings_init 17 = .ok (.putfield 15, 3) := by decide +kernel
theorem d_Tellings_init_20 : decode b_Tellings_init 20 = .ok (.aload_n 0, 1) := by decide +kernel
theorem d_Tellings_init_21 : decode b_Tellings_init 21 = .ok (.bipush 60, 2) := by decide +kernel
theorem d_Tellings_init_23 : decode b_Tellings_init 23 = .ok (.newarray .int, 2) := by decide +kernel
theorem d_Tellings_init_25 : decode b_Tellings_init 25 = .ok (.putfield 18, 3) := by decide +kernel
theorem d_Tellings_init_28 : decode b_Tellings_init 28 = .ok (.aload_n 0, 1) := by decide +kernel
theorem d_Tellings_init_29 : decode b_Tellings_init 29 = .ok (.bipush 60, 2) := by decide +kernel
theorem d_Tellings_init_31 : decode b_Tellings_init 31 = .ok (.newarray .int, 2) := by decide +kernel
theorem d_Tellings_init_33 : decode b_Tellings_init 33 = .ok (.putfield 21, 3) := by decide +kernel
theorem d_Tellings_init_36 : decode b_Tellings_init 36 = .ok (.aload_n 0, 1) := by decide +kernel
theorem d_Tellings_init_37 : decode b_Tellings_init 37 = .ok (.bipush 60, 2) := by decide +kernel
theorem d_Tellings_init_39 : decode b_Tellings_init 39 = .ok (.newarray .long, 2) := by decide +kernel
theorem d_Tellings_init_41 : decode b_Tellings_init 41 = .ok (.putfield 24, 3) := by decide +kernel
theorem d_Tellings_init_44 : decode b_Tellings_init 44 = .ok (.aload_n 0, 1) := by decide +kernel
theorem d_Tellings_init_45 : decode b_Tellings_init 45 = .ok (.bipush 60, 2) := by decide +kernel
theorem d_Tellings_init_47 : decode b_Tellings_init 47 = .ok (.newarray .long, 2) := by decide +kernel
theorem d_Tellings_init_49 : decode b_Tellings_init 49 = .ok (.putfield 28, 3) := by decide +kernel
theorem d_Tellings_init_52 : decode b_Tellings_init 52 = .ok (.aload_n 0, 1) := by decide +kernel
theorem d_Tellings_init_53 : decode b_Tellings_init 53 = .ok (.bipush 60, 2) := by decide +kernel
theorem d_Tellings_init_55 : decode b_Tellings_init 55 = .ok (.newarray .long, 2) := by decide +kernel
theorem d_Tellings_init_57 : decode b_Tellings_init 57 = .ok (.putfield 31, 3) := by decide +kernel
theorem d_Tellings_init_60 : decode b_Tellings_init 60 = .ok (.return_, 1) := by decide +kernel
theorem d_Tellings_has_0 : decode b_Tellings_has 0 = .ok (.iconst 0, 1) := by decide +kernel
theorem d_Tellings_has_1 : decode b_Tellings_has 1 = .ok (.istore 9, 2) := by decide +kernel
theorem d_Tellings_has_3 : decode b_Tellings_has 3 = .ok (.iload 9, 2) := by decide +kernel
theorem d_Tellings_has_5 : decode b_Tellings_has 5 = .ok (.aload_n 0, 1) := by decide +kernel
theorem d_Tellings_has_6 : decode b_Tellings_has 6 = .ok (.getfield 34, 3) := by decide +kernel
theorem d_Tellings_has_9 : decode b_Tellings_has 9 = .ok (.if_icmp .ge 82, 3) := by decide +kernel
theorem d_Tellings_has_12 : decode b_Tellings_has 12 = .ok (.aload_n 0, 1) := by decide +kernel
theorem d_Tellings_has_13 : decode b_Tellings_has 13 = .ok (.getfield 9, 3) := by decide +kernel
theorem d_Tellings_has_16 : decode b_Tellings_has 16 = .ok (.iload 9, 2) := by decide +kernel
theorem d_Tellings_has_18 : decode b_Tellings_has 18 = .ok (.iaload, 1) := by decide +kernel
theorem d_Tellings_has_19 : decode b_Tellings_has 19 = .ok (.iload_n 1, 1) := by decide +kernel
theorem d_Tellings_has_20 : decode b_Tellings_has 20 = .ok (.if_icmp .ne 65, 3) := by decide +kernel
theorem d_Tellings_has_23 : decode b_Tellings_has 23 = .ok (.aload_n 0, 1) := by decide +kernel
theorem d_Tellings_has_24 : decode b_Tellings_has 24 = .ok (.getfield 15, 3) := by decide +kernel
theorem d_Tellings_has_27 : decode b_Tellings_has 27 = .ok (.iload 9, 2) := by decide +kernel
theorem d_Tellings_has_29 : decode b_Tellings_has 29 = .ok (.iaload, 1) := by decide +kernel
theorem d_Tellings_has_30 : decode b_Tellings_has 30 = .ok (.iload_n 2, 1) := by decide +kernel
theorem d_Tellings_has_31 : decode b_Tellings_has 31 = .ok (.if_icmp .ne 54, 3) := by decide +kernel
theorem d_Tellings_has_34 : decode b_Tellings_has 34 = .ok (.aload_n 0, 1) := by decide +kernel
theorem d_Tellings_has_35 : decode b_Tellings_has 35 = .ok (.getfield 18, 3) := by decide +kernel
theorem d_Tellings_has_38 : decode b_Tellings_has 38 = .ok (.iload 9, 2) := by decide +kernel
theorem d_Tellings_has_40 : decode b_Tellings_has 40 = .ok (.iaload, 1) := by decide +kernel
theorem d_Tellings_has_41 : decode b_Tellings_has 41 = .ok (.iload_n 3, 1) := by decide +kernel
theorem d_Tellings_has_42 : decode b_Tellings_has 42 = .ok (.if_icmp .ne 43, 3) := by decide +kernel
theorem d_Tellings_has_45 : decode b_Tellings_has 45 = .ok (.aload_n 0, 1) := by decide +kernel
theorem d_Tellings_has_46 : decode b_Tellings_has 46 = .ok (.getfield 21, 3) := by decide +kernel
theorem d_Tellings_has_49 : decode b_Tellings_has 49 = .ok (.iload 9, 2) := by decide +kernel
theorem d_Tellings_has_51 : decode b_Tellings_has 51 = .ok (.iaload, 1) := by decide +kernel
theorem d_Tellings_has_52 : decode b_Tellings_has 52 = .ok (.iload 4, 2) := by decide +kernel
theorem d_Tellings_has_54 : decode b_Tellings_has 54 = .ok (.if_icmp .ne 31, 3) := by decide +kernel
theorem d_Tellings_has_57 : decode b_Tellings_has 57 = .ok (.aload_n 0, 1) := by decide +kernel
theorem d_Tellings_has_58 : decode b_Tellings_has 58 = .ok (.getfield 24, 3) := by decide +kernel
theorem d_Tellings_has_61 : decode b_Tellings_has 61 = .ok (.iload 9, 2) := by decide +kernel
theorem d_Tellings_has_63 : decode b_Tellings_has 63 = .ok (.laload, 1) := by decide +kernel
theorem d_Tellings_has_64 : decode b_Tellings_has 64 = .ok (.lload 5, 2) := by decide +kernel
theorem d_Tellings_has_66 : decode b_Tellings_has 66 = .ok (.lcmp, 1) := by decide +kernel
theorem d_Tellings_has_67 : decode b_Tellings_has 67 = .ok (.ifCond .ne 18, 3) := by decide +kernel
theorem d_Tellings_has_70 : decode b_Tellings_has 70 = .ok (.aload_n 0, 1) := by decide +kernel
theorem d_Tellings_has_71 : decode b_Tellings_has 71 = .ok (.getfield 28, 3) := by decide +kernel
theorem d_Tellings_has_74 : decode b_Tellings_has 74 = .ok (.iload 9, 2) := by decide +kernel
theorem d_Tellings_has_76 : decode b_Tellings_has 76 = .ok (.laload, 1) := by decide +kernel
theorem d_Tellings_has_77 : decode b_Tellings_has 77 = .ok (.lload 7, 2) := by decide +kernel
theorem d_Tellings_has_79 : decode b_Tellings_has 79 = .ok (.lcmp, 1) := by decide +kernel
theorem d_Tellings_has_80 : decode b_Tellings_has 80 = .ok (.ifCond .ne 5, 3) := by decide +kernel
theorem d_Tellings_has_83 : decode b_Tellings_has 83 = .ok (.iconst 1, 1) := by decide +kernel
theorem d_Tellings_has_84 : decode b_Tellings_has 84 = .ok (.ireturn, 1) := by decide +kernel
theorem d_Tellings_has_85 : decode b_Tellings_has 85 = .ok (.iinc 9 1, 3) := by decide +kernel
theorem d_Tellings_has_88 : decode b_Tellings_has 88 = .ok (.goto (-85), 3) := by decide +kernel
theorem d_Tellings_has_91 : decode b_Tellings_has 91 = .ok (.iconst 0, 1) := by decide +kernel
theorem d_Tellings_has_92 : decode b_Tellings_has 92 = .ok (.ireturn, 1) := by decide +kernel
theorem d_Tellings_add_0 : decode b_Tellings_add 0 = .ok (.aload_n 0, 1) := by decide +kernel
theorem d_Tellings_add_1 : decode b_Tellings_add 1 = .ok (.getfield 34, 3) := by decide +kernel
theorem d_Tellings_add_4 : decode b_Tellings_add 4 = .ok (.bipush 60, 2) := by decide +kernel
theorem d_Tellings_add_6 : decode b_Tellings_add 6 = .ok (.if_icmp .lt 5, 3) := by decide +kernel
theorem d_Tellings_add_9 : decode b_Tellings_add 9 = .ok (.iconst 0, 1) := by decide +kernel
theorem d_Tellings_add_10 : decode b_Tellings_add 10 = .ok (.ireturn, 1) := by decide +kernel
theorem d_Tellings_add_11 : decode b_Tellings_add 11 = .ok (.aload_n 0, 1) := by decide +kernel
theorem d_Tellings_add_12 : decode b_Tellings_add 12 = .ok (.getfield 9, 3) := by decide +kernel
theorem d_Tellings_add_15 : decode b_Tellings_add 15 = .ok (.aload_n 0, 1) := by decide +kernel
theorem d_Tellings_add_16 : decode b_Tellings_add 16 = .ok (.getfield 34, 3) := by decide +kernel
theorem d_Tellings_add_19 : decode b_Tellings_add 19 = .ok (.iload_n 1, 1) := by decide +kernel
theorem d_Tellings_add_20 : decode b_Tellings_add 20 = .ok (.iastore, 1) := by decide +kernel
theorem d_Tellings_add_21 : decode b_Tellings_add 21 = .ok (.aload_n 0, 1) := by decide +kernel
theorem d_Tellings_add_22 : decode b_Tellings_add 22 = .ok (.getfield 15, 3) := by decide +kernel
theorem d_Tellings_add_25 : decode b_Tellings_add 25 = .ok (.aload_n 0, 1) := by decide +kernel
theorem d_Tellings_add_26 : decode b_Tellings_add 26 = .ok (.getfield 34, 3) := by decide +kernel
theorem d_Tellings_add_29 : decode b_Tellings_add 29 = .ok (.iload_n 2, 1) := by decide +kernel
theorem d_Tellings_add_30 : decode b_Tellings_add 30 = .ok (.iastore, 1) := by decide +kernel
theorem d_Tellings_add_31 : decode b_Tellings_add 31 = .ok (.aload_n 0, 1) := by decide +kernel
theorem d_Tellings_add_32 : decode b_Tellings_add 32 = .ok (.getfield 18, 3) := by decide +kernel
theorem d_Tellings_add_35 : decode b_Tellings_add 35 = .ok (.aload_n 0, 1) := by decide +kernel
theorem d_Tellings_add_36 : decode b_Tellings_add 36 = .ok (.getfield 34, 3) := by decide +kernel
theorem d_Tellings_add_39 : decode b_Tellings_add 39 = .ok (.iload_n 3, 1) := by decide +kernel
theorem d_Tellings_add_40 : decode b_Tellings_add 40 = .ok (.iastore, 1) := by decide +kernel
theorem d_Tellings_add_41 : decode b_Tellings_add 41 = .ok (.aload_n 0, 1) := by decide +kernel
theorem d_Tellings_add_42 : decode b_Tellings_add 42 = .ok (.getfield 21, 3) := by decide +kernel
theorem d_Tellings_add_45 : decode b_Tellings_add 45 = .ok (.aload_n 0, 1) := by decide +kernel
theorem d_Tellings_add_46 : decode b_Tellings_add 46 = .ok (.getfield 34, 3) := by decide +kernel
theorem d_Tellings_add_49 : decode b_Tellings_add 49 = .ok (.iload 4, 2) := by decide +kernel
theorem d_Tellings_add_51 : decode b_Tellings_add 51 = .ok (.iastore, 1) := by decide +kernel
theorem d_Tellings_add_52 : decode b_Tellings_add 52 = .ok (.aload_n 0, 1) := by decide +kernel
theorem d_Tellings_add_53 : decode b_Tellings_add 53 = .ok (.getfield 24, 3) := by decide +kernel
theorem d_Tellings_add_56 : decode b_Tellings_add 56 = .ok (.aload_n 0, 1) := by decide +kernel
theorem d_Tellings_add_57 : decode b_Tellings_add 57 = .ok (.getfield 34, 3) := by decide +kernel
theorem d_Tellings_add_60 : decode b_Tellings_add 60 = .ok (.lload 5, 2) := by decide +kernel
theorem d_Tellings_add_62 : decode b_Tellings_add 62 = .ok (.lastore, 1) := by decide +kernel
theorem d_Tellings_add_63 : decode b_Tellings_add 63 = .ok (.aload_n 0, 1) := by decide +kernel
theorem d_Tellings_add_64 : decode b_Tellings_add 64 = .ok (.getfield 28, 3) := by decide +kernel
theorem d_Tellings_add_67 : decode b_Tellings_add 67 = .ok (.aload_n 0, 1) := by decide +kernel
theorem d_Tellings_add_68 : decode b_Tellings_add 68 = .ok (.getfield 34, 3) := by decide +kernel
theorem d_Tellings_add_71 : decode b_Tellings_add 71 = .ok (.lload 7, 2) := by decide +kernel
theorem d_Tellings_add_73 : decode b_Tellings_add 73 = .ok (.lastore, 1) := by decide +kernel
theorem d_Tellings_add_74 : decode b_Tellings_add 74 = .ok (.aload_n 0, 1) := by decide +kernel
theorem d_Tellings_add_75 : decode b_Tellings_add 75 = .ok (.getfield 31, 3) := by decide +kernel
theorem d_Tellings_add_78 : decode b_Tellings_add 78 = .ok (.aload_n 0, 1) := by decide +kernel
theorem d_Tellings_add_79 : decode b_Tellings_add 79 = .ok (.getfield 34, 3) := by decide +kernel
theorem d_Tellings_add_82 : decode b_Tellings_add 82 = .ok (.lload 9, 2) := by decide +kernel
theorem d_Tellings_add_84 : decode b_Tellings_add 84 = .ok (.lastore, 1) := by decide +kernel
theorem d_Tellings_add_85 : decode b_Tellings_add 85 = .ok (.aload_n 0, 1) := by decide +kernel
theorem d_Tellings_add_86 : decode b_Tellings_add 86 = .ok (.dup, 1) := by decide +kernel
theorem d_Tellings_add_87 : decode b_Tellings_add 87 = .ok (.getfield 34, 3) := by decide +kernel
theorem d_Tellings_add_90 : decode b_Tellings_add 90 = .ok (.iconst 1, 1) := by decide +kernel
theorem d_Tellings_add_91 : decode b_Tellings_add 91 = .ok (.iadd, 1) := by decide +kernel
theorem d_Tellings_add_92 : decode b_Tellings_add 92 = .ok (.putfield 34, 3) := by decide +kernel
theorem d_Tellings_add_95 : decode b_Tellings_add 95 = .ok (.iconst 1, 1) := by decide +kernel
theorem d_Tellings_add_96 : decode b_Tellings_add 96 = .ok (.ireturn, 1) := by decide +kernel
theorem d_Tellings_ofDevice_0 : decode b_Tellings_ofDevice 0 = .ok (.lconst 0, 1) := by decide +kernel
theorem d_Tellings_ofDevice_1 : decode b_Tellings_ofDevice 1 = .ok (.lstore_n 2, 1) := by decide +kernel
theorem d_Tellings_ofDevice_2 : decode b_Tellings_ofDevice 2 = .ok (.iconst 0, 1) := by decide +kernel
theorem d_Tellings_ofDevice_3 : decode b_Tellings_ofDevice 3 = .ok (.istore 4, 2) := by decide +kernel
theorem d_Tellings_ofDevice_5 : decode b_Tellings_ofDevice 5 = .ok (.iload 4, 2) := by decide +kernel
theorem d_Tellings_ofDevice_7 : decode b_Tellings_ofDevice 7 = .ok (.aload_n 0, 1) := by decide +kernel
theorem d_Tellings_ofDevice_8 : decode b_Tellings_ofDevice 8 = .ok (.getfield 34, 3) := by decide +kernel
theorem d_Tellings_ofDevice_11 : decode b_Tellings_ofDevice 11 = .ok (.if_icmp .ge 28, 3) := by decide +kernel
theorem d_Tellings_ofDevice_14 : decode b_Tellings_ofDevice 14 = .ok (.aload_n 0, 1) := by decide +kernel
theorem d_Tellings_ofDevice_15 : decode b_Tellings_ofDevice 15 = .ok (.getfield 9, 3) := by decide +kernel
theorem d_Tellings_ofDevice_18 : decode b_Tellings_ofDevice 18 = .ok (.iload 4, 2) := by decide +kernel
theorem d_Tellings_ofDevice_20 : decode b_Tellings_ofDevice 20 = .ok (.iaload, 1) := by decide +kernel
theorem d_Tellings_ofDevice_21 : decode b_Tellings_ofDevice 21 = .ok (.iload_n 1, 1) := by decide +kernel
theorem d_Tellings_ofDevice_22 : decode b_Tellings_ofDevice 22 = .ok (.if_icmp .ne 11, 3) := by decide +kernel
theorem d_Tellings_ofDevice_25 : decode b_Tellings_ofDevice 25 = .ok (.lload_n 2, 1) := by decide +kernel
theorem d_Tellings_ofDevice_26 : decode b_Tellings_ofDevice 26 = .ok (.iload 4, 2) := by decide +kernel
theorem d_Tellings_ofDevice_28 : decode b_Tellings_ofDevice 28 = .ok (.invokestatic 38, 3) := by decide +kernel
theorem d_Tellings_ofDevice_31 : decode b_Tellings_ofDevice 31 = .ok (.lor, 1) := by decide +kernel
theorem d_Tellings_ofDevice_32 : decode b_Tellings_ofDevice 32 = .ok (.lstore_n 2, 1) := by decide +kernel
theorem d_Tellings_ofDevice_33 : decode b_Tellings_ofDevice 33 = .ok (.iinc 4 1, 3) := by decide +kernel
theorem d_Tellings_ofDevice_36 : decode b_Tellings_ofDevice 36 = .ok (.goto (-31), 3) := by decide +kernel
theorem d_Tellings_ofDevice_39 : decode b_Tellings_ofDevice 39 = .ok (.lload_n 2, 1) := by decide +kernel
theorem d_Tellings_ofDevice_40 : decode b_Tellings_ofDevice 40 = .ok (.lreturn, 1) := by decide +kernel
theorem d_Tellings_ofKind_0 : decode b_Tellings_ofKind 0 = .ok (.lconst 0, 1) := by decide +kernel
theorem d_Tellings_ofKind_1 : decode b_Tellings_ofKind 1 = .ok (.lstore_n 3, 1) := by decide +kernel
theorem d_Tellings_ofKind_2 : decode b_Tellings_ofKind 2 = .ok (.iconst 0, 1) := by decide +kernel
theorem d_Tellings_ofKind_3 : decode b_Tellings_ofKind 3 = .ok (.istore 5, 2) := by decide +kernel
theorem d_Tellings_ofKind_5 : decode b_Tellings_ofKind 5 = .ok (.iload 5, 2) := by decide +kernel
theorem d_Tellings_ofKind_7 : decode b_Tellings_ofKind 7 = .ok (.aload_n 0, 1) := by decide +kernel
theorem d_Tellings_ofKind_8 : decode b_Tellings_ofKind 8 = .ok (.getfield 34, 3) := by decide +kernel
theorem d_Tellings_ofKind_11 : decode b_Tellings_ofKind 11 = .ok (.if_icmp .ge 39, 3) := by decide +kernel
theorem d_Tellings_ofKind_14 : decode b_Tellings_ofKind 14 = .ok (.aload_n 0, 1) := by decide +kernel
theorem d_Tellings_ofKind_15 : decode b_Tellings_ofKind 15 = .ok (.getfield 9, 3) := by decide +kernel
theorem d_Tellings_ofKind_18 : decode b_Tellings_ofKind 18 = .ok (.iload 5, 2) := by decide +kernel
theorem d_Tellings_ofKind_20 : decode b_Tellings_ofKind 20 = .ok (.iaload, 1) := by decide +kernel
theorem d_Tellings_ofKind_21 : decode b_Tellings_ofKind 21 = .ok (.iload_n 1, 1) := by decide +kernel
theorem d_Tellings_ofKind_22 : decode b_Tellings_ofKind 22 = .ok (.if_icmp .ne 22, 3) := by decide +kernel
theorem d_Tellings_ofKind_25 : decode b_Tellings_ofKind 25 = .ok (.aload_n 0, 1) := by decide +kernel
theorem d_Tellings_ofKind_26 : decode b_Tellings_ofKind 26 = .ok (.getfield 21, 3) := by decide +kernel
theorem d_Tellings_ofKind_29 : decode b_Tellings_ofKind 29 = .ok (.iload 5, 2) := by decide +kernel
theorem d_Tellings_ofKind_31 : decode b_Tellings_ofKind 31 = .ok (.iaload, 1) := by decide +kernel
theorem d_Tellings_ofKind_32 : decode b_Tellings_ofKind 32 = .ok (.iload_n 2, 1) := by decide +kernel
theorem d_Tellings_ofKind_33 : decode b_Tellings_ofKind 33 = .ok (.if_icmp .ne 11, 3) := by decide +kernel
theorem d_Tellings_ofKind_36 : decode b_Tellings_ofKind 36 = .ok (.lload_n 3, 1) := by decide +kernel
theorem d_Tellings_ofKind_37 : decode b_Tellings_ofKind 37 = .ok (.iload 5, 2) := by decide +kernel
theorem d_Tellings_ofKind_39 : decode b_Tellings_ofKind 39 = .ok (.invokestatic 38, 3) := by decide +kernel
theorem d_Tellings_ofKind_42 : decode b_Tellings_ofKind 42 = .ok (.lor, 1) := by decide +kernel
theorem d_Tellings_ofKind_43 : decode b_Tellings_ofKind 43 = .ok (.lstore_n 3, 1) := by decide +kernel
theorem d_Tellings_ofKind_44 : decode b_Tellings_ofKind 44 = .ok (.iinc 5 1, 3) := by decide +kernel
theorem d_Tellings_ofKind_47 : decode b_Tellings_ofKind 47 = .ok (.goto (-42), 3) := by decide +kernel
theorem d_Tellings_ofKind_50 : decode b_Tellings_ofKind 50 = .ok (.lload_n 3, 1) := by decide +kernel
theorem d_Tellings_ofKind_51 : decode b_Tellings_ofKind 51 = .ok (.lreturn, 1) := by decide +kernel
theorem d_Tellings_notBelow_0 : decode b_Tellings_notBelow 0 = .ok (.lconst 0, 1) := by decide +kernel
theorem d_Tellings_notBelow_1 : decode b_Tellings_notBelow 1 = .ok (.lstore 5, 2) := by decide +kernel
theorem d_Tellings_notBelow_3 : decode b_Tellings_notBelow 3 = .ok (.iconst 0, 1) := by decide +kernel
theorem d_Tellings_notBelow_4 : decode b_Tellings_notBelow 4 = .ok (.istore 7, 2) := by decide +kernel
theorem d_Tellings_notBelow_6 : decode b_Tellings_notBelow 6 = .ok (.iload 7, 2) := by decide +kernel
theorem d_Tellings_notBelow_8 : decode b_Tellings_notBelow 8 = .ok (.aload_n 0, 1) := by decide +kernel
theorem d_Tellings_notBelow_9 : decode b_Tellings_notBelow 9 = .ok (.getfield 34, 3) := by decide +kernel
theorem d_Tellings_notBelow_12 : decode b_Tellings_notBelow 12 = .ok (.if_icmp .ge 40, 3) := by decide +kernel
theorem d_Tellings_notBelow_15 : decode b_Tellings_notBelow 15 = .ok (.iload 7, 2) := by decide +kernel
theorem d_Tellings_notBelow_17 : decode b_Tellings_notBelow 17 = .ok (.lload_n 3, 1) := by decide +kernel
theorem d_Tellings_notBelow_18 : decode b_Tellings_notBelow 18 = .ok (.invokestatic 42, 3) := by decide +kernel
theorem d_Tellings_notBelow_21 : decode b_Tellings_notBelow 21 = .ok (.ifCond .eq 25, 3) := by decide +kernel
theorem d_Tellings_notBelow_24 : decode b_Tellings_notBelow 24 = .ok (.aload_n 0, 1) := by decide +kernel
theorem d_Tellings_notBelow_25 : decode b_Tellings_notBelow 25 = .ok (.getfield 24, 3) := by decide +kernel
theorem d_Tellings_notBelow_28 : decode b_Tellings_notBelow 28 = .ok (.iload 7, 2) := by decide +kernel
theorem d_Tellings_notBelow_30 : decode b_Tellings_notBelow 30 = .ok (.laload, 1) := by decide +kernel
theorem d_Tellings_notBelow_31 : decode b_Tellings_notBelow 31 = .ok (.lload_n 1, 1) := by decide +kernel
theorem d_Tellings_notBelow_32 : decode b_Tellings_notBelow 32 = .ok (.lcmp, 1) := by decide +kernel
theorem d_Tellings_notBelow_33 : decode b_Tellings_notBelow 33 = .ok (.ifCond .lt 13, 3) := by decide +kernel
theorem d_Tellings_notBelow_36 : decode b_Tellings_notBelow 36 = .ok (.lload 5, 2) := by decide +kernel
theorem d_Tellings_notBelow_38 : decode b_Tellings_notBelow 38 = .ok (.iload 7, 2) := by decide +kernel
theorem d_Tellings_notBelow_40 : decode b_Tellings_notBelow 40 = .ok (.invokestatic 38, 3) := by decide +kernel
theorem d_Tellings_notBelow_43 : decode b_Tellings_notBelow 43 = .ok (.lor, 1) := by decide +kernel
theorem d_Tellings_notBelow_44 : decode b_Tellings_notBelow 44 = .ok (.lstore 5, 2) := by decide +kernel
theorem d_Tellings_notBelow_46 : decode b_Tellings_notBelow 46 = .ok (.iinc 7 1, 3) := by decide +kernel
theorem d_Tellings_notBelow_49 : decode b_Tellings_notBelow 49 = .ok (.goto (-43), 3) := by decide +kernel
theorem d_Tellings_notBelow_52 : decode b_Tellings_notBelow 52 = .ok (.lload 5, 2) := by decide +kernel
theorem d_Tellings_notBelow_54 : decode b_Tellings_notBelow 54 = .ok (.lreturn, 1) := by decide +kernel
theorem d_Tellings_ofKeyOf_0 : decode b_Tellings_ofKeyOf 0 = .ok (.lconst 0, 1) := by decide +kernel
theorem d_Tellings_ofKeyOf_1 : decode b_Tellings_ofKeyOf 1 = .ok (.lstore 4, 2) := by decide +kernel
theorem d_Tellings_ofKeyOf_3 : decode b_Tellings_ofKeyOf 3 = .ok (.iconst 0, 1) := by decide +kernel
theorem d_Tellings_ofKeyOf_4 : decode b_Tellings_ofKeyOf 4 = .ok (.istore 6, 2) := by decide +kernel
theorem d_Tellings_ofKeyOf_6 : decode b_Tellings_ofKeyOf 6 = .ok (.iload 6, 2) := by decide +kernel
theorem d_Tellings_ofKeyOf_8 : decode b_Tellings_ofKeyOf 8 = .ok (.aload_n 0, 1) := by decide +kernel
theorem d_Tellings_ofKeyOf_9 : decode b_Tellings_ofKeyOf 9 = .ok (.getfield 34, 3) := by decide +kernel
theorem d_Tellings_ofKeyOf_12 : decode b_Tellings_ofKeyOf 12 = .ok (.if_icmp .ge 92, 3) := by decide +kernel
theorem d_Tellings_ofKeyOf_15 : decode b_Tellings_ofKeyOf 15 = .ok (.iload 6, 2) := by decide +kernel
theorem d_Tellings_ofKeyOf_17 : decode b_Tellings_ofKeyOf 17 = .ok (.lload_n 2, 1) := by decide +kernel
theorem d_Tellings_ofKeyOf_18 : decode b_Tellings_ofKeyOf 18 = .ok (.invokestatic 42, 3) := by decide +kernel
theorem d_Tellings_ofKeyOf_21 : decode b_Tellings_ofKeyOf 21 = .ok (.ifCond .eq 77, 3) := by decide +kernel
theorem d_Tellings_ofKeyOf_24 : decode b_Tellings_ofKeyOf 24 = .ok (.aload_n 0, 1) := by decide +kernel
theorem d_Tellings_ofKeyOf_25 : decode b_Tellings_ofKeyOf 25 = .ok (.getfield 9, 3) := by decide +kernel
theorem d_Tellings_ofKeyOf_28 : decode b_Tellings_ofKeyOf 28 = .ok (.iload 6, 2) := by decide +kernel
theorem d_Tellings_ofKeyOf_30 : decode b_Tellings_ofKeyOf 30 = .ok (.iaload, 1) := by decide +kernel
theorem d_Tellings_ofKeyOf_31 : decode b_Tellings_ofKeyOf 31 = .ok (.aload_n 0, 1) := by decide +kernel
theorem d_Tellings_ofKeyOf_32 : decode b_Tellings_ofKeyOf 32 = .ok (.getfield 9, 3) := by decide +kernel
theorem d_Tellings_ofKeyOf_35 : decode b_Tellings_ofKeyOf 35 = .ok (.iload_n 1, 1) := by decide +kernel
theorem d_Tellings_ofKeyOf_36 : decode b_Tellings_ofKeyOf 36 = .ok (.iaload, 1) := by decide +kernel
theorem d_Tellings_ofKeyOf_37 : decode b_Tellings_ofKeyOf 37 = .ok (.if_icmp .ne 61, 3) := by decide +kernel
theorem d_Tellings_ofKeyOf_40 : decode b_Tellings_ofKeyOf 40 = .ok (.aload_n 0, 1) := by decide +kernel
theorem d_Tellings_ofKeyOf_41 : decode b_Tellings_ofKeyOf 41 = .ok (.getfield 15, 3) := by decide +kernel
theorem d_Tellings_ofKeyOf_44 : decode b_Tellings_ofKeyOf 44 = .ok (.iload 6, 2) := by decide +kernel
theorem d_Tellings_ofKeyOf_46 : decode b_Tellings_ofKeyOf 46 = .ok (.iaload, 1) := by decide +kernel
theorem d_Tellings_ofKeyOf_47 : decode b_Tellings_ofKeyOf 47 = .ok (.aload_n 0, 1) := by decide +kernel
theorem d_Tellings_ofKeyOf_48 : decode b_Tellings_ofKeyOf 48 = .ok (.getfield 15, 3) := by decide +kernel
theorem d_Tellings_ofKeyOf_51 : decode b_Tellings_ofKeyOf 51 = .ok (.iload_n 1, 1) := by decide +kernel
theorem d_Tellings_ofKeyOf_52 : decode b_Tellings_ofKeyOf 52 = .ok (.iaload, 1) := by decide +kernel
theorem d_Tellings_ofKeyOf_53 : decode b_Tellings_ofKeyOf 53 = .ok (.if_icmp .ne 45, 3) := by decide +kernel
theorem d_Tellings_ofKeyOf_56 : decode b_Tellings_ofKeyOf 56 = .ok (.aload_n 0, 1) := by decide +kernel
theorem d_Tellings_ofKeyOf_57 : decode b_Tellings_ofKeyOf 57 = .ok (.getfield 18, 3) := by decide +kernel
theorem d_Tellings_ofKeyOf_60 : decode b_Tellings_ofKeyOf 60 = .ok (.iload 6, 2) := by decide +kernel
theorem d_Tellings_ofKeyOf_62 : decode b_Tellings_ofKeyOf 62 = .ok (.iaload, 1) := by decide +kernel
theorem d_Tellings_ofKeyOf_63 : decode b_Tellings_ofKeyOf 63 = .ok (.aload_n 0, 1) := by decide +kernel
theorem d_Tellings_ofKeyOf_64 : decode b_Tellings_ofKeyOf 64 = .ok (.getfield 18, 3) := by decide +kernel
theorem d_Tellings_ofKeyOf_67 : decode b_Tellings_ofKeyOf 67 = .ok (.iload_n 1, 1) := by decide +kernel
theorem d_Tellings_ofKeyOf_68 : decode b_Tellings_ofKeyOf 68 = .ok (.iaload, 1) := by decide +kernel
theorem d_Tellings_ofKeyOf_69 : decode b_Tellings_ofKeyOf 69 = .ok (.if_icmp .ne 29, 3) := by decide +kernel
theorem d_Tellings_ofKeyOf_72 : decode b_Tellings_ofKeyOf 72 = .ok (.aload_n 0, 1) := by decide +kernel
theorem d_Tellings_ofKeyOf_73 : decode b_Tellings_ofKeyOf 73 = .ok (.getfield 21, 3) := by decide +kernel
theorem d_Tellings_ofKeyOf_76 : decode b_Tellings_ofKeyOf 76 = .ok (.iload 6, 2) := by decide +kernel
theorem d_Tellings_ofKeyOf_78 : decode b_Tellings_ofKeyOf 78 = .ok (.iaload, 1) := by decide +kernel
theorem d_Tellings_ofKeyOf_79 : decode b_Tellings_ofKeyOf 79 = .ok (.aload_n 0, 1) := by decide +kernel
theorem d_Tellings_ofKeyOf_80 : decode b_Tellings_ofKeyOf 80 = .ok (.getfield 21, 3) := by decide +kernel
theorem d_Tellings_ofKeyOf_83 : decode b_Tellings_ofKeyOf 83 = .ok (.iload_n 1, 1) := by decide +kernel
theorem d_Tellings_ofKeyOf_84 : decode b_Tellings_ofKeyOf 84 = .ok (.iaload, 1) := by decide +kernel
theorem d_Tellings_ofKeyOf_85 : decode b_Tellings_ofKeyOf 85 = .ok (.if_icmp .ne 13, 3) := by decide +kernel
theorem d_Tellings_ofKeyOf_88 : decode b_Tellings_ofKeyOf 88 = .ok (.lload 4, 2) := by decide +kernel
theorem d_Tellings_ofKeyOf_90 : decode b_Tellings_ofKeyOf 90 = .ok (.iload 6, 2) := by decide +kernel
theorem d_Tellings_ofKeyOf_92 : decode b_Tellings_ofKeyOf 92 = .ok (.invokestatic 38, 3) := by decide +kernel
theorem d_Tellings_ofKeyOf_95 : decode b_Tellings_ofKeyOf 95 = .ok (.lor, 1) := by decide +kernel
theorem d_Tellings_ofKeyOf_96 : decode b_Tellings_ofKeyOf 96 = .ok (.lstore 4, 2) := by decide +kernel
theorem d_Tellings_ofKeyOf_98 : decode b_Tellings_ofKeyOf 98 = .ok (.iinc 6 1, 3) := by decide +kernel
theorem d_Tellings_ofKeyOf_101 : decode b_Tellings_ofKeyOf 101 = .ok (.goto (-95), 3) := by decide +kernel
theorem d_Tellings_ofKeyOf_104 : decode b_Tellings_ofKeyOf 104 = .ok (.lload 4, 2) := by decide +kernel
theorem d_Tellings_ofKeyOf_106 : decode b_Tellings_ofKeyOf 106 = .ok (.lreturn, 1) := by decide +kernel
theorem d_Tellings_unsettled_0 : decode b_Tellings_unsettled 0 = .ok (.lconst 0, 1) := by decide +kernel
theorem d_Tellings_unsettled_1 : decode b_Tellings_unsettled 1 = .ok (.lstore 5, 2) := by decide +kernel
theorem d_Tellings_unsettled_3 : decode b_Tellings_unsettled 3 = .ok (.lload_n 1, 1) := by decide +kernel
theorem d_Tellings_unsettled_4 : decode b_Tellings_unsettled 4 = .ok (.lstore 7, 2) := by decide +kernel
theorem d_Tellings_unsettled_6 : decode b_Tellings_unsettled 6 = .ok (.iconst 0, 1) := by decide +kernel
theorem d_Tellings_unsettled_7 : decode b_Tellings_unsettled 7 = .ok (.istore 9, 2) := by decide +kernel
theorem d_Tellings_unsettled_9 : decode b_Tellings_unsettled 9 = .ok (.iload 9, 2) := by decide +kernel
theorem d_Tellings_unsettled_11 : decode b_Tellings_unsettled 11 = .ok (.aload_n 0, 1) := by decide +kernel
theorem d_Tellings_unsettled_12 : decode b_Tellings_unsettled 12 = .ok (.getfield 34, 3) := by decide +kernel
theorem d_Tellings_unsettled_15 : decode b_Tellings_unsettled 15 = .ok (.if_icmp .ge 69, 3) := by decide +kernel
theorem d_Tellings_unsettled_18 : decode b_Tellings_unsettled 18 = .ok (.iload 9, 2) := by decide +kernel
theorem d_Tellings_unsettled_20 : decode b_Tellings_unsettled 20 = .ok (.lload 7, 2) := by decide +kernel
theorem d_Tellings_unsettled_22 : decode b_Tellings_unsettled 22 = .ok (.invokestatic 42, 3) := by decide +kernel
theorem d_Tellings_unsettled_25 : decode b_Tellings_unsettled 25 = .ok (.ifCond .eq 53, 3) := by decide +kernel
theorem d_Tellings_unsettled_28 : decode b_Tellings_unsettled 28 = .ok (.aload_n 0, 1) := by decide +kernel
theorem d_Tellings_unsettled_29 : decode b_Tellings_unsettled 29 = .ok (.iload 9, 2) := by decide +kernel
theorem d_Tellings_unsettled_31 : decode b_Tellings_unsettled 31 = .ok (.lload_n 1, 1) := by decide +kernel
theorem d_Tellings_unsettled_32 : decode b_Tellings_unsettled 32 = .ok (.invokevirtual 46, 3) := by decide +kernel
theorem d_Tellings_unsettled_35 : decode b_Tellings_unsettled 35 = .ok (.lstore 10, 2) := by decide +kernel
theorem d_Tellings_unsettled_37 : decode b_Tellings_unsettled 37 = .ok (.lload 7, 2) := by decide +kernel
theorem d_Tellings_unsettled_39 : decode b_Tellings_unsettled 39 = .ok (.lload 10, 2) := by decide +kernel
theorem d_Tellings_unsettled_41 : decode b_Tellings_unsettled 41 = .ok (.ldc2_w 50, 3) := by decide +kernel
theorem d_Tellings_unsettled_44 : decode b_Tellings_unsettled 44 = .ok (.lxor, 1) := by decide +kernel
theorem d_Tellings_unsettled_45 : decode b_Tellings_unsettled 45 = .ok (.land, 1) := by decide +kernel
theorem d_Tellings_unsettled_46 : decode b_Tellings_unsettled 46 = .ok (.lstore 7, 2) := by decide +kernel
theorem d_Tellings_unsettled_48 : decode b_Tellings_unsettled 48 = .ok (.lload 10, 2) := by decide +kernel
theorem d_Tellings_unsettled_50 : decode b_Tellings_unsettled 50 = .ok (.iload 9, 2) := by decide +kernel
theorem d_Tellings_unsettled_52 : decode b_Tellings_unsettled 52 = .ok (.invokestatic 38, 3) := by decide +kernel
theorem d_Tellings_unsettled_55 : decode b_Tellings_unsettled 55 = .ok (.lcmp, 1) := by decide +kernel
theorem d_Tellings_unsettled_56 : decode b_Tellings_unsettled 56 = .ok (.ifCond .eq 22, 3) := by decide +kernel
theorem d_Tellings_unsettled_59 : decode b_Tellings_unsettled 59 = .ok (.lload 10, 2) := by decide +kernel
theorem d_Tellings_unsettled_61 : decode b_Tellings_unsettled 61 = .ok (.lload_n 3, 1) := by decide +kernel
theorem d_Tellings_unsettled_62 : decode b_Tellings_unsettled 62 = .ok (.land, 1) := by decide +kernel
theorem d_Tellings_unsettled_63 : decode b_Tellings_unsettled 63 = .ok (.lconst 0, 1) := by decide +kernel
theorem d_Tellings_unsettled_64 : decode b_Tellings_unsettled 64 = .ok (.lcmp, 1) := by decide +kernel
theorem d_Tellings_unsettled_65 : decode b_Tellings_unsettled 65 = .ok (.ifCond .ne 13, 3) := by decide +kernel
theorem d_Tellings_unsettled_68 : decode b_Tellings_unsettled 68 = .ok (.lload 5, 2) := by decide +kernel
theorem d_Tellings_unsettled_70 : decode b_Tellings_unsettled 70 = .ok (.iload 9, 2) := by decide +kernel
theorem d_Tellings_unsettled_72 : decode b_Tellings_unsettled 72 = .ok (.invokestatic 38, 3) := by decide +kernel
theorem d_Tellings_unsettled_75 : decode b_Tellings_unsettled 75 = .ok (.lor, 1) := by decide +kernel
theorem d_Tellings_unsettled_76 : decode b_Tellings_unsettled 76 = .ok (.lstore 5, 2) := by decide +kernel
theorem d_Tellings_unsettled_78 : decode b_Tellings_unsettled 78 = .ok (.iinc 9 1, 3) := by decide +kernel
theorem d_Tellings_unsettled_81 : decode b_Tellings_unsettled 81 = .ok (.goto (-72), 3) := by decide +kernel
theorem d_Tellings_unsettled_84 : decode b_Tellings_unsettled 84 = .ok (.lload 5, 2) := by decide +kernel
theorem d_Tellings_unsettled_86 : decode b_Tellings_unsettled 86 = .ok (.lreturn, 1) := by decide +kernel
theorem d_Tellings_holding_0 : decode b_Tellings_holding 0 = .ok (.lconst 0, 1) := by decide +kernel
theorem d_Tellings_holding_1 : decode b_Tellings_holding 1 = .ok (.lstore 5, 2) := by decide +kernel
theorem d_Tellings_holding_3 : decode b_Tellings_holding 3 = .ok (.iconst 0, 1) := by decide +kernel
theorem d_Tellings_holding_4 : decode b_Tellings_holding 4 = .ok (.istore 7, 2) := by decide +kernel
theorem d_Tellings_holding_6 : decode b_Tellings_holding 6 = .ok (.iload 7, 2) := by decide +kernel
theorem d_Tellings_holding_8 : decode b_Tellings_holding 8 = .ok (.aload_n 0, 1) := by decide +kernel
theorem d_Tellings_holding_9 : decode b_Tellings_holding 9 = .ok (.getfield 34, 3) := by decide +kernel
theorem d_Tellings_holding_12 : decode b_Tellings_holding 12 = .ok (.if_icmp .ge 61, 3) := by decide +kernel
theorem d_Tellings_holding_15 : decode b_Tellings_holding 15 = .ok (.iload 7, 2) := by decide +kernel
theorem d_Tellings_holding_17 : decode b_Tellings_holding 17 = .ok (.lload_n 1, 1) := by decide +kernel
theorem d_Tellings_holding_18 : decode b_Tellings_holding 18 = .ok (.invokestatic 42, 3) := by decide +kernel
theorem d_Tellings_holding_21 : decode b_Tellings_holding 21 = .ok (.ifCond .eq 46, 3) := by decide +kernel
theorem d_Tellings_holding_24 : decode b_Tellings_holding 24 = .ok (.aload_n 0, 1) := by decide +kernel
theorem d_Tellings_holding_25 : decode b_Tellings_holding 25 = .ok (.iload 7, 2) := by decide +kernel
theorem d_Tellings_holding_27 : decode b_Tellings_holding 27 = .ok (.lload_n 1, 1) := by decide +kernel
theorem d_Tellings_holding_28 : decode b_Tellings_holding 28 = .ok (.invokevirtual 46, 3) := by decide +kernel
theorem d_Tellings_holding_31 : decode b_Tellings_holding 31 = .ok (.lstore 8, 2) := by decide +kernel
theorem d_Tellings_holding_33 : decode b_Tellings_holding 33 = .ok (.lload 8, 2) := by decide +kernel
theorem d_Tellings_holding_35 : decode b_Tellings_holding 35 = .ok (.iload 7, 2) := by decide +kernel
theorem d_Tellings_holding_37 : decode b_Tellings_holding 37 = .ok (.invokestatic 38, 3) := by decide +kernel
theorem d_Tellings_holding_40 : decode b_Tellings_holding 40 = .ok (.lcmp, 1) := by decide +kernel
theorem d_Tellings_holding_41 : decode b_Tellings_holding 41 = .ok (.ifCond .eq 16, 3) := by decide +kernel
theorem d_Tellings_holding_44 : decode b_Tellings_holding 44 = .ok (.aload_n 0, 1) := by decide +kernel
theorem d_Tellings_holding_45 : decode b_Tellings_holding 45 = .ok (.lload 8, 2) := by decide +kernel
theorem d_Tellings_holding_47 : decode b_Tellings_holding 47 = .ok (.lload_n 3, 1) := by decide +kernel
theorem d_Tellings_holding_48 : decode b_Tellings_holding 48 = .ok (.land, 1) := by decide +kernel
theorem d_Tellings_holding_49 : decode b_Tellings_holding 49 = .ok (.invokevirtual 52, 3) := by decide +kernel
theorem d_Tellings_holding_52 : decode b_Tellings_holding 52 = .ok (.iload 7, 2) := by decide +kernel
theorem d_Tellings_holding_54 : decode b_Tellings_holding 54 = .ok (.if_icmp .ne 13, 3) := by decide +kernel
theorem d_Tellings_holding_57 : decode b_Tellings_holding 57 = .ok (.lload 5, 2) := by decide +kernel
theorem d_Tellings_holding_59 : decode b_Tellings_holding 59 = .ok (.iload 7, 2) := by decide +kernel
theorem d_Tellings_holding_61 : decode b_Tellings_holding 61 = .ok (.invokestatic 38, 3) := by decide +kernel
theorem d_Tellings_holding_64 : decode b_Tellings_holding 64 = .ok (.lor, 1) := by decide +kernel
theorem d_Tellings_holding_65 : decode b_Tellings_holding 65 = .ok (.lstore 5, 2) := by decide +kernel
theorem d_Tellings_holding_67 : decode b_Tellings_holding 67 = .ok (.iinc 7 1, 3) := by decide +kernel
theorem d_Tellings_holding_70 : decode b_Tellings_holding 70 = .ok (.goto (-64), 3) := by decide +kernel
theorem d_Tellings_holding_73 : decode b_Tellings_holding 73 = .ok (.lload 5, 2) := by decide +kernel
theorem d_Tellings_holding_75 : decode b_Tellings_holding 75 = .ok (.lreturn, 1) := by decide +kernel
theorem d_Tellings_first_0 : decode b_Tellings_first 0 = .ok (.iconst (-1), 1) := by decide +kernel
theorem d_Tellings_first_1 : decode b_Tellings_first 1 = .ok (.istore_n 3, 1) := by decide +kernel
theorem d_Tellings_first_2 : decode b_Tellings_first 2 = .ok (.iconst 0, 1) := by decide +kernel
theorem d_Tellings_first_3 : decode b_Tellings_first 3 = .ok (.istore 4, 2) := by decide +kernel
theorem d_Tellings_first_5 : decode b_Tellings_first 5 = .ok (.iload 4, 2) := by decide +kernel
theorem d_Tellings_first_7 : decode b_Tellings_first 7 = .ok (.aload_n 0, 1) := by decide +kernel
theorem d_Tellings_first_8 : decode b_Tellings_first 8 = .ok (.getfield 34, 3) := by decide +kernel
theorem d_Tellings_first_11 : decode b_Tellings_first 11 = .ok (.if_icmp .ge 36, 3) := by decide +kernel
theorem d_Tellings_first_14 : decode b_Tellings_first 14 = .ok (.iload 4, 2) := by decide +kernel
theorem d_Tellings_first_16 : decode b_Tellings_first 16 = .ok (.lload_n 1, 1) := by decide +kernel
theorem d_Tellings_first_17 : decode b_Tellings_first 17 = .ok (.invokestatic 42, 3) := by decide +kernel
theorem d_Tellings_first_20 : decode b_Tellings_first 20 = .ok (.ifCond .eq 21, 3) := by decide +kernel
theorem d_Tellings_first_23 : decode b_Tellings_first 23 = .ok (.iload_n 3, 1) := by decide +kernel
theorem d_Tellings_first_24 : decode b_Tellings_first 24 = .ok (.iconst (-1), 1) := by decide +kernel
theorem d_Tellings_first_25 : decode b_Tellings_first 25 = .ok (.if_icmp .eq 13, 3) := by decide +kernel
theorem d_Tellings_first_28 : decode b_Tellings_first 28 = .ok (.aload_n 0, 1) := by decide +kernel
theorem d_Tellings_first_29 : decode b_Tellings_first 29 = .ok (.iload 4, 2) := by decide +kernel
theorem d_Tellings_first_31 : decode b_Tellings_first 31 = .ok (.iload_n 3, 1) := by decide +kernel
theorem d_Tellings_first_32 : decode b_Tellings_first 32 = .ok (.invokevirtual 56, 3) := by decide +kernel
theorem d_Tellings_first_35 : decode b_Tellings_first 35 = .ok (.ifCond .eq 6, 3) := by decide +kernel
theorem d_Tellings_first_38 : decode b_Tellings_first 38 = .ok (.iload 4, 2) := by decide +kernel
theorem d_Tellings_first_40 : decode b_Tellings_first 40 = .ok (.istore_n 3, 1) := by decide +kernel
theorem d_Tellings_first_41 : decode b_Tellings_first 41 = .ok (.iinc 4 1, 3) := by decide +kernel
theorem d_Tellings_first_44 : decode b_Tellings_first 44 = .ok (.goto (-39), 3) := by decide +kernel
theorem d_Tellings_first_47 : decode b_Tellings_first 47 = .ok (.iload_n 3, 1) := by decide +kernel
theorem d_Tellings_first_48 : decode b_Tellings_first 48 = .ok (.ireturn, 1) := by decide +kernel
theorem d_Tellings_inPlace_0 : decode b_Tellings_inPlace 0 = .ok (.iconst 0, 1) := by decide +kernel
theorem d_Tellings_inPlace_1 : decode b_Tellings_inPlace 1 = .ok (.istore 4, 2) := by decide +kernel
theorem d_Tellings_inPlace_3 : decode b_Tellings_inPlace 3 = .ok (.iload 4, 2) := by decide +kernel
theorem d_Tellings_inPlace_5 : decode b_Tellings_inPlace 5 = .ok (.aload_n 0, 1) := by decide +kernel
theorem d_Tellings_inPlace_6 : decode b_Tellings_inPlace 6 = .ok (.getfield 34, 3) := by decide +kernel
theorem d_Tellings_inPlace_9 : decode b_Tellings_inPlace 9 = .ok (.if_icmp .ge 32, 3) := by decide +kernel
theorem d_Tellings_inPlace_12 : decode b_Tellings_inPlace 12 = .ok (.iload 4, 2) := by decide +kernel
theorem d_Tellings_inPlace_14 : decode b_Tellings_inPlace 14 = .ok (.lload_n 1, 1) := by decide +kernel
theorem d_Tellings_inPlace_15 : decode b_Tellings_inPlace 15 = .ok (.invokestatic 42, 3) := by decide +kernel
theorem d_Tellings_inPlace_18 : decode b_Tellings_inPlace 18 = .ok (.ifCond .eq 17, 3) := by decide +kernel
theorem d_Tellings_inPlace_21 : decode b_Tellings_inPlace 21 = .ok (.aload_n 0, 1) := by decide +kernel
theorem d_Tellings_inPlace_22 : decode b_Tellings_inPlace 22 = .ok (.iload 4, 2) := by decide +kernel
theorem d_Tellings_inPlace_24 : decode b_Tellings_inPlace 24 = .ok (.lload_n 1, 1) := by decide +kernel
theorem d_Tellings_inPlace_25 : decode b_Tellings_inPlace 25 = .ok (.invokevirtual 60, 3) := by decide +kernel
theorem d_Tellings_inPlace_28 : decode b_Tellings_inPlace 28 = .ok (.iload_n 3, 1) := by decide +kernel
theorem d_Tellings_inPlace_29 : decode b_Tellings_inPlace 29 = .ok (.if_icmp .ne 6, 3) := by decide +kernel
theorem d_Tellings_inPlace_32 : decode b_Tellings_inPlace 32 = .ok (.iload 4, 2) := by decide +kernel
theorem d_Tellings_inPlace_34 : decode b_Tellings_inPlace 34 = .ok (.ireturn, 1) := by decide +kernel
theorem d_Tellings_inPlace_35 : decode b_Tellings_inPlace 35 = .ok (.iinc 4 1, 3) := by decide +kernel
theorem d_Tellings_inPlace_38 : decode b_Tellings_inPlace 38 = .ok (.goto (-35), 3) := by decide +kernel
theorem d_Tellings_inPlace_41 : decode b_Tellings_inPlace 41 = .ok (.iconst (-1), 1) := by decide +kernel
theorem d_Tellings_inPlace_42 : decode b_Tellings_inPlace 42 = .ok (.ireturn, 1) := by decide +kernel
theorem d_Tellings_countBefore_0 : decode b_Tellings_countBefore 0 = .ok (.iconst 0, 1) := by decide +kernel
theorem d_Tellings_countBefore_1 : decode b_Tellings_countBefore 1 = .ok (.istore 4, 2) := by decide +kernel
theorem d_Tellings_countBefore_3 : decode b_Tellings_countBefore 3 = .ok (.iconst 0, 1) := by decide +kernel
theorem d_Tellings_countBefore_4 : decode b_Tellings_countBefore 4 = .ok (.istore 5, 2) := by decide +kernel
theorem d_Tellings_countBefore_6 : decode b_Tellings_countBefore 6 = .ok (.iload 5, 2) := by decide +kernel
theorem d_Tellings_countBefore_8 : decode b_Tellings_countBefore 8 = .ok (.aload_n 0, 1) := by decide +kernel
theorem d_Tellings_countBefore_9 : decode b_Tellings_countBefore 9 = .ok (.getfield 34, 3) := by decide +kernel
theorem d_Tellings_countBefore_12 : decode b_Tellings_countBefore 12 = .ok (.if_icmp .ge 31, 3) := by decide +kernel
theorem d_Tellings_countBefore_15 : decode b_Tellings_countBefore 15 = .ok (.iload 5, 2) := by decide +kernel
theorem d_Tellings_countBefore_17 : decode b_Tellings_countBefore 17 = .ok (.lload_n 2, 1) := by decide +kernel
theorem d_Tellings_countBefore_18 : decode b_Tellings_countBefore 18 = .ok (.invokestatic 42, 3) := by decide +kernel
theorem d_Tellings_countBefore_21 : decode b_Tellings_countBefore 21 = .ok (.ifCond .eq 16, 3) := by decide +kernel
theorem d_Tellings_countBefore_24 : decode b_Tellings_countBefore 24 = .ok (.aload_n 0, 1) := by decide +kernel
theorem d_Tellings_countBefore_25 : decode b_Tellings_countBefore 25 = .ok (.iload 5, 2) := by decide +kernel
theorem d_Tellings_countBefore_27 : decode b_Tellings_countBefore 27 = .ok (.iload_n 1, 1) := by decide +kernel
theorem d_Tellings_countBefore_28 : decode b_Tellings_countBefore 28 = .ok (.invokevirtual 56, 3) := by decide +kernel
theorem d_Tellings_countBefore_31 : decode b_Tellings_countBefore 31 = .ok (.ifCond .eq 6, 3) := by decide +kernel
theorem d_Tellings_countBefore_34 : decode b_Tellings_countBefore 34 = .ok (.iinc 4 1, 3) := by decide +kernel
theorem d_Tellings_countBefore_37 : decode b_Tellings_countBefore 37 = .ok (.iinc 5 1, 3) := by decide +kernel
theorem d_Tellings_countBefore_40 : decode b_Tellings_countBefore 40 = .ok (.goto (-34), 3) := by decide +kernel
theorem d_Tellings_countBefore_43 : decode b_Tellings_countBefore 43 = .ok (.iload 4, 2) := by decide +kernel
theorem d_Tellings_countBefore_45 : decode b_Tellings_countBefore 45 = .ok (.ireturn, 1) := by decide +kernel
theorem d_Tellings_isBefore_0 : decode b_Tellings_isBefore 0 = .ok (.aload_n 0, 1) := by decide +kernel
theorem d_Tellings_isBefore_1 : decode b_Tellings_isBefore 1 = .ok (.getfield 9, 3) := by decide +kernel
theorem d_Tellings_isBefore_4 : decode b_Tellings_isBefore 4 = .ok (.iload_n 1, 1) := by decide +kernel
theorem d_Tellings_isBefore_5 : decode b_Tellings_isBefore 5 = .ok (.iaload, 1) := by decide +kernel
theorem d_Tellings_isBefore_6 : decode b_Tellings_isBefore 6 = .ok (.aload_n 0, 1) := by decide +kernel
theorem d_Tellings_isBefore_7 : decode b_Tellings_isBefore 7 = .ok (.getfield 9, 3) := by decide +kernel
theorem d_Tellings_isBefore_10 : decode b_Tellings_isBefore 10 = .ok (.iload_n 2, 1) := by decide +kernel
theorem d_Tellings_isBefore_11 : decode b_Tellings_isBefore 11 = .ok (.iaload, 1) := by decide +kernel
theorem d_Tellings_isBefore_12 : decode b_Tellings_isBefore 12 = .ok (.if_icmp .eq 24, 3) := by decide +kernel
theorem d_Tellings_isBefore_15 : decode b_Tellings_isBefore 15 = .ok (.aload_n 0, 1) := by decide +kernel
theorem d_Tellings_isBefore_16 : decode b_Tellings_isBefore 16 = .ok (.getfield 9, 3) := by decide +kernel
theorem d_Tellings_isBefore_19 : decode b_Tellings_isBefore 19 = .ok (.iload_n 1, 1) := by decide +kernel
theorem d_Tellings_isBefore_20 : decode b_Tellings_isBefore 20 = .ok (.iaload, 1) := by decide +kernel
theorem d_Tellings_isBefore_21 : decode b_Tellings_isBefore 21 = .ok (.aload_n 0, 1) := by decide +kernel
theorem d_Tellings_isBefore_22 : decode b_Tellings_isBefore 22 = .ok (.getfield 9, 3) := by decide +kernel
theorem d_Tellings_isBefore_25 : decode b_Tellings_isBefore 25 = .ok (.iload_n 2, 1) := by decide +kernel
theorem d_Tellings_isBefore_26 : decode b_Tellings_isBefore 26 = .ok (.iaload, 1) := by decide +kernel
theorem d_Tellings_isBefore_27 : decode b_Tellings_isBefore 27 = .ok (.if_icmp .ge 7, 3) := by decide +kernel
theorem d_Tellings_isBefore_30 : decode b_Tellings_isBefore 30 = .ok (.iconst 1, 1) := by decide +kernel
theorem d_Tellings_isBefore_31 : decode b_Tellings_isBefore 31 = .ok (.goto 4, 3) := by decide +kernel
theorem d_Tellings_isBefore_34 : decode b_Tellings_isBefore 34 = .ok (.iconst 0, 1) := by decide +kernel
theorem d_Tellings_isBefore_35 : decode b_Tellings_isBefore 35 = .ok (.ireturn, 1) := by decide +kernel
theorem d_Tellings_isBefore_36 : decode b_Tellings_isBefore 36 = .ok (.aload_n 0, 1) := by decide +kernel
theorem d_Tellings_isBefore_37 : decode b_Tellings_isBefore 37 = .ok (.getfield 15, 3) := by decide +kernel
theorem d_Tellings_isBefore_40 : decode b_Tellings_isBefore 40 = .ok (.iload_n 1, 1) := by decide +kernel
theorem d_Tellings_isBefore_41 : decode b_Tellings_isBefore 41 = .ok (.iaload, 1) := by decide +kernel
theorem d_Tellings_isBefore_42 : decode b_Tellings_isBefore 42 = .ok (.aload_n 0, 1) := by decide +kernel
theorem d_Tellings_isBefore_43 : decode b_Tellings_isBefore 43 = .ok (.getfield 15, 3) := by decide +kernel
theorem d_Tellings_isBefore_46 : decode b_Tellings_isBefore 46 = .ok (.iload_n 2, 1) := by decide +kernel
theorem d_Tellings_isBefore_47 : decode b_Tellings_isBefore 47 = .ok (.iaload, 1) := by decide +kernel
theorem d_Tellings_isBefore_48 : decode b_Tellings_isBefore 48 = .ok (.if_icmp .eq 24, 3) := by decide +kernel
theorem d_Tellings_isBefore_51 : decode b_Tellings_isBefore 51 = .ok (.aload_n 0, 1) := by decide +kernel
theorem d_Tellings_isBefore_52 : decode b_Tellings_isBefore 52 = .ok (.getfield 15, 3) := by decide +kernel
theorem d_Tellings_isBefore_55 : decode b_Tellings_isBefore 55 = .ok (.iload_n 1, 1) := by decide +kernel
theorem d_Tellings_isBefore_56 : decode b_Tellings_isBefore 56 = .ok (.iaload, 1) := by decide +kernel
theorem d_Tellings_isBefore_57 : decode b_Tellings_isBefore 57 = .ok (.aload_n 0, 1) := by decide +kernel
theorem d_Tellings_isBefore_58 : decode b_Tellings_isBefore 58 = .ok (.getfield 15, 3) := by decide +kernel
theorem d_Tellings_isBefore_61 : decode b_Tellings_isBefore 61 = .ok (.iload_n 2, 1) := by decide +kernel
theorem d_Tellings_isBefore_62 : decode b_Tellings_isBefore 62 = .ok (.iaload, 1) := by decide +kernel
theorem d_Tellings_isBefore_63 : decode b_Tellings_isBefore 63 = .ok (.if_icmp .ge 7, 3) := by decide +kernel
theorem d_Tellings_isBefore_66 : decode b_Tellings_isBefore 66 = .ok (.iconst 1, 1) := by decide +kernel
theorem d_Tellings_isBefore_67 : decode b_Tellings_isBefore 67 = .ok (.goto 4, 3) := by decide +kernel
theorem d_Tellings_isBefore_70 : decode b_Tellings_isBefore 70 = .ok (.iconst 0, 1) := by decide +kernel
theorem d_Tellings_isBefore_71 : decode b_Tellings_isBefore 71 = .ok (.ireturn, 1) := by decide +kernel
theorem d_Tellings_isBefore_72 : decode b_Tellings_isBefore 72 = .ok (.aload_n 0, 1) := by decide +kernel
theorem d_Tellings_isBefore_73 : decode b_Tellings_isBefore 73 = .ok (.getfield 18, 3) := by decide +kernel
theorem d_Tellings_isBefore_76 : decode b_Tellings_isBefore 76 = .ok (.iload_n 1, 1) := by decide +kernel
theorem d_Tellings_isBefore_77 : decode b_Tellings_isBefore 77 = .ok (.iaload, 1) := by decide +kernel
theorem d_Tellings_isBefore_78 : decode b_Tellings_isBefore 78 = .ok (.aload_n 0, 1) := by decide +kernel
theorem d_Tellings_isBefore_79 : decode b_Tellings_isBefore 79 = .ok (.getfield 18, 3) := by decide +kernel
theorem d_Tellings_isBefore_82 : decode b_Tellings_isBefore 82 = .ok (.iload_n 2, 1) := by decide +kernel
theorem d_Tellings_isBefore_83 : decode b_Tellings_isBefore 83 = .ok (.iaload, 1) := by decide +kernel
theorem d_Tellings_isBefore_84 : decode b_Tellings_isBefore 84 = .ok (.if_icmp .eq 24, 3) := by decide +kernel
theorem d_Tellings_isBefore_87 : decode b_Tellings_isBefore 87 = .ok (.aload_n 0, 1) := by decide +kernel
theorem d_Tellings_isBefore_88 : decode b_Tellings_isBefore 88 = .ok (.getfield 18, 3) := by decide +kernel
theorem d_Tellings_isBefore_91 : decode b_Tellings_isBefore 91 = .ok (.iload_n 1, 1) := by decide +kernel
theorem d_Tellings_isBefore_92 : decode b_Tellings_isBefore 92 = .ok (.iaload, 1) := by decide +kernel
theorem d_Tellings_isBefore_93 : decode b_Tellings_isBefore 93 = .ok (.aload_n 0, 1) := by decide +kernel
theorem d_Tellings_isBefore_94 : decode b_Tellings_isBefore 94 = .ok (.getfield 18, 3) := by decide +kernel
theorem d_Tellings_isBefore_97 : decode b_Tellings_isBefore 97 = .ok (.iload_n 2, 1) := by decide +kernel
theorem d_Tellings_isBefore_98 : decode b_Tellings_isBefore 98 = .ok (.iaload, 1) := by decide +kernel
theorem d_Tellings_isBefore_99 : decode b_Tellings_isBefore 99 = .ok (.if_icmp .ge 7, 3) := by decide +kernel
theorem d_Tellings_isBefore_102 : decode b_Tellings_isBefore 102 = .ok (.iconst 1, 1) := by decide +kernel
theorem d_Tellings_isBefore_103 : decode b_Tellings_isBefore 103 = .ok (.goto 4, 3) := by decide +kernel
theorem d_Tellings_isBefore_106 : decode b_Tellings_isBefore 106 = .ok (.iconst 0, 1) := by decide +kernel
theorem d_Tellings_isBefore_107 : decode b_Tellings_isBefore 107 = .ok (.ireturn, 1) := by decide +kernel
theorem d_Tellings_isBefore_108 : decode b_Tellings_isBefore 108 = .ok (.aload_n 0, 1) := by decide +kernel
theorem d_Tellings_isBefore_109 : decode b_Tellings_isBefore 109 = .ok (.getfield 21, 3) := by decide +kernel
theorem d_Tellings_isBefore_112 : decode b_Tellings_isBefore 112 = .ok (.iload_n 1, 1) := by decide +kernel
theorem d_Tellings_isBefore_113 : decode b_Tellings_isBefore 113 = .ok (.iaload, 1) := by decide +kernel
theorem d_Tellings_isBefore_114 : decode b_Tellings_isBefore 114 = .ok (.aload_n 0, 1) := by decide +kernel
theorem d_Tellings_isBefore_115 : decode b_Tellings_isBefore 115 = .ok (.getfield 21, 3) := by decide +kernel
theorem d_Tellings_isBefore_118 : decode b_Tellings_isBefore 118 = .ok (.iload_n 2, 1) := by decide +kernel
theorem d_Tellings_isBefore_119 : decode b_Tellings_isBefore 119 = .ok (.iaload, 1) := by decide +kernel
theorem d_Tellings_isBefore_120 : decode b_Tellings_isBefore 120 = .ok (.if_icmp .eq 24, 3) := by decide +kernel
theorem d_Tellings_isBefore_123 : decode b_Tellings_isBefore 123 = .ok (.aload_n 0, 1) := by decide +kernel
theorem d_Tellings_isBefore_124 : decode b_Tellings_isBefore 124 = .ok (.getfield 21, 3) := by decide +kernel
theorem d_Tellings_isBefore_127 : decode b_Tellings_isBefore 127 = .ok (.iload_n 1, 1) := by decide +kernel
theorem d_Tellings_isBefore_128 : decode b_Tellings_isBefore 128 = .ok (.iaload, 1) := by decide +kernel
theorem d_Tellings_isBefore_129 : decode b_Tellings_isBefore 129 = .ok (.aload_n 0, 1) := by decide +kernel
theorem d_Tellings_isBefore_130 : decode b_Tellings_isBefore 130 = .ok (.getfield 21, 3) := by decide +kernel
theorem d_Tellings_isBefore_133 : decode b_Tellings_isBefore 133 = .ok (.iload_n 2, 1) := by decide +kernel
theorem d_Tellings_isBefore_134 : decode b_Tellings_isBefore 134 = .ok (.iaload, 1) := by decide +kernel
theorem d_Tellings_isBefore_135 : decode b_Tellings_isBefore 135 = .ok (.if_icmp .ge 7, 3) := by decide +kernel
theorem d_Tellings_isBefore_138 : decode b_Tellings_isBefore 138 = .ok (.iconst 1, 1) := by decide +kernel
theorem d_Tellings_isBefore_139 : decode b_Tellings_isBefore 139 = .ok (.goto 4, 3) := by decide +kernel
theorem d_Tellings_isBefore_142 : decode b_Tellings_isBefore 142 = .ok (.iconst 0, 1) := by decide +kernel
theorem d_Tellings_isBefore_143 : decode b_Tellings_isBefore 143 = .ok (.ireturn, 1) := by decide +kernel
theorem d_Tellings_isBefore_144 : decode b_Tellings_isBefore 144 = .ok (.aload_n 0, 1) := by decide +kernel
theorem d_Tellings_isBefore_145 : decode b_Tellings_isBefore 145 = .ok (.getfield 24, 3) := by decide +kernel
theorem d_Tellings_isBefore_148 : decode b_Tellings_isBefore 148 = .ok (.iload_n 1, 1) := by decide +kernel
theorem d_Tellings_isBefore_149 : decode b_Tellings_isBefore 149 = .ok (.laload, 1) := by decide +kernel
theorem d_Tellings_isBefore_150 : decode b_Tellings_isBefore 150 = .ok (.aload_n 0, 1) := by decide +kernel
theorem d_Tellings_isBefore_151 : decode b_Tellings_isBefore 151 = .ok (.getfield 24, 3) := by decide +kernel
theorem d_Tellings_isBefore_154 : decode b_Tellings_isBefore 154 = .ok (.iload_n 2, 1) := by decide +kernel
theorem d_Tellings_isBefore_155 : decode b_Tellings_isBefore 155 = .ok (.laload, 1) := by decide +kernel
theorem d_Tellings_isBefore_156 : decode b_Tellings_isBefore 156 = .ok (.lcmp, 1) := by decide +kernel
theorem d_Tellings_isBefore_157 : decode b_Tellings_isBefore 157 = .ok (.ifCond .eq 25, 3) := by decide +kernel
theorem d_Tellings_isBefore_160 : decode b_Tellings_isBefore 160 = .ok (.aload_n 0, 1) := by decide +kernel
theorem d_Tellings_isBefore_161 : decode b_Tellings_isBefore 161 = .ok (.getfield 24, 3) := by decide +kernel
theorem d_Tellings_isBefore_164 : decode b_Tellings_isBefore 164 = .ok (.iload_n 1, 1) := by decide +kernel
theorem d_Tellings_isBefore_165 : decode b_Tellings_isBefore 165 = .ok (.laload, 1) := by decide +kernel
theorem d_Tellings_isBefore_166 : decode b_Tellings_isBefore 166 = .ok (.aload_n 0, 1) := by decide +kernel
theorem d_Tellings_isBefore_167 : decode b_Tellings_isBefore 167 = .ok (.getfield 24, 3) := by decide +kernel
theorem d_Tellings_isBefore_170 : decode b_Tellings_isBefore 170 = .ok (.iload_n 2, 1) := by decide +kernel
theorem d_Tellings_isBefore_171 : decode b_Tellings_isBefore 171 = .ok (.laload, 1) := by decide +kernel
theorem d_Tellings_isBefore_172 : decode b_Tellings_isBefore 172 = .ok (.lcmp, 1) := by decide +kernel
theorem d_Tellings_isBefore_173 : decode b_Tellings_isBefore 173 = .ok (.ifCond .ge 7, 3) := by decide +kernel
theorem d_Tellings_isBefore_176 : decode b_Tellings_isBefore 176 = .ok (.iconst 1, 1) := by decide +kernel
theorem d_Tellings_isBefore_177 : decode b_Tellings_isBefore 177 = .ok (.goto 4, 3) := by decide +kernel
theorem d_Tellings_isBefore_180 : decode b_Tellings_isBefore 180 = .ok (.iconst 0, 1) := by decide +kernel
theorem d_Tellings_isBefore_181 : decode b_Tellings_isBefore 181 = .ok (.ireturn, 1) := by decide +kernel
theorem d_Tellings_isBefore_182 : decode b_Tellings_isBefore 182 = .ok (.aload_n 0, 1) := by decide +kernel
theorem d_Tellings_isBefore_183 : decode b_Tellings_isBefore 183 = .ok (.getfield 28, 3) := by decide +kernel
theorem d_Tellings_isBefore_186 : decode b_Tellings_isBefore 186 = .ok (.iload_n 1, 1) := by decide +kernel
theorem d_Tellings_isBefore_187 : decode b_Tellings_isBefore 187 = .ok (.laload, 1) := by decide +kernel
theorem d_Tellings_isBefore_188 : decode b_Tellings_isBefore 188 = .ok (.aload_n 0, 1) := by decide +kernel
theorem d_Tellings_isBefore_189 : decode b_Tellings_isBefore 189 = .ok (.getfield 28, 3) := by decide +kernel
theorem d_Tellings_isBefore_192 : decode b_Tellings_isBefore 192 = .ok (.iload_n 2, 1) := by decide +kernel
theorem d_Tellings_isBefore_193 : decode b_Tellings_isBefore 193 = .ok (.laload, 1) := by decide +kernel
theorem d_Tellings_isBefore_194 : decode b_Tellings_isBefore 194 = .ok (.lcmp, 1) := by decide +kernel
theorem d_Tellings_isBefore_195 : decode b_Tellings_isBefore 195 = .ok (.ifCond .ge 7, 3) := by decide +kernel
theorem d_Tellings_isBefore_198 : decode b_Tellings_isBefore 198 = .ok (.iconst 1, 1) := by decide +kernel
theorem d_Tellings_isBefore_199 : decode b_Tellings_isBefore 199 = .ok (.goto 4, 3) := by decide +kernel
theorem d_Tellings_isBefore_202 : decode b_Tellings_isBefore 202 = .ok (.iconst 0, 1) := by decide +kernel
theorem d_Tellings_isBefore_203 : decode b_Tellings_isBefore 203 = .ok (.ireturn, 1) := by decide +kernel
theorem d_Tellings_latestNumbered_0 : decode b_Tellings_latestNumbered 0 = .ok (.iconst (-1), 1) := by decide +kernel
theorem d_Tellings_latestNumbered_1 : decode b_Tellings_latestNumbered 1 = .ok (.istore_n 3, 1) := by decide +kernel
theorem d_Tellings_latestNumbered_2 : decode b_Tellings_latestNumbered 2 = .ok (.iconst 0, 1) := by decide +kernel
theorem d_Tellings_latestNumbered_3 : decode b_Tellings_latestNumbered 3 = .ok (.istore 4, 2) := by decide +kernel
theorem d_Tellings_latestNumbered_5 : decode b_Tellings_latestNumbered 5 = .ok (.iload 4, 2) := by decide +kernel
theorem d_Tellings_latestNumbered_7 : decode b_Tellings_latestNumbered 7 = .ok (.aload_n 0, 1) := by decide +kernel
theorem d_Tellings_latestNumbered_8 : decode b_Tellings_latestNumbered 8 = .ok (.getfield 34, 3) := by decide +kernel
theorem d_Tellings_latestNumbered_11 : decode b_Tellings_latestNumbered 11 = .ok (.if_icmp .ge 36, 3) := by decide +kernel
theorem d_Tellings_latestNumbered_14 : decode b_Tellings_latestNumbered 14 = .ok (.iload 4, 2) := by decide +kernel
theorem d_Tellings_latestNumbered_16 : decode b_Tellings_latestNumbered 16 = .ok (.lload_n 1, 1) := by decide +kernel
theorem d_Tellings_latestNumbered_17 : decode b_Tellings_latestNumbered 17 = .ok (.invokestatic 42, 3) := by decide +kernel
theorem d_Tellings_latestNumbered_20 : decode b_Tellings_latestNumbered 20 = .ok (.ifCond .eq 21, 3) := by decide +kernel
theorem d_Tellings_latestNumbered_23 : decode b_Tellings_latestNumbered 23 = .ok (.iload_n 3, 1) := by decide +kernel
theorem d_Tellings_latestNumbered_24 : decode b_Tellings_latestNumbered 24 = .ok (.iconst (-1), 1) := by decide +kernel
theorem d_Tellings_latestNumbered_25 : decode b_Tellings_latestNumbered 25 = .ok (.if_icmp .eq 13, 3) := by decide +kernel
theorem d_Tellings_latestNumbered_28 : decode b_Tellings_latestNumbered 28 = .ok (.aload_n 0, 1) := by decide +kernel
theorem d_Tellings_latestNumbered_29 : decode b_Tellings_latestNumbered 29 = .ok (.iload_n 3, 1) := by decide +kernel
theorem d_Tellings_latestNumbered_30 : decode b_Tellings_latestNumbered 30 = .ok (.iload 4, 2) := by decide +kernel
theorem d_Tellings_latestNumbered_32 : decode b_Tellings_latestNumbered 32 = .ok (.invokevirtual 56, 3) := by decide +kernel
theorem d_Tellings_latestNumbered_35 : decode b_Tellings_latestNumbered 35 = .ok (.ifCond .eq 6, 3) := by decide +kernel
theorem d_Tellings_latestNumbered_38 : decode b_Tellings_latestNumbered 38 = .ok (.iload 4, 2) := by decide +kernel
theorem d_Tellings_latestNumbered_40 : decode b_Tellings_latestNumbered 40 = .ok (.istore_n 3, 1) := by decide +kernel
theorem d_Tellings_latestNumbered_41 : decode b_Tellings_latestNumbered 41 = .ok (.iinc 4 1, 3) := by decide +kernel
theorem d_Tellings_latestNumbered_44 : decode b_Tellings_latestNumbered 44 = .ok (.goto (-39), 3) := by decide +kernel
theorem d_Tellings_latestNumbered_47 : decode b_Tellings_latestNumbered 47 = .ok (.iload_n 3, 1) := by decide +kernel
theorem d_Tellings_latestNumbered_48 : decode b_Tellings_latestNumbered 48 = .ok (.ireturn, 1) := by decide +kernel
theorem d_Tellings_latestKnown_0 : decode b_Tellings_latestKnown 0 = .ok (.iconst (-1), 1) := by decide +kernel
theorem d_Tellings_latestKnown_1 : decode b_Tellings_latestKnown 1 = .ok (.istore 7, 2) := by decide +kernel
theorem d_Tellings_latestKnown_3 : decode b_Tellings_latestKnown 3 = .ok (.iconst 0, 1) := by decide +kernel
theorem d_Tellings_latestKnown_4 : decode b_Tellings_latestKnown 4 = .ok (.istore 8, 2) := by decide +kernel
theorem d_Tellings_latestKnown_6 : decode b_Tellings_latestKnown 6 = .ok (.iload 8, 2) := by decide +kernel
theorem d_Tellings_latestKnown_8 : decode b_Tellings_latestKnown 8 = .ok (.aload_n 0, 1) := by decide +kernel
theorem d_Tellings_latestKnown_9 : decode b_Tellings_latestKnown 9 = .ok (.getfield 34, 3) := by decide +kernel
theorem d_Tellings_latestKnown_12 : decode b_Tellings_latestKnown 12 = .ok (.if_icmp .ge 64, 3) := by decide +kernel
theorem d_Tellings_latestKnown_15 : decode b_Tellings_latestKnown 15 = .ok (.iload 8, 2) := by decide +kernel
theorem d_Tellings_latestKnown_17 : decode b_Tellings_latestKnown 17 = .ok (.lload_n 1, 1) := by decide +kernel
theorem d_Tellings_latestKnown_18 : decode b_Tellings_latestKnown 18 = .ok (.invokestatic 42, 3) := by decide +kernel
theorem d_Tellings_latestKnown_21 : decode b_Tellings_latestKnown 21 = .ok (.ifCond .eq 49, 3) := by decide +kernel
theorem d_Tellings_latestKnown_24 : decode b_Tellings_latestKnown 24 = .ok (.aload_n 0, 1) := by decide +kernel
theorem d_Tellings_latestKnown_25 : decode b_Tellings_latestKnown 25 = .ok (.getfield 24, 3) := by decide +kernel
theorem d_Tellings_latestKnown_28 : decode b_Tellings_latestKnown 28 = .ok (.iload 8, 2) := by decide +kernel
theorem d_Tellings_latestKnown_30 : decode b_Tellings_latestKnown 30 = .ok (.laload, 1) := by decide +kernel
theorem d_Tellings_latestKnown_31 : decode b_Tellings_latestKnown 31 = .ok (.lload_n 3, 1) := by decide +kernel
theorem d_Tellings_latestKnown_32 : decode b_Tellings_latestKnown 32 = .ok (.lcmp, 1) := by decide +kernel
theorem d_Tellings_latestKnown_33 : decode b_Tellings_latestKnown 33 = .ok (.ifCond .gt 37, 3) := by decide +kernel
theorem d_Tellings_latestKnown_36 : decode b_Tellings_latestKnown 36 = .ok (.aload_n 0, 1) := by decide +kernel
theorem d_Tellings_latestKnown_37 : decode b_Tellings_latestKnown 37 = .ok (.getfield 31, 3) := by decide +kernel
theorem d_Tellings_latestKnown_40 : decode b_Tellings_latestKnown 40 = .ok (.iload 8, 2) := by decide +kernel
theorem d_Tellings_latestKnown_42 : decode b_Tellings_latestKnown 42 = .ok (.laload, 1) := by decide +kernel
theorem d_Tellings_latestKnown_43 : decode b_Tellings_latestKnown 43 = .ok (.lload 5, 2) := by decide +kernel
theorem d_Tellings_latestKnown_45 : decode b_Tellings_latestKnown 45 = .ok (.lcmp, 1) := by decide +kernel
theorem d_Tellings_latestKnown_46 : decode b_Tellings_latestKnown 46 = .ok (.ifCond .gt 24, 3) := by decide +kernel
theorem d_Tellings_latestKnown_49 : decode b_Tellings_latestKnown 49 = .ok (.iload 7, 2) := by decide +kernel
theorem d_Tellings_latestKnown_51 : decode b_Tellings_latestKnown 51 = .ok (.iconst (-1), 1) := by decide +kernel
theorem d_Tellings_latestKnown_52 : decode b_Tellings_latestKnown 52 = .ok (.if_icmp .eq 14, 3) := by decide +kernel
theorem d_Tellings_latestKnown_55 : decode b_Tellings_latestKnown 55 = .ok (.aload_n 0, 1) := by decide +kernel
theorem d_Tellings_latestKnown_56 : decode b_Tellings_latestKnown 56 = .ok (.iload 8, 2) := by decide +kernel
theorem d_Tellings_latestKnown_58 : decode b_Tellings_latestKnown 58 = .ok (.iload 7, 2) := by decide +kernel
theorem d_Tellings_latestKnown_60 : decode b_Tellings_latestKnown 60 = .ok (.invokevirtual 64, 3) := by decide +kernel
theorem d_Tellings_latestKnown_63 : decode b_Tellings_latestKnown 63 = .ok (.ifCond .eq 7, 3) := by decide +kernel
theorem d_Tellings_latestKnown_66 : decode b_Tellings_latestKnown 66 = .ok (.iload 8, 2) := by decide +kernel
theorem d_Tellings_latestKnown_68 : decode b_Tellings_latestKnown 68 = .ok (.istore 7, 2) := by decide +kernel
theorem d_Tellings_latestKnown_70 : decode b_Tellings_latestKnown 70 = .ok (.iinc 8 1, 3) := by decide +kernel
theorem d_Tellings_latestKnown_73 : decode b_Tellings_latestKnown 73 = .ok (.goto (-67), 3) := by decide +kernel
theorem d_Tellings_latestKnown_76 : decode b_Tellings_latestKnown 76 = .ok (.iload 7, 2) := by decide +kernel
theorem d_Tellings_latestKnown_78 : decode b_Tellings_latestKnown 78 = .ok (.ireturn, 1) := by decide +kernel
theorem d_Tellings_isOfLater_0 : decode b_Tellings_isOfLater 0 = .ok (.aload_n 0, 1) := by decide +kernel
theorem d_Tellings_isOfLater_1 : decode b_Tellings_isOfLater 1 = .ok (.getfield 24, 3) := by decide +kernel
theorem d_Tellings_isOfLater_4 : decode b_Tellings_isOfLater 4 = .ok (.iload_n 1, 1) := by decide +kernel
theorem d_Tellings_isOfLater_5 : decode b_Tellings_isOfLater 5 = .ok (.laload, 1) := by decide +kernel
theorem d_Tellings_isOfLater_6 : decode b_Tellings_isOfLater 6 = .ok (.aload_n 0, 1) := by decide +kernel
theorem d_Tellings_isOfLater_7 : decode b_Tellings_isOfLater 7 = .ok (.getfield 24, 3) := by decide +kernel
theorem d_Tellings_isOfLater_10 : decode b_Tellings_isOfLater 10 = .ok (.iload_n 2, 1) := by decide +kernel
theorem d_Tellings_isOfLater_11 : decode b_Tellings_isOfLater 11 = .ok (.laload, 1) := by decide +kernel
theorem d_Tellings_isOfLater_12 : decode b_Tellings_isOfLater 12 = .ok (.lcmp, 1) := by decide +kernel
theorem d_Tellings_isOfLater_13 : decode b_Tellings_isOfLater 13 = .ok (.ifCond .eq 27, 3) := by decide +kernel
theorem d_Tellings_isOfLater_16 : decode b_Tellings_isOfLater 16 = .ok (.aload_n 0, 1) := by decide +kernel
theorem d_Tellings_isOfLater_17 : decode b_Tellings_isOfLater 17 = .ok (.getfield 24, 3) := by decide +kernel
theorem d_Tellings_isOfLater_20 : decode b_Tellings_isOfLater 20 = .ok (.iload_n 1, 1) := by decide +kernel
theorem d_Tellings_isOfLater_21 : decode b_Tellings_isOfLater 21 = .ok (.laload, 1) := by decide +kernel
theorem d_Tellings_isOfLater_22 : decode b_Tellings_isOfLater 22 = .ok (.aload_n 0, 1) := by decide +kernel
theorem d_Tellings_isOfLater_23 : decode b_Tellings_isOfLater 23 = .ok (.getfield 24, 3) := by decide +kernel
theorem d_Tellings_isOfLater_26 : decode b_Tellings_isOfLater 26 = .ok (.iload_n 2, 1) := by decide +kernel
theorem d_Tellings_isOfLater_27 : decode b_Tellings_isOfLater 27 = .ok (.laload, 1) := by decide +kernel
theorem d_Tellings_isOfLater_28 : decode b_Tellings_isOfLater 28 = .ok (.lcmp, 1) := by decide +kernel
theorem d_Tellings_isOfLater_29 : decode b_Tellings_isOfLater 29 = .ok (.ifCond .le 7, 3) := by decide +kernel
theorem d_Tellings_isOfLater_32 : decode b_Tellings_isOfLater 32 = .ok (.iconst 1, 1) := by decide +kernel
theorem d_Tellings_isOfLater_33 : decode b_Tellings_isOfLater 33 = .ok (.goto 13, 3) := by decide +kernel
theorem d_Tellings_isOfLater_36 : decode b_Tellings_isOfLater 36 = .ok (.iconst 0, 1) := by decide +kernel
theorem d_Tellings_isOfLater_37 : decode b_Tellings_isOfLater 37 = .ok (.goto 9, 3) := by decide +kernel
theorem d_Tellings_isOfLater_40 : decode b_Tellings_isOfLater 40 = .ok (.aload_n 0, 1) := by decide +kernel
theorem d_Tellings_isOfLater_41 : decode b_Tellings_isOfLater 41 = .ok (.iload_n 2, 1) := by decide +kernel
theorem d_Tellings_isOfLater_42 : decode b_Tellings_isOfLater 42 = .ok (.iload_n 1, 1) := by decide +kernel
theorem d_Tellings_isOfLater_43 : decode b_Tellings_isOfLater 43 = .ok (.invokevirtual 56, 3) := by decide +kernel
theorem d_Tellings_isOfLater_46 : decode b_Tellings_isOfLater 46 = .ok (.ireturn, 1) := by decide +kernel
theorem d_Tellings_missingNumber_0 : decode b_Tellings_missingNumber 0 = .ok (.aload_n 0, 1) := by decide +kernel
theorem d_Tellings_missingNumber_1 : decode b_Tellings_missingNumber 1 = .ok (.lload_n 1, 1) := by decide +kernel
theorem d_Tellings_missingNumber_2 : decode b_Tellings_missingNumber 2 = .ok (.invokevirtual 67, 3) := by decide +kernel
theorem d_Tellings_missingNumber_5 : decode b_Tellings_missingNumber 5 = .ok (.lstore 4, 2) := by decide +kernel
theorem d_Tellings_missingNumber_7 : decode b_Tellings_missingNumber 7 = .ok (.iload_n 3, 1) := by decide +kernel
theorem d_Tellings_missingNumber_8 : decode b_Tellings_missingNumber 8 = .ok (.istore 6, 2) := by decide +kernel
theorem d_Tellings_missingNumber_10 : decode b_Tellings_missingNumber 10 = .ok (.aload_n 0, 1) := by decide +kernel
theorem d_Tellings_missingNumber_11 : decode b_Tellings_missingNumber 11 = .ok (.lload 4, 2) := by decide +kernel
theorem d_Tellings_missingNumber_13 : decode b_Tellings_missingNumber 13 = .ok (.iconst (-1), 1) := by decide +kernel
theorem d_Tellings_missingNumber_14 : decode b_Tellings_missingNumber 14 = .ok (.invokevirtual 71, 3) := by decide +kernel
theorem d_Tellings_missingNumber_17 : decode b_Tellings_missingNumber 17 = .ok (.istore 7, 2) := by decide +kernel
theorem d_Tellings_missingNumber_19 : decode b_Tellings_missingNumber 19 = .ok (.iconst 0, 1) := by decide +kernel
theorem d_Tellings_missingNumber_20 : decode b_Tellings_missingNumber 20 = .ok (.istore 8, 2) := by decide +kernel
theorem d_Tellings_missingNumber_22 : decode b_Tellings_missingNumber 22 = .ok (.iload 8, 2) := by decide +kernel
theorem d_Tellings_missingNumber_24 : decode b_Tellings_missingNumber 24 = .ok (.aload_n 0, 1) := by decide +kernel
theorem d_Tellings_missingNumber_25 : decode b_Tellings_missingNumber 25 = .ok (.getfield 34, 3) := by decide +kernel
theorem d_Tellings_missingNumber_28 : decode b_Tellings_missingNumber 28 = .ok (.if_icmp .ge 68, 3) := by decide +kernel
theorem d_Tellings_missingNumber_31 : decode b_Tellings_missingNumber 31 = .ok (.iload 7, 2) := by decide +kernel
theorem d_Tellings_missingNumber_33 : decode b_Tellings_missingNumber 33 = .ok (.iconst (-1), 1) := by decide +kernel
theorem d_Tellings_missingNumber_34 : decode b_Tellings_missingNumber 34 = .ok (.if_icmp .eq 62, 3) := by decide +kernel
theorem d_Tellings_missingNumber_37 : decode b_Tellings_missingNumber 37 = .ok (.aload_n 0, 1) := by decide +kernel
theorem d_Tellings_missingNumber_38 : decode b_Tellings_missingNumber 38 = .ok (.lload 4, 2) := by decide +kernel
theorem d_Tellings_missingNumber_40 : decode b_Tellings_missingNumber 40 = .ok (.iload 7, 2) := by decide +kernel
theorem d_Tellings_missingNumber_42 : decode b_Tellings_missingNumber 42 = .ok (.invokevirtual 71, 3) := by decide +kernel
theorem d_Tellings_missingNumber_45 : decode b_Tellings_missingNumber 45 = .ok (.istore 9, 2) := by decide +kernel
theorem d_Tellings_missingNumber_47 : decode b_Tellings_missingNumber 47 = .ok (.iload 9, 2) := by decide +kernel
theorem d_Tellings_missingNumber_49 : decode b_Tellings_missingNumber 49 = .ok (.iconst (-1), 1) := by decide +kernel
theorem d_Tellings_missingNumber_50 : decode b_Tellings_missingNumber 50 = .ok (.if_icmp .ne 5, 3) := by decide +kernel
theorem d_Tellings_missingNumber_53 : decode b_Tellings_missingNumber 53 = .ok (.iconst (-1), 1) := by decide +kernel
theorem d_Tellings_missingNumber_54 : decode b_Tellings_missingNumber 54 = .ok (.ireturn, 1) := by decide +kernel
theorem d_Tellings_missingNumber_55 : decode b_Tellings_missingNumber 55 = .ok (.iload 9, 2) := by decide +kernel
theorem d_Tellings_missingNumber_57 : decode b_Tellings_missingNumber 57 = .ok (.iload 7, 2) := by decide +kernel
theorem d_Tellings_missingNumber_59 : decode b_Tellings_missingNumber 59 = .ok (.isub, 1) := by decide +kernel
theorem d_Tellings_missingNumber_60 : decode b_Tellings_missingNumber 60 = .ok (.iconst 1, 1) := by decide +kernel
theorem d_Tellings_missingNumber_61 : decode b_Tellings_missingNumber 61 = .ok (.isub, 1) := by decide +kernel
theorem d_Tellings_missingNumber_62 : decode b_Tellings_missingNumber 62 = .ok (.istore 10, 2) := by decide +kernel
theorem d_Tellings_missingNumber_64 : decode b_Tellings_missingNumber 64 = .ok (.iload 6, 2) := by decide +kernel
theorem d_Tellings_missingNumber_66 : decode b_Tellings_missingNumber 66 = .ok (.iload 10, 2) := by decide +kernel
theorem d_Tellings_missingNumber_68 : decode b_Tellings_missingNumber 68 = .ok (.if_icmp .ge 11, 3) := by decide +kernel
theorem d_Tellings_missingNumber_71 : decode b_Tellings_missingNumber 71 = .ok (.iload 7, 2) := by decide +kernel
theorem d_Tellings_missingNumber_73 : decode b_Tellings_missingNumber 73 = .ok (.iconst 1, 1) := by decide +kernel
theorem d_Tellings_missingNumber_74 : decode b_Tellings_missingNumber 74 = .ok (.iadd, 1) := by decide +kernel
theorem d_Tellings_missingNumber_75 : decode b_Tellings_missingNumber 75 = .ok (.iload 6, 2) := by decide +kernel
theorem d_Tellings_missingNumber_77 : decode b_Tellings_missingNumber 77 = .ok (.iadd, 1) := by decide +kernel
theorem d_Tellings_missingNumber_78 : decode b_Tellings_missingNumber 78 = .ok (.ireturn, 1) := by decide +kernel
theorem d_Tellings_missingNumber_79 : decode b_Tellings_missingNumber 79 = .ok (.iload 6, 2) := by decide +kernel
theorem d_Tellings_missingNumber_81 : decode b_Tellings_missingNumber 81 = .ok (.iload 10, 2) := by decide +kernel
theorem d_Tellings_missingNumber_83 : decode b_Tellings_missingNumber 83 = .ok (.isub, 1) := by decide +kernel
theorem d_Tellings_missingNumber_84 : decode b_Tellings_missingNumber 84 = .ok (.istore 6, 2) := by decide +kernel
theorem d_Tellings_missingNumber_86 : decode b_Tellings_missingNumber 86 = .ok (.iload 9, 2) := by decide +kernel
theorem d_Tellings_missingNumber_88 : decode b_Tellings_missingNumber 88 = .ok (.istore 7, 2) := by decide +kernel
theorem d_Tellings_missingNumber_90 : decode b_Tellings_missingNumber 90 = .ok (.iinc 8 1, 3) := by decide +kernel
theorem d_Tellings_missingNumber_93 : decode b_Tellings_missingNumber 93 = .ok (.goto (-71), 3) := by decide +kernel
theorem d_Tellings_missingNumber_96 : decode b_Tellings_missingNumber 96 = .ok (.iconst (-1), 1) := by decide +kernel
theorem d_Tellings_missingNumber_97 : decode b_Tellings_missingNumber 97 = .ok (.ireturn, 1) := by decide +kernel
theorem d_Tellings_ofGreatestLife_0 : decode b_Tellings_ofGreatestLife 0 = .ok (.iconst (-1), 1) := by decide +kernel
theorem d_Tellings_ofGreatestLife_1 : decode b_Tellings_ofGreatestLife 1 = .ok (.istore_n 3, 1) := by decide +kernel
theorem d_Tellings_ofGreatestLife_2 : decode b_Tellings_ofGreatestLife 2 = .ok (.lconst 0, 1) := by decide +kernel
theorem d_Tellings_ofGreatestLife_3 : decode b_Tellings_ofGreatestLife 3 = .ok (.lstore 4, 2) := by decide +kernel
theorem d_Tellings_ofGreatestLife_5 : decode b_Tellings_ofGreatestLife 5 = .ok (.iconst 0, 1) := by decide +kernel
theorem d_Tellings_ofGreatestLife_6 : decode b_Tellings_ofGreatestLife 6 = .ok (.istore 6, 2) := by decide +kernel
theorem d_Tellings_ofGreatestLife_8 : decode b_Tellings_ofGreatestLife 8 = .ok (.iload 6, 2) := by decide +kernel
theorem d_Tellings_ofGreatestLife_10 : decode b_Tellings_ofGreatestLife 10 = .ok (.aload_n 0, 1) := by decide +kernel
theorem d_Tellings_ofGreatestLife_11 : decode b_Tellings_ofGreatestLife 11 = .ok (.getfield 34, 3) := by decide +kernel
theorem d_Tellings_ofGreatestLife_14 : decode b_Tellings_ofGreatestLife 14 = .ok (.if_icmp .ge 70, 3) := by decide +kernel
theorem d_Tellings_ofGreatestLife_17 : decode b_Tellings_ofGreatestLife 17 = .ok (.iload 6, 2) := by decide +kernel
theorem d_Tellings_ofGreatestLife_19 : decode b_Tellings_ofGreatestLife 19 = .ok (.lload_n 1, 1) := by decide +kernel
theorem d_Tellings_ofGreatestLife_20 : decode b_Tellings_ofGreatestLife 20 = .ok (.invokestatic 42, 3) := by decide +kernel
theorem d_Tellings_ofGreatestLife_23 : decode b_Tellings_ofGreatestLife 23 = .ok (.ifCond .eq 25, 3) := by decide +kernel
theorem d_Tellings_ofGreatestLife_26 : decode b_Tellings_ofGreatestLife 26 = .ok (.aload_n 0, 1) := by decide +kernel
theorem d_Tellings_ofGreatestLife_27 : decode b_Tellings_ofGreatestLife 27 = .ok (.getfield 15, 3) := by decide +kernel
theorem d_Tellings_ofGreatestLife_30 : decode b_Tellings_ofGreatestLife 30 = .ok (.iload 6, 2) := by decide +kernel
theorem d_Tellings_ofGreatestLife_32 : decode b_Tellings_ofGreatestLife 32 = .ok (.iaload, 1) := by decide +kernel
theorem d_Tellings_ofGreatestLife_33 : decode b_Tellings_ofGreatestLife 33 = .ok (.iload_n 3, 1) := by decide +kernel
theorem d_Tellings_ofGreatestLife_34 : decode b_Tellings_ofGreatestLife 34 = .ok (.if_icmp .le 14, 3) := by decide +kernel
theorem d_Tellings_ofGreatestLife_37 : decode b_Tellings_ofGreatestLife 37 = .ok (.aload_n 0, 1) := by decide +kernel
theorem d_Tellings_ofGreatestLife_38 : decode b_Tellings_ofGreatestLife 38 = .ok (.getfield 15, 3) := by decide +kernel
theorem d_Tellings_ofGreatestLife_41 : decode b_Tellings_ofGreatestLife 41 = .ok (.iload 6, 2) := by decide +kernel
theorem d_Tellings_ofGreatestLife_43 : decode b_Tellings_ofGreatestLife 43 = .ok (.iaload, 1) := by decide +kernel
theorem d_Tellings_ofGreatestLife_44 : decode b_Tellings_ofGreatestLife 44 = .ok (.istore_n 3, 1) := by decide +kernel
theorem d_Tellings_ofGreatestLife_45 : decode b_Tellings_ofGreatestLife 45 = .ok (.lconst 0, 1) := by decide +kernel
theorem d_Tellings_ofGreatestLife_46 : decode b_Tellings_ofGreatestLife 46 = .ok (.lstore 4, 2) := by decide +kernel
theorem d_Tellings_ofGreatestLife_48 : decode b_Tellings_ofGreatestLife 48 = .ok (.iload 6, 2) := by decide +kernel
theorem d_Tellings_ofGreatestLife_50 : decode b_Tellings_ofGreatestLife 50 = .ok (.lload_n 1, 1) := by decide +kernel
theorem d_Tellings_ofGreatestLife_51 : decode b_Tellings_ofGreatestLife 51 = .ok (.invokestatic 42, 3) := by decide +kernel
theorem d_Tellings_ofGreatestLife_54 : decode b_Tellings_ofGreatestLife 54 = .ok (.ifCond .eq 24, 3) := by decide +kernel
theorem d_Tellings_ofGreatestLife_57 : decode b_Tellings_ofGreatestLife 57 = .ok (.aload_n 0, 1) := by decide +kernel
theorem d_Tellings_ofGreatestLife_58 : decode b_Tellings_ofGreatestLife 58 = .ok (.getfield 15, 3) := by decide +kernel
theorem d_Tellings_ofGreatestLife_61 : decode b_Tellings_ofGreatestLife 61 = .ok (.iload 6, 2) := by decide +kernel
theorem d_Tellings_ofGreatestLife_63 : decode b_Tellings_ofGreatestLife 63 = .ok (.iaload, 1) := by decide +kernel
theorem d_Tellings_ofGreatestLife_64 : decode b_Tellings_ofGreatestLife 64 = .ok (.iload_n 3, 1) := by decide +kernel
theorem d_Tellings_ofGreatestLife_65 : decode b_Tellings_ofGreatestLife 65 = .ok (.if_icmp .ne 13, 3) := by decide +kernel
theorem d_Tellings_ofGreatestLife_68 : decode b_Tellings_ofGreatestLife 68 = .ok (.lload 4, 2) := by decide +kernel
theorem d_Tellings_ofGreatestLife_70 : decode b_Tellings_ofGreatestLife 70 = .ok (.iload 6, 2) := by decide +kernel
theorem d_Tellings_ofGreatestLife_72 : decode b_Tellings_ofGreatestLife 72 = .ok (.invokestatic 38, 3) := by decide +kernel
theorem d_Tellings_ofGreatestLife_75 : decode b_Tellings_ofGreatestLife 75 = .ok (.lor, 1) := by decide +kernel
theorem d_Tellings_ofGreatestLife_76 : decode b_Tellings_ofGreatestLife 76 = .ok (.lstore 4, 2) := by decide +kernel
theorem d_Tellings_ofGreatestLife_78 : decode b_Tellings_ofGreatestLife 78 = .ok (.iinc 6 1, 3) := by decide +kernel
theorem d_Tellings_ofGreatestLife_81 : decode b_Tellings_ofGreatestLife 81 = .ok (.goto (-73), 3) := by decide +kernel
theorem d_Tellings_ofGreatestLife_84 : decode b_Tellings_ofGreatestLife 84 = .ok (.lload 4, 2) := by decide +kernel
theorem d_Tellings_ofGreatestLife_86 : decode b_Tellings_ofGreatestLife 86 = .ok (.lreturn, 1) := by decide +kernel
theorem d_Tellings_nextNumber_0 : decode b_Tellings_nextNumber 0 = .ok (.iconst (-1), 1) := by decide +kernel
theorem d_Tellings_nextNumber_1 : decode b_Tellings_nextNumber 1 = .ok (.istore 4, 2) := by decide +kernel
theorem d_Tellings_nextNumber_3 : decode b_Tellings_nextNumber 3 = .ok (.iconst 0, 1) := by decide +kernel
theorem d_Tellings_nextNumber_4 : decode b_Tellings_nextNumber 4 = .ok (.istore 5, 2) := by decide +kernel
theorem d_Tellings_nextNumber_6 : decode b_Tellings_nextNumber 6 = .ok (.iload 5, 2) := by decide +kernel
theorem d_Tellings_nextNumber_8 : decode b_Tellings_nextNumber 8 = .ok (.aload_n 0, 1) := by decide +kernel
theorem d_Tellings_nextNumber_9 : decode b_Tellings_nextNumber 9 = .ok (.getfield 34, 3) := by decide +kernel
theorem d_Tellings_nextNumber_12 : decode b_Tellings_nextNumber 12 = .ok (.if_icmp .ge 56, 3) := by decide +kernel
theorem d_Tellings_nextNumber_15 : decode b_Tellings_nextNumber 15 = .ok (.iload 5, 2) := by decide +kernel
theorem d_Tellings_nextNumber_17 : decode b_Tellings_nextNumber 17 = .ok (.lload_n 1, 1) := by decide +kernel
theorem d_Tellings_nextNumber_18 : decode b_Tellings_nextNumber 18 = .ok (.invokestatic 42, 3) := by decide +kernel
theorem d_Tellings_nextNumber_21 : decode b_Tellings_nextNumber 21 = .ok (.ifCond .eq 41, 3) := by decide +kernel
theorem d_Tellings_nextNumber_24 : decode b_Tellings_nextNumber 24 = .ok (.aload_n 0, 1) := by decide +kernel
theorem d_Tellings_nextNumber_25 : decode b_Tellings_nextNumber 25 = .ok (.getfield 18, 3) := by decide +kernel
theorem d_Tellings_nextNumber_28 : decode b_Tellings_nextNumber 28 = .ok (.iload 5, 2) := by decide +kernel
theorem d_Tellings_nextNumber_30 : decode b_Tellings_nextNumber 30 = .ok (.iaload, 1) := by decide +kernel
theorem d_Tellings_nextNumber_31 : decode b_Tellings_nextNumber 31 = .ok (.iload_n 3, 1) := by decide +kernel
theorem d_Tellings_nextNumber_32 : decode b_Tellings_nextNumber 32 = .ok (.if_icmp .le 30, 3) := by decide +kernel
theorem d_Tellings_nextNumber_35 : decode b_Tellings_nextNumber 35 = .ok (.iload 4, 2) := by decide +kernel
theorem d_Tellings_nextNumber_37 : decode b_Tellings_nextNumber 37 = .ok (.iconst (-1), 1) := by decide +kernel
theorem d_Tellings_nextNumber_38 : decode b_Tellings_nextNumber 38 = .ok (.if_icmp .eq 15, 3) := by decide +kernel
theorem d_Tellings_nextNumber_41 : decode b_Tellings_nextNumber 41 = .ok (.aload_n 0, 1) := by decide +kernel
theorem d_Tellings_nextNumber_42 : decode b_Tellings_nextNumber 42 = .ok (.getfield 18, 3) := by decide +kernel
theorem d_Tellings_nextNumber_45 : decode b_Tellings_nextNumber 45 = .ok (.iload 5, 2) := by decide +kernel
theorem d_Tellings_nextNumber_47 : decode b_Tellings_nextNumber 47 = .ok (.iaload, 1) := by decide +kernel
theorem d_Tellings_nextNumber_48 : decode b_Tellings_nextNumber 48 = .ok (.iload 4, 2) := by decide +kernel
theorem d_Tellings_nextNumber_50 : decode b_Tellings_nextNumber 50 = .ok (.if_icmp .ge 12, 3) := by decide +kernel
theorem d_Tellings_nextNumber_53 : decode b_Tellings_nextNumber 53 = .ok (.aload_n 0, 1) := by decide +kernel
theorem d_Tellings_nextNumber_54 : decode b_Tellings_nextNumber 54 = .ok (.getfield 18, 3) := by decide +kernel
theorem d_Tellings_nextNumber_57 : decode b_Tellings_nextNumber 57 = .ok (.iload 5, 2) := by decide +kernel
theorem d_Tellings_nextNumber_59 : decode b_Tellings_nextNumber 59 = .ok (.iaload, 1) := by decide +kernel
theorem d_Tellings_nextNumber_60 : decode b_Tellings_nextNumber 60 = .ok (.istore 4, 2) := by decide +kernel
theorem d_Tellings_nextNumber_62 : decode b_Tellings_nextNumber 62 = .ok (.iinc 5 1, 3) := by decide +kernel
theorem d_Tellings_nextNumber_65 : decode b_Tellings_nextNumber 65 = .ok (.goto (-59), 3) := by decide +kernel
theorem d_Tellings_nextNumber_68 : decode b_Tellings_nextNumber 68 = .ok (.iload 4, 2) := by decide +kernel
theorem d_Tellings_nextNumber_70 : decode b_Tellings_nextNumber 70 = .ok (.ireturn, 1) := by decide +kernel
theorem d_Tellings_keyPart_0 : decode b_Tellings_keyPart 0 = .ok (.iload_n 2, 1) := by decide +kernel
theorem d_Tellings_keyPart_1 : decode b_Tellings_keyPart 1 = .ok (.tableswitch 59 0 3 #[31, 38, 45, 52], 31) := by decide +kernel
theorem d_Tellings_keyPart_32 : decode b_Tellings_keyPart 32 = .ok (.aload_n 0, 1) := by decide +kernel
theorem d_Tellings_keyPart_33 : decode b_Tellings_keyPart 33 = .ok (.getfield 9, 3) := by decide +kernel
theorem d_Tellings_keyPart_36 : decode b_Tellings_keyPart 36 = .ok (.iload_n 1, 1) := by decide +kernel
theorem d_Tellings_keyPart_37 : decode b_Tellings_keyPart 37 = .ok (.iaload, 1) := by decide +kernel
theorem d_Tellings_keyPart_38 : decode b_Tellings_keyPart 38 = .ok (.ireturn, 1) := by decide +kernel
theorem d_Tellings_keyPart_39 : decode b_Tellings_keyPart 39 = .ok (.aload_n 0, 1) := by decide +kernel
theorem d_Tellings_keyPart_40 : decode b_Tellings_keyPart 40 = .ok (.getfield 15, 3) := by decide +kernel
theorem d_Tellings_keyPart_43 : decode b_Tellings_keyPart 43 = .ok (.iload_n 1, 1) := by decide +kernel
theorem d_Tellings_keyPart_44 : decode b_Tellings_keyPart 44 = .ok (.iaload, 1) := by decide +kernel
theorem d_Tellings_keyPart_45 : decode b_Tellings_keyPart 45 = .ok (.ireturn, 1) := by decide +kernel
theorem d_Tellings_keyPart_46 : decode b_Tellings_keyPart 46 = .ok (.aload_n 0, 1) := by decide +kernel
theorem d_Tellings_keyPart_47 : decode b_Tellings_keyPart 47 = .ok (.getfield 18, 3) := by decide +kernel
theorem d_Tellings_keyPart_50 : decode b_Tellings_keyPart 50 = .ok (.iload_n 1, 1) := by decide +kernel
theorem d_Tellings_keyPart_51 : decode b_Tellings_keyPart 51 = .ok (.iaload, 1) := by decide +kernel
theorem d_Tellings_keyPart_52 : decode b_Tellings_keyPart 52 = .ok (.ireturn, 1) := by decide +kernel
theorem d_Tellings_keyPart_53 : decode b_Tellings_keyPart 53 = .ok (.aload_n 0, 1) := by decide +kernel
theorem d_Tellings_keyPart_54 : decode b_Tellings_keyPart 54 = .ok (.getfield 21, 3) := by decide +kernel
theorem d_Tellings_keyPart_57 : decode b_Tellings_keyPart 57 = .ok (.iload_n 1, 1) := by decide +kernel
theorem d_Tellings_keyPart_58 : decode b_Tellings_keyPart 58 = .ok (.iaload, 1) := by decide +kernel
theorem d_Tellings_keyPart_59 : decode b_Tellings_keyPart 59 = .ok (.ireturn, 1) := by decide +kernel
theorem d_Tellings_keyPart_60 : decode b_Tellings_keyPart 60 = .ok (.iconst (-1), 1) := by decide +kernel
theorem d_Tellings_keyPart_61 : decode b_Tellings_keyPart 61 = .ok (.ireturn, 1) := by decide +kernel
theorem d_Tellings_sumOfKind_0 : decode b_Tellings_sumOfKind 0 = .ok (.lconst 0, 1) := by decide +kernel
theorem d_Tellings_sumOfKind_1 : decode b_Tellings_sumOfKind 1 = .ok (.lstore 4, 2) := by decide +kernel
theorem d_Tellings_sumOfKind_3 : decode b_Tellings_sumOfKind 3 = .ok (.iconst 0, 1) := by decide +kernel
theorem d_Tellings_sumOfKind_4 : decode b_Tellings_sumOfKind 4 = .ok (.istore 6, 2) := by decide +kernel
theorem d_Tellings_sumOfKind_6 : decode b_Tellings_sumOfKind 6 = .ok (.iload 6, 2) := by decide +kernel
theorem d_Tellings_sumOfKind_8 : decode b_Tellings_sumOfKind 8 = .ok (.aload_n 0, 1) := by decide +kernel
theorem d_Tellings_sumOfKind_9 : decode b_Tellings_sumOfKind 9 = .ok (.getfield 34, 3) := by decide +kernel
theorem d_Tellings_sumOfKind_12 : decode b_Tellings_sumOfKind 12 = .ok (.if_icmp .ge 41, 3) := by decide +kernel
theorem d_Tellings_sumOfKind_15 : decode b_Tellings_sumOfKind 15 = .ok (.iload 6, 2) := by decide +kernel
theorem d_Tellings_sumOfKind_17 : decode b_Tellings_sumOfKind 17 = .ok (.lload_n 1, 1) := by decide +kernel
theorem d_Tellings_sumOfKind_18 : decode b_Tellings_sumOfKind 18 = .ok (.invokestatic 42, 3) := by decide +kernel
theorem d_Tellings_sumOfKind_21 : decode b_Tellings_sumOfKind 21 = .ok (.ifCond .eq 26, 3) := by decide +kernel
theorem d_Tellings_sumOfKind_24 : decode b_Tellings_sumOfKind 24 = .ok (.aload_n 0, 1) := by decide +kernel
theorem d_Tellings_sumOfKind_25 : decode b_Tellings_sumOfKind 25 = .ok (.getfield 21, 3) := by decide +kernel
theorem d_Tellings_sumOfKind_28 : decode b_Tellings_sumOfKind 28 = .ok (.iload 6, 2) := by decide +kernel
theorem d_Tellings_sumOfKind_30 : decode b_Tellings_sumOfKind 30 = .ok (.iaload, 1) := by decide +kernel
theorem d_Tellings_sumOfKind_31 : decode b_Tellings_sumOfKind 31 = .ok (.iload_n 3, 1) := by decide +kernel
theorem d_Tellings_sumOfKind_32 : decode b_Tellings_sumOfKind 32 = .ok (.if_icmp .ne 15, 3) := by decide +kernel
theorem d_Tellings_sumOfKind_35 : decode b_Tellings_sumOfKind 35 = .ok (.lload 4, 2) := by decide +kernel
theorem d_Tellings_sumOfKind_37 : decode b_Tellings_sumOfKind 37 = .ok (.aload_n 0, 1) := by decide +kernel
theorem d_Tellings_sumOfKind_38 : decode b_Tellings_sumOfKind 38 = .ok (.getfield 28, 3) := by decide +kernel
theorem d_Tellings_sumOfKind_41 : decode b_Tellings_sumOfKind 41 = .ok (.iload 6, 2) := by decide +kernel
theorem d_Tellings_sumOfKind_43 : decode b_Tellings_sumOfKind 43 = .ok (.laload, 1) := by decide +kernel
theorem d_Tellings_sumOfKind_44 : decode b_Tellings_sumOfKind 44 = .ok (.ladd, 1) := by decide +kernel
theorem d_Tellings_sumOfKind_45 : decode b_Tellings_sumOfKind 45 = .ok (.lstore 4, 2) := by decide +kernel
theorem d_Tellings_sumOfKind_47 : decode b_Tellings_sumOfKind 47 = .ok (.iinc 6 1, 3) := by decide +kernel
theorem d_Tellings_sumOfKind_50 : decode b_Tellings_sumOfKind 50 = .ok (.goto (-44), 3) := by decide +kernel
theorem d_Tellings_sumOfKind_53 : decode b_Tellings_sumOfKind 53 = .ok (.lload 4, 2) := by decide +kernel
theorem d_Tellings_sumOfKind_55 : decode b_Tellings_sumOfKind 55 = .ok (.lreturn, 1) := by decide +kernel
theorem d_Corrections_init_0 : decode b_Corrections_init 0 = .ok (.aload_n 0, 1) := by decide +kernel
theorem d_Corrections_init_1 : decode b_Corrections_init 1 = .ok (.invokespecial 3, 3) := by decide +kernel
theorem d_Corrections_init_4 : decode b_Corrections_init 4 = .ok (.aload_n 0, 1) := by decide +kernel
theorem d_Corrections_init_5 : decode b_Corrections_init 5 = .ok (.bipush 20, 2) := by decide +kernel
theorem d_Corrections_init_7 : decode b_Corrections_init 7 = .ok (.newarray .int, 2) := by decide +kernel
theorem d_Corrections_init_9 : decode b_Corrections_init 9 = .ok (.putfield 9, 3) := by decide +kernel
theorem d_Corrections_init_12 : decode b_Corrections_init 12 = .ok (.aload_n 0, 1) := by decide +kernel
theorem d_Corrections_init_13 : decode b_Corrections_init 13 = .ok (.bipush 20, 2) := by decide +kernel
theorem d_Corrections_init_15 : decode b_Corrections_init 15 = .ok (.newarray .int, 2) := by decide +kernel
theorem d_Corrections_init_17 : decode b_Corrections_init 17 = .ok (.putfield 15, 3) := by decide +kernel
theorem d_Corrections_init_20 : decode b_Corrections_init 20 = .ok (.aload_n 0, 1) := by decide +kernel
theorem d_Corrections_init_21 : decode b_Corrections_init 21 = .ok (.bipush 20, 2) := by decide +kernel
theorem d_Corrections_init_23 : decode b_Corrections_init 23 = .ok (.newarray .long, 2) := by decide +kernel
theorem d_Corrections_init_25 : decode b_Corrections_init 25 = .ok (.putfield 18, 3) := by decide +kernel
theorem d_Corrections_init_28 : decode b_Corrections_init 28 = .ok (.aload_n 0, 1) := by decide +kernel
theorem d_Corrections_init_29 : decode b_Corrections_init 29 = .ok (.bipush 20, 2) := by decide +kernel
theorem d_Corrections_init_31 : decode b_Corrections_init 31 = .ok (.newarray .long, 2) := by decide +kernel
theorem d_Corrections_init_33 : decode b_Corrections_init 33 = .ok (.putfield 22, 3) := by decide +kernel
theorem d_Corrections_init_36 : decode b_Corrections_init 36 = .ok (.aload_n 0, 1) := by decide +kernel
theorem d_Corrections_init_37 : decode b_Corrections_init 37 = .ok (.bipush 20, 2) := by decide +kernel
theorem d_Corrections_init_39 : decode b_Corrections_init 39 = .ok (.newarray .long, 2) := by decide +kernel
theorem d_Corrections_init_41 : decode b_Corrections_init 41 = .ok (.putfield 25, 3) := by decide +kernel
theorem d_Corrections_init_44 : decode b_Corrections_init 44 = .ok (.return_, 1) := by decide +kernel
theorem d_Corrections_findOrAdd_0 : decode b_Corrections_findOrAdd 0 = .ok (.iconst 0, 1) := by decide +kernel
theorem d_Corrections_findOrAdd_1 : decode b_Corrections_findOrAdd 1 = .ok (.istore 9, 2) := by decide +kernel
theorem d_Corrections_findOrAdd_3 : decode b_Corrections_findOrAdd 3 = .ok (.iload 9, 2) := by decide +kernel
theorem d_Corrections_findOrAdd_5 : decode b_Corrections_findOrAdd 5 = .ok (.aload_n 0, 1) := by decide +kernel
theorem d_Corrections_findOrAdd_6 : decode b_Corrections_findOrAdd 6 = .ok (.getfield 28, 3) := by decide +kernel
theorem d_Corrections_findOrAdd_9 : decode b_Corrections_findOrAdd 9 = .ok (.if_icmp .ge 50, 3) := by decide +kernel
theorem d_Corrections_findOrAdd_12 : decode b_Corrections_findOrAdd 12 = .ok (.aload_n 0, 1) := by decide +kernel
theorem d_Corrections_findOrAdd_13 : decode b_Corrections_findOrAdd 13 = .ok (.iload 9, 2) := by decide +kernel
theorem d_Corrections_findOrAdd_15 : decode b_Corrections_findOrAdd 15 = .ok (.iload_n 1, 1) := by decide +kernel
theorem d_Corrections_findOrAdd_16 : decode b_Corrections_findOrAdd 16 = .ok (.iload_n 2, 1) := by decide +kernel
theorem d_Corrections_findOrAdd_17 : decode b_Corrections_findOrAdd 17 = .ok (.lload_n 3, 1) := by decide +kernel
theorem d_Corrections_findOrAdd_18 : decode b_Corrections_findOrAdd 18 = .ok (.invokevirtual 32, 3) := by decide +kernel
theorem d_Corrections_findOrAdd_21 : decode b_Corrections_findOrAdd 21 = .ok (.ifCond .eq 32, 3) := by decide +kernel
theorem d_Corrections_findOrAdd_24 : decode b_Corrections_findOrAdd 24 = .ok (.aload_n 0, 1) := by decide +kernel
theorem d_Corrections_findOrAdd_25 : decode b_Corrections_findOrAdd 25 = .ok (.getfield 22, 3) := by decide +kernel
theorem d_Corrections_findOrAdd_28 : decode b_Corrections_findOrAdd 28 = .ok (.iload 9, 2) := by decide +kernel
theorem d_Corrections_findOrAdd_30 : decode b_Corrections_findOrAdd 30 = .ok (.laload, 1) := by decide +kernel
theorem d_Corrections_findOrAdd_31 : decode b_Corrections_findOrAdd 31 = .ok (.lload 5, 2) := by decide +kernel
theorem d_Corrections_findOrAdd_33 : decode b_Corrections_findOrAdd 33 = .ok (.lcmp, 1) := by decide +kernel
theorem d_Corrections_findOrAdd_34 : decode b_Corrections_findOrAdd 34 = .ok (.ifCond .ne 19, 3) := by decide +kernel
theorem d_Corrections_findOrAdd_37 : decode b_Corrections_findOrAdd 37 = .ok (.aload_n 0, 1) := by decide +kernel
theorem d_Corrections_findOrAdd_38 : decode b_Corrections_findOrAdd 38 = .ok (.getfield 25, 3) := by decide +kernel
theorem d_Corrections_findOrAdd_41 : decode b_Corrections_findOrAdd 41 = .ok (.iload 9, 2) := by decide +kernel
theorem d_Corrections_findOrAdd_43 : decode b_Corrections_findOrAdd 43 = .ok (.laload, 1) := by decide +kernel
theorem d_Corrections_findOrAdd_44 : decode b_Corrections_findOrAdd 44 = .ok (.lload 7, 2) := by decide +kernel
theorem d_Corrections_findOrAdd_46 : decode b_Corrections_findOrAdd 46 = .ok (.lcmp, 1) := by decide +kernel
theorem d_Corrections_findOrAdd_47 : decode b_Corrections_findOrAdd 47 = .ok (.ifCond .ne 6, 3) := by decide +kernel
theorem d_Corrections_findOrAdd_50 : decode b_Corrections_findOrAdd 50 = .ok (.iload 9, 2) := by decide +kernel
theorem d_Corrections_findOrAdd_52 : decode b_Corrections_findOrAdd 52 = .ok (.ireturn, 1) := by decide +kernel
theorem d_Corrections_findOrAdd_53 : decode b_Corrections_findOrAdd 53 = .ok (.iinc 9 1, 3) := by decide +kernel
theorem d_Corrections_findOrAdd_56 : decode b_Corrections_findOrAdd 56 = .ok (.goto (-53), 3) := by decide +kernel
theorem d_Corrections_findOrAdd_59 : decode b_Corrections_findOrAdd 59 = .ok (.aload_n 0, 1) := by decide +kernel
theorem d_Corrections_findOrAdd_60 : decode b_Corrections_findOrAdd 60 = .ok (.getfield 28, 3) := by decide +kernel
theorem d_Corrections_findOrAdd_63 : decode b_Corrections_findOrAdd 63 = .ok (.bipush 20, 2) := by decide +kernel
theorem d_Corrections_findOrAdd_65 : decode b_Corrections_findOrAdd 65 = .ok (.if_icmp .lt 5, 3) := by decide +kernel
theorem d_Corrections_findOrAdd_68 : decode b_Corrections_findOrAdd 68 = .ok (.iconst (-1), 1) := by decide +kernel
theorem d_Corrections_findOrAdd_69 : decode b_Corrections_findOrAdd 69 = .ok (.ireturn, 1) := by decide +kernel
theorem d_Corrections_findOrAdd_70 : decode b_Corrections_findOrAdd 70 = .ok (.aload_n 0, 1) := by decide +kernel
theorem d_Corrections_findOrAdd_71 : decode b_Corrections_findOrAdd 71 = .ok (.getfield 9, 3) := by decide +kernel
theorem d_Corrections_findOrAdd_74 : decode b_Corrections_findOrAdd 74 = .ok (.aload_n 0, 1) := by decide +kernel
theorem d_Corrections_findOrAdd_75 : decode b_Corrections_findOrAdd 75 = .ok (.getfield 28, 3) := by decide +kernel
theorem d_Corrections_findOrAdd_78 : decode b_Corrections_findOrAdd 78 = .ok (.iload_n 1, 1) := by decide +kernel
theorem d_Corrections_findOrAdd_79 : decode b_Corrections_findOrAdd 79 = .ok (.iastore, 1) := by decide +kernel
theorem d_Corrections_findOrAdd_80 : decode b_Corrections_findOrAdd 80 = .ok (.aload_n 0, 1) := by decide +kernel
theorem d_Corrections_findOrAdd_81 : decode b_Corrections_findOrAdd 81 = .ok (.getfield 15, 3) := by decide +kernel
theorem d_Corrections_findOrAdd_84 : decode b_Corrections_findOrAdd 84 = .ok (.aload_n 0, 1) := by decide +kernel
theorem d_Corrections_findOrAdd_85 : decode b_Corrections_findOrAdd 85 = .ok (.getfield 28, 3) := by decide +kernel
theorem d_Corrections_findOrAdd_88 : decode b_Corrections_findOrAdd 88 = .ok (.iload_n 2, 1) := by decide +kernel
theorem d_Corrections_findOrAdd_89 : decode b_Corrections_findOrAdd 89 = .ok (.iastore, 1) := by decide +kernel
theorem d_Corrections_findOrAdd_90 : decode b_Corrections_findOrAdd 90 = .ok (.aload_n 0, 1) := by decide +kernel
theorem d_Corrections_findOrAdd_91 : decode b_Corrections_findOrAdd 91 = .ok (.getfield 18, 3) := by decide +kernel
theorem d_Corrections_findOrAdd_94 : decode b_Corrections_findOrAdd 94 = .ok (.aload_n 0, 1) := by decide +kernel
theorem d_Corrections_findOrAdd_95 : decode b_Corrections_findOrAdd 95 = .ok (.getfield 28, 3) := by decide +kernel
theorem d_Corrections_findOrAdd_98 : decode b_Corrections_findOrAdd 98 = .ok (.lload_n 3, 1) := by decide +kernel
theorem d_Corrections_findOrAdd_99 : decode b_Corrections_findOrAdd 99 = .ok (.lastore, 1) := by decide +kernel
theorem d_Corrections_findOrAdd_100 : decode b_Corrections_findOrAdd 100 = .ok (.aload_n 0, 1) := by decide +kernel
theorem d_Corrections_findOrAdd_101 : decode b_Corrections_findOrAdd 101 = .ok (.getfield 22, 3) := by decide +kernel
theorem d_Corrections_findOrAdd_104 : decode b_Corrections_findOrAdd 104 = .ok (.aload_n 0, 1) := by decide +kernel
theorem d_Corrections_findOrAdd_105 : decode b_Corrections_findOrAdd 105 = .ok (.getfield 28, 3) := by decide +kernel
theorem d_Corrections_findOrAdd_108 : decode b_Corrections_findOrAdd 108 = .ok (.lload 5, 2) := by decide +kernel
theorem d_Corrections_findOrAdd_110 : decode b_Corrections_findOrAdd 110 = .ok (.lastore, 1) := by decide +kernel
theorem d_Corrections_findOrAdd_111 : decode b_Corrections_findOrAdd 111 = .ok (.aload_n 0, 1) := by decide +kernel
theorem d_Corrections_findOrAdd_112 : decode b_Corrections_findOrAdd 112 = .ok (.getfield 25, 3) := by decide +kernel
theorem d_Corrections_findOrAdd_115 : decode b_Corrections_findOrAdd 115 = .ok (.aload_n 0, 1) := by decide +kernel
theorem d_Corrections_findOrAdd_116 : decode b_Corrections_findOrAdd 116 = .ok (.getfield 28, 3) := by decide +kernel
theorem d_Corrections_findOrAdd_119 : decode b_Corrections_findOrAdd 119 = .ok (.lload 7, 2) := by decide +kernel
theorem d_Corrections_findOrAdd_121 : decode b_Corrections_findOrAdd 121 = .ok (.lastore, 1) := by decide +kernel
theorem d_Corrections_findOrAdd_122 : decode b_Corrections_findOrAdd 122 = .ok (.aload_n 0, 1) := by decide +kernel
theorem d_Corrections_findOrAdd_123 : decode b_Corrections_findOrAdd 123 = .ok (.dup, 1) := by decide +kernel
theorem d_Corrections_findOrAdd_124 : decode b_Corrections_findOrAdd 124 = .ok (.getfield 28, 3) := by decide +kernel
theorem d_Corrections_findOrAdd_127 : decode b_Corrections_findOrAdd 127 = .ok (.iconst 1, 1) := by decide +kernel
theorem d_Corrections_findOrAdd_128 : decode b_Corrections_findOrAdd 128 = .ok (.iadd, 1) := by decide +kernel
theorem d_Corrections_findOrAdd_129 : decode b_Corrections_findOrAdd 129 = .ok (.putfield 28, 3) := by decide +kernel
theorem d_Corrections_findOrAdd_132 : decode b_Corrections_findOrAdd 132 = .ok (.aload_n 0, 1) := by decide +kernel
theorem d_Corrections_findOrAdd_133 : decode b_Corrections_findOrAdd 133 = .ok (.getfield 28, 3) := by decide +kernel
theorem d_Corrections_findOrAdd_136 : decode b_Corrections_findOrAdd 136 = .ok (.iconst 1, 1) := by decide +kernel
theorem d_Corrections_findOrAdd_137 : decode b_Corrections_findOrAdd 137 = .ok (.isub, 1) := by decide +kernel
theorem d_Corrections_findOrAdd_138 : decode b_Corrections_findOrAdd 138 = .ok (.ireturn, 1) := by decide +kernel
theorem d_Corrections_latest_0 : decode b_Corrections_latest 0 = .ok (.iconst (-1), 1) := by decide +kernel
theorem d_Corrections_latest_1 : decode b_Corrections_latest 1 = .ok (.istore 9, 2) := by decide +kernel
theorem d_Corrections_latest_3 : decode b_Corrections_latest 3 = .ok (.iconst 0, 1) := by decide +kernel
theorem d_Corrections_latest_4 : decode b_Corrections_latest 4 = .ok (.istore 10, 2) := by decide +kernel
theorem d_Corrections_latest_6 : decode b_Corrections_latest 6 = .ok (.iload 10, 2) := by decide +kernel
theorem d_Corrections_latest_8 : decode b_Corrections_latest 8 = .ok (.aload_n 0, 1) := by decide +kernel
theorem d_Corrections_latest_9 : decode b_Corrections_latest 9 = .ok (.getfield 28, 3) := by decide +kernel
theorem d_Corrections_latest_12 : decode b_Corrections_latest 12 = .ok (.if_icmp .ge 66, 3) := by decide +kernel
theorem d_Corrections_latest_15 : decode b_Corrections_latest 15 = .ok (.iload 10, 2) := by decide +kernel
theorem d_Corrections_latest_17 : decode b_Corrections_latest 17 = .ok (.lload_n 1, 1) := by decide +kernel
theorem d_Corrections_latest_18 : decode b_Corrections_latest 18 = .ok (.invokestatic 36, 3) := by decide +kernel
theorem d_Corrections_latest_21 : decode b_Corrections_latest 21 = .ok (.ifCond .eq 51, 3) := by decide +kernel
theorem d_Corrections_latest_24 : decode b_Corrections_latest 24 = .ok (.aload_n 0, 1) := by decide +kernel
theorem d_Corrections_latest_25 : decode b_Corrections_latest 25 = .ok (.iload 10, 2) := by decide +kernel
theorem d_Corrections_latest_27 : decode b_Corrections_latest 27 = .ok (.iload_n 3, 1) := by decide +kernel
theorem d_Corrections_latest_28 : decode b_Corrections_latest 28 = .ok (.iload 4, 2) := by decide +kernel
theorem d_Corrections_latest_30 : decode b_Corrections_latest 30 = .ok (.lload 5, 2) := by decide +kernel
theorem d_Corrections_latest_32 : decode b_Corrections_latest 32 = .ok (.invokevirtual 32, 3) := by decide +kernel
theorem d_Corrections_latest_35 : decode b_Corrections_latest 35 = .ok (.ifCond .eq 37, 3) := by decide +kernel
theorem d_Corrections_latest_38 : decode b_Corrections_latest 38 = .ok (.aload_n 0, 1) := by decide +kernel
theorem d_Corrections_latest_39 : decode b_Corrections_latest 39 = .ok (.getfield 25, 3) := by decide +kernel
theorem d_Corrections_latest_42 : decode b_Corrections_latest 42 = .ok (.iload 10, 2) := by decide +kernel
theorem d_Corrections_latest_44 : decode b_Corrections_latest 44 = .ok (.laload, 1) := by decide +kernel
theorem d_Corrections_latest_45 : decode b_Corrections_latest 45 = .ok (.lload 7, 2) := by decide +kernel
theorem d_Corrections_latest_47 : decode b_Corrections_latest 47 = .ok (.lcmp, 1) := by decide +kernel
theorem d_Corrections_latest_48 : decode b_Corrections_latest 48 = .ok (.ifCond .gt 24, 3) := by decide +kernel
theorem d_Corrections_latest_51 : decode b_Corrections_latest 51 = .ok (.iload 9, 2) := by decide +kernel
theorem d_Corrections_latest_53 : decode b_Corrections_latest 53 = .ok (.iconst (-1), 1) := by decide +kernel
theorem d_Corrections_latest_54 : decode b_Corrections_latest 54 = .ok (.if_icmp .eq 14, 3) := by decide +kernel
theorem d_Corrections_latest_57 : decode b_Corrections_latest 57 = .ok (.aload_n 0, 1) := by decide +kernel
theorem d_Corrections_latest_58 : decode b_Corrections_latest 58 = .ok (.iload 10, 2) := by decide +kernel
theorem d_Corrections_latest_60 : decode b_Corrections_latest 60 = .ok (.iload 9, 2) := by decide +kernel
theorem d_Corrections_latest_62 : decode b_Corrections_latest 62 = .ok (.invokevirtual 40, 3) := by decide +kernel
theorem d_Corrections_latest_65 : decode b_Corrections_latest 65 = .ok (.ifCond .eq 7, 3) := by decide +kernel
theorem d_Corrections_latest_68 : decode b_Corrections_latest 68 = .ok (.iload 10, 2) := by decide +kernel
theorem d_Corrections_latest_70 : decode b_Corrections_latest 70 = .ok (.istore 9, 2) := by decide +kernel
theorem d_Corrections_latest_72 : decode b_Corrections_latest 72 = .ok (.iinc 10 1, 3) := by decide +kernel
theorem d_Corrections_latest_75 : decode b_Corrections_latest 75 = .ok (.goto (-69), 3) := by decide +kernel
theorem d_Corrections_latest_78 : decode b_Corrections_latest 78 = .ok (.iload 9, 2) := by decide +kernel
theorem d_Corrections_latest_80 : decode b_Corrections_latest 80 = .ok (.ireturn, 1) := by decide +kernel
theorem d_Corrections_isFor_0 : decode b_Corrections_isFor 0 = .ok (.aload_n 0, 1) := by decide +kernel
theorem d_Corrections_isFor_1 : decode b_Corrections_isFor 1 = .ok (.getfield 9, 3) := by decide +kernel
theorem d_Corrections_isFor_4 : decode b_Corrections_isFor 4 = .ok (.iload_n 1, 1) := by decide +kernel
theorem d_Corrections_isFor_5 : decode b_Corrections_isFor 5 = .ok (.iaload, 1) := by decide +kernel
theorem d_Corrections_isFor_6 : decode b_Corrections_isFor 6 = .ok (.iload_n 2, 1) := by decide +kernel
theorem d_Corrections_isFor_7 : decode b_Corrections_isFor 7 = .ok (.if_icmp .ne 29, 3) := by decide +kernel
theorem d_Corrections_isFor_10 : decode b_Corrections_isFor 10 = .ok (.aload_n 0, 1) := by decide +kernel
theorem d_Corrections_isFor_11 : decode b_Corrections_isFor 11 = .ok (.getfield 15, 3) := by decide +kernel
theorem d_Corrections_isFor_14 : decode b_Corrections_isFor 14 = .ok (.iload_n 1, 1) := by decide +kernel
theorem d_Corrections_isFor_15 : decode b_Corrections_isFor 15 = .ok (.iaload, 1) := by decide +kernel
theorem d_Corrections_isFor_16 : decode b_Corrections_isFor 16 = .ok (.iload_n 3, 1) := by decide +kernel
theorem d_Corrections_isFor_17 : decode b_Corrections_isFor 17 = .ok (.if_icmp .ne 19, 3) := by decide +kernel
theorem d_Corrections_isFor_20 : decode b_Corrections_isFor 20 = .ok (.aload_n 0, 1) := by decide +kernel
theorem d_Corrections_isFor_21 : decode b_Corrections_isFor 21 = .ok (.getfield 18, 3) := by decide +kernel
theorem d_Corrections_isFor_24 : decode b_Corrections_isFor 24 = .ok (.iload_n 1, 1) := by decide +kernel
theorem d_Corrections_isFor_25 : decode b_Corrections_isFor 25 = .ok (.laload, 1) := by decide +kernel
theorem d_Corrections_isFor_26 : decode b_Corrections_isFor 26 = .ok (.lload 4, 2) := by decide +kernel
theorem d_Corrections_isFor_28 : decode b_Corrections_isFor 28 = .ok (.lcmp, 1) := by decide +kernel
theorem d_Corrections_isFor_29 : decode b_Corrections_isFor 29 = .ok (.ifCond .ne 7, 3) := by decide +kernel
theorem d_Corrections_isFor_32 : decode b_Corrections_isFor 32 = .ok (.iconst 1, 1) := by decide +kernel
theorem d_Corrections_isFor_33 : decode b_Corrections_isFor 33 = .ok (.goto 4, 3) := by decide +kernel
theorem d_Corrections_isFor_36 : decode b_Corrections_isFor 36 = .ok (.iconst 0, 1) := by decide +kernel
theorem d_Corrections_isFor_37 : decode b_Corrections_isFor 37 = .ok (.ireturn, 1) := by decide +kernel
theorem d_Corrections_isStronger_0 : decode b_Corrections_isStronger 0 = .ok (.aload_n 0, 1) := by decide +kernel
theorem d_Corrections_isStronger_1 : decode b_Corrections_isStronger 1 = .ok (.getfield 25, 3) := by decide +kernel
theorem d_Corrections_isStronger_4 : decode b_Corrections_isStronger 4 = .ok (.iload_n 1, 1) := by decide +kernel
theorem d_Corrections_isStronger_5 : decode b_Corrections_isStronger 5 = .ok (.laload, 1) := by decide +kernel
theorem d_Corrections_isStronger_6 : decode b_Corrections_isStronger 6 = .ok (.aload_n 0, 1) := by decide +kernel
theorem d_Corrections_isStronger_7 : decode b_Corrections_isStronger 7 = .ok (.getfield 25, 3) := by decide +kernel
theorem d_Corrections_isStronger_10 : decode b_Corrections_isStronger 10 = .ok (.iload_n 2, 1) := by decide +kernel
theorem d_Corrections_isStronger_11 : decode b_Corrections_isStronger 11 = .ok (.laload, 1) := by decide +kernel
theorem d_Corrections_isStronger_12 : decode b_Corrections_isStronger 12 = .ok (.lcmp, 1) := by decide +kernel
theorem d_Corrections_isStronger_13 : decode b_Corrections_isStronger 13 = .ok (.ifCond .eq 27, 3) := by decide +kernel
theorem d_Corrections_isStronger_16 : decode b_Corrections_isStronger 16 = .ok (.aload_n 0, 1) := by decide +kernel
theorem d_Corrections_isStronger_17 : decode b_Corrections_isStronger 17 = .ok (.getfield 25, 3) := by decide +kernel
theorem d_Corrections_isStronger_20 : decode b_Corrections_isStronger 20 = .ok (.iload_n 1, 1) := by decide +kernel
theorem d_Corrections_isStronger_21 : decode b_Corrections_isStronger 21 = .ok (.laload, 1) := by decide +kernel
theorem d_Corrections_isStronger_22 : decode b_Corrections_isStronger 22 = .ok (.aload_n 0, 1) := by decide +kernel
theorem d_Corrections_isStronger_23 : decode b_Corrections_isStronger 23 = .ok (.getfield 25, 3) := by decide +kernel
theorem d_Corrections_isStronger_26 : decode b_Corrections_isStronger 26 = .ok (.iload_n 2, 1) := by decide +kernel
theorem d_Corrections_isStronger_27 : decode b_Corrections_isStronger 27 = .ok (.laload, 1) := by decide +kernel
theorem d_Corrections_isStronger_28 : decode b_Corrections_isStronger 28 = .ok (.lcmp, 1) := by decide +kernel
theorem d_Corrections_isStronger_29 : decode b_Corrections_isStronger 29 = .ok (.ifCond .le 7, 3) := by decide +kernel
theorem d_Corrections_isStronger_32 : decode b_Corrections_isStronger 32 = .ok (.iconst 1, 1) := by decide +kernel
theorem d_Corrections_isStronger_33 : decode b_Corrections_isStronger 33 = .ok (.goto 28, 3) := by decide +kernel
theorem d_Corrections_isStronger_36 : decode b_Corrections_isStronger 36 = .ok (.iconst 0, 1) := by decide +kernel
theorem d_Corrections_isStronger_37 : decode b_Corrections_isStronger 37 = .ok (.goto 24, 3) := by decide +kernel
theorem d_Corrections_isStronger_40 : decode b_Corrections_isStronger 40 = .ok (.aload_n 0, 1) := by decide +kernel
theorem d_Corrections_isStronger_41 : decode b_Corrections_isStronger 41 = .ok (.getfield 22, 3) := by decide +kernel
theorem d_Corrections_isStronger_44 : decode b_Corrections_isStronger 44 = .ok (.iload_n 1, 1) := by decide +kernel
theorem d_Corrections_isStronger_45 : decode b_Corrections_isStronger 45 = .ok (.laload, 1) := by decide +kernel
theorem d_Corrections_isStronger_46 : decode b_Corrections_isStronger 46 = .ok (.aload_n 0, 1) := by decide +kernel
theorem d_Corrections_isStronger_47 : decode b_Corrections_isStronger 47 = .ok (.getfield 22, 3) := by decide +kernel
theorem d_Corrections_isStronger_50 : decode b_Corrections_isStronger 50 = .ok (.iload_n 2, 1) := by decide +kernel
theorem d_Corrections_isStronger_51 : decode b_Corrections_isStronger 51 = .ok (.laload, 1) := by decide +kernel
theorem d_Corrections_isStronger_52 : decode b_Corrections_isStronger 52 = .ok (.lcmp, 1) := by decide +kernel
theorem d_Corrections_isStronger_53 : decode b_Corrections_isStronger 53 = .ok (.ifCond .le 7, 3) := by decide +kernel
theorem d_Corrections_isStronger_56 : decode b_Corrections_isStronger 56 = .ok (.iconst 1, 1) := by decide +kernel
theorem d_Corrections_isStronger_57 : decode b_Corrections_isStronger 57 = .ok (.goto 4, 3) := by decide +kernel
theorem d_Corrections_isStronger_60 : decode b_Corrections_isStronger 60 = .ok (.iconst 0, 1) := by decide +kernel
theorem d_Corrections_isStronger_61 : decode b_Corrections_isStronger 61 = .ok (.ireturn, 1) := by decide +kernel
end
section
theorem d_Model_init_0 : decode b_Model_init 0 = .ok (.aload_n 0, 1) := by decide +kernel
theorem d_Model_init_1 : decode b_Model_init 1 = .ok (.invokespecial 1, 3) := by decide +kernel
theorem d_Model_init_4 : decode b_Model_init 4 = .ok (.aload_n 0, 1) := by decide +kernel
theorem d_Model_init_5 : decode b_Model_init 5 = .ok (.iconst 4, 1) := by decide +kernel
theorem d_Model_init_6 : decode b_Model_init 6 = .ok (.newarray .int, 2) := by decide +kernel
theorem d_Model_init_8 : decode b_Model_init 8 = .ok (.putfield 7, 3) := by decide +kernel
theorem d_Model_init_11 : decode b_Model_init 11 = .ok (.aload_n 0, 1) := by decide +kernel
theorem d_Model_init_12 : decode b_Model_init 12 = .ok (.iconst 4, 1) := by decide +kernel
theorem d_Model_init_13 : decode b_Model_init 13 = .ok (.newarray .long, 2) := by decide +kernel
theorem d_Model_init_15 : decode b_Model_init 15 = .ok (.putfield 13, 3) := by decide +kernel
theorem d_Model_init_18 : decode b_Model_init 18 = .ok (.aload_n 0, 1) := by decide +kernel
theorem d_Model_init_19 : decode b_Model_init 19 = .ok (.bipush 60, 2) := by decide +kernel
theorem d_Model_init_21 : decode b_Model_init 21 = .ok (.newarray .int, 2) := by decide +kernel
theorem d_Model_init_23 : decode b_Model_init 23 = .ok (.putfield 17, 3) := by decide +kernel
theorem d_Model_init_26 : decode b_Model_init 26 = .ok (.aload_n 0, 1) := by decide +kernel
theorem d_Model_init_27 : decode b_Model_init 27 = .ok (.bipush 60, 2) := by decide +kernel
theorem d_Model_init_29 : decode b_Model_init 29 = .ok (.newarray .int, 2) := by decide +kernel
theorem d_Model_init_31 : decode b_Model_init 31 = .ok (.putfield 20, 3) := by decide +kernel
theorem d_Model_init_34 : decode b_Model_init 34 = .ok (.aload_n 0, 1) := by decide +kernel
theorem d_Model_init_35 : decode b_Model_init 35 = .ok (.bipush 60, 2) := by decide +kernel
theorem d_Model_init_37 : decode b_Model_init 37 = .ok (.newarray .int, 2) := by decide +kernel
theorem d_Model_init_39 : decode b_Model_init 39 = .ok (.putfield 23, 3) := by decide +kernel
theorem d_Model_init_42 : decode b_Model_init 42 = .ok (.aload_n 0, 1) := by decide +kernel
theorem d_Model_init_43 : decode b_Model_init 43 = .ok (.bipush 60, 2) := by decide +kernel
theorem d_Model_init_45 : decode b_Model_init 45 = .ok (.newarray .int, 2) := by decide +kernel
theorem d_Model_init_47 : decode b_Model_init 47 = .ok (.putfield 26, 3) := by decide +kernel
theorem d_Model_init_50 : decode b_Model_init 50 = .ok (.aload_n 0, 1) := by decide +kernel
theorem d_Model_init_51 : decode b_Model_init 51 = .ok (.bipush 60, 2) := by decide +kernel
theorem d_Model_init_53 : decode b_Model_init 53 = .ok (.newarray .int, 2) := by decide +kernel
theorem d_Model_init_55 : decode b_Model_init 55 = .ok (.putfield 29, 3) := by decide +kernel
theorem d_Model_init_58 : decode b_Model_init 58 = .ok (.aload_n 0, 1) := by decide +kernel
theorem d_Model_init_59 : decode b_Model_init 59 = .ok (.bipush 60, 2) := by decide +kernel
theorem d_Model_init_61 : decode b_Model_init 61 = .ok (.newarray .long, 2) := by decide +kernel
theorem d_Model_init_63 : decode b_Model_init 63 = .ok (.putfield 32, 3) := by decide +kernel
theorem d_Model_init_66 : decode b_Model_init 66 = .ok (.aload_n 0, 1) := by decide +kernel
theorem d_Model_init_67 : decode b_Model_init 67 = .ok (.bipush 60, 2) := by decide +kernel
theorem d_Model_init_69 : decode b_Model_init 69 = .ok (.newarray .int, 2) := by decide +kernel
theorem d_Model_init_71 : decode b_Model_init 71 = .ok (.putfield 35, 3) := by decide +kernel
theorem d_Model_init_74 : decode b_Model_init 74 = .ok (.aload_n 0, 1) := by decide +kernel
theorem d_Model_init_75 : decode b_Model_init 75 = .ok (.bipush 100, 2) := by decide +kernel
theorem d_Model_init_77 : decode b_Model_init 77 = .ok (.newarray .long, 2) := by decide +kernel
theorem d_Model_init_79 : decode b_Model_init 79 = .ok (.putfield 38, 3) := by decide +kernel
theorem d_Model_init_82 : decode b_Model_init 82 = .ok (.aload_n 0, 1) := by decide +kernel
theorem d_Model_init_83 : decode b_Model_init 83 = .ok (.sipush 720, 3) := by decide +kernel
theorem d_Model_init_86 : decode b_Model_init 86 = .ok (.newarray .boolean, 2) := by decide +kernel
theorem d_Model_init_88 : decode b_Model_init 88 = .ok (.putfield 41, 3) := by decide +kernel
theorem d_Model_init_91 : decode b_Model_init 91 = .ok (.aload_n 0, 1) := by decide +kernel
theorem d_Model_init_92 : decode b_Model_init 92 = .ok (.sipush 720, 3) := by decide +kernel
theorem d_Model_init_95 : decode b_Model_init 95 = .ok (.newarray .boolean, 2) := by decide +kernel
theorem d_Model_init_97 : decode b_Model_init 97 = .ok (.putfield 45, 3) := by decide +kernel
theorem d_Model_init_100 : decode b_Model_init 100 = .ok (.aload_n 0, 1) := by decide +kernel
theorem d_Model_init_101 : decode b_Model_init 101 = .ok (.sipush 240, 3) := by decide +kernel
theorem d_Model_init_104 : decode b_Model_init 104 = .ok (.newarray .boolean, 2) := by decide +kernel
theorem d_Model_init_106 : decode b_Model_init 106 = .ok (.putfield 48, 3) := by decide +kernel
theorem d_Model_init_109 : decode b_Model_init 109 = .ok (.aload_n 0, 1) := by decide +kernel
theorem d_Model_init_110 : decode b_Model_init 110 = .ok (.bipush 12, 2) := by decide +kernel
theorem d_Model_init_112 : decode b_Model_init 112 = .ok (.newarray .long, 2) := by decide +kernel
theorem d_Model_init_114 : decode b_Model_init 114 = .ok (.putfield 51, 3) := by decide +kernel
theorem d_Model_init_117 : decode b_Model_init 117 = .ok (.aload_n 0, 1) := by decide +kernel
theorem d_Model_init_118 : decode b_Model_init 118 = .ok (.bipush 6, 2) := by decide +kernel
theorem d_Model_init_120 : decode b_Model_init 120 = .ok (.newarray .int, 2) := by decide +kernel
theorem d_Model_init_122 : decode b_Model_init 122 = .ok (.putfield 54, 3) := by decide +kernel
theorem d_Model_init_125 : decode b_Model_init 125 = .ok (.aload_n 0, 1) := by decide +kernel
theorem d_Model_init_126 : decode b_Model_init 126 = .ok (.iconst 4, 1) := by decide +kernel
theorem d_Model_init_127 : decode b_Model_init 127 = .ok (.newarray .int, 2) := by decide +kernel
theorem d_Model_init_129 : decode b_Model_init 129 = .ok (.putfield 57, 3) := by decide +kernel
theorem d_Model_init_132 : decode b_Model_init 132 = .ok (.aload_n 0, 1) := by decide +kernel
theorem d_Model_init_133 : decode b_Model_init 133 = .ok (.bipush 40, 2) := by decide +kernel
theorem d_Model_init_135 : decode b_Model_init 135 = .ok (.newarray .int, 2) := by decide +kernel
theorem d_Model_init_137 : decode b_Model_init 137 = .ok (.putfield 60, 3) := by decide +kernel
theorem d_Model_init_140 : decode b_Model_init 140 = .ok (.aload_n 0, 1) := by decide +kernel
theorem d_Model_init_141 : decode b_Model_init 141 = .ok (.bipush 40, 2) := by decide +kernel
theorem d_Model_init_143 : decode b_Model_init 143 = .ok (.newarray .int, 2) := by decide +kernel
theorem d_Model_init_145 : decode b_Model_init 145 = .ok (.putfield 63, 3) := by decide +kernel
theorem d_Model_init_148 : decode b_Model_init 148 = .ok (.iconst 0, 1) := by decide +kernel
theorem d_Model_init_149 : decode b_Model_init 149 = .ok (.istore_n 1, 1) := by decide +kernel
theorem d_Model_init_150 : decode b_Model_init 150 = .ok (.iload_n 1, 1) := by decide +kernel
theorem d_Model_init_151 : decode b_Model_init 151 = .ok (.bipush 6, 2) := by decide +kernel
theorem d_Model_init_153 : decode b_Model_init 153 = .ok (.if_icmp .ge 16, 3) := by decide +kernel
theorem d_Model_init_156 : decode b_Model_init 156 = .ok (.aload_n 0, 1) := by decide +kernel
theorem d_Model_init_157 : decode b_Model_init 157 = .ok (.getfield 54, 3) := by decide +kernel
theorem d_Model_init_160 : decode b_Model_init 160 = .ok (.iload_n 1, 1) := by decide +kernel
theorem d_Model_init_161 : decode b_Model_init 161 = .ok (.iconst (-1), 1) := by decide +kernel
theorem d_Model_init_162 : decode b_Model_init 162 = .ok (.iastore, 1) := by decide +kernel
theorem d_Model_init_163 : decode b_Model_init 163 = .ok (.iinc 1 1, 3) := by decide +kernel
theorem d_Model_init_166 : decode b_Model_init 166 = .ok (.goto (-16), 3) := by decide +kernel
theorem d_Model_init_169 : decode b_Model_init 169 = .ok (.return_, 1) := by decide +kernel
theorem d_Model_isIn_0 : decode b_Model_isIn 0 = .ok (.lload_n 0, 1) := by decide +kernel
theorem d_Model_isIn_1 : decode b_Model_isIn 1 = .ok (.lload_n 2, 1) := by decide +kernel
theorem d_Model_isIn_2 : decode b_Model_isIn 2 = .ok (.lcmp, 1) := by decide +kernel
theorem d_Model_isIn_3 : decode b_Model_isIn 3 = .ok (.ifCond .lt 14, 3) := by decide +kernel
theorem d_Model_isIn_6 : decode b_Model_isIn 6 = .ok (.lload_n 0, 1) := by decide +kernel
theorem d_Model_isIn_7 : decode b_Model_isIn 7 = .ok (.lload 4, 2) := by decide +kernel
theorem d_Model_isIn_9 : decode b_Model_isIn 9 = .ok (.lcmp, 1) := by decide +kernel
theorem d_Model_isIn_10 : decode b_Model_isIn 10 = .ok (.ifCond .gt 7, 3) := by decide +kernel
theorem d_Model_isIn_13 : decode b_Model_isIn 13 = .ok (.iconst 1, 1) := by decide +kernel
theorem d_Model_isIn_14 : decode b_Model_isIn 14 = .ok (.goto 4, 3) := by decide +kernel
theorem d_Model_isIn_17 : decode b_Model_isIn 17 = .ok (.iconst 0, 1) := by decide +kernel
theorem d_Model_isIn_18 : decode b_Model_isIn 18 = .ok (.ireturn, 1) := by decide +kernel
theorem d_Model_isDevice_0 : decode b_Model_isDevice 0 = .ok (.iload_n 1, 1) := by decide +kernel
theorem d_Model_isDevice_1 : decode b_Model_isDevice 1 = .ok (.ifCond .lt 15, 3) := by decide +kernel
theorem d_Model_isDevice_4 : decode b_Model_isDevice 4 = .ok (.iload_n 1, 1) := by decide +kernel
theorem d_Model_isDevice_5 : decode b_Model_isDevice 5 = .ok (.aload_n 0, 1) := by decide +kernel
theorem d_Model_isDevice_6 : decode b_Model_isDevice 6 = .ok (.getfield 66, 3) := by decide +kernel
theorem d_Model_isDevice_9 : decode b_Model_isDevice 9 = .ok (.if_icmp .ge 7, 3) := by decide +kernel
theorem d_Model_isDevice_12 : decode b_Model_isDevice 12 = .ok (.iconst 1, 1) := by decide +kernel
theorem d_Model_isDevice_13 : decode b_Model_isDevice 13 = .ok (.goto 4, 3) := by decide +kernel
theorem d_Model_isDevice_16 : decode b_Model_isDevice 16 = .ok (.iconst 0, 1) := by decide +kernel
theorem d_Model_isDevice_17 : decode b_Model_isDevice 17 = .ok (.ireturn, 1) := by decide +kernel
theorem d_Model_isSet_0 : decode b_Model_isSet 0 = .ok (.iload_n 1, 1) := by decide +kernel
theorem d_Model_isSet_1 : decode b_Model_isSet 1 = .ok (.ifCond .lt 15, 3) := by decide +kernel
theorem d_Model_isSet_4 : decode b_Model_isSet 4 = .ok (.iload_n 1, 1) := by decide +kernel
theorem d_Model_isSet_5 : decode b_Model_isSet 5 = .ok (.aload_n 0, 1) := by decide +kernel
theorem d_Model_isSet_6 : decode b_Model_isSet 6 = .ok (.getfield 70, 3) := by decide +kernel
theorem d_Model_isSet_9 : decode b_Model_isSet 9 = .ok (.if_icmp .ge 7, 3) := by decide +kernel
theorem d_Model_isSet_12 : decode b_Model_isSet 12 = .ok (.iconst 1, 1) := by decide +kernel
theorem d_Model_isSet_13 : decode b_Model_isSet 13 = .ok (.goto 4, 3) := by decide +kernel
theorem d_Model_isSet_16 : decode b_Model_isSet 16 = .ok (.iconst 0, 1) := by decide +kernel
theorem d_Model_isSet_17 : decode b_Model_isSet 17 = .ok (.ireturn, 1) := by decide +kernel
theorem d_Model_device_0 : decode b_Model_device 0 = .ok (.aload_n 0, 1) := by decide +kernel
theorem d_Model_device_1 : decode b_Model_device 1 = .ok (.getfield 66, 3) := by decide +kernel
theorem d_Model_device_4 : decode b_Model_device 4 = .ok (.iconst 4, 1) := by decide +kernel
theorem d_Model_device_5 : decode b_Model_device 5 = .ok (.if_icmp .ne 5, 3) := by decide +kernel
theorem d_Model_device_8 : decode b_Model_device 8 = .ok (.iconst (-1), 1) := by decide +kernel
theorem d_Model_device_9 : decode b_Model_device 9 = .ok (.ireturn, 1) := by decide +kernel
theorem d_Model_device_10 : decode b_Model_device 10 = .ok (.aload_n 0, 1) := by decide +kernel
theorem d_Model_device_11 : decode b_Model_device 11 = .ok (.dup, 1) := by decide +kernel
theorem d_Model_device_12 : decode b_Model_device 12 = .ok (.getfield 66, 3) := by decide +kernel
theorem d_Model_device_15 : decode b_Model_device 15 = .ok (.iconst 1, 1) := by decide +kernel
theorem d_Model_device_16 : decode b_Model_device 16 = .ok (.iadd, 1) := by decide +kernel
theorem d_Model_device_17 : decode b_Model_device 17 = .ok (.putfield 66, 3) := by decide +kernel
theorem d_Model_device_20 : decode b_Model_device 20 = .ok (.aload_n 0, 1) := by decide +kernel
theorem d_Model_device_21 : decode b_Model_device 21 = .ok (.getfield 66, 3) := by decide +kernel
theorem d_Model_device_24 : decode b_Model_device 24 = .ok (.iconst 1, 1) := by decide +kernel
theorem d_Model_device_25 : decode b_Model_device 25 = .ok (.isub, 1) := by decide +kernel
theorem d_Model_device_26 : decode b_Model_device 26 = .ok (.ireturn, 1) := by decide +kernel
theorem d_Model_tell_0 : decode b_Model_tell 0 = .ok (.aload_n 0, 1) := by decide +kernel
theorem d_Model_tell_1 : decode b_Model_tell 1 = .ok (.iload_n 1, 1) := by decide +kernel
theorem d_Model_tell_2 : decode b_Model_tell 2 = .ok (.invokevirtual 73, 3) := by decide +kernel
theorem d_Model_tell_5 : decode b_Model_tell 5 = .ok (.ifCond .eq 70, 3) := by decide +kernel
theorem d_Model_tell_8 : decode b_Model_tell 8 = .ok (.lload_n 2, 1) := by decide +kernel
theorem d_Model_tell_9 : decode b_Model_tell 9 = .ok (.aload_n 0, 1) := by decide +kernel
theorem d_Model_tell_10 : decode b_Model_tell 10 = .ok (.getfield 13, 3) := by decide +kernel
theorem d_Model_tell_13 : decode b_Model_tell 13 = .ok (.iload_n 1, 1) := by decide +kernel
theorem d_Model_tell_14 : decode b_Model_tell 14 = .ok (.laload, 1) := by decide +kernel
theorem d_Model_tell_15 : decode b_Model_tell 15 = .ok (.ldc2_w 77, 3) := by decide +kernel
theorem d_Model_tell_18 : decode b_Model_tell 18 = .ok (.invokestatic 79, 3) := by decide +kernel
theorem d_Model_tell_21 : decode b_Model_tell 21 = .ok (.ifCond .eq 54, 3) := by decide +kernel
theorem d_Model_tell_24 : decode b_Model_tell 24 = .ok (.iload 4, 2) := by decide +kernel
theorem d_Model_tell_26 : decode b_Model_tell 26 = .ok (.i2l, 1) := by decide +kernel
theorem d_Model_tell_27 : decode b_Model_tell 27 = .ok (.lconst 0, 1) := by decide +kernel
theorem d_Model_tell_28 : decode b_Model_tell 28 = .ok (.ldc2_w 83, 3) := by decide +kernel
theorem d_Model_tell_31 : decode b_Model_tell 31 = .ok (.invokestatic 79, 3) := by decide +kernel
theorem d_Model_tell_34 : decode b_Model_tell 34 = .ok (.ifCond .eq 41, 3) := by decide +kernel
theorem d_Model_tell_37 : decode b_Model_tell 37 = .ok (.lload 5, 2) := by decide +kernel
theorem d_Model_tell_39 : decode b_Model_tell 39 = .ok (.lconst 0, 1) := by decide +kernel
theorem d_Model_tell_40 : decode b_Model_tell 40 = .ok (.ldc2_w 77, 3) := by decide +kernel
theorem d_Model_tell_43 : decode b_Model_tell 43 = .ok (.invokestatic 79, 3) := by decide +kernel
theorem d_Model_tell_46 : decode b_Model_tell 46 = .ok (.ifCond .eq 29, 3) := by decide +kernel
theorem d_Model_tell_49 : decode b_Model_tell 49 = .ok (.lload 7, 2) := by decide +kernel
theorem d_Model_tell_51 : decode b_Model_tell 51 = .ok (.ldc2_w 85, 3) := by decide +kernel
theorem d_Model_tell_54 : decode b_Model_tell 54 = .ok (.ldc2_w 87, 3) := by decide +kernel
theorem d_Model_tell_57 : decode b_Model_tell 57 = .ok (.invokestatic 79, 3) := by decide +kernel
theorem d_Model_tell_60 : decode b_Model_tell 60 = .ok (.ifCond .eq 15, 3) := by decide +kernel
theorem d_Model_tell_63 : decode b_Model_tell 63 = .ok (.lload 9, 2) := by decide +kernel
theorem d_Model_tell_65 : decode b_Model_tell 65 = .ok (.lconst 0, 1) := by decide +kernel
theorem d_Model_tell_66 : decode b_Model_tell 66 = .ok (.ldc2_w 77, 3) := by decide +kernel
theorem d_Model_tell_69 : decode b_Model_tell 69 = .ok (.invokestatic 79, 3) := by decide +kernel
theorem d_Model_tell_72 : decode b_Model_tell 72 = .ok (.ifCond .ne 5, 3) := by decide +kernel
theorem d_Model_tell_75 : decode b_Model_tell 75 = .ok (.iconst (-1), 1) := by decide +kernel
theorem d_Model_tell_76 : decode b_Model_tell 76 = .ok (.ireturn, 1) := by decide +kernel
theorem d_Model_tell_77 : decode b_Model_tell 77 = .ok (.iconst 0, 1) := by decide +kernel
theorem d_Model_tell_78 : decode b_Model_tell 78 = .ok (.istore 11, 2) := by decide +kernel
theorem d_Model_tell_80 : decode b_Model_tell 80 = .ok (.iload 11, 2) := by decide +kernel
theorem d_Model_tell_82 : decode b_Model_tell 82 = .ok (.aload_n 0, 1) := by decide +kernel
theorem d_Model_tell_83 : decode b_Model_tell 83 = .ok (.getfield 89, 3) := by decide +kernel
theorem d_Model_tell_86 : decode b_Model_tell 86 = .ok (.if_icmp .ge 90, 3) := by decide +kernel
theorem d_Model_tell_89 : decode b_Model_tell 89 = .ok (.aload_n 0, 1) := by decide +kernel
theorem d_Model_tell_90 : decode b_Model_tell 90 = .ok (.getfield 17, 3) := by decide +kernel
theorem d_Model_tell_93 : decode b_Model_tell 93 = .ok (.iload 11, 2) := by decide +kernel
theorem d_Model_tell_95 : decode b_Model_tell 95 = .ok (.iaload, 1) := by decide +kernel
theorem d_Model_tell_96 : decode b_Model_tell 96 = .ok (.iload_n 1, 1) := by decide +kernel
theorem d_Model_tell_97 : decode b_Model_tell 97 = .ok (.if_icmp .ne 73, 3) := by decide +kernel
theorem d_Model_tell_100 : decode b_Model_tell 100 = .ok (.aload_n 0, 1) := by decide +kernel
theorem d_Model_tell_101 : decode b_Model_tell 101 = .ok (.getfield 20, 3) := by decide +kernel
theorem d_Model_tell_104 : decode b_Model_tell 104 = .ok (.iload 11, 2) := by decide +kernel
theorem d_Model_tell_106 : decode b_Model_tell 106 = .ok (.iaload, 1) := by decide +kernel
theorem d_Model_tell_107 : decode b_Model_tell 107 = .ok (.aload_n 0, 1) := by decide +kernel
theorem d_Model_tell_108 : decode b_Model_tell 108 = .ok (.getfield 7, 3) := by decide +kernel
theorem d_Model_tell_111 : decode b_Model_tell 111 = .ok (.iload_n 1, 1) := by decide +kernel
theorem d_Model_tell_112 : decode b_Model_tell 112 = .ok (.iaload, 1) := by decide +kernel
theorem d_Model_tell_113 : decode b_Model_tell 113 = .ok (.if_icmp .ne 57, 3) := by decide +kernel
theorem d_Model_tell_116 : decode b_Model_tell 116 = .ok (.aload_n 0, 1) := by decide +kernel
theorem d_Model_tell_117 : decode b_Model_tell 117 = .ok (.getfield 23, 3) := by decide +kernel
theorem d_Model_tell_120 : decode b_Model_tell 120 = .ok (.iload 11, 2) := by decide +kernel
theorem d_Model_tell_122 : decode b_Model_tell 122 = .ok (.iaload, 1) := by decide +kernel
theorem d_Model_tell_123 : decode b_Model_tell 123 = .ok (.i2l, 1) := by decide +kernel
theorem d_Model_tell_124 : decode b_Model_tell 124 = .ok (.lload_n 2, 1) := by decide +kernel
theorem d_Model_tell_125 : decode b_Model_tell 125 = .ok (.lcmp, 1) := by decide +kernel
theorem d_Model_tell_126 : decode b_Model_tell 126 = .ok (.ifCond .ne 44, 3) := by decide +kernel
theorem d_Model_tell_129 : decode b_Model_tell 129 = .ok (.aload_n 0, 1) := by decide +kernel
theorem d_Model_tell_130 : decode b_Model_tell 130 = .ok (.getfield 26, 3) := by decide +kernel
theorem d_Model_tell_133 : decode b_Model_tell 133 = .ok (.iload 11, 2) := by decide +kernel
theorem d_Model_tell_135 : decode b_Model_tell 135 = .ok (.iaload, 1) := by decide +kernel
theorem d_Model_tell_136 : decode b_Model_tell 136 = .ok (.iload 4, 2) := by decide +kernel
theorem d_Model_tell_138 : decode b_Model_tell 138 = .ok (.if_icmp .ne 32, 3) := by decide +kernel
theorem d_Model_tell_141 : decode b_Model_tell 141 = .ok (.aload_n 0, 1) := by decide +kernel
theorem d_Model_tell_142 : decode b_Model_tell 142 = .ok (.getfield 29, 3) := by decide +kernel
theorem d_Model_tell_145 : decode b_Model_tell 145 = .ok (.iload 11, 2) := by decide +kernel
theorem d_Model_tell_147 : decode b_Model_tell 147 = .ok (.iaload, 1) := by decide +kernel
theorem d_Model_tell_148 : decode b_Model_tell 148 = .ok (.i2l, 1) := by decide +kernel
theorem d_Model_tell_149 : decode b_Model_tell 149 = .ok (.lload 5, 2) := by decide +kernel
theorem d_Model_tell_151 : decode b_Model_tell 151 = .ok (.lcmp, 1) := by decide +kernel
theorem d_Model_tell_152 : decode b_Model_tell 152 = .ok (.ifCond .ne 18, 3) := by decide +kernel
theorem d_Model_tell_155 : decode b_Model_tell 155 = .ok (.aload_n 0, 1) := by decide +kernel
theorem d_Model_tell_156 : decode b_Model_tell 156 = .ok (.getfield 32, 3) := by decide +kernel
theorem d_Model_tell_159 : decode b_Model_tell 159 = .ok (.iload 11, 2) := by decide +kernel
theorem d_Model_tell_161 : decode b_Model_tell 161 = .ok (.laload, 1) := by decide +kernel
theorem d_Model_tell_162 : decode b_Model_tell 162 = .ok (.lload 7, 2) := by decide +kernel
theorem d_Model_tell_164 : decode b_Model_tell 164 = .ok (.lcmp, 1) := by decide +kernel
theorem d_Model_tell_165 : decode b_Model_tell 165 = .ok (.ifCond .ne 5, 3) := by decide +kernel
theorem d_Model_tell_168 : decode b_Model_tell 168 = .ok (.iconst 0, 1) := by decide +kernel
theorem d_Model_tell_169 : decode b_Model_tell 169 = .ok (.ireturn, 1) := by decide +kernel
theorem d_Model_tell_170 : decode b_Model_tell 170 = .ok (.iinc 11 1, 3) := by decide +kernel
theorem d_Model_tell_173 : decode b_Model_tell 173 = .ok (.goto (-93), 3) := by decide +kernel
theorem d_Model_tell_176 : decode b_Model_tell 176 = .ok (.aload_n 0, 1) := by decide +kernel
theorem d_Model_tell_177 : decode b_Model_tell 177 = .ok (.getfield 89, 3) := by decide +kernel
theorem d_Model_tell_180 : decode b_Model_tell 180 = .ok (.bipush 60, 2) := by decide +kernel
theorem d_Model_tell_182 : decode b_Model_tell 182 = .ok (.if_icmp .ne 5, 3) := by decide +kernel
theorem d_Model_tell_185 : decode b_Model_tell 185 = .ok (.iconst (-1), 1) := by decide +kernel
theorem d_Model_tell_186 : decode b_Model_tell 186 = .ok (.ireturn, 1) := by decide +kernel
theorem d_Model_tell_187 : decode b_Model_tell 187 = .ok (.aload_n 0, 1) := by decide +kernel
theorem d_Model_tell_188 : decode b_Model_tell 188 = .ok (.getfield 17, 3) := by decide +kernel
theorem d_Model_tell_191 : decode b_Model_tell 191 = .ok (.aload_n 0, 1) := by decide +kernel
theorem d_Model_tell_192 : decode b_Model_tell 192 = .ok (.getfield 89, 3) := by decide +kernel
theorem d_Model_tell_195 : decode b_Model_tell 195 = .ok (.iload_n 1, 1) := by decide +kernel
theorem d_Model_tell_196 : decode b_Model_tell 196 = .ok (.iastore, 1) := by decide +kernel
theorem d_Model_tell_197 : decode b_Model_tell 197 = .ok (.aload_n 0, 1) := by decide +kernel
theorem d_Model_tell_198 : decode b_Model_tell 198 = .ok (.getfield 20, 3) := by decide +kernel
theorem d_Model_tell_201 : decode b_Model_tell 201 = .ok (.aload_n 0, 1) := by decide +kernel
theorem d_Model_tell_202 : decode b_Model_tell 202 = .ok (.getfield 89, 3) := by decide +kernel
theorem d_Model_tell_205 : decode b_Model_tell 205 = .ok (.aload_n 0, 1) := by decide +kernel
theorem d_Model_tell_206 : decode b_Model_tell 206 = .ok (.getfield 7, 3) := by decide +kernel
theorem d_Model_tell_209 : decode b_Model_tell 209 = .ok (.iload_n 1, 1) := by decide +kernel
theorem d_Model_tell_210 : decode b_Model_tell 210 = .ok (.iaload, 1) := by decide +kernel
theorem d_Model_tell_211 : decode b_Model_tell 211 = .ok (.iastore, 1) := by decide +kernel
theorem d_Model_tell_212 : decode b_Model_tell 212 = .ok (.aload_n 0, 1) := by decide +kernel
theorem d_Model_tell_213 : decode b_Model_tell 213 = .ok (.getfield 23, 3) := by decide +kernel
theorem d_Model_tell_216 : decode b_Model_tell 216 = .ok (.aload_n 0, 1) := by decide +kernel
theorem d_Model_tell_217 : decode b_Model_tell 217 = .ok (.getfield 89, 3) := by decide +kernel
theorem d_Model_tell_220 : decode b_Model_tell 220 = .ok (.lload_n 2, 1) := by decide +kernel
theorem d_Model_tell_221 : decode b_Model_tell 221 = .ok (.l2i, 1) := by decide +kernel
theorem d_Model_tell_222 : decode b_Model_tell 222 = .ok (.iastore, 1) := by decide +kernel
theorem d_Model_tell_223 : decode b_Model_tell 223 = .ok (.aload_n 0, 1) := by decide +kernel
theorem d_Model_tell_224 : decode b_Model_tell 224 = .ok (.getfield 26, 3) := by decide +kernel
theorem d_Model_tell_227 : decode b_Model_tell 227 = .ok (.aload_n 0, 1) := by decide +kernel
theorem d_Model_tell_228 : decode b_Model_tell 228 = .ok (.getfield 89, 3) := by decide +kernel
theorem d_Model_tell_231 : decode b_Model_tell 231 = .ok (.iload 4, 2) := by decide +kernel
theorem d_Model_tell_233 : decode b_Model_tell 233 = .ok (.iastore, 1) := by decide +kernel
theorem d_Model_tell_234 : decode b_Model_tell 234 = .ok (.aload_n 0, 1) := by decide +kernel
theorem d_Model_tell_235 : decode b_Model_tell 235 = .ok (.getfield 29, 3) := by decide +kernel
theorem d_Model_tell_238 : decode b_Model_tell 238 = .ok (.aload_n 0, 1) := by decide +kernel
theorem d_Model_tell_239 : decode b_Model_tell 239 = .ok (.getfield 89, 3) := by decide +kernel
theorem d_Model_tell_242 : decode b_Model_tell 242 = .ok (.lload 5, 2) := by decide +kernel
theorem d_Model_tell_244 : decode b_Model_tell 244 = .ok (.l2i, 1) := by decide +kernel
theorem d_Model_tell_245 : decode b_Model_tell 245 = .ok (.iastore, 1) := by decide +kernel
theorem d_Model_tell_246 : decode b_Model_tell 246 = .ok (.aload_n 0, 1) := by decide +kernel
theorem d_Model_tell_247 : decode b_Model_tell 247 = .ok (.getfield 32, 3) := by decide +kernel
theorem d_Model_tell_250 : decode b_Model_tell 250 = .ok (.aload_n 0, 1) := by decide +kernel
theorem d_Model_tell_251 : decode b_Model_tell 251 = .ok (.getfield 89, 3) := by decide +kernel
theorem d_Model_tell_254 : decode b_Model_tell 254 = .ok (.lload 7, 2) := by decide +kernel
theorem d_Model_tell_256 : decode b_Model_tell 256 = .ok (.lastore, 1) := by decide +kernel
theorem d_Model_tell_257 : decode b_Model_tell 257 = .ok (.aload_n 0, 1) := by decide +kernel
theorem d_Model_tell_258 : decode b_Model_tell 258 = .ok (.getfield 35, 3) := by decide +kernel
theorem d_Model_tell_261 : decode b_Model_tell 261 = .ok (.aload_n 0, 1) := by decide +kernel
theorem d_Model_tell_262 : decode b_Model_tell 262 = .ok (.getfield 89, 3) := by decide +kernel
theorem d_Model_tell_265 : decode b_Model_tell 265 = .ok (.lload 9, 2) := by decide +kernel
theorem d_Model_tell_267 : decode b_Model_tell 267 = .ok (.l2i, 1) := by decide +kernel
theorem d_Model_tell_268 : decode b_Model_tell 268 = .ok (.iastore, 1) := by decide +kernel
theorem d_Model_tell_269 : decode b_Model_tell 269 = .ok (.aload_n 0, 1) := by decide +kernel
theorem d_Model_tell_270 : decode b_Model_tell 270 = .ok (.dup, 1) := by decide +kernel
theorem d_Model_tell_271 : decode b_Model_tell 271 = .ok (.getfield 89, 3) := by decide +kernel
theorem d_Model_tell_274 : decode b_Model_tell 274 = .ok (.iconst 1, 1) := by decide +kernel
theorem d_Model_tell_275 : decode b_Model_tell 275 = .ok (.iadd, 1) := by decide +kernel
theorem d_Model_tell_276 : decode b_Model_tell 276 = .ok (.putfield 89, 3) := by decide +kernel
theorem d_Model_tell_279 : decode b_Model_tell 279 = .ok (.iconst 1, 1) := by decide +kernel
theorem d_Model_tell_280 : decode b_Model_tell 280 = .ok (.ireturn, 1) := by decide +kernel
theorem d_Model_reset_0 : decode b_Model_reset 0 = .ok (.aload_n 0, 1) := by decide +kernel
theorem d_Model_reset_1 : decode b_Model_reset 1 = .ok (.iload_n 1, 1) := by decide +kernel
theorem d_Model_reset_2 : decode b_Model_reset 2 = .ok (.invokevirtual 73, 3) := by decide +kernel
theorem d_Model_reset_5 : decode b_Model_reset 5 = .ok (.ifCond .eq 25, 3) := by decide +kernel
theorem d_Model_reset_8 : decode b_Model_reset 8 = .ok (.lload_n 2, 1) := by decide +kernel
theorem d_Model_reset_9 : decode b_Model_reset 9 = .ok (.lconst 0, 1) := by decide +kernel
theorem d_Model_reset_10 : decode b_Model_reset 10 = .ok (.ldc2_w 77, 3) := by decide +kernel
theorem d_Model_reset_13 : decode b_Model_reset 13 = .ok (.invokestatic 79, 3) := by decide +kernel
theorem d_Model_reset_16 : decode b_Model_reset 16 = .ok (.ifCond .eq 14, 3) := by decide +kernel
theorem d_Model_reset_19 : decode b_Model_reset 19 = .ok (.aload_n 0, 1) := by decide +kernel
theorem d_Model_reset_20 : decode b_Model_reset 20 = .ok (.getfield 7, 3) := by decide +kernel
theorem d_Model_reset_23 : decode b_Model_reset 23 = .ok (.iload_n 1, 1) := by decide +kernel
theorem d_Model_reset_24 : decode b_Model_reset 24 = .ok (.iaload, 1) := by decide +kernel
theorem d_Model_reset_25 : decode b_Model_reset 25 = .ok (.bipush 99, 2) := by decide +kernel
theorem d_Model_reset_27 : decode b_Model_reset 27 = .ok (.if_icmp .ne 5, 3) := by decide +kernel
theorem d_Model_reset_30 : decode b_Model_reset 30 = .ok (.iconst 0, 1) := by decide +kernel
theorem d_Model_reset_31 : decode b_Model_reset 31 = .ok (.ireturn, 1) := by decide +kernel
theorem d_Model_reset_32 : decode b_Model_reset 32 = .ok (.aload_n 0, 1) := by decide +kernel
theorem d_Model_reset_33 : decode b_Model_reset 33 = .ok (.getfield 7, 3) := by decide +kernel
theorem d_Model_reset_36 : decode b_Model_reset 36 = .ok (.iload_n 1, 1) := by decide +kernel
theorem d_Model_reset_37 : decode b_Model_reset 37 = .ok (.dup2, 1) := by decide +kernel
theorem d_Model_reset_38 : decode b_Model_reset 38 = .ok (.iaload, 1) := by decide +kernel
theorem d_Model_reset_39 : decode b_Model_reset 39 = .ok (.iconst 1, 1) := by decide +kernel
theorem d_Model_reset_40 : decode b_Model_reset 40 = .ok (.iadd, 1) := by decide +kernel
theorem d_Model_reset_41 : decode b_Model_reset 41 = .ok (.iastore, 1) := by decide +kernel
theorem d_Model_reset_42 : decode b_Model_reset 42 = .ok (.aload_n 0, 1) := by decide +kernel
theorem d_Model_reset_43 : decode b_Model_reset 43 = .ok (.getfield 13, 3) := by decide +kernel
theorem d_Model_reset_46 : decode b_Model_reset 46 = .ok (.iload_n 1, 1) := by decide +kernel
theorem d_Model_reset_47 : decode b_Model_reset 47 = .ok (.lload_n 2, 1) := by decide +kernel
theorem d_Model_reset_48 : decode b_Model_reset 48 = .ok (.lastore, 1) := by decide +kernel
theorem d_Model_reset_49 : decode b_Model_reset 49 = .ok (.iconst 1, 1) := by decide +kernel
theorem d_Model_reset_50 : decode b_Model_reset 50 = .ok (.ireturn, 1) := by decide +kernel
theorem d_Model_life_0 : decode b_Model_life 0 = .ok (.aload_n 0, 1) := by decide +kernel
theorem d_Model_life_1 : decode b_Model_life 1 = .ok (.iload_n 1, 1) := by decide +kernel
theorem d_Model_life_2 : decode b_Model_life 2 = .ok (.invokevirtual 73, 3) := by decide +kernel
theorem d_Model_life_5 : decode b_Model_life 5 = .ok (.ifCond .eq 12, 3) := by decide +kernel
theorem d_Model_life_8 : decode b_Model_life 8 = .ok (.aload_n 0, 1) := by decide +kernel
theorem d_Model_life_9 : decode b_Model_life 9 = .ok (.getfield 7, 3) := by decide +kernel
theorem d_Model_life_12 : decode b_Model_life 12 = .ok (.iload_n 1, 1) := by decide +kernel
theorem d_Model_life_13 : decode b_Model_life 13 = .ok (.iaload, 1) := by decide +kernel
theorem d_Model_life_14 : decode b_Model_life 14 = .ok (.goto 4, 3) := by decide +kernel
theorem d_Model_life_17 : decode b_Model_life 17 = .ok (.iconst (-1), 1) := by decide +kernel
theorem d_Model_life_18 : decode b_Model_life 18 = .ok (.ireturn, 1) := by decide +kernel
theorem d_Model_set_0 : decode b_Model_set 0 = .ok (.aload_n 0, 1) := by decide +kernel
theorem d_Model_set_1 : decode b_Model_set 1 = .ok (.iload_n 1, 1) := by decide +kernel
theorem d_Model_set_2 : decode b_Model_set 2 = .ok (.invokevirtual 73, 3) := by decide +kernel
theorem d_Model_set_5 : decode b_Model_set 5 = .ok (.ifCond .eq 12, 3) := by decide +kernel
theorem d_Model_set_8 : decode b_Model_set 8 = .ok (.aload_n 0, 1) := by decide +kernel
theorem d_Model_set_9 : decode b_Model_set 9 = .ok (.getfield 70, 3) := by decide +kernel
theorem d_Model_set_12 : decode b_Model_set 12 = .ok (.bipush 6, 2) := by decide +kernel
theorem d_Model_set_14 : decode b_Model_set 14 = .ok (.if_icmp .ne 5, 3) := by decide +kernel
theorem d_Model_set_17 : decode b_Model_set 17 = .ok (.iconst (-1), 1) := by decide +kernel
theorem d_Model_set_18 : decode b_Model_set 18 = .ok (.ireturn, 1) := by decide +kernel
theorem d_Model_set_19 : decode b_Model_set 19 = .ok (.iconst 0, 1) := by decide +kernel
theorem d_Model_set_20 : decode b_Model_set 20 = .ok (.istore_n 2, 1) := by decide +kernel
theorem d_Model_set_21 : decode b_Model_set 21 = .ok (.iload_n 2, 1) := by decide +kernel
theorem d_Model_set_22 : decode b_Model_set 22 = .ok (.aload_n 0, 1) := by decide +kernel
theorem d_Model_set_23 : decode b_Model_set 23 = .ok (.getfield 89, 3) := by decide +kernel
theorem d_Model_set_26 : decode b_Model_set 26 = .ok (.if_icmp .ge 38, 3) := by decide +kernel
theorem d_Model_set_29 : decode b_Model_set 29 = .ok (.aload_n 0, 1) := by decide +kernel
theorem d_Model_set_30 : decode b_Model_set 30 = .ok (.getfield 41, 3) := by decide +kernel
theorem d_Model_set_33 : decode b_Model_set 33 = .ok (.bipush 60, 2) := by decide +kernel
theorem d_Model_set_35 : decode b_Model_set 35 = .ok (.aload_n 0, 1) := by decide +kernel
theorem d_Model_set_36 : decode b_Model_set 36 = .ok (.getfield 70, 3) := by decide +kernel
theorem d_Model_set_39 : decode b_Model_set 39 = .ok (.imul, 1) := by decide +kernel
theorem d_Model_set_40 : decode b_Model_set 40 = .ok (.iload_n 2, 1) := by decide +kernel
theorem d_Model_set_41 : decode b_Model_set 41 = .ok (.iadd, 1) := by decide +kernel
theorem d_Model_set_42 : decode b_Model_set 42 = .ok (.aload_n 0, 1) := by decide +kernel
theorem d_Model_set_43 : decode b_Model_set 43 = .ok (.getfield 17, 3) := by decide +kernel
theorem d_Model_set_46 : decode b_Model_set 46 = .ok (.iload_n 2, 1) := by decide +kernel
theorem d_Model_set_47 : decode b_Model_set 47 = .ok (.iaload, 1) := by decide +kernel
theorem d_Model_set_48 : decode b_Model_set 48 = .ok (.iload_n 1, 1) := by decide +kernel
theorem d_Model_set_49 : decode b_Model_set 49 = .ok (.if_icmp .ne 7, 3) := by decide +kernel
theorem d_Model_set_52 : decode b_Model_set 52 = .ok (.iconst 1, 1) := by decide +kernel
theorem d_Model_set_53 : decode b_Model_set 53 = .ok (.goto 4, 3) := by decide +kernel
theorem d_Model_set_56 : decode b_Model_set 56 = .ok (.iconst 0, 1) := by decide +kernel
theorem d_Model_set_57 : decode b_Model_set 57 = .ok (.bastore, 1) := by decide +kernel
theorem d_Model_set_58 : decode b_Model_set 58 = .ok (.iinc 2 1, 3) := by decide +kernel
theorem d_Model_set_61 : decode b_Model_set 61 = .ok (.goto (-40), 3) := by decide +kernel
theorem d_Model_set_64 : decode b_Model_set 64 = .ok (.aload_n 0, 1) := by decide +kernel
theorem d_Model_set_65 : decode b_Model_set 65 = .ok (.dup, 1) := by decide +kernel
theorem d_Model_set_66 : decode b_Model_set 66 = .ok (.getfield 70, 3) := by decide +kernel
theorem d_Model_set_69 : decode b_Model_set 69 = .ok (.iconst 1, 1) := by decide +kernel
theorem d_Model_set_70 : decode b_Model_set 70 = .ok (.iadd, 1) := by decide +kernel
theorem d_Model_set_71 : decode b_Model_set 71 = .ok (.putfield 70, 3) := by decide +kernel
theorem d_Model_set_74 : decode b_Model_set 74 = .ok (.aload_n 0, 1) := by decide +kernel
theorem d_Model_set_75 : decode b_Model_set 75 = .ok (.getfield 70, 3) := by decide +kernel
theorem d_Model_set_78 : decode b_Model_set 78 = .ok (.iconst 1, 1) := by decide +kernel
theorem d_Model_set_79 : decode b_Model_set 79 = .ok (.isub, 1) := by decide +kernel
theorem d_Model_set_80 : decode b_Model_set 80 = .ok (.ireturn, 1) := by decide +kernel
theorem d_Model_bring_0 : decode b_Model_bring 0 = .ok (.aload_n 0, 1) := by decide +kernel
theorem d_Model_bring_1 : decode b_Model_bring 1 = .ok (.getfield 51, 3) := by decide +kernel
theorem d_Model_bring_4 : decode b_Model_bring 4 = .ok (.iload_n 2, 1) := by decide +kernel
theorem d_Model_bring_5 : decode b_Model_bring 5 = .ok (.laload, 1) := by decide +kernel
theorem d_Model_bring_6 : decode b_Model_bring 6 = .ok (.aload_n 0, 1) := by decide +kernel
theorem d_Model_bring_7 : decode b_Model_bring 7 = .ok (.getfield 51, 3) := by decide +kernel
theorem d_Model_bring_10 : decode b_Model_bring 10 = .ok (.iload_n 1, 1) := by decide +kernel
theorem d_Model_bring_11 : decode b_Model_bring 11 = .ok (.laload, 1) := by decide +kernel
theorem d_Model_bring_12 : decode b_Model_bring 12 = .ok (.lcmp, 1) := by decide +kernel
theorem d_Model_bring_13 : decode b_Model_bring 13 = .ok (.ifCond .le 7, 3) := by decide +kernel
theorem d_Model_bring_16 : decode b_Model_bring 16 = .ok (.iconst 1, 1) := by decide +kernel
theorem d_Model_bring_17 : decode b_Model_bring 17 = .ok (.goto 4, 3) := by decide +kernel
theorem d_Model_bring_20 : decode b_Model_bring 20 = .ok (.iconst 0, 1) := by decide +kernel
theorem d_Model_bring_21 : decode b_Model_bring 21 = .ok (.istore_n 3, 1) := by decide +kernel
theorem d_Model_bring_22 : decode b_Model_bring 22 = .ok (.aload_n 0, 1) := by decide +kernel
theorem d_Model_bring_23 : decode b_Model_bring 23 = .ok (.getfield 51, 3) := by decide +kernel
theorem d_Model_bring_26 : decode b_Model_bring 26 = .ok (.iload_n 1, 1) := by decide +kernel
theorem d_Model_bring_27 : decode b_Model_bring 27 = .ok (.iload_n 3, 1) := by decide +kernel
theorem d_Model_bring_28 : decode b_Model_bring 28 = .ok (.ifCond .eq 12, 3) := by decide +kernel
theorem d_Model_bring_31 : decode b_Model_bring 31 = .ok (.aload_n 0, 1) := by decide +kernel
theorem d_Model_bring_32 : decode b_Model_bring 32 = .ok (.getfield 51, 3) := by decide +kernel
theorem d_Model_bring_35 : decode b_Model_bring 35 = .ok (.iload_n 2, 1) := by decide +kernel
theorem d_Model_bring_36 : decode b_Model_bring 36 = .ok (.laload, 1) := by decide +kernel
theorem d_Model_bring_37 : decode b_Model_bring 37 = .ok (.goto 9, 3) := by decide +kernel
theorem d_Model_bring_40 : decode b_Model_bring 40 = .ok (.aload_n 0, 1) := by decide +kernel
theorem d_Model_bring_41 : decode b_Model_bring 41 = .ok (.getfield 51, 3) := by decide +kernel
theorem d_Model_bring_44 : decode b_Model_bring 44 = .ok (.iload_n 1, 1) := by decide +kernel
theorem d_Model_bring_45 : decode b_Model_bring 45 = .ok (.laload, 1) := by decide +kernel
theorem d_Model_bring_46 : decode b_Model_bring 46 = .ok (.lastore, 1) := by decide +kernel
theorem d_Model_bring_47 : decode b_Model_bring 47 = .ok (.iconst 0, 1) := by decide +kernel
theorem d_Model_bring_48 : decode b_Model_bring 48 = .ok (.istore 4, 2) := by decide +kernel
theorem d_Model_bring_50 : decode b_Model_bring 50 = .ok (.iload 4, 2) := by decide +kernel
theorem d_Model_bring_52 : decode b_Model_bring 52 = .ok (.bipush 60, 2) := by decide +kernel
theorem d_Model_bring_54 : decode b_Model_bring 54 = .ok (.if_icmp .ge 141, 3) := by decide +kernel
theorem d_Model_bring_57 : decode b_Model_bring 57 = .ok (.bipush 60, 2) := by decide +kernel
theorem d_Model_bring_59 : decode b_Model_bring 59 = .ok (.iload_n 1, 1) := by decide +kernel
theorem d_Model_bring_60 : decode b_Model_bring 60 = .ok (.imul, 1) := by decide +kernel
theorem d_Model_bring_61 : decode b_Model_bring 61 = .ok (.iload 4, 2) := by decide +kernel
theorem d_Model_bring_63 : decode b_Model_bring 63 = .ok (.iadd, 1) := by decide +kernel
theorem d_Model_bring_64 : decode b_Model_bring 64 = .ok (.istore 5, 2) := by decide +kernel
theorem d_Model_bring_66 : decode b_Model_bring 66 = .ok (.bipush 60, 2) := by decide +kernel
theorem d_Model_bring_68 : decode b_Model_bring 68 = .ok (.iload_n 2, 1) := by decide +kernel
theorem d_Model_bring_69 : decode b_Model_bring 69 = .ok (.imul, 1) := by decide +kernel
theorem d_Model_bring_70 : decode b_Model_bring 70 = .ok (.iload 4, 2) := by decide +kernel
theorem d_Model_bring_72 : decode b_Model_bring 72 = .ok (.iadd, 1) := by decide +kernel
theorem d_Model_bring_73 : decode b_Model_bring 73 = .ok (.istore 6, 2) := by decide +kernel
theorem d_Model_bring_75 : decode b_Model_bring 75 = .ok (.iload_n 3, 1) := by decide +kernel
theorem d_Model_bring_76 : decode b_Model_bring 76 = .ok (.ifCond .ne 43, 3) := by decide +kernel
theorem d_Model_bring_79 : decode b_Model_bring 79 = .ok (.aload_n 0, 1) := by decide +kernel
theorem d_Model_bring_80 : decode b_Model_bring 80 = .ok (.getfield 41, 3) := by decide +kernel
theorem d_Model_bring_83 : decode b_Model_bring 83 = .ok (.iload 6, 2) := by decide +kernel
theorem d_Model_bring_85 : decode b_Model_bring 85 = .ok (.baload, 1) := by decide +kernel
theorem d_Model_bring_86 : decode b_Model_bring 86 = .ok (.ifCond .eq 13, 3) := by decide +kernel
theorem d_Model_bring_89 : decode b_Model_bring 89 = .ok (.aload_n 0, 1) := by decide +kernel
theorem d_Model_bring_90 : decode b_Model_bring 90 = .ok (.getfield 41, 3) := by decide +kernel
theorem d_Model_bring_93 : decode b_Model_bring 93 = .ok (.iload 5, 2) := by decide +kernel
theorem d_Model_bring_95 : decode b_Model_bring 95 = .ok (.baload, 1) := by decide +kernel
theorem d_Model_bring_96 : decode b_Model_bring 96 = .ok (.ifCond .eq 23, 3) := by decide +kernel
theorem d_Model_bring_99 : decode b_Model_bring 99 = .ok (.aload_n 0, 1) := by decide +kernel
theorem d_Model_bring_100 : decode b_Model_bring 100 = .ok (.getfield 45, 3) := by decide +kernel
theorem d_Model_bring_103 : decode b_Model_bring 103 = .ok (.iload 6, 2) := by decide +kernel
theorem d_Model_bring_105 : decode b_Model_bring 105 = .ok (.baload, 1) := by decide +kernel
theorem d_Model_bring_106 : decode b_Model_bring 106 = .ok (.ifCond .eq 17, 3) := by decide +kernel
theorem d_Model_bring_109 : decode b_Model_bring 109 = .ok (.aload_n 0, 1) := by decide +kernel
theorem d_Model_bring_110 : decode b_Model_bring 110 = .ok (.getfield 45, 3) := by decide +kernel
theorem d_Model_bring_113 : decode b_Model_bring 113 = .ok (.iload 5, 2) := by decide +kernel
theorem d_Model_bring_115 : decode b_Model_bring 115 = .ok (.baload, 1) := by decide +kernel
theorem d_Model_bring_116 : decode b_Model_bring 116 = .ok (.ifCond .ne 7, 3) := by decide +kernel
theorem d_Model_bring_119 : decode b_Model_bring 119 = .ok (.iconst 1, 1) := by decide +kernel
theorem d_Model_bring_120 : decode b_Model_bring 120 = .ok (.goto 4, 3) := by decide +kernel
theorem d_Model_bring_123 : decode b_Model_bring 123 = .ok (.iconst 0, 1) := by decide +kernel
theorem d_Model_bring_124 : decode b_Model_bring 124 = .ok (.istore_n 3, 1) := by decide +kernel
theorem d_Model_bring_125 : decode b_Model_bring 125 = .ok (.aload_n 0, 1) := by decide +kernel
theorem d_Model_bring_126 : decode b_Model_bring 126 = .ok (.getfield 41, 3) := by decide +kernel
theorem d_Model_bring_129 : decode b_Model_bring 129 = .ok (.iload 5, 2) := by decide +kernel
theorem d_Model_bring_131 : decode b_Model_bring 131 = .ok (.aload_n 0, 1) := by decide +kernel
theorem d_Model_bring_132 : decode b_Model_bring 132 = .ok (.getfield 41, 3) := by decide +kernel
theorem d_Model_bring_135 : decode b_Model_bring 135 = .ok (.iload 5, 2) := by decide +kernel
theorem d_Model_bring_137 : decode b_Model_bring 137 = .ok (.baload, 1) := by decide +kernel
theorem d_Model_bring_138 : decode b_Model_bring 138 = .ok (.ifCond .ne 13, 3) := by decide +kernel
theorem d_Model_bring_141 : decode b_Model_bring 141 = .ok (.aload_n 0, 1) := by decide +kernel
theorem d_Model_bring_142 : decode b_Model_bring 142 = .ok (.getfield 41, 3) := by decide +kernel
theorem d_Model_bring_145 : decode b_Model_bring 145 = .ok (.iload 6, 2) := by decide +kernel
theorem d_Model_bring_147 : decode b_Model_bring 147 = .ok (.baload, 1) := by decide +kernel
theorem d_Model_bring_148 : decode b_Model_bring 148 = .ok (.ifCond .eq 7, 3) := by decide +kernel
theorem d_Model_bring_151 : decode b_Model_bring 151 = .ok (.iconst 1, 1) := by decide +kernel
theorem d_Model_bring_152 : decode b_Model_bring 152 = .ok (.goto 4, 3) := by decide +kernel
theorem d_Model_bring_155 : decode b_Model_bring 155 = .ok (.iconst 0, 1) := by decide +kernel
theorem d_Model_bring_156 : decode b_Model_bring 156 = .ok (.bastore, 1) := by decide +kernel
theorem d_Model_bring_157 : decode b_Model_bring 157 = .ok (.aload_n 0, 1) := by decide +kernel
theorem d_Model_bring_158 : decode b_Model_bring 158 = .ok (.getfield 45, 3) := by decide +kernel
theorem d_Model_bring_161 : decode b_Model_bring 161 = .ok (.iload 5, 2) := by decide +kernel
theorem d_Model_bring_163 : decode b_Model_bring 163 = .ok (.aload_n 0, 1) := by decide +kernel
theorem d_Model_bring_164 : decode b_Model_bring 164 = .ok (.getfield 45, 3) := by decide +kernel
theorem d_Model_bring_167 : decode b_Model_bring 167 = .ok (.iload 5, 2) := by decide +kernel
theorem d_Model_bring_169 : decode b_Model_bring 169 = .ok (.baload, 1) := by decide +kernel
theorem d_Model_bring_170 : decode b_Model_bring 170 = .ok (.ifCond .ne 13, 3) := by decide +kernel
theorem d_Model_bring_173 : decode b_Model_bring 173 = .ok (.aload_n 0, 1) := by decide +kernel
theorem d_Model_bring_174 : decode b_Model_bring 174 = .ok (.getfield 45, 3) := by decide +kernel
theorem d_Model_bring_177 : decode b_Model_bring 177 = .ok (.iload 6, 2) := by decide +kernel
theorem d_Model_bring_179 : decode b_Model_bring 179 = .ok (.baload, 1) := by decide +kernel
theorem d_Model_bring_180 : decode b_Model_bring 180 = .ok (.ifCond .eq 7, 3) := by decide +kernel
theorem d_Model_bring_183 : decode b_Model_bring 183 = .ok (.iconst 1, 1) := by decide +kernel
theorem d_Model_bring_184 : decode b_Model_bring 184 = .ok (.goto 4, 3) := by decide +kernel
theorem d_Model_bring_187 : decode b_Model_bring 187 = .ok (.iconst 0, 1) := by decide +kernel
theorem d_Model_bring_188 : decode b_Model_bring 188 = .ok (.bastore, 1) := by decide +kernel
theorem d_Model_bring_189 : decode b_Model_bring 189 = .ok (.iinc 4 1, 3) := by decide +kernel
theorem d_Model_bring_192 : decode b_Model_bring 192 = .ok (.goto (-142), 3) := by decide +kernel
theorem d_Model_bring_195 : decode b_Model_bring 195 = .ok (.iconst 0, 1) := by decide +kernel
theorem d_Model_bring_196 : decode b_Model_bring 196 = .ok (.istore 4, 2) := by decide +kernel
theorem d_Model_bring_198 : decode b_Model_bring 198 = .ok (.iload 4, 2) := by decide +kernel
theorem d_Model_bring_200 : decode b_Model_bring 200 = .ok (.bipush 20, 2) := by decide +kernel
theorem d_Model_bring_202 : decode b_Model_bring 202 = .ok (.if_icmp .ge 89, 3) := by decide +kernel
theorem d_Model_bring_205 : decode b_Model_bring 205 = .ok (.bipush 20, 2) := by decide +kernel
theorem d_Model_bring_207 : decode b_Model_bring 207 = .ok (.iload_n 1, 1) := by decide +kernel
theorem d_Model_bring_208 : decode b_Model_bring 208 = .ok (.imul, 1) := by decide +kernel
theorem d_Model_bring_209 : decode b_Model_bring 209 = .ok (.iload 4, 2) := by decide +kernel
theorem d_Model_bring_211 : decode b_Model_bring 211 = .ok (.iadd, 1) := by decide +kernel
theorem d_Model_bring_212 : decode b_Model_bring 212 = .ok (.istore 5, 2) := by decide +kernel
theorem d_Model_bring_214 : decode b_Model_bring 214 = .ok (.bipush 20, 2) := by decide +kernel
theorem d_Model_bring_216 : decode b_Model_bring 216 = .ok (.iload_n 2, 1) := by decide +kernel
theorem d_Model_bring_217 : decode b_Model_bring 217 = .ok (.imul, 1) := by decide +kernel
theorem d_Model_bring_218 : decode b_Model_bring 218 = .ok (.iload 4, 2) := by decide +kernel
theorem d_Model_bring_220 : decode b_Model_bring 220 = .ok (.iadd, 1) := by decide +kernel
theorem d_Model_bring_221 : decode b_Model_bring 221 = .ok (.istore 6, 2) := by decide +kernel
theorem d_Model_bring_223 : decode b_Model_bring 223 = .ok (.iload_n 3, 1) := by decide +kernel
theorem d_Model_bring_224 : decode b_Model_bring 224 = .ok (.ifCond .ne 23, 3) := by decide +kernel
theorem d_Model_bring_227 : decode b_Model_bring 227 = .ok (.aload_n 0, 1) := by decide +kernel
theorem d_Model_bring_228 : decode b_Model_bring 228 = .ok (.getfield 48, 3) := by decide +kernel
theorem d_Model_bring_231 : decode b_Model_bring 231 = .ok (.iload 6, 2) := by decide +kernel
theorem d_Model_bring_233 : decode b_Model_bring 233 = .ok (.baload, 1) := by decide +kernel
theorem d_Model_bring_234 : decode b_Model_bring 234 = .ok (.ifCond .eq 17, 3) := by decide +kernel
theorem d_Model_bring_237 : decode b_Model_bring 237 = .ok (.aload_n 0, 1) := by decide +kernel
theorem d_Model_bring_238 : decode b_Model_bring 238 = .ok (.getfield 48, 3) := by decide +kernel
theorem d_Model_bring_241 : decode b_Model_bring 241 = .ok (.iload 5, 2) := by decide +kernel
theorem d_Model_bring_243 : decode b_Model_bring 243 = .ok (.baload, 1) := by decide +kernel
theorem d_Model_bring_244 : decode b_Model_bring 244 = .ok (.ifCond .ne 7, 3) := by decide +kernel
theorem d_Model_bring_247 : decode b_Model_bring 247 = .ok (.iconst 1, 1) := by decide +kernel
theorem d_Model_bring_248 : decode b_Model_bring 248 = .ok (.goto 4, 3) := by decide +kernel
theorem d_Model_bring_251 : decode b_Model_bring 251 = .ok (.iconst 0, 1) := by decide +kernel
theorem d_Model_bring_252 : decode b_Model_bring 252 = .ok (.istore_n 3, 1) := by decide +kernel
theorem d_Model_bring_253 : decode b_Model_bring 253 = .ok (.aload_n 0, 1) := by decide +kernel
theorem d_Model_bring_254 : decode b_Model_bring 254 = .ok (.getfield 48, 3) := by decide +kernel
theorem d_Model_bring_257 : decode b_Model_bring 257 = .ok (.iload 5, 2) := by decide +kernel
theorem d_Model_bring_259 : decode b_Model_bring 259 = .ok (.aload_n 0, 1) := by decide +kernel
theorem d_Model_bring_260 : decode b_Model_bring 260 = .ok (.getfield 48, 3) := by decide +kernel
theorem d_Model_bring_263 : decode b_Model_bring 263 = .ok (.iload 5, 2) := by decide +kernel
theorem d_Model_bring_265 : decode b_Model_bring 265 = .ok (.baload, 1) := by decide +kernel
theorem d_Model_bring_266 : decode b_Model_bring 266 = .ok (.ifCond .ne 13, 3) := by decide +kernel
theorem d_Model_bring_269 : decode b_Model_bring 269 = .ok (.aload_n 0, 1) := by decide +kernel
theorem d_Model_bring_270 : decode b_Model_bring 270 = .ok (.getfield 48, 3) := by decide +kernel
theorem d_Model_bring_273 : decode b_Model_bring 273 = .ok (.iload 6, 2) := by decide +kernel
theorem d_Model_bring_275 : decode b_Model_bring 275 = .ok (.baload, 1) := by decide +kernel
theorem d_Model_bring_276 : decode b_Model_bring 276 = .ok (.ifCond .eq 7, 3) := by decide +kernel
theorem d_Model_bring_279 : decode b_Model_bring 279 = .ok (.iconst 1, 1) := by decide +kernel
theorem d_Model_bring_280 : decode b_Model_bring 280 = .ok (.goto 4, 3) := by decide +kernel
theorem d_Model_bring_283 : decode b_Model_bring 283 = .ok (.iconst 0, 1) := by decide +kernel
theorem d_Model_bring_284 : decode b_Model_bring 284 = .ok (.bastore, 1) := by decide +kernel
theorem d_Model_bring_285 : decode b_Model_bring 285 = .ok (.iinc 4 1, 3) := by decide +kernel
theorem d_Model_bring_288 : decode b_Model_bring 288 = .ok (.goto (-90), 3) := by decide +kernel
theorem d_Model_bring_291 : decode b_Model_bring 291 = .ok (.iload_n 3, 1) := by decide +kernel
theorem d_Model_bring_292 : decode b_Model_bring 292 = .ok (.ireturn, 1) := by decide +kernel
theorem d_Model_joinTo_0 : decode b_Model_joinTo 0 = .ok (.aload_n 0, 1) := by decide +kernel
theorem d_Model_joinTo_1 : decode b_Model_joinTo 1 = .ok (.aload_n 0, 1) := by decide +kernel
theorem d_Model_joinTo_2 : decode b_Model_joinTo 2 = .ok (.getfield 54, 3) := by decide +kernel
theorem d_Model_joinTo_5 : decode b_Model_joinTo 5 = .ok (.iload_n 1, 1) := by decide +kernel
theorem d_Model_joinTo_6 : decode b_Model_joinTo 6 = .ok (.iaload, 1) := by decide +kernel
theorem d_Model_joinTo_7 : decode b_Model_joinTo 7 = .ok (.ifCond .lt 10, 3) := by decide +kernel
theorem d_Model_joinTo_10 : decode b_Model_joinTo 10 = .ok (.bipush 6, 2) := by decide +kernel
theorem d_Model_joinTo_12 : decode b_Model_joinTo 12 = .ok (.iload_n 1, 1) := by decide +kernel
theorem d_Model_joinTo_13 : decode b_Model_joinTo 13 = .ok (.iadd, 1) := by decide +kernel
theorem d_Model_joinTo_14 : decode b_Model_joinTo 14 = .ok (.goto 4, 3) := by decide +kernel
theorem d_Model_joinTo_17 : decode b_Model_joinTo 17 = .ok (.iload_n 1, 1) := by decide +kernel
theorem d_Model_joinTo_18 : decode b_Model_joinTo 18 = .ok (.iload_n 2, 1) := by decide +kernel
theorem d_Model_joinTo_19 : decode b_Model_joinTo 19 = .ok (.invokevirtual 92, 3) := by decide +kernel
theorem d_Model_joinTo_22 : decode b_Model_joinTo 22 = .ok (.ireturn, 1) := by decide +kernel
theorem d_Model_join_0 : decode b_Model_join 0 = .ok (.aload_n 0, 1) := by decide +kernel
theorem d_Model_join_1 : decode b_Model_join 1 = .ok (.iload_n 1, 1) := by decide +kernel
theorem d_Model_join_2 : decode b_Model_join 2 = .ok (.invokevirtual 96, 3) := by decide +kernel
theorem d_Model_join_5 : decode b_Model_join 5 = .ok (.ifCond .eq 11, 3) := by decide +kernel
theorem d_Model_join_8 : decode b_Model_join 8 = .ok (.aload_n 0, 1) := by decide +kernel
theorem d_Model_join_9 : decode b_Model_join 9 = .ok (.iload_n 2, 1) := by decide +kernel
theorem d_Model_join_10 : decode b_Model_join 10 = .ok (.invokevirtual 96, 3) := by decide +kernel
theorem d_Model_join_13 : decode b_Model_join 13 = .ok (.ifCond .ne 5, 3) := by decide +kernel
theorem d_Model_join_16 : decode b_Model_join 16 = .ok (.iconst (-1), 1) := by decide +kernel
theorem d_Model_join_17 : decode b_Model_join 17 = .ok (.ireturn, 1) := by decide +kernel
theorem d_Model_join_18 : decode b_Model_join 18 = .ok (.aload_n 0, 1) := by decide +kernel
theorem d_Model_join_19 : decode b_Model_join 19 = .ok (.iload_n 1, 1) := by decide +kernel
theorem d_Model_join_20 : decode b_Model_join 20 = .ok (.iload_n 2, 1) := by decide +kernel
theorem d_Model_join_21 : decode b_Model_join 21 = .ok (.invokevirtual 99, 3) := by decide +kernel
theorem d_Model_join_24 : decode b_Model_join 24 = .ok (.istore_n 3, 1) := by decide +kernel
theorem d_Model_join_25 : decode b_Model_join 25 = .ok (.aload_n 0, 1) := by decide +kernel
theorem d_Model_join_26 : decode b_Model_join 26 = .ok (.iload_n 1, 1) := by decide +kernel
theorem d_Model_join_27 : decode b_Model_join 27 = .ok (.invokevirtual 102, 3) := by decide +kernel
theorem d_Model_join_30 : decode b_Model_join 30 = .ok (.ireturn, 1) := by decide +kernel
theorem d_Model_correct_0 : decode b_Model_correct 0 = .ok (.aload_n 0, 1) := by decide +kernel
theorem d_Model_correct_1 : decode b_Model_correct 1 = .ok (.iload_n 1, 1) := by decide +kernel
theorem d_Model_correct_2 : decode b_Model_correct 2 = .ok (.invokevirtual 96, 3) := by decide +kernel
theorem d_Model_correct_5 : decode b_Model_correct 5 = .ok (.ifCond .eq 61, 3) := by decide +kernel
theorem d_Model_correct_8 : decode b_Model_correct 8 = .ok (.aload_n 0, 1) := by decide +kernel
theorem d_Model_correct_9 : decode b_Model_correct 9 = .ok (.iload_n 2, 1) := by decide +kernel
theorem d_Model_correct_10 : decode b_Model_correct 10 = .ok (.invokevirtual 73, 3) := by decide +kernel
theorem d_Model_correct_13 : decode b_Model_correct 13 = .ok (.ifCond .eq 53, 3) := by decide +kernel
theorem d_Model_correct_16 : decode b_Model_correct 16 = .ok (.iload_n 3, 1) := by decide +kernel
theorem d_Model_correct_17 : decode b_Model_correct 17 = .ok (.i2l, 1) := by decide +kernel
theorem d_Model_correct_18 : decode b_Model_correct 18 = .ok (.lconst 0, 1) := by decide +kernel
theorem d_Model_correct_19 : decode b_Model_correct 19 = .ok (.ldc2_w 83, 3) := by decide +kernel
theorem d_Model_correct_22 : decode b_Model_correct 22 = .ok (.invokestatic 79, 3) := by decide +kernel
theorem d_Model_correct_25 : decode b_Model_correct 25 = .ok (.ifCond .eq 41, 3) := by decide +kernel
theorem d_Model_correct_28 : decode b_Model_correct 28 = .ok (.lload 4, 2) := by decide +kernel
theorem d_Model_correct_30 : decode b_Model_correct 30 = .ok (.lconst 0, 1) := by decide +kernel
theorem d_Model_correct_31 : decode b_Model_correct 31 = .ok (.ldc2_w 77, 3) := by decide +kernel
theorem d_Model_correct_34 : decode b_Model_correct 34 = .ok (.invokestatic 79, 3) := by decide +kernel
theorem d_Model_correct_37 : decode b_Model_correct 37 = .ok (.ifCond .eq 29, 3) := by decide +kernel
theorem d_Model_correct_40 : decode b_Model_correct 40 = .ok (.lload 6, 2) := by decide +kernel
theorem d_Model_correct_42 : decode b_Model_correct 42 = .ok (.ldc2_w 85, 3) := by decide +kernel
theorem d_Model_correct_45 : decode b_Model_correct 45 = .ok (.ldc2_w 87, 3) := by decide +kernel
theorem d_Model_correct_48 : decode b_Model_correct 48 = .ok (.invokestatic 79, 3) := by decide +kernel
theorem d_Model_correct_51 : decode b_Model_correct 51 = .ok (.ifCond .eq 15, 3) := by decide +kernel
theorem d_Model_correct_54 : decode b_Model_correct 54 = .ok (.lload 8, 2) := by decide +kernel
theorem d_Model_correct_56 : decode b_Model_correct 56 = .ok (.lconst 0, 1) := by decide +kernel
theorem d_Model_correct_57 : decode b_Model_correct 57 = .ok (.ldc2_w 77, 3) := by decide +kernel
theorem d_Model_correct_60 : decode b_Model_correct 60 = .ok (.invokestatic 79, 3) := by decide +kernel
theorem d_Model_correct_63 : decode b_Model_correct 63 = .ok (.ifCond .ne 5, 3) := by decide +kernel
theorem d_Model_correct_66 : decode b_Model_correct 66 = .ok (.iconst 0, 1) := by decide +kernel
theorem d_Model_correct_67 : decode b_Model_correct 67 = .ok (.ireturn, 1) := by decide +kernel
theorem d_Model_correct_68 : decode b_Model_correct 68 = .ok (.iconst 0, 1) := by decide +kernel
theorem d_Model_correct_69 : decode b_Model_correct 69 = .ok (.istore 10, 2) := by decide +kernel
theorem d_Model_correct_71 : decode b_Model_correct 71 = .ok (.iload 10, 2) := by decide +kernel
theorem d_Model_correct_73 : decode b_Model_correct 73 = .ok (.aload_n 0, 1) := by decide +kernel
theorem d_Model_correct_74 : decode b_Model_correct 74 = .ok (.getfield 106, 3) := by decide +kernel
theorem d_Model_correct_77 : decode b_Model_correct 77 = .ok (.if_icmp .ge 92, 3) := by decide +kernel
theorem d_Model_correct_80 : decode b_Model_correct 80 = .ok (.aload_n 0, 1) := by decide +kernel
theorem d_Model_correct_81 : decode b_Model_correct 81 = .ok (.getfield 38, 3) := by decide +kernel
theorem d_Model_correct_84 : decode b_Model_correct 84 = .ok (.iconst 5, 1) := by decide +kernel
theorem d_Model_correct_85 : decode b_Model_correct 85 = .ok (.iload 10, 2) := by decide +kernel
theorem d_Model_correct_87 : decode b_Model_correct 87 = .ok (.imul, 1) := by decide +kernel
theorem d_Model_correct_88 : decode b_Model_correct 88 = .ok (.laload, 1) := by decide +kernel
theorem d_Model_correct_89 : decode b_Model_correct 89 = .ok (.iload_n 2, 1) := by decide +kernel
theorem d_Model_correct_90 : decode b_Model_correct 90 = .ok (.i2l, 1) := by decide +kernel
theorem d_Model_correct_91 : decode b_Model_correct 91 = .ok (.lcmp, 1) := by decide +kernel
theorem d_Model_correct_92 : decode b_Model_correct 92 = .ok (.ifCond .ne 71, 3) := by decide +kernel
theorem d_Model_correct_95 : decode b_Model_correct 95 = .ok (.aload_n 0, 1) := by decide +kernel
theorem d_Model_correct_96 : decode b_Model_correct 96 = .ok (.getfield 38, 3) := by decide +kernel
theorem d_Model_correct_99 : decode b_Model_correct 99 = .ok (.iconst 5, 1) := by decide +kernel
theorem d_Model_correct_100 : decode b_Model_correct 100 = .ok (.iload 10, 2) := by decide +kernel
theorem d_Model_correct_102 : decode b_Model_correct 102 = .ok (.imul, 1) := by decide +kernel
theorem d_Model_correct_103 : decode b_Model_correct 103 = .ok (.iconst 1, 1) := by decide +kernel
theorem d_Model_correct_104 : decode b_Model_correct 104 = .ok (.iadd, 1) := by decide +kernel
theorem d_Model_correct_105 : decode b_Model_correct 105 = .ok (.laload, 1) := by decide +kernel
theorem d_Model_correct_106 : decode b_Model_correct 106 = .ok (.iload_n 3, 1) := by decide +kernel
theorem d_Model_correct_107 : decode b_Model_correct 107 = .ok (.i2l, 1) := by decide +kernel
theorem d_Model_correct_108 : decode b_Model_correct 108 = .ok (.lcmp, 1) := by decide +kernel
theorem d_Model_correct_109 : decode b_Model_correct 109 = .ok (.ifCond .ne 54, 3) := by decide +kernel
theorem d_Model_correct_112 : decode b_Model_correct 112 = .ok (.aload_n 0, 1) := by decide +kernel
theorem d_Model_correct_113 : decode b_Model_correct 113 = .ok (.getfield 38, 3) := by decide +kernel
theorem d_Model_correct_116 : decode b_Model_correct 116 = .ok (.iconst 5, 1) := by decide +kernel
theorem d_Model_correct_117 : decode b_Model_correct 117 = .ok (.iload 10, 2) := by decide +kernel
theorem d_Model_correct_119 : decode b_Model_correct 119 = .ok (.imul, 1) := by decide +kernel
theorem d_Model_correct_120 : decode b_Model_correct 120 = .ok (.iconst 2, 1) := by decide +kernel
theorem d_Model_correct_121 : decode b_Model_correct 121 = .ok (.iadd, 1) := by decide +kernel
theorem d_Model_correct_122 : decode b_Model_correct 122 = .ok (.laload, 1) := by decide +kernel
theorem d_Model_correct_123 : decode b_Model_correct 123 = .ok (.lload 4, 2) := by decide +kernel
theorem d_Model_correct_125 : decode b_Model_correct 125 = .ok (.lcmp, 1) := by decide +kernel
theorem d_Model_correct_126 : decode b_Model_correct 126 = .ok (.ifCond .ne 37, 3) := by decide +kernel
theorem d_Model_correct_129 : decode b_Model_correct 129 = .ok (.aload_n 0, 1) := by decide +kernel
theorem d_Model_correct_130 : decode b_Model_correct 130 = .ok (.getfield 38, 3) := by decide +kernel
theorem d_Model_correct_133 : decode b_Model_correct 133 = .ok (.iconst 5, 1) := by decide +kernel
theorem d_Model_correct_134 : decode b_Model_correct 134 = .ok (.iload 10, 2) := by decide +kernel
theorem d_Model_correct_136 : decode b_Model_correct 136 = .ok (.imul, 1) := by decide +kernel
theorem d_Model_correct_137 : decode b_Model_correct 137 = .ok (.iconst 3, 1) := by decide +kernel
theorem d_Model_correct_138 : decode b_Model_correct 138 = .ok (.iadd, 1) := by decide +kernel
theorem d_Model_correct_139 : decode b_Model_correct 139 = .ok (.laload, 1) := by decide +kernel
theorem d_Model_correct_140 : decode b_Model_correct 140 = .ok (.lload 6, 2) := by decide +kernel
theorem d_Model_correct_142 : decode b_Model_correct 142 = .ok (.lcmp, 1) := by decide +kernel
theorem d_Model_correct_143 : decode b_Model_correct 143 = .ok (.ifCond .ne 20, 3) := by decide +kernel
theorem d_Model_correct_146 : decode b_Model_correct 146 = .ok (.aload_n 0, 1) := by decide +kernel
theorem d_Model_correct_147 : decode b_Model_correct 147 = .ok (.getfield 38, 3) := by decide +kernel
theorem d_Model_correct_150 : decode b_Model_correct 150 = .ok (.iconst 5, 1) := by decide +kernel
theorem d_Model_correct_151 : decode b_Model_correct 151 = .ok (.iload 10, 2) := by decide +kernel
theorem d_Model_correct_153 : decode b_Model_correct 153 = .ok (.imul, 1) := by decide +kernel
theorem d_Model_correct_154 : decode b_Model_correct 154 = .ok (.iconst 4, 1) := by decide +kernel
theorem d_Model_correct_155 : decode b_Model_correct 155 = .ok (.iadd, 1) := by decide +kernel
theorem d_Model_correct_156 : decode b_Model_correct 156 = .ok (.laload, 1) := by decide +kernel
theorem d_Model_correct_157 : decode b_Model_correct 157 = .ok (.lload 8, 2) := by decide +kernel
theorem d_Model_correct_159 : decode b_Model_correct 159 = .ok (.lcmp, 1) := by decide +kernel
theorem d_Model_correct_160 : decode b_Model_correct 160 = .ok (.ifCond .eq 9, 3) := by decide +kernel
theorem d_Model_correct_163 : decode b_Model_correct 163 = .ok (.iinc 10 1, 3) := by decide +kernel
theorem d_Model_correct_166 : decode b_Model_correct 166 = .ok (.goto (-95), 3) := by decide +kernel
theorem d_Model_correct_169 : decode b_Model_correct 169 = .ok (.iload 10, 2) := by decide +kernel
theorem d_Model_correct_171 : decode b_Model_correct 171 = .ok (.bipush 20, 2) := by decide +kernel
theorem d_Model_correct_173 : decode b_Model_correct 173 = .ok (.if_icmp .ne 5, 3) := by decide +kernel
theorem d_Model_correct_176 : decode b_Model_correct 176 = .ok (.iconst 0, 1) := by decide +kernel
theorem d_Model_correct_177 : decode b_Model_correct 177 = .ok (.ireturn, 1) := by decide +kernel
theorem d_Model_correct_178 : decode b_Model_correct 178 = .ok (.aload_n 0, 1) := by decide +kernel
theorem d_Model_correct_179 : decode b_Model_correct 179 = .ok (.getfield 38, 3) := by decide +kernel
theorem d_Model_correct_182 : decode b_Model_correct 182 = .ok (.iconst 5, 1) := by decide +kernel
theorem d_Model_correct_183 : decode b_Model_correct 183 = .ok (.iload 10, 2) := by decide +kernel
theorem d_Model_correct_185 : decode b_Model_correct 185 = .ok (.imul, 1) := by decide +kernel
theorem d_Model_correct_186 : decode b_Model_correct 186 = .ok (.iload_n 2, 1) := by decide +kernel
theorem d_Model_correct_187 : decode b_Model_correct 187 = .ok (.i2l, 1) := by decide +kernel
theorem d_Model_correct_188 : decode b_Model_correct 188 = .ok (.lastore, 1) := by decide +kernel
theorem d_Model_correct_189 : decode b_Model_correct 189 = .ok (.aload_n 0, 1) := by decide +kernel
theorem d_Model_correct_190 : decode b_Model_correct 190 = .ok (.getfield 38, 3) := by decide +kernel
theorem d_Model_correct_193 : decode b_Model_correct 193 = .ok (.iconst 5, 1) := by decide +kernel
theorem d_Model_correct_194 : decode b_Model_correct 194 = .ok (.iload 10, 2) := by decide +kernel
theorem d_Model_correct_196 : decode b_Model_correct 196 = .ok (.imul, 1) := by decide +kernel
theorem d_Model_correct_197 : decode b_Model_correct 197 = .ok (.iconst 1, 1) := by decide +kernel
theorem d_Model_correct_198 : decode b_Model_correct 198 = .ok (.iadd, 1) := by decide +kernel
theorem d_Model_correct_199 : decode b_Model_correct 199 = .ok (.iload_n 3, 1) := by decide +kernel
theorem d_Model_correct_200 : decode b_Model_correct 200 = .ok (.i2l, 1) := by decide +kernel
theorem d_Model_correct_201 : decode b_Model_correct 201 = .ok (.lastore, 1) := by decide +kernel
theorem d_Model_correct_202 : decode b_Model_correct 202 = .ok (.aload_n 0, 1) := by decide +kernel
theorem d_Model_correct_203 : decode b_Model_correct 203 = .ok (.getfield 38, 3) := by decide +kernel
theorem d_Model_correct_206 : decode b_Model_correct 206 = .ok (.iconst 5, 1) := by decide +kernel
theorem d_Model_correct_207 : decode b_Model_correct 207 = .ok (.iload 10, 2) := by decide +kernel
theorem d_Model_correct_209 : decode b_Model_correct 209 = .ok (.imul, 1) := by decide +kernel
theorem d_Model_correct_210 : decode b_Model_correct 210 = .ok (.iconst 2, 1) := by decide +kernel
theorem d_Model_correct_211 : decode b_Model_correct 211 = .ok (.iadd, 1) := by decide +kernel
theorem d_Model_correct_212 : decode b_Model_correct 212 = .ok (.lload 4, 2) := by decide +kernel
theorem d_Model_correct_214 : decode b_Model_correct 214 = .ok (.lastore, 1) := by decide +kernel
theorem d_Model_correct_215 : decode b_Model_correct 215 = .ok (.aload_n 0, 1) := by decide +kernel
theorem d_Model_correct_216 : decode b_Model_correct 216 = .ok (.getfield 38, 3) := by decide +kernel
theorem d_Model_correct_219 : decode b_Model_correct 219 = .ok (.iconst 5, 1) := by decide +kernel
theorem d_Model_correct_220 : decode b_Model_correct 220 = .ok (.iload 10, 2) := by decide +kernel
theorem d_Model_correct_222 : decode b_Model_correct 222 = .ok (.imul, 1) := by decide +kernel
theorem d_Model_correct_223 : decode b_Model_correct 223 = .ok (.iconst 3, 1) := by decide +kernel
theorem d_Model_correct_224 : decode b_Model_correct 224 = .ok (.iadd, 1) := by decide +kernel
theorem d_Model_correct_225 : decode b_Model_correct 225 = .ok (.lload 6, 2) := by decide +kernel
theorem d_Model_correct_227 : decode b_Model_correct 227 = .ok (.lastore, 1) := by decide +kernel
theorem d_Model_correct_228 : decode b_Model_correct 228 = .ok (.aload_n 0, 1) := by decide +kernel
theorem d_Model_correct_229 : decode b_Model_correct 229 = .ok (.getfield 38, 3) := by decide +kernel
theorem d_Model_correct_232 : decode b_Model_correct 232 = .ok (.iconst 5, 1) := by decide +kernel
theorem d_Model_correct_233 : decode b_Model_correct 233 = .ok (.iload 10, 2) := by decide +kernel
theorem d_Model_correct_235 : decode b_Model_correct 235 = .ok (.imul, 1) := by decide +kernel
theorem d_Model_correct_236 : decode b_Model_correct 236 = .ok (.iconst 4, 1) := by decide +kernel
theorem d_Model_correct_237 : decode b_Model_correct 237 = .ok (.iadd, 1) := by decide +kernel
theorem d_Model_correct_238 : decode b_Model_correct 238 = .ok (.lload 8, 2) := by decide +kernel
theorem d_Model_correct_240 : decode b_Model_correct 240 = .ok (.lastore, 1) := by decide +kernel
theorem d_Model_correct_241 : decode b_Model_correct 241 = .ok (.aload_n 0, 1) := by decide +kernel
theorem d_Model_correct_242 : decode b_Model_correct 242 = .ok (.iload 10, 2) := by decide +kernel
theorem d_Model_correct_244 : decode b_Model_correct 244 = .ok (.aload_n 0, 1) := by decide +kernel
theorem d_Model_correct_245 : decode b_Model_correct 245 = .ok (.getfield 106, 3) := by decide +kernel
theorem d_Model_correct_248 : decode b_Model_correct 248 = .ok (.if_icmp .ne 12, 3) := by decide +kernel
theorem d_Model_correct_251 : decode b_Model_correct 251 = .ok (.aload_n 0, 1) := by decide +kernel
theorem d_Model_correct_252 : decode b_Model_correct 252 = .ok (.getfield 106, 3) := by decide +kernel
theorem d_Model_correct_255 : decode b_Model_correct 255 = .ok (.iconst 1, 1) := by decide +kernel
theorem d_Model_correct_256 : decode b_Model_correct 256 = .ok (.iadd, 1) := by decide +kernel
theorem d_Model_correct_257 : decode b_Model_correct 257 = .ok (.goto 7, 3) := by decide +kernel
theorem d_Model_correct_260 : decode b_Model_correct 260 = .ok (.aload_n 0, 1) := by decide +kernel
theorem d_Model_correct_261 : decode b_Model_correct 261 = .ok (.getfield 106, 3) := by decide +kernel
theorem d_Model_correct_264 : decode b_Model_correct 264 = .ok (.putfield 106, 3) := by decide +kernel
theorem d_Model_correct_267 : decode b_Model_correct 267 = .ok (.aload_n 0, 1) := by decide +kernel
theorem d_Model_correct_268 : decode b_Model_correct 268 = .ok (.getfield 48, 3) := by decide +kernel
theorem d_Model_correct_271 : decode b_Model_correct 271 = .ok (.bipush 20, 2) := by decide +kernel
theorem d_Model_correct_273 : decode b_Model_correct 273 = .ok (.iload_n 1, 1) := by decide +kernel
theorem d_Model_correct_274 : decode b_Model_correct 274 = .ok (.imul, 1) := by decide +kernel
theorem d_Model_correct_275 : decode b_Model_correct 275 = .ok (.iload 10, 2) := by decide +kernel
theorem d_Model_correct_277 : decode b_Model_correct 277 = .ok (.iadd, 1) := by decide +kernel
theorem d_Model_correct_278 : decode b_Model_correct 278 = .ok (.iconst 1, 1) := by decide +kernel
theorem d_Model_correct_279 : decode b_Model_correct 279 = .ok (.bastore, 1) := by decide +kernel
theorem d_Model_correct_280 : decode b_Model_correct 280 = .ok (.iconst 1, 1) := by decide +kernel
theorem d_Model_correct_281 : decode b_Model_correct 281 = .ok (.ireturn, 1) := by decide +kernel
theorem d_Model_isHere_0 : decode b_Model_isHere 0 = .ok (.aload_n 0, 1) := by decide +kernel
theorem d_Model_isHere_1 : decode b_Model_isHere 1 = .ok (.getfield 41, 3) := by decide +kernel
theorem d_Model_isHere_4 : decode b_Model_isHere 4 = .ok (.bipush 60, 2) := by decide +kernel
theorem d_Model_isHere_6 : decode b_Model_isHere 6 = .ok (.iload_n 1, 1) := by decide +kernel
theorem d_Model_isHere_7 : decode b_Model_isHere 7 = .ok (.imul, 1) := by decide +kernel
theorem d_Model_isHere_8 : decode b_Model_isHere 8 = .ok (.iload_n 2, 1) := by decide +kernel
theorem d_Model_isHere_9 : decode b_Model_isHere 9 = .ok (.iadd, 1) := by decide +kernel
theorem d_Model_isHere_10 : decode b_Model_isHere 10 = .ok (.baload, 1) := by decide +kernel
theorem d_Model_isHere_11 : decode b_Model_isHere 11 = .ok (.ifCond .eq 24, 3) := by decide +kernel
theorem d_Model_isHere_14 : decode b_Model_isHere 14 = .ok (.aload_n 0, 1) := by decide +kernel
theorem d_Model_isHere_15 : decode b_Model_isHere 15 = .ok (.getfield 29, 3) := by decide +kernel
theorem d_Model_isHere_18 : decode b_Model_isHere 18 = .ok (.iload_n 2, 1) := by decide +kernel
theorem d_Model_isHere_19 : decode b_Model_isHere 19 = .ok (.iaload, 1) := by decide +kernel
theorem d_Model_isHere_20 : decode b_Model_isHere 20 = .ok (.i2l, 1) := by decide +kernel
theorem d_Model_isHere_21 : decode b_Model_isHere 21 = .ok (.aload_n 0, 1) := by decide +kernel
theorem d_Model_isHere_22 : decode b_Model_isHere 22 = .ok (.getfield 51, 3) := by decide +kernel
theorem d_Model_isHere_25 : decode b_Model_isHere 25 = .ok (.iload_n 1, 1) := by decide +kernel
theorem d_Model_isHere_26 : decode b_Model_isHere 26 = .ok (.laload, 1) := by decide +kernel
theorem d_Model_isHere_27 : decode b_Model_isHere 27 = .ok (.lcmp, 1) := by decide +kernel
theorem d_Model_isHere_28 : decode b_Model_isHere 28 = .ok (.ifCond .lt 7, 3) := by decide +kernel
theorem d_Model_isHere_31 : decode b_Model_isHere 31 = .ok (.iconst 1, 1) := by decide +kernel
theorem d_Model_isHere_32 : decode b_Model_isHere 32 = .ok (.goto 4, 3) := by decide +kernel
theorem d_Model_isHere_35 : decode b_Model_isHere 35 = .ok (.iconst 0, 1) := by decide +kernel
theorem d_Model_isHere_36 : decode b_Model_isHere 36 = .ok (.ireturn, 1) := by decide +kernel
theorem d_Model_isChosen_0 : decode b_Model_isChosen 0 = .ok (.aload_n 0, 1) := by decide +kernel
theorem d_Model_isChosen_1 : decode b_Model_isChosen 1 = .ok (.iload_n 1, 1) := by decide +kernel
theorem d_Model_isChosen_2 : decode b_Model_isChosen 2 = .ok (.iload_n 2, 1) := by decide +kernel
theorem d_Model_isChosen_3 : decode b_Model_isChosen 3 = .ok (.invokevirtual 109, 3) := by decide +kernel
theorem d_Model_isChosen_6 : decode b_Model_isChosen 6 = .ok (.ifCond .eq 21, 3) := by decide +kernel
theorem d_Model_isChosen_9 : decode b_Model_isChosen 9 = .ok (.aload_n 0, 1) := by decide +kernel
theorem d_Model_isChosen_10 : decode b_Model_isChosen 10 = .ok (.getfield 45, 3) := by decide +kernel
theorem d_Model_isChosen_13 : decode b_Model_isChosen 13 = .ok (.bipush 60, 2) := by decide +kernel
theorem d_Model_isChosen_15 : decode b_Model_isChosen 15 = .ok (.iload_n 1, 1) := by decide +kernel
theorem d_Model_isChosen_16 : decode b_Model_isChosen 16 = .ok (.imul, 1) := by decide +kernel
theorem d_Model_isChosen_17 : decode b_Model_isChosen 17 = .ok (.iload_n 2, 1) := by decide +kernel
theorem d_Model_isChosen_18 : decode b_Model_isChosen 18 = .ok (.iadd, 1) := by decide +kernel
theorem d_Model_isChosen_19 : decode b_Model_isChosen 19 = .ok (.baload, 1) := by decide +kernel
theorem d_Model_isChosen_20 : decode b_Model_isChosen 20 = .ok (.ifCond .eq 7, 3) := by decide +kernel
theorem d_Model_isChosen_23 : decode b_Model_isChosen 23 = .ok (.iconst 1, 1) := by decide +kernel
theorem d_Model_isChosen_24 : decode b_Model_isChosen 24 = .ok (.goto 4, 3) := by decide +kernel
theorem d_Model_isChosen_27 : decode b_Model_isChosen 27 = .ok (.iconst 0, 1) := by decide +kernel
theorem d_Model_isChosen_28 : decode b_Model_isChosen 28 = .ok (.ireturn, 1) := by decide +kernel
theorem d_Model_isSameKey_0 : decode b_Model_isSameKey 0 = .ok (.aload_n 0, 1) := by decide +kernel
theorem d_Model_isSameKey_1 : decode b_Model_isSameKey 1 = .ok (.getfield 17, 3) := by decide +kernel
theorem d_Model_isSameKey_4 : decode b_Model_isSameKey 4 = .ok (.iload_n 1, 1) := by decide +kernel
theorem d_Model_isSameKey_5 : decode b_Model_isSameKey 5 = .ok (.iaload, 1) := by decide +kernel
theorem d_Model_isSameKey_6 : decode b_Model_isSameKey 6 = .ok (.aload_n 0, 1) := by decide +kernel
theorem d_Model_isSameKey_7 : decode b_Model_isSameKey 7 = .ok (.getfield 17, 3) := by decide +kernel
theorem d_Model_isSameKey_10 : decode b_Model_isSameKey 10 = .ok (.iload_n 2, 1) := by decide +kernel
theorem d_Model_isSameKey_11 : decode b_Model_isSameKey 11 = .ok (.iaload, 1) := by decide +kernel
theorem d_Model_isSameKey_12 : decode b_Model_isSameKey 12 = .ok (.if_icmp .ne 52, 3) := by decide +kernel
theorem d_Model_isSameKey_15 : decode b_Model_isSameKey 15 = .ok (.aload_n 0, 1) := by decide +kernel
theorem d_Model_isSameKey_16 : decode b_Model_isSameKey 16 = .ok (.getfield 20, 3) := by decide +kernel
theorem d_Model_isSameKey_19 : decode b_Model_isSameKey 19 = .ok (.iload_n 1, 1) := by decide +kernel
theorem d_Model_isSameKey_20 : decode b_Model_isSameKey 20 = .ok (.iaload, 1) := by decide +kernel
theorem d_Model_isSameKey_21 : decode b_Model_isSameKey 21 = .ok (.aload_n 0, 1) := by decide +kernel
theorem d_Model_isSameKey_22 : decode b_Model_isSameKey 22 = .ok (.getfield 20, 3) := by decide +kernel
theorem d_Model_isSameKey_25 : decode b_Model_isSameKey 25 = .ok (.iload_n 2, 1) := by decide +kernel
theorem d_Model_isSameKey_26 : decode b_Model_isSameKey 26 = .ok (.iaload, 1) := by decide +kernel
theorem d_Model_isSameKey_27 : decode b_Model_isSameKey 27 = .ok (.if_icmp .ne 37, 3) := by decide +kernel
theorem d_Model_isSameKey_30 : decode b_Model_isSameKey 30 = .ok (.aload_n 0, 1) := by decide +kernel
theorem d_Model_isSameKey_31 : decode b_Model_isSameKey 31 = .ok (.getfield 23, 3) := by decide +kernel
theorem d_Model_isSameKey_34 : decode b_Model_isSameKey 34 = .ok (.iload_n 1, 1) := by decide +kernel
theorem d_Model_isSameKey_35 : decode b_Model_isSameKey 35 = .ok (.iaload, 1) := by decide +kernel
theorem d_Model_isSameKey_36 : decode b_Model_isSameKey 36 = .ok (.aload_n 0, 1) := by decide +kernel
theorem d_Model_isSameKey_37 : decode b_Model_isSameKey 37 = .ok (.getfield 23, 3) := by decide +kernel
theorem d_Model_isSameKey_40 : decode b_Model_isSameKey 40 = .ok (.iload_n 2, 1) := by decide +kernel
theorem d_Model_isSameKey_41 : decode b_Model_isSameKey 41 = .ok (.iaload, 1) := by decide +kernel
theorem d_Model_isSameKey_42 : decode b_Model_isSameKey 42 = .ok (.if_icmp .ne 22, 3) := by decide +kernel
theorem d_Model_isSameKey_45 : decode b_Model_isSameKey 45 = .ok (.aload_n 0, 1) := by decide +kernel
theorem d_Model_isSameKey_46 : decode b_Model_isSameKey 46 = .ok (.getfield 26, 3) := by decide +kernel
theorem d_Model_isSameKey_49 : decode b_Model_isSameKey 49 = .ok (.iload_n 1, 1) := by decide +kernel
theorem d_Model_isSameKey_50 : decode b_Model_isSameKey 50 = .ok (.iaload, 1) := by decide +kernel
theorem d_Model_isSameKey_51 : decode b_Model_isSameKey 51 = .ok (.aload_n 0, 1) := by decide +kernel
theorem d_Model_isSameKey_52 : decode b_Model_isSameKey 52 = .ok (.getfield 26, 3) := by decide +kernel
theorem d_Model_isSameKey_55 : decode b_Model_isSameKey 55 = .ok (.iload_n 2, 1) := by decide +kernel
theorem d_Model_isSameKey_56 : decode b_Model_isSameKey 56 = .ok (.iaload, 1) := by decide +kernel
theorem d_Model_isSameKey_57 : decode b_Model_isSameKey 57 = .ok (.if_icmp .ne 7, 3) := by decide +kernel
theorem d_Model_isSameKey_60 : decode b_Model_isSameKey 60 = .ok (.iconst 1, 1) := by decide +kernel
theorem d_Model_isSameKey_61 : decode b_Model_isSameKey 61 = .ok (.goto 4, 3) := by decide +kernel
theorem d_Model_isSameKey_64 : decode b_Model_isSameKey 64 = .ok (.iconst 0, 1) := by decide +kernel
theorem d_Model_isSameKey_65 : decode b_Model_isSameKey 65 = .ok (.ireturn, 1) := by decide +kernel
theorem d_Model_isBefore_0 : decode b_Model_isBefore 0 = .ok (.aload_n 0, 1) := by decide +kernel
theorem d_Model_isBefore_1 : decode b_Model_isBefore 1 = .ok (.getfield 29, 3) := by decide +kernel
theorem d_Model_isBefore_4 : decode b_Model_isBefore 4 = .ok (.iload_n 1, 1) := by decide +kernel
theorem d_Model_isBefore_5 : decode b_Model_isBefore 5 = .ok (.iaload, 1) := by decide +kernel
theorem d_Model_isBefore_6 : decode b_Model_isBefore 6 = .ok (.aload_n 0, 1) := by decide +kernel
theorem d_Model_isBefore_7 : decode b_Model_isBefore 7 = .ok (.getfield 29, 3) := by decide +kernel
theorem d_Model_isBefore_10 : decode b_Model_isBefore 10 = .ok (.iload_n 2, 1) := by decide +kernel
theorem d_Model_isBefore_11 : decode b_Model_isBefore 11 = .ok (.iaload, 1) := by decide +kernel
theorem d_Model_isBefore_12 : decode b_Model_isBefore 12 = .ok (.if_icmp .eq 26, 3) := by decide +kernel
theorem d_Model_isBefore_15 : decode b_Model_isBefore 15 = .ok (.aload_n 0, 1) := by decide +kernel
theorem d_Model_isBefore_16 : decode b_Model_isBefore 16 = .ok (.getfield 29, 3) := by decide +kernel
theorem d_Model_isBefore_19 : decode b_Model_isBefore 19 = .ok (.iload_n 1, 1) := by decide +kernel
theorem d_Model_isBefore_20 : decode b_Model_isBefore 20 = .ok (.iaload, 1) := by decide +kernel
theorem d_Model_isBefore_21 : decode b_Model_isBefore 21 = .ok (.aload_n 0, 1) := by decide +kernel
theorem d_Model_isBefore_22 : decode b_Model_isBefore 22 = .ok (.getfield 29, 3) := by decide +kernel
theorem d_Model_isBefore_25 : decode b_Model_isBefore 25 = .ok (.iload_n 2, 1) := by decide +kernel
theorem d_Model_isBefore_26 : decode b_Model_isBefore 26 = .ok (.iaload, 1) := by decide +kernel
theorem d_Model_isBefore_27 : decode b_Model_isBefore 27 = .ok (.if_icmp .ge 7, 3) := by decide +kernel
theorem d_Model_isBefore_30 : decode b_Model_isBefore 30 = .ok (.iconst 1, 1) := by decide +kernel
theorem d_Model_isBefore_31 : decode b_Model_isBefore 31 = .ok (.goto 28, 3) := by decide +kernel
theorem d_Model_isBefore_34 : decode b_Model_isBefore 34 = .ok (.iconst 0, 1) := by decide +kernel
theorem d_Model_isBefore_35 : decode b_Model_isBefore 35 = .ok (.goto 24, 3) := by decide +kernel
theorem d_Model_isBefore_38 : decode b_Model_isBefore 38 = .ok (.aload_n 0, 1) := by decide +kernel
theorem d_Model_isBefore_39 : decode b_Model_isBefore 39 = .ok (.getfield 32, 3) := by decide +kernel
theorem d_Model_isBefore_42 : decode b_Model_isBefore 42 = .ok (.iload_n 1, 1) := by decide +kernel
theorem d_Model_isBefore_43 : decode b_Model_isBefore 43 = .ok (.laload, 1) := by decide +kernel
theorem d_Model_isBefore_44 : decode b_Model_isBefore 44 = .ok (.aload_n 0, 1) := by decide +kernel
theorem d_Model_isBefore_45 : decode b_Model_isBefore 45 = .ok (.getfield 32, 3) := by decide +kernel
theorem d_Model_isBefore_48 : decode b_Model_isBefore 48 = .ok (.iload_n 2, 1) := by decide +kernel
theorem d_Model_isBefore_49 : decode b_Model_isBefore 49 = .ok (.laload, 1) := by decide +kernel
theorem d_Model_isBefore_50 : decode b_Model_isBefore 50 = .ok (.lcmp, 1) := by decide +kernel
theorem d_Model_isBefore_51 : decode b_Model_isBefore 51 = .ok (.ifCond .ge 7, 3) := by decide +kernel
theorem d_Model_isBefore_54 : decode b_Model_isBefore 54 = .ok (.iconst 1, 1) := by decide +kernel
theorem d_Model_isBefore_55 : decode b_Model_isBefore 55 = .ok (.goto 4, 3) := by decide +kernel
theorem d_Model_isBefore_58 : decode b_Model_isBefore 58 = .ok (.iconst 0, 1) := by decide +kernel
theorem d_Model_isBefore_59 : decode b_Model_isBefore 59 = .ok (.ireturn, 1) := by decide +kernel
theorem d_Model_isSeen_0 : decode b_Model_isSeen 0 = .ok (.aload_n 0, 1) := by decide +kernel
theorem d_Model_isSeen_1 : decode b_Model_isSeen 1 = .ok (.iload_n 1, 1) := by decide +kernel
theorem d_Model_isSeen_2 : decode b_Model_isSeen 2 = .ok (.iload_n 2, 1) := by decide +kernel
theorem d_Model_isSeen_3 : decode b_Model_isSeen 3 = .ok (.invokevirtual 109, 3) := by decide +kernel
theorem d_Model_isSeen_6 : decode b_Model_isSeen 6 = .ok (.ifCond .ne 5, 3) := by decide +kernel
theorem d_Model_isSeen_9 : decode b_Model_isSeen 9 = .ok (.iconst 0, 1) := by decide +kernel
theorem d_Model_isSeen_10 : decode b_Model_isSeen 10 = .ok (.ireturn, 1) := by decide +kernel
theorem d_Model_isSeen_11 : decode b_Model_isSeen 11 = .ok (.iconst 1, 1) := by decide +kernel
theorem d_Model_isSeen_12 : decode b_Model_isSeen 12 = .ok (.istore_n 3, 1) := by decide +kernel
theorem d_Model_isSeen_13 : decode b_Model_isSeen 13 = .ok (.aload_n 0, 1) := by decide +kernel
theorem d_Model_isSeen_14 : decode b_Model_isSeen 14 = .ok (.iload_n 1, 1) := by decide +kernel
theorem d_Model_isSeen_15 : decode b_Model_isSeen 15 = .ok (.iload_n 2, 1) := by decide +kernel
theorem d_Model_isSeen_16 : decode b_Model_isSeen 16 = .ok (.invokevirtual 112, 3) := by decide +kernel
theorem d_Model_isSeen_19 : decode b_Model_isSeen 19 = .ok (.istore 4, 2) := by decide +kernel
theorem d_Model_isSeen_21 : decode b_Model_isSeen 21 = .ok (.iconst 0, 1) := by decide +kernel
theorem d_Model_isSeen_22 : decode b_Model_isSeen 22 = .ok (.istore 5, 2) := by decide +kernel
theorem d_Model_isSeen_24 : decode b_Model_isSeen 24 = .ok (.iload 5, 2) := by decide +kernel
theorem d_Model_isSeen_26 : decode b_Model_isSeen 26 = .ok (.aload_n 0, 1) := by decide +kernel
theorem d_Model_isSeen_27 : decode b_Model_isSeen 27 = .ok (.getfield 89, 3) := by decide +kernel
theorem d_Model_isSeen_30 : decode b_Model_isSeen 30 = .ok (.if_icmp .ge 69, 3) := by decide +kernel
theorem d_Model_isSeen_33 : decode b_Model_isSeen 33 = .ok (.iload 5, 2) := by decide +kernel
theorem d_Model_isSeen_35 : decode b_Model_isSeen 35 = .ok (.iload_n 2, 1) := by decide +kernel
theorem d_Model_isSeen_36 : decode b_Model_isSeen 36 = .ok (.if_icmp .eq 57, 3) := by decide +kernel
theorem d_Model_isSeen_39 : decode b_Model_isSeen 39 = .ok (.aload_n 0, 1) := by decide +kernel
theorem d_Model_isSeen_40 : decode b_Model_isSeen 40 = .ok (.iload_n 2, 1) := by decide +kernel
theorem d_Model_isSeen_41 : decode b_Model_isSeen 41 = .ok (.iload 5, 2) := by decide +kernel
theorem d_Model_isSeen_43 : decode b_Model_isSeen 43 = .ok (.invokevirtual 115, 3) := by decide +kernel
theorem d_Model_isSeen_46 : decode b_Model_isSeen 46 = .ok (.ifCond .eq 47, 3) := by decide +kernel
theorem d_Model_isSeen_49 : decode b_Model_isSeen 49 = .ok (.aload_n 0, 1) := by decide +kernel
theorem d_Model_isSeen_50 : decode b_Model_isSeen 50 = .ok (.iload_n 1, 1) := by decide +kernel
theorem d_Model_isSeen_51 : decode b_Model_isSeen 51 = .ok (.iload 5, 2) := by decide +kernel
theorem d_Model_isSeen_53 : decode b_Model_isSeen 53 = .ok (.invokevirtual 109, 3) := by decide +kernel
theorem d_Model_isSeen_56 : decode b_Model_isSeen 56 = .ok (.ifCond .eq 37, 3) := by decide +kernel
theorem d_Model_isSeen_59 : decode b_Model_isSeen 59 = .ok (.iconst 0, 1) := by decide +kernel
theorem d_Model_isSeen_60 : decode b_Model_isSeen 60 = .ok (.istore_n 3, 1) := by decide +kernel
theorem d_Model_isSeen_61 : decode b_Model_isSeen 61 = .ok (.iload 4, 2) := by decide +kernel
theorem d_Model_isSeen_63 : decode b_Model_isSeen 63 = .ok (.ifCond .eq 27, 3) := by decide +kernel
theorem d_Model_isSeen_66 : decode b_Model_isSeen 66 = .ok (.aload_n 0, 1) := by decide +kernel
theorem d_Model_isSeen_67 : decode b_Model_isSeen 67 = .ok (.iload_n 1, 1) := by decide +kernel
theorem d_Model_isSeen_68 : decode b_Model_isSeen 68 = .ok (.iload 5, 2) := by decide +kernel
theorem d_Model_isSeen_70 : decode b_Model_isSeen 70 = .ok (.invokevirtual 112, 3) := by decide +kernel
theorem d_Model_isSeen_73 : decode b_Model_isSeen 73 = .ok (.ifCond .eq 13, 3) := by decide +kernel
theorem d_Model_isSeen_76 : decode b_Model_isSeen 76 = .ok (.aload_n 0, 1) := by decide +kernel
theorem d_Model_isSeen_77 : decode b_Model_isSeen 77 = .ok (.iload 5, 2) := by decide +kernel
theorem d_Model_isSeen_79 : decode b_Model_isSeen 79 = .ok (.iload_n 2, 1) := by decide +kernel
theorem d_Model_isSeen_80 : decode b_Model_isSeen 80 = .ok (.invokevirtual 118, 3) := by decide +kernel
theorem d_Model_isSeen_83 : decode b_Model_isSeen 83 = .ok (.ifCond .ne 7, 3) := by decide +kernel
theorem d_Model_isSeen_86 : decode b_Model_isSeen 86 = .ok (.iconst 1, 1) := by decide +kernel
theorem d_Model_isSeen_87 : decode b_Model_isSeen 87 = .ok (.goto 4, 3) := by decide +kernel
theorem d_Model_isSeen_90 : decode b_Model_isSeen 90 = .ok (.iconst 0, 1) := by decide +kernel
theorem d_Model_isSeen_91 : decode b_Model_isSeen 91 = .ok (.istore 4, 2) := by decide +kernel
theorem d_Model_isSeen_93 : decode b_Model_isSeen 93 = .ok (.iinc 5 1, 3) := by decide +kernel
theorem d_Model_isSeen_96 : decode b_Model_isSeen 96 = .ok (.goto (-72), 3) := by decide +kernel
theorem d_Model_isSeen_99 : decode b_Model_isSeen 99 = .ok (.iload_n 3, 1) := by decide +kernel
theorem d_Model_isSeen_100 : decode b_Model_isSeen 100 = .ok (.ifCond .ne 8, 3) := by decide +kernel
theorem d_Model_isSeen_103 : decode b_Model_isSeen 103 = .ok (.iload 4, 2) := by decide +kernel
theorem d_Model_isSeen_105 : decode b_Model_isSeen 105 = .ok (.ifCond .eq 7, 3) := by decide +kernel
theorem d_Model_isSeen_108 : decode b_Model_isSeen 108 = .ok (.iconst 1, 1) := by decide +kernel
theorem d_Model_isSeen_109 : decode b_Model_isSeen 109 = .ok (.goto 4, 3) := by decide +kernel
theorem d_Model_isSeen_112 : decode b_Model_isSeen 112 = .ok (.iconst 0, 1) := by decide +kernel
theorem d_Model_isSeen_113 : decode b_Model_isSeen 113 = .ok (.ireturn, 1) := by decide +kernel
theorem d_Model_last_0 : decode b_Model_last 0 = .ok (.iconst (-1), 1) := by decide +kernel
theorem d_Model_last_1 : decode b_Model_last 1 = .ok (.istore 4, 2) := by decide +kernel
theorem d_Model_last_3 : decode b_Model_last 3 = .ok (.iconst 0, 1) := by decide +kernel
theorem d_Model_last_4 : decode b_Model_last 4 = .ok (.istore 5, 2) := by decide +kernel
theorem d_Model_last_6 : decode b_Model_last 6 = .ok (.iload 5, 2) := by decide +kernel
theorem d_Model_last_8 : decode b_Model_last 8 = .ok (.aload_n 0, 1) := by decide +kernel
theorem d_Model_last_9 : decode b_Model_last 9 = .ok (.getfield 89, 3) := by decide +kernel
theorem d_Model_last_12 : decode b_Model_last 12 = .ok (.if_icmp .ge 126, 3) := by decide +kernel
theorem d_Model_last_15 : decode b_Model_last 15 = .ok (.aload_n 0, 1) := by decide +kernel
theorem d_Model_last_16 : decode b_Model_last 16 = .ok (.iload_n 1, 1) := by decide +kernel
theorem d_Model_last_17 : decode b_Model_last 17 = .ok (.invokevirtual 96, 3) := by decide +kernel
theorem d_Model_last_20 : decode b_Model_last 20 = .ok (.ifCond .eq 112, 3) := by decide +kernel
theorem d_Model_last_23 : decode b_Model_last 23 = .ok (.aload_n 0, 1) := by decide +kernel
theorem d_Model_last_24 : decode b_Model_last 24 = .ok (.getfield 17, 3) := by decide +kernel
theorem d_Model_last_27 : decode b_Model_last 27 = .ok (.iload 5, 2) := by decide +kernel
theorem d_Model_last_29 : decode b_Model_last 29 = .ok (.iaload, 1) := by decide +kernel
theorem d_Model_last_30 : decode b_Model_last 30 = .ok (.iload_n 2, 1) := by decide +kernel
theorem d_Model_last_31 : decode b_Model_last 31 = .ok (.if_icmp .ne 101, 3) := by decide +kernel
theorem d_Model_last_34 : decode b_Model_last 34 = .ok (.aload_n 0, 1) := by decide +kernel
theorem d_Model_last_35 : decode b_Model_last 35 = .ok (.getfield 26, 3) := by decide +kernel
theorem d_Model_last_38 : decode b_Model_last 38 = .ok (.iload 5, 2) := by decide +kernel
theorem d_Model_last_40 : decode b_Model_last 40 = .ok (.iaload, 1) := by decide +kernel
theorem d_Model_last_41 : decode b_Model_last 41 = .ok (.iload_n 3, 1) := by decide +kernel
theorem d_Model_last_42 : decode b_Model_last 42 = .ok (.if_icmp .ne 90, 3) := by decide +kernel
theorem d_Model_last_45 : decode b_Model_last 45 = .ok (.aload_n 0, 1) := by decide +kernel
theorem d_Model_last_46 : decode b_Model_last 46 = .ok (.iload_n 1, 1) := by decide +kernel
theorem d_Model_last_47 : decode b_Model_last 47 = .ok (.iload 5, 2) := by decide +kernel
theorem d_Model_last_49 : decode b_Model_last 49 = .ok (.invokevirtual 121, 3) := by decide +kernel
theorem d_Model_last_52 : decode b_Model_last 52 = .ok (.ifCond .eq 80, 3) := by decide +kernel
theorem d_Model_last_55 : decode b_Model_last 55 = .ok (.iload 4, 2) := by decide +kernel
theorem d_Model_last_57 : decode b_Model_last 57 = .ok (.ifCond .lt 54, 3) := by decide +kernel
theorem d_Model_last_60 : decode b_Model_last 60 = .ok (.aload_n 0, 1) := by decide +kernel
theorem d_Model_last_61 : decode b_Model_last 61 = .ok (.getfield 20, 3) := by decide +kernel
theorem d_Model_last_64 : decode b_Model_last 64 = .ok (.iload 5, 2) := by decide +kernel
theorem d_Model_last_66 : decode b_Model_last 66 = .ok (.iaload, 1) := by decide +kernel
theorem d_Model_last_67 : decode b_Model_last 67 = .ok (.aload_n 0, 1) := by decide +kernel
theorem d_Model_last_68 : decode b_Model_last 68 = .ok (.getfield 20, 3) := by decide +kernel
theorem d_Model_last_71 : decode b_Model_last 71 = .ok (.iload 4, 2) := by decide +kernel
theorem d_Model_last_73 : decode b_Model_last 73 = .ok (.iaload, 1) := by decide +kernel
theorem d_Model_last_74 : decode b_Model_last 74 = .ok (.if_icmp .gt 37, 3) := by decide +kernel
theorem d_Model_last_77 : decode b_Model_last 77 = .ok (.aload_n 0, 1) := by decide +kernel
theorem d_Model_last_78 : decode b_Model_last 78 = .ok (.getfield 20, 3) := by decide +kernel
theorem d_Model_last_81 : decode b_Model_last 81 = .ok (.iload 5, 2) := by decide +kernel
theorem d_Model_last_83 : decode b_Model_last 83 = .ok (.iaload, 1) := by decide +kernel
theorem d_Model_last_84 : decode b_Model_last 84 = .ok (.aload_n 0, 1) := by decide +kernel
theorem d_Model_last_85 : decode b_Model_last 85 = .ok (.getfield 20, 3) := by decide +kernel
theorem d_Model_last_88 : decode b_Model_last 88 = .ok (.iload 4, 2) := by decide +kernel
theorem d_Model_last_90 : decode b_Model_last 90 = .ok (.iaload, 1) := by decide +kernel
theorem d_Model_last_91 : decode b_Model_last 91 = .ok (.if_icmp .ne 24, 3) := by decide +kernel
theorem d_Model_last_94 : decode b_Model_last 94 = .ok (.aload_n 0, 1) := by decide +kernel
theorem d_Model_last_95 : decode b_Model_last 95 = .ok (.getfield 23, 3) := by decide +kernel
theorem d_Model_last_98 : decode b_Model_last 98 = .ok (.iload 5, 2) := by decide +kernel
theorem d_Model_last_100 : decode b_Model_last 100 = .ok (.iaload, 1) := by decide +kernel
theorem d_Model_last_101 : decode b_Model_last 101 = .ok (.aload_n 0, 1) := by decide +kernel
theorem d_Model_last_102 : decode b_Model_last 102 = .ok (.getfield 23, 3) := by decide +kernel
theorem d_Model_last_105 : decode b_Model_last 105 = .ok (.iload 4, 2) := by decide +kernel
theorem d_Model_last_107 : decode b_Model_last 107 = .ok (.iaload, 1) := by decide +kernel
theorem d_Model_last_108 : decode b_Model_last 108 = .ok (.if_icmp .le 7, 3) := by decide +kernel
theorem d_Model_last_111 : decode b_Model_last 111 = .ok (.iconst 1, 1) := by decide +kernel
theorem d_Model_last_112 : decode b_Model_last 112 = .ok (.goto 4, 3) := by decide +kernel
theorem d_Model_last_115 : decode b_Model_last 115 = .ok (.iconst 0, 1) := by decide +kernel
theorem d_Model_last_116 : decode b_Model_last 116 = .ok (.istore 6, 2) := by decide +kernel
theorem d_Model_last_118 : decode b_Model_last 118 = .ok (.iload 6, 2) := by decide +kernel
theorem d_Model_last_120 : decode b_Model_last 120 = .ok (.ifCond .eq 8, 3) := by decide +kernel
theorem d_Model_last_123 : decode b_Model_last 123 = .ok (.iload 5, 2) := by decide +kernel
theorem d_Model_last_125 : decode b_Model_last 125 = .ok (.goto 5, 3) := by decide +kernel
theorem d_Model_last_128 : decode b_Model_last 128 = .ok (.iload 4, 2) := by decide +kernel
theorem d_Model_last_130 : decode b_Model_last 130 = .ok (.istore 4, 2) := by decide +kernel
theorem d_Model_last_132 : decode b_Model_last 132 = .ok (.iinc 5 1, 3) := by decide +kernel
theorem d_Model_last_135 : decode b_Model_last 135 = .ok (.goto (-129), 3) := by decide +kernel
theorem d_Model_last_138 : decode b_Model_last 138 = .ok (.iload 4, 2) := by decide +kernel
theorem d_Model_last_140 : decode b_Model_last 140 = .ok (.ifCond .ge 9, 3) := by decide +kernel
theorem d_Model_last_143 : decode b_Model_last 143 = .ok (.ldc2_w 124, 3) := by decide +kernel
theorem d_Model_last_146 : decode b_Model_last 146 = .ok (.goto 10, 3) := by decide +kernel
theorem d_Model_last_149 : decode b_Model_last 149 = .ok (.aload_n 0, 1) := by decide +kernel
theorem d_Model_last_150 : decode b_Model_last 150 = .ok (.getfield 32, 3) := by decide +kernel
theorem d_Model_last_153 : decode b_Model_last 153 = .ok (.iload 4, 2) := by decide +kernel
theorem d_Model_last_155 : decode b_Model_last 155 = .ok (.laload, 1) := by decide +kernel
theorem d_Model_last_156 : decode b_Model_last 156 = .ok (.lreturn, 1) := by decide +kernel
theorem d_Model_isLater_0 : decode b_Model_isLater 0 = .ok (.aload_n 0, 1) := by decide +kernel
theorem d_Model_isLater_1 : decode b_Model_isLater 1 = .ok (.getfield 29, 3) := by decide +kernel
theorem d_Model_isLater_4 : decode b_Model_isLater 4 = .ok (.iload_n 1, 1) := by decide +kernel
theorem d_Model_isLater_5 : decode b_Model_isLater 5 = .ok (.iaload, 1) := by decide +kernel
theorem d_Model_isLater_6 : decode b_Model_isLater 6 = .ok (.aload_n 0, 1) := by decide +kernel
theorem d_Model_isLater_7 : decode b_Model_isLater 7 = .ok (.getfield 29, 3) := by decide +kernel
theorem d_Model_isLater_10 : decode b_Model_isLater 10 = .ok (.iload_n 2, 1) := by decide +kernel
theorem d_Model_isLater_11 : decode b_Model_isLater 11 = .ok (.iaload, 1) := by decide +kernel
theorem d_Model_isLater_12 : decode b_Model_isLater 12 = .ok (.if_icmp .eq 24, 3) := by decide +kernel
theorem d_Model_isLater_15 : decode b_Model_isLater 15 = .ok (.aload_n 0, 1) := by decide +kernel
theorem d_Model_isLater_16 : decode b_Model_isLater 16 = .ok (.getfield 29, 3) := by decide +kernel
theorem d_Model_isLater_19 : decode b_Model_isLater 19 = .ok (.iload_n 1, 1) := by decide +kernel
theorem d_Model_isLater_20 : decode b_Model_isLater 20 = .ok (.iaload, 1) := by decide +kernel
theorem d_Model_isLater_21 : decode b_Model_isLater 21 = .ok (.aload_n 0, 1) := by decide +kernel
theorem d_Model_isLater_22 : decode b_Model_isLater 22 = .ok (.getfield 29, 3) := by decide +kernel
theorem d_Model_isLater_25 : decode b_Model_isLater 25 = .ok (.iload_n 2, 1) := by decide +kernel
theorem d_Model_isLater_26 : decode b_Model_isLater 26 = .ok (.iaload, 1) := by decide +kernel
theorem d_Model_isLater_27 : decode b_Model_isLater 27 = .ok (.if_icmp .le 7, 3) := by decide +kernel
theorem d_Model_isLater_30 : decode b_Model_isLater 30 = .ok (.iconst 1, 1) := by decide +kernel
theorem d_Model_isLater_31 : decode b_Model_isLater 31 = .ok (.goto 4, 3) := by decide +kernel
theorem d_Model_isLater_34 : decode b_Model_isLater 34 = .ok (.iconst 0, 1) := by decide +kernel
theorem d_Model_isLater_35 : decode b_Model_isLater 35 = .ok (.ireturn, 1) := by decide +kernel
theorem d_Model_isLater_36 : decode b_Model_isLater 36 = .ok (.aload_n 0, 1) := by decide +kernel
theorem d_Model_isLater_37 : decode b_Model_isLater 37 = .ok (.getfield 20, 3) := by decide +kernel
theorem d_Model_isLater_40 : decode b_Model_isLater 40 = .ok (.iload_n 1, 1) := by decide +kernel
theorem d_Model_isLater_41 : decode b_Model_isLater 41 = .ok (.iaload, 1) := by decide +kernel
theorem d_Model_isLater_42 : decode b_Model_isLater 42 = .ok (.aload_n 0, 1) := by decide +kernel
theorem d_Model_isLater_43 : decode b_Model_isLater 43 = .ok (.getfield 20, 3) := by decide +kernel
theorem d_Model_isLater_46 : decode b_Model_isLater 46 = .ok (.iload_n 2, 1) := by decide +kernel
theorem d_Model_isLater_47 : decode b_Model_isLater 47 = .ok (.iaload, 1) := by decide +kernel
theorem d_Model_isLater_48 : decode b_Model_isLater 48 = .ok (.if_icmp .eq 26, 3) := by decide +kernel
theorem d_Model_isLater_51 : decode b_Model_isLater 51 = .ok (.aload_n 0, 1) := by decide +kernel
theorem d_Model_isLater_52 : decode b_Model_isLater 52 = .ok (.getfield 20, 3) := by decide +kernel
theorem d_Model_isLater_55 : decode b_Model_isLater 55 = .ok (.iload_n 1, 1) := by decide +kernel
theorem d_Model_isLater_56 : decode b_Model_isLater 56 = .ok (.iaload, 1) := by decide +kernel
theorem d_Model_isLater_57 : decode b_Model_isLater 57 = .ok (.aload_n 0, 1) := by decide +kernel
theorem d_Model_isLater_58 : decode b_Model_isLater 58 = .ok (.getfield 20, 3) := by decide +kernel
theorem d_Model_isLater_61 : decode b_Model_isLater 61 = .ok (.iload_n 2, 1) := by decide +kernel
theorem d_Model_isLater_62 : decode b_Model_isLater 62 = .ok (.iaload, 1) := by decide +kernel
theorem d_Model_isLater_63 : decode b_Model_isLater 63 = .ok (.if_icmp .le 7, 3) := by decide +kernel
theorem d_Model_isLater_66 : decode b_Model_isLater 66 = .ok (.iconst 1, 1) := by decide +kernel
theorem d_Model_isLater_67 : decode b_Model_isLater 67 = .ok (.goto 27, 3) := by decide +kernel
theorem d_Model_isLater_70 : decode b_Model_isLater 70 = .ok (.iconst 0, 1) := by decide +kernel
theorem d_Model_isLater_71 : decode b_Model_isLater 71 = .ok (.goto 23, 3) := by decide +kernel
theorem d_Model_isLater_74 : decode b_Model_isLater 74 = .ok (.aload_n 0, 1) := by decide +kernel
theorem d_Model_isLater_75 : decode b_Model_isLater 75 = .ok (.getfield 23, 3) := by decide +kernel
theorem d_Model_isLater_78 : decode b_Model_isLater 78 = .ok (.iload_n 1, 1) := by decide +kernel
theorem d_Model_isLater_79 : decode b_Model_isLater 79 = .ok (.iaload, 1) := by decide +kernel
theorem d_Model_isLater_80 : decode b_Model_isLater 80 = .ok (.aload_n 0, 1) := by decide +kernel
theorem d_Model_isLater_81 : decode b_Model_isLater 81 = .ok (.getfield 23, 3) := by decide +kernel
theorem d_Model_isLater_84 : decode b_Model_isLater 84 = .ok (.iload_n 2, 1) := by decide +kernel
theorem d_Model_isLater_85 : decode b_Model_isLater 85 = .ok (.iaload, 1) := by decide +kernel
theorem d_Model_isLater_86 : decode b_Model_isLater 86 = .ok (.if_icmp .le 7, 3) := by decide +kernel
theorem d_Model_isLater_89 : decode b_Model_isLater 89 = .ok (.iconst 1, 1) := by decide +kernel
theorem d_Model_isLater_90 : decode b_Model_isLater 90 = .ok (.goto 4, 3) := by decide +kernel
theorem d_Model_isLater_93 : decode b_Model_isLater 93 = .ok (.iconst 0, 1) := by decide +kernel
theorem d_Model_isLater_94 : decode b_Model_isLater 94 = .ok (.ireturn, 1) := by decide +kernel
theorem d_Model_known_0 : decode b_Model_known 0 = .ok (.iconst (-1), 1) := by decide +kernel
theorem d_Model_known_1 : decode b_Model_known 1 = .ok (.istore 8, 2) := by decide +kernel
theorem d_Model_known_3 : decode b_Model_known 3 = .ok (.iconst 0, 1) := by decide +kernel
theorem d_Model_known_4 : decode b_Model_known 4 = .ok (.istore 9, 2) := by decide +kernel
theorem d_Model_known_6 : decode b_Model_known 6 = .ok (.iload 9, 2) := by decide +kernel
theorem d_Model_known_8 : decode b_Model_known 8 = .ok (.aload_n 0, 1) := by decide +kernel
theorem d_Model_known_9 : decode b_Model_known 9 = .ok (.getfield 89, 3) := by decide +kernel
theorem d_Model_known_12 : decode b_Model_known 12 = .ok (.if_icmp .ge 114, 3) := by decide +kernel
theorem d_Model_known_15 : decode b_Model_known 15 = .ok (.aload_n 0, 1) := by decide +kernel
theorem d_Model_known_16 : decode b_Model_known 16 = .ok (.iload_n 1, 1) := by decide +kernel
theorem d_Model_known_17 : decode b_Model_known 17 = .ok (.invokevirtual 96, 3) := by decide +kernel
theorem d_Model_known_20 : decode b_Model_known 20 = .ok (.ifCond .eq 67, 3) := by decide +kernel
theorem d_Model_known_23 : decode b_Model_known 23 = .ok (.aload_n 0, 1) := by decide +kernel
theorem d_Model_known_24 : decode b_Model_known 24 = .ok (.getfield 17, 3) := by decide +kernel
theorem d_Model_known_27 : decode b_Model_known 27 = .ok (.iload 9, 2) := by decide +kernel
theorem d_Model_known_29 : decode b_Model_known 29 = .ok (.iaload, 1) := by decide +kernel
theorem d_Model_known_30 : decode b_Model_known 30 = .ok (.iload_n 2, 1) := by decide +kernel
theorem d_Model_known_31 : decode b_Model_known 31 = .ok (.if_icmp .ne 56, 3) := by decide +kernel
theorem d_Model_known_34 : decode b_Model_known 34 = .ok (.aload_n 0, 1) := by decide +kernel
theorem d_Model_known_35 : decode b_Model_known 35 = .ok (.getfield 26, 3) := by decide +kernel
theorem d_Model_known_38 : decode b_Model_known 38 = .ok (.iload 9, 2) := by decide +kernel
theorem d_Model_known_40 : decode b_Model_known 40 = .ok (.iaload, 1) := by decide +kernel
theorem d_Model_known_41 : decode b_Model_known 41 = .ok (.iload_n 3, 1) := by decide +kernel
theorem d_Model_known_42 : decode b_Model_known 42 = .ok (.if_icmp .ne 45, 3) := by decide +kernel
theorem d_Model_known_45 : decode b_Model_known 45 = .ok (.aload_n 0, 1) := by decide +kernel
theorem d_Model_known_46 : decode b_Model_known 46 = .ok (.getfield 29, 3) := by decide +kernel
theorem d_Model_known_49 : decode b_Model_known 49 = .ok (.iload 9, 2) := by decide +kernel
theorem d_Model_known_51 : decode b_Model_known 51 = .ok (.iaload, 1) := by decide +kernel
theorem d_Model_known_52 : decode b_Model_known 52 = .ok (.i2l, 1) := by decide +kernel
theorem d_Model_known_53 : decode b_Model_known 53 = .ok (.lload 4, 2) := by decide +kernel
theorem d_Model_known_55 : decode b_Model_known 55 = .ok (.lcmp, 1) := by decide +kernel
theorem d_Model_known_56 : decode b_Model_known 56 = .ok (.ifCond .gt 31, 3) := by decide +kernel
theorem d_Model_known_59 : decode b_Model_known 59 = .ok (.aload_n 0, 1) := by decide +kernel
theorem d_Model_known_60 : decode b_Model_known 60 = .ok (.getfield 35, 3) := by decide +kernel
theorem d_Model_known_63 : decode b_Model_known 63 = .ok (.iload 9, 2) := by decide +kernel
theorem d_Model_known_65 : decode b_Model_known 65 = .ok (.iaload, 1) := by decide +kernel
theorem d_Model_known_66 : decode b_Model_known 66 = .ok (.i2l, 1) := by decide +kernel
theorem d_Model_known_67 : decode b_Model_known 67 = .ok (.lload 6, 2) := by decide +kernel
theorem d_Model_known_69 : decode b_Model_known 69 = .ok (.lcmp, 1) := by decide +kernel
theorem d_Model_known_70 : decode b_Model_known 70 = .ok (.ifCond .gt 17, 3) := by decide +kernel
theorem d_Model_known_73 : decode b_Model_known 73 = .ok (.aload_n 0, 1) := by decide +kernel
theorem d_Model_known_74 : decode b_Model_known 74 = .ok (.iload_n 1, 1) := by decide +kernel
theorem d_Model_known_75 : decode b_Model_known 75 = .ok (.iload 9, 2) := by decide +kernel
theorem d_Model_known_77 : decode b_Model_known 77 = .ok (.invokevirtual 121, 3) := by decide +kernel
theorem d_Model_known_80 : decode b_Model_known 80 = .ok (.ifCond .eq 7, 3) := by decide +kernel
theorem d_Model_known_83 : decode b_Model_known 83 = .ok (.iconst 1, 1) := by decide +kernel
theorem d_Model_known_84 : decode b_Model_known 84 = .ok (.goto 4, 3) := by decide +kernel
theorem d_Model_known_87 : decode b_Model_known 87 = .ok (.iconst 0, 1) := by decide +kernel
theorem d_Model_known_88 : decode b_Model_known 88 = .ok (.istore 10, 2) := by decide +kernel
theorem d_Model_known_90 : decode b_Model_known 90 = .ok (.iload 10, 2) := by decide +kernel
theorem d_Model_known_92 : decode b_Model_known 92 = .ok (.ifCond .eq 24, 3) := by decide +kernel
theorem d_Model_known_95 : decode b_Model_known 95 = .ok (.iload 8, 2) := by decide +kernel
theorem d_Model_known_97 : decode b_Model_known 97 = .ok (.ifCond .lt 14, 3) := by decide +kernel
theorem d_Model_known_100 : decode b_Model_known 100 = .ok (.aload_n 0, 1) := by decide +kernel
theorem d_Model_known_101 : decode b_Model_known 101 = .ok (.iload 9, 2) := by decide +kernel
theorem d_Model_known_103 : decode b_Model_known 103 = .ok (.iload 8, 2) := by decide +kernel
theorem d_Model_known_105 : decode b_Model_known 105 = .ok (.invokevirtual 126, 3) := by decide +kernel
theorem d_Model_known_108 : decode b_Model_known 108 = .ok (.ifCond .eq 8, 3) := by decide +kernel
theorem d_Model_known_111 : decode b_Model_known 111 = .ok (.iload 9, 2) := by decide +kernel
theorem d_Model_known_113 : decode b_Model_known 113 = .ok (.goto 5, 3) := by decide +kernel
theorem d_Model_known_116 : decode b_Model_known 116 = .ok (.iload 8, 2) := by decide +kernel
theorem d_Model_known_118 : decode b_Model_known 118 = .ok (.istore 8, 2) := by decide +kernel
theorem d_Model_known_120 : decode b_Model_known 120 = .ok (.iinc 9 1, 3) := by decide +kernel
theorem d_Model_known_123 : decode b_Model_known 123 = .ok (.goto (-117), 3) := by decide +kernel
theorem d_Model_known_126 : decode b_Model_known 126 = .ok (.iload 8, 2) := by decide +kernel
theorem d_Model_known_128 : decode b_Model_known 128 = .ok (.ifCond .ge 7, 3) := by decide +kernel
theorem d_Model_known_131 : decode b_Model_known 131 = .ok (.ldc2_w 124, 3) := by decide +kernel
theorem d_Model_known_134 : decode b_Model_known 134 = .ok (.lreturn, 1) := by decide +kernel
theorem d_Model_known_135 : decode b_Model_known 135 = .ok (.iconst (-1), 1) := by decide +kernel
theorem d_Model_known_136 : decode b_Model_known 136 = .ok (.istore 9, 2) := by decide +kernel
theorem d_Model_known_138 : decode b_Model_known 138 = .ok (.iconst 0, 1) := by decide +kernel
theorem d_Model_known_139 : decode b_Model_known 139 = .ok (.istore 10, 2) := by decide +kernel
theorem d_Model_known_141 : decode b_Model_known 141 = .ok (.iload 10, 2) := by decide +kernel
theorem d_Model_known_143 : decode b_Model_known 143 = .ok (.aload_n 0, 1) := by decide +kernel
theorem d_Model_known_144 : decode b_Model_known 144 = .ok (.getfield 106, 3) := by decide +kernel
theorem d_Model_known_147 : decode b_Model_known 147 = .ok (.if_icmp .ge 212, 3) := by decide +kernel
theorem d_Model_known_150 : decode b_Model_known 150 = .ok (.aload_n 0, 1) := by decide +kernel
theorem d_Model_known_151 : decode b_Model_known 151 = .ok (.getfield 48, 3) := by decide +kernel
theorem d_Model_known_154 : decode b_Model_known 154 = .ok (.bipush 20, 2) := by decide +kernel
theorem d_Model_known_156 : decode b_Model_known 156 = .ok (.iload_n 1, 1) := by decide +kernel
theorem d_Model_known_157 : decode b_Model_known 157 = .ok (.imul, 1) := by decide +kernel
theorem d_Model_known_158 : decode b_Model_known 158 = .ok (.iload 10, 2) := by decide +kernel
theorem d_Model_known_160 : decode b_Model_known 160 = .ok (.iadd, 1) := by decide +kernel
theorem d_Model_known_161 : decode b_Model_known 161 = .ok (.baload, 1) := by decide +kernel
theorem d_Model_known_162 : decode b_Model_known 162 = .ok (.ifCond .eq 79, 3) := by decide +kernel
theorem d_Model_known_165 : decode b_Model_known 165 = .ok (.aload_n 0, 1) := by decide +kernel
theorem d_Model_known_166 : decode b_Model_known 166 = .ok (.getfield 38, 3) := by decide +kernel
theorem d_Model_known_169 : decode b_Model_known 169 = .ok (.iconst 5, 1) := by decide +kernel
theorem d_Model_known_170 : decode b_Model_known 170 = .ok (.iload 10, 2) := by decide +kernel
theorem d_Model_known_172 : decode b_Model_known 172 = .ok (.imul, 1) := by decide +kernel
theorem d_Model_known_173 : decode b_Model_known 173 = .ok (.laload, 1) := by decide +kernel
theorem d_Model_known_174 : decode b_Model_known 174 = .ok (.iload_n 2, 1) := by decide +kernel
theorem d_Model_known_175 : decode b_Model_known 175 = .ok (.i2l, 1) := by decide +kernel
theorem d_Model_known_176 : decode b_Model_known 176 = .ok (.lcmp, 1) := by decide +kernel
theorem d_Model_known_177 : decode b_Model_known 177 = .ok (.ifCond .ne 64, 3) := by decide +kernel
theorem d_Model_known_180 : decode b_Model_known 180 = .ok (.aload_n 0, 1) := by decide +kernel
theorem d_Model_known_181 : decode b_Model_known 181 = .ok (.getfield 38, 3) := by decide +kernel
theorem d_Model_known_184 : decode b_Model_known 184 = .ok (.iconst 5, 1) := by decide +kernel
theorem d_Model_known_185 : decode b_Model_known 185 = .ok (.iload 10, 2) := by decide +kernel
theorem d_Model_known_187 : decode b_Model_known 187 = .ok (.imul, 1) := by decide +kernel
theorem d_Model_known_188 : decode b_Model_known 188 = .ok (.iconst 1, 1) := by decide +kernel
theorem d_Model_known_189 : decode b_Model_known 189 = .ok (.iadd, 1) := by decide +kernel
theorem d_Model_known_190 : decode b_Model_known 190 = .ok (.laload, 1) := by decide +kernel
theorem d_Model_known_191 : decode b_Model_known 191 = .ok (.iload_n 3, 1) := by decide +kernel
theorem d_Model_known_192 : decode b_Model_known 192 = .ok (.i2l, 1) := by decide +kernel
theorem d_Model_known_193 : decode b_Model_known 193 = .ok (.lcmp, 1) := by decide +kernel
theorem d_Model_known_194 : decode b_Model_known 194 = .ok (.ifCond .ne 47, 3) := by decide +kernel
theorem d_Model_known_197 : decode b_Model_known 197 = .ok (.aload_n 0, 1) := by decide +kernel
theorem d_Model_known_198 : decode b_Model_known 198 = .ok (.getfield 38, 3) := by decide +kernel
theorem d_Model_known_201 : decode b_Model_known 201 = .ok (.iconst 5, 1) := by decide +kernel
theorem d_Model_known_202 : decode b_Model_known 202 = .ok (.iload 10, 2) := by decide +kernel
theorem d_Model_known_204 : decode b_Model_known 204 = .ok (.imul, 1) := by decide +kernel
theorem d_Model_known_205 : decode b_Model_known 205 = .ok (.iconst 2, 1) := by decide +kernel
theorem d_Model_known_206 : decode b_Model_known 206 = .ok (.iadd, 1) := by decide +kernel
theorem d_Model_known_207 : decode b_Model_known 207 = .ok (.laload, 1) := by decide +kernel
theorem d_Model_known_208 : decode b_Model_known 208 = .ok (.aload_n 0, 1) := by decide +kernel
theorem d_Model_known_209 : decode b_Model_known 209 = .ok (.getfield 29, 3) := by decide +kernel
theorem d_Model_known_212 : decode b_Model_known 212 = .ok (.iload 8, 2) := by decide +kernel
theorem d_Model_known_214 : decode b_Model_known 214 = .ok (.iaload, 1) := by decide +kernel
theorem d_Model_known_215 : decode b_Model_known 215 = .ok (.i2l, 1) := by decide +kernel
theorem d_Model_known_216 : decode b_Model_known 216 = .ok (.lcmp, 1) := by decide +kernel
theorem d_Model_known_217 : decode b_Model_known 217 = .ok (.ifCond .ne 24, 3) := by decide +kernel
theorem d_Model_known_220 : decode b_Model_known 220 = .ok (.aload_n 0, 1) := by decide +kernel
theorem d_Model_known_221 : decode b_Model_known 221 = .ok (.getfield 38, 3) := by decide +kernel
theorem d_Model_known_224 : decode b_Model_known 224 = .ok (.iconst 5, 1) := by decide +kernel
theorem d_Model_known_225 : decode b_Model_known 225 = .ok (.iload 10, 2) := by decide +kernel
theorem d_Model_known_227 : decode b_Model_known 227 = .ok (.imul, 1) := by decide +kernel
theorem d_Model_known_228 : decode b_Model_known 228 = .ok (.iconst 4, 1) := by decide +kernel
theorem d_Model_known_229 : decode b_Model_known 229 = .ok (.iadd, 1) := by decide +kernel
theorem d_Model_known_230 : decode b_Model_known 230 = .ok (.laload, 1) := by decide +kernel
theorem d_Model_known_231 : decode b_Model_known 231 = .ok (.lload 6, 2) := by decide +kernel
theorem d_Model_known_233 : decode b_Model_known 233 = .ok (.lcmp, 1) := by decide +kernel
theorem d_Model_known_234 : decode b_Model_known 234 = .ok (.ifCond .gt 7, 3) := by decide +kernel
theorem d_Model_known_237 : decode b_Model_known 237 = .ok (.iconst 1, 1) := by decide +kernel
theorem d_Model_known_238 : decode b_Model_known 238 = .ok (.goto 4, 3) := by decide +kernel
theorem d_Model_known_241 : decode b_Model_known 241 = .ok (.iconst 0, 1) := by decide +kernel
theorem d_Model_known_242 : decode b_Model_known 242 = .ok (.istore 11, 2) := by decide +kernel
theorem d_Model_known_244 : decode b_Model_known 244 = .ok (.iload 9, 2) := by decide +kernel
theorem d_Model_known_246 : decode b_Model_known 246 = .ok (.ifCond .lt 81, 3) := by decide +kernel
theorem d_Model_known_249 : decode b_Model_known 249 = .ok (.aload_n 0, 1) := by decide +kernel
theorem d_Model_known_250 : decode b_Model_known 250 = .ok (.getfield 38, 3) := by decide +kernel
theorem d_Model_known_253 : decode b_Model_known 253 = .ok (.iconst 5, 1) := by decide +kernel
theorem d_Model_known_254 : decode b_Model_known 254 = .ok (.iload 10, 2) := by decide +kernel
theorem d_Model_known_256 : decode b_Model_known 256 = .ok (.imul, 1) := by decide +kernel
theorem d_Model_known_257 : decode b_Model_known 257 = .ok (.iconst 4, 1) := by decide +kernel
theorem d_Model_known_258 : decode b_Model_known 258 = .ok (.iadd, 1) := by decide +kernel
theorem d_Model_known_259 : decode b_Model_known 259 = .ok (.laload, 1) := by decide +kernel
theorem d_Model_known_260 : decode b_Model_known 260 = .ok (.aload_n 0, 1) := by decide +kernel
theorem d_Model_known_261 : decode b_Model_known 261 = .ok (.getfield 38, 3) := by decide +kernel
theorem d_Model_known_264 : decode b_Model_known 264 = .ok (.iconst 5, 1) := by decide +kernel
theorem d_Model_known_265 : decode b_Model_known 265 = .ok (.iload 9, 2) := by decide +kernel
theorem d_Model_known_267 : decode b_Model_known 267 = .ok (.imul, 1) := by decide +kernel
theorem d_Model_known_268 : decode b_Model_known 268 = .ok (.iconst 4, 1) := by decide +kernel
theorem d_Model_known_269 : decode b_Model_known 269 = .ok (.iadd, 1) := by decide +kernel
theorem d_Model_known_270 : decode b_Model_known 270 = .ok (.laload, 1) := by decide +kernel
theorem d_Model_known_271 : decode b_Model_known 271 = .ok (.lcmp, 1) := by decide +kernel
theorem d_Model_known_272 : decode b_Model_known 272 = .ok (.ifCond .gt 55, 3) := by decide +kernel
theorem d_Model_known_275 : decode b_Model_known 275 = .ok (.aload_n 0, 1) := by decide +kernel
theorem d_Model_known_276 : decode b_Model_known 276 = .ok (.getfield 38, 3) := by decide +kernel
theorem d_Model_known_279 : decode b_Model_known 279 = .ok (.iconst 5, 1) := by decide +kernel
theorem d_Model_known_280 : decode b_Model_known 280 = .ok (.iload 10, 2) := by decide +kernel
theorem d_Model_known_282 : decode b_Model_known 282 = .ok (.imul, 1) := by decide +kernel
theorem d_Model_known_283 : decode b_Model_known 283 = .ok (.iconst 4, 1) := by decide +kernel
theorem d_Model_known_284 : decode b_Model_known 284 = .ok (.iadd, 1) := by decide +kernel
theorem d_Model_known_285 : decode b_Model_known 285 = .ok (.laload, 1) := by decide +kernel
theorem d_Model_known_286 : decode b_Model_known 286 = .ok (.aload_n 0, 1) := by decide +kernel
theorem d_Model_known_287 : decode b_Model_known 287 = .ok (.getfield 38, 3) := by decide +kernel
theorem d_Model_known_290 : decode b_Model_known 290 = .ok (.iconst 5, 1) := by decide +kernel
theorem d_Model_known_291 : decode b_Model_known 291 = .ok (.iload 9, 2) := by decide +kernel
theorem d_Model_known_293 : decode b_Model_known 293 = .ok (.imul, 1) := by decide +kernel
theorem d_Model_known_294 : decode b_Model_known 294 = .ok (.iconst 4, 1) := by decide +kernel
theorem d_Model_known_295 : decode b_Model_known 295 = .ok (.iadd, 1) := by decide +kernel
theorem d_Model_known_296 : decode b_Model_known 296 = .ok (.laload, 1) := by decide +kernel
theorem d_Model_known_297 : decode b_Model_known 297 = .ok (.lcmp, 1) := by decide +kernel
theorem d_Model_known_298 : decode b_Model_known 298 = .ok (.ifCond .ne 33, 3) := by decide +kernel
theorem d_Model_known_301 : decode b_Model_known 301 = .ok (.aload_n 0, 1) := by decide +kernel
theorem d_Model_known_302 : decode b_Model_known 302 = .ok (.getfield 38, 3) := by decide +kernel
theorem d_Model_known_305 : decode b_Model_known 305 = .ok (.iconst 5, 1) := by decide +kernel
theorem d_Model_known_306 : decode b_Model_known 306 = .ok (.iload 10, 2) := by decide +kernel
theorem d_Model_known_308 : decode b_Model_known 308 = .ok (.imul, 1) := by decide +kernel
theorem d_Model_known_309 : decode b_Model_known 309 = .ok (.iconst 3, 1) := by decide +kernel
theorem d_Model_known_310 : decode b_Model_known 310 = .ok (.iadd, 1) := by decide +kernel
theorem d_Model_known_311 : decode b_Model_known 311 = .ok (.laload, 1) := by decide +kernel
theorem d_Model_known_312 : decode b_Model_known 312 = .ok (.aload_n 0, 1) := by decide +kernel
theorem d_Model_known_313 : decode b_Model_known 313 = .ok (.getfield 38, 3) := by decide +kernel
theorem d_Model_known_316 : decode b_Model_known 316 = .ok (.iconst 5, 1) := by decide +kernel
theorem d_Model_known_317 : decode b_Model_known 317 = .ok (.iload 9, 2) := by decide +kernel
theorem d_Model_known_319 : decode b_Model_known 319 = .ok (.imul, 1) := by decide +kernel
theorem d_Model_known_320 : decode b_Model_known 320 = .ok (.iconst 3, 1) := by decide +kernel
theorem d_Model_known_321 : decode b_Model_known 321 = .ok (.iadd, 1) := by decide +kernel
theorem d_Model_known_322 : decode b_Model_known 322 = .ok (.laload, 1) := by decide +kernel
theorem d_Model_known_323 : decode b_Model_known 323 = .ok (.lcmp, 1) := by decide +kernel
theorem d_Model_known_324 : decode b_Model_known 324 = .ok (.ifCond .le 7, 3) := by decide +kernel
theorem d_Model_known_327 : decode b_Model_known 327 = .ok (.iconst 1, 1) := by decide +kernel
theorem d_Model_known_328 : decode b_Model_known 328 = .ok (.goto 4, 3) := by decide +kernel
theorem d_Model_known_331 : decode b_Model_known 331 = .ok (.iconst 0, 1) := by decide +kernel
theorem d_Model_known_332 : decode b_Model_known 332 = .ok (.istore 12, 2) := by decide +kernel
theorem d_Model_known_334 : decode b_Model_known 334 = .ok (.iload 11, 2) := by decide +kernel
theorem d_Model_known_336 : decode b_Model_known 336 = .ok (.ifCond .eq 13, 3) := by decide +kernel
theorem d_Model_known_339 : decode b_Model_known 339 = .ok (.iload 12, 2) := by decide +kernel
theorem d_Model_known_341 : decode b_Model_known 341 = .ok (.ifCond .eq 8, 3) := by decide +kernel
theorem d_Model_known_344 : decode b_Model_known 344 = .ok (.iload 10, 2) := by decide +kernel
theorem d_Model_known_346 : decode b_Model_known 346 = .ok (.goto 5, 3) := by decide +kernel
theorem d_Model_known_349 : decode b_Model_known 349 = .ok (.iload 9, 2) := by decide +kernel
theorem d_Model_known_351 : decode b_Model_known 351 = .ok (.istore 9, 2) := by decide +kernel
theorem d_Model_known_353 : decode b_Model_known 353 = .ok (.iinc 10 1, 3) := by decide +kernel
theorem d_Model_known_356 : decode b_Model_known 356 = .ok (.goto (-215), 3) := by decide +kernel
theorem d_Model_known_359 : decode b_Model_known 359 = .ok (.iload 9, 2) := by decide +kernel
theorem d_Model_known_361 : decode b_Model_known 361 = .ok (.ifCond .ge 13, 3) := by decide +kernel
theorem d_Model_known_364 : decode b_Model_known 364 = .ok (.aload_n 0, 1) := by decide +kernel
theorem d_Model_known_365 : decode b_Model_known 365 = .ok (.getfield 32, 3) := by decide +kernel
theorem d_Model_known_368 : decode b_Model_known 368 = .ok (.iload 8, 2) := by decide +kernel
theorem d_Model_known_370 : decode b_Model_known 370 = .ok (.laload, 1) := by decide +kernel
theorem d_Model_known_371 : decode b_Model_known 371 = .ok (.goto 14, 3) := by decide +kernel
theorem d_Model_known_374 : decode b_Model_known 374 = .ok (.aload_n 0, 1) := by decide +kernel
theorem d_Model_known_375 : decode b_Model_known 375 = .ok (.getfield 38, 3) := by decide +kernel
theorem d_Model_known_378 : decode b_Model_known 378 = .ok (.iconst 5, 1) := by decide +kernel
theorem d_Model_known_379 : decode b_Model_known 379 = .ok (.iload 9, 2) := by decide +kernel
theorem d_Model_known_381 : decode b_Model_known 381 = .ok (.imul, 1) := by decide +kernel
theorem d_Model_known_382 : decode b_Model_known 382 = .ok (.iconst 3, 1) := by decide +kernel
theorem d_Model_known_383 : decode b_Model_known 383 = .ok (.iadd, 1) := by decide +kernel
theorem d_Model_known_384 : decode b_Model_known 384 = .ok (.laload, 1) := by decide +kernel
theorem d_Model_known_385 : decode b_Model_known 385 = .ok (.lreturn, 1) := by decide +kernel
theorem d_Model_gap_0 : decode b_Model_gap 0 = .ok (.aload_n 0, 1) := by decide +kernel
theorem d_Model_gap_1 : decode b_Model_gap 1 = .ok (.iload_n 1, 1) := by decide +kernel
theorem d_Model_gap_2 : decode b_Model_gap 2 = .ok (.invokevirtual 96, 3) := by decide +kernel
theorem d_Model_gap_5 : decode b_Model_gap 5 = .ok (.ifCond .eq 7, 3) := by decide +kernel
theorem d_Model_gap_8 : decode b_Model_gap 8 = .ok (.iload_n 3, 1) := by decide +kernel
theorem d_Model_gap_9 : decode b_Model_gap 9 = .ok (.ifCond .ge 5, 3) := by decide +kernel
theorem d_Model_gap_12 : decode b_Model_gap 12 = .ok (.iconst (-1), 1) := by decide +kernel
theorem d_Model_gap_13 : decode b_Model_gap 13 = .ok (.ireturn, 1) := by decide +kernel
theorem d_Model_gap_14 : decode b_Model_gap 14 = .ok (.iconst (-1), 1) := by decide +kernel
theorem d_Model_gap_15 : decode b_Model_gap 15 = .ok (.istore 4, 2) := by decide +kernel
theorem d_Model_gap_17 : decode b_Model_gap 17 = .ok (.iconst 0, 1) := by decide +kernel
theorem d_Model_gap_18 : decode b_Model_gap 18 = .ok (.istore 5, 2) := by decide +kernel
theorem d_Model_gap_20 : decode b_Model_gap 20 = .ok (.iload 5, 2) := by decide +kernel
theorem d_Model_gap_22 : decode b_Model_gap 22 = .ok (.aload_n 0, 1) := by decide +kernel
theorem d_Model_gap_23 : decode b_Model_gap 23 = .ok (.getfield 89, 3) := by decide +kernel
theorem d_Model_gap_26 : decode b_Model_gap 26 = .ok (.if_icmp .ge 73, 3) := by decide +kernel
theorem d_Model_gap_29 : decode b_Model_gap 29 = .ok (.aload_n 0, 1) := by decide +kernel
theorem d_Model_gap_30 : decode b_Model_gap 30 = .ok (.getfield 41, 3) := by decide +kernel
theorem d_Model_gap_33 : decode b_Model_gap 33 = .ok (.bipush 60, 2) := by decide +kernel
theorem d_Model_gap_35 : decode b_Model_gap 35 = .ok (.iload_n 1, 1) := by decide +kernel
theorem d_Model_gap_36 : decode b_Model_gap 36 = .ok (.imul, 1) := by decide +kernel
theorem d_Model_gap_37 : decode b_Model_gap 37 = .ok (.iload 5, 2) := by decide +kernel
theorem d_Model_gap_39 : decode b_Model_gap 39 = .ok (.iadd, 1) := by decide +kernel
theorem d_Model_gap_40 : decode b_Model_gap 40 = .ok (.baload, 1) := by decide +kernel
theorem d_Model_gap_41 : decode b_Model_gap 41 = .ok (.ifCond .eq 18, 3) := by decide +kernel
theorem d_Model_gap_44 : decode b_Model_gap 44 = .ok (.aload_n 0, 1) := by decide +kernel
theorem d_Model_gap_45 : decode b_Model_gap 45 = .ok (.getfield 17, 3) := by decide +kernel
theorem d_Model_gap_48 : decode b_Model_gap 48 = .ok (.iload 5, 2) := by decide +kernel
theorem d_Model_gap_50 : decode b_Model_gap 50 = .ok (.iaload, 1) := by decide +kernel
theorem d_Model_gap_51 : decode b_Model_gap 51 = .ok (.iload_n 2, 1) := by decide +kernel
theorem d_Model_gap_52 : decode b_Model_gap 52 = .ok (.if_icmp .ne 7, 3) := by decide +kernel
theorem d_Model_gap_55 : decode b_Model_gap 55 = .ok (.iconst 1, 1) := by decide +kernel
theorem d_Model_gap_56 : decode b_Model_gap 56 = .ok (.goto 4, 3) := by decide +kernel
theorem d_Model_gap_59 : decode b_Model_gap 59 = .ok (.iconst 0, 1) := by decide +kernel
theorem d_Model_gap_60 : decode b_Model_gap 60 = .ok (.istore 6, 2) := by decide +kernel
theorem d_Model_gap_62 : decode b_Model_gap 62 = .ok (.iload 6, 2) := by decide +kernel
theorem d_Model_gap_64 : decode b_Model_gap 64 = .ok (.ifCond .eq 25, 3) := by decide +kernel
theorem d_Model_gap_67 : decode b_Model_gap 67 = .ok (.aload_n 0, 1) := by decide +kernel
theorem d_Model_gap_68 : decode b_Model_gap 68 = .ok (.getfield 20, 3) := by decide +kernel
theorem d_Model_gap_71 : decode b_Model_gap 71 = .ok (.iload 5, 2) := by decide +kernel
theorem d_Model_gap_73 : decode b_Model_gap 73 = .ok (.iaload, 1) := by decide +kernel
theorem d_Model_gap_74 : decode b_Model_gap 74 = .ok (.iload 4, 2) := by decide +kernel
theorem d_Model_gap_76 : decode b_Model_gap 76 = .ok (.if_icmp .le 13, 3) := by decide +kernel
theorem d_Model_gap_79 : decode b_Model_gap 79 = .ok (.aload_n 0, 1) := by decide +kernel
theorem d_Model_gap_80 : decode b_Model_gap 80 = .ok (.getfield 20, 3) := by decide +kernel
theorem d_Model_gap_83 : decode b_Model_gap 83 = .ok (.iload 5, 2) := by decide +kernel
theorem d_Model_gap_85 : decode b_Model_gap 85 = .ok (.iaload, 1) := by decide +kernel
theorem d_Model_gap_86 : decode b_Model_gap 86 = .ok (.goto 5, 3) := by decide +kernel
theorem d_Model_gap_89 : decode b_Model_gap 89 = .ok (.iload 4, 2) := by decide +kernel
theorem d_Model_gap_91 : decode b_Model_gap 91 = .ok (.istore 4, 2) := by decide +kernel
theorem d_Model_gap_93 : decode b_Model_gap 93 = .ok (.iinc 5 1, 3) := by decide +kernel
theorem d_Model_gap_96 : decode b_Model_gap 96 = .ok (.goto (-76), 3) := by decide +kernel
theorem d_Model_gap_99 : decode b_Model_gap 99 = .ok (.iload_n 3, 1) := by decide +kernel
theorem d_Model_gap_100 : decode b_Model_gap 100 = .ok (.istore 5, 2) := by decide +kernel
theorem d_Model_gap_102 : decode b_Model_gap 102 = .ok (.iconst (-1), 1) := by decide +kernel
theorem d_Model_gap_103 : decode b_Model_gap 103 = .ok (.istore 6, 2) := by decide +kernel
theorem d_Model_gap_105 : decode b_Model_gap 105 = .ok (.aload_n 0, 1) := by decide +kernel
theorem d_Model_gap_106 : decode b_Model_gap 106 = .ok (.iload_n 1, 1) := by decide +kernel
theorem d_Model_gap_107 : decode b_Model_gap 107 = .ok (.iload_n 2, 1) := by decide +kernel
theorem d_Model_gap_108 : decode b_Model_gap 108 = .ok (.iload 4, 2) := by decide +kernel
theorem d_Model_gap_110 : decode b_Model_gap 110 = .ok (.iconst (-1), 1) := by decide +kernel
theorem d_Model_gap_111 : decode b_Model_gap 111 = .ok (.invokevirtual 129, 3) := by decide +kernel
theorem d_Model_gap_114 : decode b_Model_gap 114 = .ok (.istore 7, 2) := by decide +kernel
theorem d_Model_gap_116 : decode b_Model_gap 116 = .ok (.iload 7, 2) := by decide +kernel
theorem d_Model_gap_118 : decode b_Model_gap 118 = .ok (.ifCond .lt 62, 3) := by decide +kernel
theorem d_Model_gap_121 : decode b_Model_gap 121 = .ok (.iload 6, 2) := by decide +kernel
theorem d_Model_gap_123 : decode b_Model_gap 123 = .ok (.ifCond .ge 7, 3) := by decide +kernel
theorem d_Model_gap_126 : decode b_Model_gap 126 = .ok (.iconst 0, 1) := by decide +kernel
theorem d_Model_gap_127 : decode b_Model_gap 127 = .ok (.goto 10, 3) := by decide +kernel
theorem d_Model_gap_130 : decode b_Model_gap 130 = .ok (.iload 7, 2) := by decide +kernel
theorem d_Model_gap_132 : decode b_Model_gap 132 = .ok (.iload 6, 2) := by decide +kernel
theorem d_Model_gap_134 : decode b_Model_gap 134 = .ok (.isub, 1) := by decide +kernel
theorem d_Model_gap_135 : decode b_Model_gap 135 = .ok (.iconst 1, 1) := by decide +kernel
theorem d_Model_gap_136 : decode b_Model_gap 136 = .ok (.isub, 1) := by decide +kernel
theorem d_Model_gap_137 : decode b_Model_gap 137 = .ok (.istore 8, 2) := by decide +kernel
theorem d_Model_gap_139 : decode b_Model_gap 139 = .ok (.iload 5, 2) := by decide +kernel
theorem d_Model_gap_141 : decode b_Model_gap 141 = .ok (.iload 8, 2) := by decide +kernel
theorem d_Model_gap_143 : decode b_Model_gap 143 = .ok (.if_icmp .ge 11, 3) := by decide +kernel
theorem d_Model_gap_146 : decode b_Model_gap 146 = .ok (.iload 6, 2) := by decide +kernel
theorem d_Model_gap_148 : decode b_Model_gap 148 = .ok (.iconst 1, 1) := by decide +kernel
theorem d_Model_gap_149 : decode b_Model_gap 149 = .ok (.iadd, 1) := by decide +kernel
theorem d_Model_gap_150 : decode b_Model_gap 150 = .ok (.iload 5, 2) := by decide +kernel
theorem d_Model_gap_152 : decode b_Model_gap 152 = .ok (.iadd, 1) := by decide +kernel
theorem d_Model_gap_153 : decode b_Model_gap 153 = .ok (.ireturn, 1) := by decide +kernel
theorem d_Model_gap_154 : decode b_Model_gap 154 = .ok (.iload 5, 2) := by decide +kernel
theorem d_Model_gap_156 : decode b_Model_gap 156 = .ok (.iload 8, 2) := by decide +kernel
theorem d_Model_gap_158 : decode b_Model_gap 158 = .ok (.isub, 1) := by decide +kernel
theorem d_Model_gap_159 : decode b_Model_gap 159 = .ok (.istore 5, 2) := by decide +kernel
theorem d_Model_gap_161 : decode b_Model_gap 161 = .ok (.iload 7, 2) := by decide +kernel
theorem d_Model_gap_163 : decode b_Model_gap 163 = .ok (.istore 6, 2) := by decide +kernel
theorem d_Model_gap_165 : decode b_Model_gap 165 = .ok (.aload_n 0, 1) := by decide +kernel
theorem d_Model_gap_166 : decode b_Model_gap 166 = .ok (.iload_n 1, 1) := by decide +kernel
theorem d_Model_gap_167 : decode b_Model_gap 167 = .ok (.iload_n 2, 1) := by decide +kernel
theorem d_Model_gap_168 : decode b_Model_gap 168 = .ok (.iload 4, 2) := by decide +kernel
theorem d_Model_gap_170 : decode b_Model_gap 170 = .ok (.iload 6, 2) := by decide +kernel
theorem d_Model_gap_172 : decode b_Model_gap 172 = .ok (.invokevirtual 129, 3) := by decide +kernel
theorem d_Model_gap_175 : decode b_Model_gap 175 = .ok (.istore 7, 2) := by decide +kernel
theorem d_Model_gap_177 : decode b_Model_gap 177 = .ok (.goto (-61), 3) := by decide +kernel
theorem d_Model_gap_180 : decode b_Model_gap 180 = .ok (.iconst (-1), 1) := by decide +kernel
theorem d_Model_gap_181 : decode b_Model_gap 181 = .ok (.ireturn, 1) := by decide +kernel
theorem d_Model_nextNumber_0 : decode b_Model_nextNumber 0 = .ok (.iconst (-1), 1) := by decide +kernel
theorem d_Model_nextNumber_1 : decode b_Model_nextNumber 1 = .ok (.istore 5, 2) := by decide +kernel
theorem d_Model_nextNumber_3 : decode b_Model_nextNumber 3 = .ok (.iconst 0, 1) := by decide +kernel
theorem d_Model_nextNumber_4 : decode b_Model_nextNumber 4 = .ok (.istore 6, 2) := by decide +kernel
theorem d_Model_nextNumber_6 : decode b_Model_nextNumber 6 = .ok (.iload 6, 2) := by decide +kernel
theorem d_Model_nextNumber_8 : decode b_Model_nextNumber 8 = .ok (.aload_n 0, 1) := by decide +kernel
theorem d_Model_nextNumber_9 : decode b_Model_nextNumber 9 = .ok (.getfield 89, 3) := by decide +kernel
theorem d_Model_nextNumber_12 : decode b_Model_nextNumber 12 = .ok (.if_icmp .ge 101, 3) := by decide +kernel
theorem d_Model_nextNumber_15 : decode b_Model_nextNumber 15 = .ok (.aload_n 0, 1) := by decide +kernel
theorem d_Model_nextNumber_16 : decode b_Model_nextNumber 16 = .ok (.getfield 41, 3) := by decide +kernel
theorem d_Model_nextNumber_19 : decode b_Model_nextNumber 19 = .ok (.bipush 60, 2) := by decide +kernel
theorem d_Model_nextNumber_21 : decode b_Model_nextNumber 21 = .ok (.iload_n 1, 1) := by decide +kernel
theorem d_Model_nextNumber_22 : decode b_Model_nextNumber 22 = .ok (.imul, 1) := by decide +kernel
theorem d_Model_nextNumber_23 : decode b_Model_nextNumber 23 = .ok (.iload 6, 2) := by decide +kernel
theorem d_Model_nextNumber_25 : decode b_Model_nextNumber 25 = .ok (.iadd, 1) := by decide +kernel
theorem d_Model_nextNumber_26 : decode b_Model_nextNumber 26 = .ok (.baload, 1) := by decide +kernel
theorem d_Model_nextNumber_27 : decode b_Model_nextNumber 27 = .ok (.ifCond .eq 41, 3) := by decide +kernel
theorem d_Model_nextNumber_30 : decode b_Model_nextNumber 30 = .ok (.aload_n 0, 1) := by decide +kernel
theorem d_Model_nextNumber_31 : decode b_Model_nextNumber 31 = .ok (.getfield 17, 3) := by decide +kernel
theorem d_Model_nextNumber_34 : decode b_Model_nextNumber 34 = .ok (.iload 6, 2) := by decide +kernel
theorem d_Model_nextNumber_36 : decode b_Model_nextNumber 36 = .ok (.iaload, 1) := by decide +kernel
theorem d_Model_nextNumber_37 : decode b_Model_nextNumber 37 = .ok (.iload_n 2, 1) := by decide +kernel
theorem d_Model_nextNumber_38 : decode b_Model_nextNumber 38 = .ok (.if_icmp .ne 30, 3) := by decide +kernel
theorem d_Model_nextNumber_41 : decode b_Model_nextNumber 41 = .ok (.aload_n 0, 1) := by decide +kernel
theorem d_Model_nextNumber_42 : decode b_Model_nextNumber 42 = .ok (.getfield 20, 3) := by decide +kernel
theorem d_Model_nextNumber_45 : decode b_Model_nextNumber 45 = .ok (.iload 6, 2) := by decide +kernel
theorem d_Model_nextNumber_47 : decode b_Model_nextNumber 47 = .ok (.iaload, 1) := by decide +kernel
theorem d_Model_nextNumber_48 : decode b_Model_nextNumber 48 = .ok (.iload_n 3, 1) := by decide +kernel
theorem d_Model_nextNumber_49 : decode b_Model_nextNumber 49 = .ok (.if_icmp .ne 19, 3) := by decide +kernel
theorem d_Model_nextNumber_52 : decode b_Model_nextNumber 52 = .ok (.aload_n 0, 1) := by decide +kernel
theorem d_Model_nextNumber_53 : decode b_Model_nextNumber 53 = .ok (.getfield 23, 3) := by decide +kernel
theorem d_Model_nextNumber_56 : decode b_Model_nextNumber 56 = .ok (.iload 6, 2) := by decide +kernel
theorem d_Model_nextNumber_58 : decode b_Model_nextNumber 58 = .ok (.iaload, 1) := by decide +kernel
theorem d_Model_nextNumber_59 : decode b_Model_nextNumber 59 = .ok (.iload 4, 2) := by decide +kernel
theorem d_Model_nextNumber_61 : decode b_Model_nextNumber 61 = .ok (.if_icmp .le 7, 3) := by decide +kernel
theorem d_Model_nextNumber_64 : decode b_Model_nextNumber 64 = .ok (.iconst 1, 1) := by decide +kernel
theorem d_Model_nextNumber_65 : decode b_Model_nextNumber 65 = .ok (.goto 4, 3) := by decide +kernel
theorem d_Model_nextNumber_68 : decode b_Model_nextNumber 68 = .ok (.iconst 0, 1) := by decide +kernel
theorem d_Model_nextNumber_69 : decode b_Model_nextNumber 69 = .ok (.istore 7, 2) := by decide +kernel
theorem d_Model_nextNumber_71 : decode b_Model_nextNumber 71 = .ok (.iload 7, 2) := by decide +kernel
theorem d_Model_nextNumber_73 : decode b_Model_nextNumber 73 = .ok (.ifCond .eq 30, 3) := by decide +kernel
theorem d_Model_nextNumber_76 : decode b_Model_nextNumber 76 = .ok (.iload 5, 2) := by decide +kernel
theorem d_Model_nextNumber_78 : decode b_Model_nextNumber 78 = .ok (.ifCond .lt 15, 3) := by decide +kernel
theorem d_Model_nextNumber_81 : decode b_Model_nextNumber 81 = .ok (.aload_n 0, 1) := by decide +kernel
theorem d_Model_nextNumber_82 : decode b_Model_nextNumber 82 = .ok (.getfield 23, 3) := by decide +kernel
theorem d_Model_nextNumber_85 : decode b_Model_nextNumber 85 = .ok (.iload 6, 2) := by decide +kernel
theorem d_Model_nextNumber_87 : decode b_Model_nextNumber 87 = .ok (.iaload, 1) := by decide +kernel
theorem d_Model_nextNumber_88 : decode b_Model_nextNumber 88 = .ok (.iload 5, 2) := by decide +kernel
theorem d_Model_nextNumber_90 : decode b_Model_nextNumber 90 = .ok (.if_icmp .ge 13, 3) := by decide +kernel
theorem d_Model_nextNumber_93 : decode b_Model_nextNumber 93 = .ok (.aload_n 0, 1) := by decide +kernel
theorem d_Model_nextNumber_94 : decode b_Model_nextNumber 94 = .ok (.getfield 23, 3) := by decide +kernel
theorem d_Model_nextNumber_97 : decode b_Model_nextNumber 97 = .ok (.iload 6, 2) := by decide +kernel
theorem d_Model_nextNumber_99 : decode b_Model_nextNumber 99 = .ok (.iaload, 1) := by decide +kernel
theorem d_Model_nextNumber_100 : decode b_Model_nextNumber 100 = .ok (.goto 5, 3) := by decide +kernel
theorem d_Model_nextNumber_103 : decode b_Model_nextNumber 103 = .ok (.iload 5, 2) := by decide +kernel
theorem d_Model_nextNumber_105 : decode b_Model_nextNumber 105 = .ok (.istore 5, 2) := by decide +kernel
theorem d_Model_nextNumber_107 : decode b_Model_nextNumber 107 = .ok (.iinc 6 1, 3) := by decide +kernel
theorem d_Model_nextNumber_110 : decode b_Model_nextNumber 110 = .ok (.goto (-104), 3) := by decide +kernel
theorem d_Model_nextNumber_113 : decode b_Model_nextNumber 113 = .ok (.iload 5, 2) := by decide +kernel
theorem d_Model_nextNumber_115 : decode b_Model_nextNumber 115 = .ok (.ireturn, 1) := by decide +kernel
theorem d_Model_isConflict_0 : decode b_Model_isConflict 0 = .ok (.aload_n 0, 1) := by decide +kernel
theorem d_Model_isConflict_1 : decode b_Model_isConflict 1 = .ok (.iload_n 1, 1) := by decide +kernel
theorem d_Model_isConflict_2 : decode b_Model_isConflict 2 = .ok (.iload_n 2, 1) := by decide +kernel
theorem d_Model_isConflict_3 : decode b_Model_isConflict 3 = .ok (.invokevirtual 109, 3) := by decide +kernel
theorem d_Model_isConflict_6 : decode b_Model_isConflict 6 = .ok (.ifCond .ne 5, 3) := by decide +kernel
theorem d_Model_isConflict_9 : decode b_Model_isConflict 9 = .ok (.iconst 0, 1) := by decide +kernel
theorem d_Model_isConflict_10 : decode b_Model_isConflict 10 = .ok (.ireturn, 1) := by decide +kernel
theorem d_Model_isConflict_11 : decode b_Model_isConflict 11 = .ok (.iconst 0, 1) := by decide +kernel
theorem d_Model_isConflict_12 : decode b_Model_isConflict 12 = .ok (.istore_n 3, 1) := by decide +kernel
theorem d_Model_isConflict_13 : decode b_Model_isConflict 13 = .ok (.aload_n 0, 1) := by decide +kernel
theorem d_Model_isConflict_14 : decode b_Model_isConflict 14 = .ok (.iload_n 1, 1) := by decide +kernel
theorem d_Model_isConflict_15 : decode b_Model_isConflict 15 = .ok (.iload_n 2, 1) := by decide +kernel
theorem d_Model_isConflict_16 : decode b_Model_isConflict 16 = .ok (.invokevirtual 112, 3) := by decide +kernel
theorem d_Model_isConflict_19 : decode b_Model_isConflict 19 = .ok (.istore 4, 2) := by decide +kernel
theorem d_Model_isConflict_21 : decode b_Model_isConflict 21 = .ok (.iconst 0, 1) := by decide +kernel
theorem d_Model_isConflict_22 : decode b_Model_isConflict 22 = .ok (.istore 5, 2) := by decide +kernel
theorem d_Model_isConflict_24 : decode b_Model_isConflict 24 = .ok (.iload 5, 2) := by decide +kernel
theorem d_Model_isConflict_26 : decode b_Model_isConflict 26 = .ok (.aload_n 0, 1) := by decide +kernel
theorem d_Model_isConflict_27 : decode b_Model_isConflict 27 = .ok (.getfield 89, 3) := by decide +kernel
theorem d_Model_isConflict_30 : decode b_Model_isConflict 30 = .ok (.if_icmp .ge 67, 3) := by decide +kernel
theorem d_Model_isConflict_33 : decode b_Model_isConflict 33 = .ok (.iload 5, 2) := by decide +kernel
theorem d_Model_isConflict_35 : decode b_Model_isConflict 35 = .ok (.iload_n 2, 1) := by decide +kernel
theorem d_Model_isConflict_36 : decode b_Model_isConflict 36 = .ok (.if_icmp .eq 55, 3) := by decide +kernel
theorem d_Model_isConflict_39 : decode b_Model_isConflict 39 = .ok (.aload_n 0, 1) := by decide +kernel
theorem d_Model_isConflict_40 : decode b_Model_isConflict 40 = .ok (.iload_n 2, 1) := by decide +kernel
theorem d_Model_isConflict_41 : decode b_Model_isConflict 41 = .ok (.iload 5, 2) := by decide +kernel
theorem d_Model_isConflict_43 : decode b_Model_isConflict 43 = .ok (.invokevirtual 115, 3) := by decide +kernel
theorem d_Model_isConflict_46 : decode b_Model_isConflict 46 = .ok (.ifCond .eq 45, 3) := by decide +kernel
theorem d_Model_isConflict_49 : decode b_Model_isConflict 49 = .ok (.aload_n 0, 1) := by decide +kernel
theorem d_Model_isConflict_50 : decode b_Model_isConflict 50 = .ok (.iload_n 1, 1) := by decide +kernel
theorem d_Model_isConflict_51 : decode b_Model_isConflict 51 = .ok (.iload 5, 2) := by decide +kernel
theorem d_Model_isConflict_53 : decode b_Model_isConflict 53 = .ok (.invokevirtual 109, 3) := by decide +kernel
theorem d_Model_isConflict_56 : decode b_Model_isConflict 56 = .ok (.ifCond .eq 35, 3) := by decide +kernel
theorem d_Model_isConflict_59 : decode b_Model_isConflict 59 = .ok (.iload 5, 2) := by decide +kernel
theorem d_Model_isConflict_61 : decode b_Model_isConflict 61 = .ok (.iload_n 2, 1) := by decide +kernel
theorem d_Model_isConflict_62 : decode b_Model_isConflict 62 = .ok (.if_icmp .ge 5, 3) := by decide +kernel
theorem d_Model_isConflict_65 : decode b_Model_isConflict 65 = .ok (.iconst 0, 1) := by decide +kernel
theorem d_Model_isConflict_66 : decode b_Model_isConflict 66 = .ok (.ireturn, 1) := by decide +kernel
theorem d_Model_isConflict_67 : decode b_Model_isConflict 67 = .ok (.iconst 1, 1) := by decide +kernel
theorem d_Model_isConflict_68 : decode b_Model_isConflict 68 = .ok (.istore_n 3, 1) := by decide +kernel
theorem d_Model_isConflict_69 : decode b_Model_isConflict 69 = .ok (.iload 4, 2) := by decide +kernel
theorem d_Model_isConflict_71 : decode b_Model_isConflict 71 = .ok (.ifCond .ne 13, 3) := by decide +kernel
theorem d_Model_isConflict_74 : decode b_Model_isConflict 74 = .ok (.aload_n 0, 1) := by decide +kernel
theorem d_Model_isConflict_75 : decode b_Model_isConflict 75 = .ok (.iload_n 1, 1) := by decide +kernel
theorem d_Model_isConflict_76 : decode b_Model_isConflict 76 = .ok (.iload 5, 2) := by decide +kernel
theorem d_Model_isConflict_78 : decode b_Model_isConflict 78 = .ok (.invokevirtual 112, 3) := by decide +kernel
theorem d_Model_isConflict_81 : decode b_Model_isConflict 81 = .ok (.ifCond .eq 7, 3) := by decide +kernel
theorem d_Model_isConflict_84 : decode b_Model_isConflict 84 = .ok (.iconst 1, 1) := by decide +kernel
theorem d_Model_isConflict_85 : decode b_Model_isConflict 85 = .ok (.goto 4, 3) := by decide +kernel
theorem d_Model_isConflict_88 : decode b_Model_isConflict 88 = .ok (.iconst 0, 1) := by decide +kernel
theorem d_Model_isConflict_89 : decode b_Model_isConflict 89 = .ok (.istore 4, 2) := by decide +kernel
theorem d_Model_isConflict_91 : decode b_Model_isConflict 91 = .ok (.iinc 5 1, 3) := by decide +kernel
theorem d_Model_isConflict_94 : decode b_Model_isConflict 94 = .ok (.goto (-70), 3) := by decide +kernel
theorem d_Model_isConflict_97 : decode b_Model_isConflict 97 = .ok (.iload_n 3, 1) := by decide +kernel
theorem d_Model_isConflict_98 : decode b_Model_isConflict 98 = .ok (.ifCond .eq 12, 3) := by decide +kernel
theorem d_Model_isConflict_101 : decode b_Model_isConflict 101 = .ok (.iload 4, 2) := by decide +kernel
theorem d_Model_isConflict_103 : decode b_Model_isConflict 103 = .ok (.ifCond .ne 7, 3) := by decide +kernel
theorem d_Model_isConflict_106 : decode b_Model_isConflict 106 = .ok (.iconst 1, 1) := by decide +kernel
theorem d_Model_isConflict_107 : decode b_Model_isConflict 107 = .ok (.goto 4, 3) := by decide +kernel
theorem d_Model_isConflict_110 : decode b_Model_isConflict 110 = .ok (.iconst 0, 1) := by decide +kernel
theorem d_Model_isConflict_111 : decode b_Model_isConflict 111 = .ok (.ireturn, 1) := by decide +kernel
theorem d_Model_conflicts_0 : decode b_Model_conflicts 0 = .ok (.iconst 0, 1) := by decide +kernel
theorem d_Model_conflicts_1 : decode b_Model_conflicts 1 = .ok (.istore_n 2, 1) := by decide +kernel
theorem d_Model_conflicts_2 : decode b_Model_conflicts 2 = .ok (.iconst 0, 1) := by decide +kernel
theorem d_Model_conflicts_3 : decode b_Model_conflicts 3 = .ok (.istore_n 3, 1) := by decide +kernel
theorem d_Model_conflicts_4 : decode b_Model_conflicts 4 = .ok (.iload_n 3, 1) := by decide +kernel
theorem d_Model_conflicts_5 : decode b_Model_conflicts 5 = .ok (.aload_n 0, 1) := by decide +kernel
theorem d_Model_conflicts_6 : decode b_Model_conflicts 6 = .ok (.getfield 89, 3) := by decide +kernel
theorem d_Model_conflicts_9 : decode b_Model_conflicts 9 = .ok (.if_icmp .ge 26, 3) := by decide +kernel
theorem d_Model_conflicts_12 : decode b_Model_conflicts 12 = .ok (.aload_n 0, 1) := by decide +kernel
theorem d_Model_conflicts_13 : decode b_Model_conflicts 13 = .ok (.iload_n 1, 1) := by decide +kernel
theorem d_Model_conflicts_14 : decode b_Model_conflicts 14 = .ok (.iload_n 3, 1) := by decide +kernel
theorem d_Model_conflicts_15 : decode b_Model_conflicts 15 = .ok (.invokevirtual 133, 3) := by decide +kernel
theorem d_Model_conflicts_18 : decode b_Model_conflicts 18 = .ok (.ifCond .eq 9, 3) := by decide +kernel
theorem d_Model_conflicts_21 : decode b_Model_conflicts 21 = .ok (.iload_n 2, 1) := by decide +kernel
theorem d_Model_conflicts_22 : decode b_Model_conflicts 22 = .ok (.iconst 1, 1) := by decide +kernel
theorem d_Model_conflicts_23 : decode b_Model_conflicts 23 = .ok (.iadd, 1) := by decide +kernel
theorem d_Model_conflicts_24 : decode b_Model_conflicts 24 = .ok (.goto 4, 3) := by decide +kernel
theorem d_Model_conflicts_27 : decode b_Model_conflicts 27 = .ok (.iload_n 2, 1) := by decide +kernel
theorem d_Model_conflicts_28 : decode b_Model_conflicts 28 = .ok (.istore_n 2, 1) := by decide +kernel
theorem d_Model_conflicts_29 : decode b_Model_conflicts 29 = .ok (.iinc 3 1, 3) := by decide +kernel
theorem d_Model_conflicts_32 : decode b_Model_conflicts 32 = .ok (.goto (-28), 3) := by decide +kernel
theorem d_Model_conflicts_35 : decode b_Model_conflicts 35 = .ok (.iload_n 2, 1) := by decide +kernel
theorem d_Model_conflicts_36 : decode b_Model_conflicts 36 = .ok (.ireturn, 1) := by decide +kernel
theorem d_Model_isKeyBefore_0 : decode b_Model_isKeyBefore 0 = .ok (.aload_n 0, 1) := by decide +kernel
theorem d_Model_isKeyBefore_1 : decode b_Model_isKeyBefore 1 = .ok (.getfield 17, 3) := by decide +kernel
theorem d_Model_isKeyBefore_4 : decode b_Model_isKeyBefore 4 = .ok (.iload_n 1, 1) := by decide +kernel
theorem d_Model_isKeyBefore_5 : decode b_Model_isKeyBefore 5 = .ok (.iaload, 1) := by decide +kernel
theorem d_Model_isKeyBefore_6 : decode b_Model_isKeyBefore 6 = .ok (.aload_n 0, 1) := by decide +kernel
theorem d_Model_isKeyBefore_7 : decode b_Model_isKeyBefore 7 = .ok (.getfield 17, 3) := by decide +kernel
theorem d_Model_isKeyBefore_10 : decode b_Model_isKeyBefore 10 = .ok (.iload_n 2, 1) := by decide +kernel
theorem d_Model_isKeyBefore_11 : decode b_Model_isKeyBefore 11 = .ok (.iaload, 1) := by decide +kernel
theorem d_Model_isKeyBefore_12 : decode b_Model_isKeyBefore 12 = .ok (.if_icmp .eq 24, 3) := by decide +kernel
theorem d_Model_isKeyBefore_15 : decode b_Model_isKeyBefore 15 = .ok (.aload_n 0, 1) := by decide +kernel
theorem d_Model_isKeyBefore_16 : decode b_Model_isKeyBefore 16 = .ok (.getfield 17, 3) := by decide +kernel
theorem d_Model_isKeyBefore_19 : decode b_Model_isKeyBefore 19 = .ok (.iload_n 1, 1) := by decide +kernel
theorem d_Model_isKeyBefore_20 : decode b_Model_isKeyBefore 20 = .ok (.iaload, 1) := by decide +kernel
theorem d_Model_isKeyBefore_21 : decode b_Model_isKeyBefore 21 = .ok (.aload_n 0, 1) := by decide +kernel
theorem d_Model_isKeyBefore_22 : decode b_Model_isKeyBefore 22 = .ok (.getfield 17, 3) := by decide +kernel
theorem d_Model_isKeyBefore_25 : decode b_Model_isKeyBefore 25 = .ok (.iload_n 2, 1) := by decide +kernel
theorem d_Model_isKeyBefore_26 : decode b_Model_isKeyBefore 26 = .ok (.iaload, 1) := by decide +kernel
theorem d_Model_isKeyBefore_27 : decode b_Model_isKeyBefore 27 = .ok (.if_icmp .ge 7, 3) := by decide +kernel
theorem d_Model_isKeyBefore_30 : decode b_Model_isKeyBefore 30 = .ok (.iconst 1, 1) := by decide +kernel
theorem d_Model_isKeyBefore_31 : decode b_Model_isKeyBefore 31 = .ok (.goto 4, 3) := by decide +kernel
theorem d_Model_isKeyBefore_34 : decode b_Model_isKeyBefore 34 = .ok (.iconst 0, 1) := by decide +kernel
theorem d_Model_isKeyBefore_35 : decode b_Model_isKeyBefore 35 = .ok (.ireturn, 1) := by decide +kernel
theorem d_Model_isKeyBefore_36 : decode b_Model_isKeyBefore 36 = .ok (.aload_n 0, 1) := by decide +kernel
theorem d_Model_isKeyBefore_37 : decode b_Model_isKeyBefore 37 = .ok (.getfield 20, 3) := by decide +kernel
theorem d_Model_isKeyBefore_40 : decode b_Model_isKeyBefore 40 = .ok (.iload_n 1, 1) := by decide +kernel
theorem d_Model_isKeyBefore_41 : decode b_Model_isKeyBefore 41 = .ok (.iaload, 1) := by decide +kernel
theorem d_Model_isKeyBefore_42 : decode b_Model_isKeyBefore 42 = .ok (.aload_n 0, 1) := by decide +kernel
theorem d_Model_isKeyBefore_43 : decode b_Model_isKeyBefore 43 = .ok (.getfield 20, 3) := by decide +kernel
theorem d_Model_isKeyBefore_46 : decode b_Model_isKeyBefore 46 = .ok (.iload_n 2, 1) := by decide +kernel
theorem d_Model_isKeyBefore_47 : decode b_Model_isKeyBefore 47 = .ok (.iaload, 1) := by decide +kernel
theorem d_Model_isKeyBefore_48 : decode b_Model_isKeyBefore 48 = .ok (.if_icmp .eq 24, 3) := by decide +kernel
theorem d_Model_isKeyBefore_51 : decode b_Model_isKeyBefore 51 = .ok (.aload_n 0, 1) := by decide +kernel
theorem d_Model_isKeyBefore_52 : decode b_Model_isKeyBefore 52 = .ok (.getfield 20, 3) := by decide +kernel
theorem d_Model_isKeyBefore_55 : decode b_Model_isKeyBefore 55 = .ok (.iload_n 1, 1) := by decide +kernel
theorem d_Model_isKeyBefore_56 : decode b_Model_isKeyBefore 56 = .ok (.iaload, 1) := by decide +kernel
theorem d_Model_isKeyBefore_57 : decode b_Model_isKeyBefore 57 = .ok (.aload_n 0, 1) := by decide +kernel
theorem d_Model_isKeyBefore_58 : decode b_Model_isKeyBefore 58 = .ok (.getfield 20, 3) := by decide +kernel
theorem d_Model_isKeyBefore_61 : decode b_Model_isKeyBefore 61 = .ok (.iload_n 2, 1) := by decide +kernel
theorem d_Model_isKeyBefore_62 : decode b_Model_isKeyBefore 62 = .ok (.iaload, 1) := by decide +kernel
theorem d_Model_isKeyBefore_63 : decode b_Model_isKeyBefore 63 = .ok (.if_icmp .ge 7, 3) := by decide +kernel
theorem d_Model_isKeyBefore_66 : decode b_Model_isKeyBefore 66 = .ok (.iconst 1, 1) := by decide +kernel
theorem d_Model_isKeyBefore_67 : decode b_Model_isKeyBefore 67 = .ok (.goto 4, 3) := by decide +kernel
theorem d_Model_isKeyBefore_70 : decode b_Model_isKeyBefore 70 = .ok (.iconst 0, 1) := by decide +kernel
theorem d_Model_isKeyBefore_71 : decode b_Model_isKeyBefore 71 = .ok (.ireturn, 1) := by decide +kernel
theorem d_Model_isKeyBefore_72 : decode b_Model_isKeyBefore 72 = .ok (.aload_n 0, 1) := by decide +kernel
theorem d_Model_isKeyBefore_73 : decode b_Model_isKeyBefore 73 = .ok (.getfield 23, 3) := by decide +kernel
theorem d_Model_isKeyBefore_76 : decode b_Model_isKeyBefore 76 = .ok (.iload_n 1, 1) := by decide +kernel
theorem d_Model_isKeyBefore_77 : decode b_Model_isKeyBefore 77 = .ok (.iaload, 1) := by decide +kernel
theorem d_Model_isKeyBefore_78 : decode b_Model_isKeyBefore 78 = .ok (.aload_n 0, 1) := by decide +kernel
theorem d_Model_isKeyBefore_79 : decode b_Model_isKeyBefore 79 = .ok (.getfield 23, 3) := by decide +kernel
theorem d_Model_isKeyBefore_82 : decode b_Model_isKeyBefore 82 = .ok (.iload_n 2, 1) := by decide +kernel
theorem d_Model_isKeyBefore_83 : decode b_Model_isKeyBefore 83 = .ok (.iaload, 1) := by decide +kernel
theorem d_Model_isKeyBefore_84 : decode b_Model_isKeyBefore 84 = .ok (.if_icmp .eq 26, 3) := by decide +kernel
theorem d_Model_isKeyBefore_87 : decode b_Model_isKeyBefore 87 = .ok (.aload_n 0, 1) := by decide +kernel
theorem d_Model_isKeyBefore_88 : decode b_Model_isKeyBefore 88 = .ok (.getfield 23, 3) := by decide +kernel
theorem d_Model_isKeyBefore_91 : decode b_Model_isKeyBefore 91 = .ok (.iload_n 1, 1) := by decide +kernel
theorem d_Model_isKeyBefore_92 : decode b_Model_isKeyBefore 92 = .ok (.iaload, 1) := by decide +kernel
theorem d_Model_isKeyBefore_93 : decode b_Model_isKeyBefore 93 = .ok (.aload_n 0, 1) := by decide +kernel
theorem d_Model_isKeyBefore_94 : decode b_Model_isKeyBefore 94 = .ok (.getfield 23, 3) := by decide +kernel
theorem d_Model_isKeyBefore_97 : decode b_Model_isKeyBefore 97 = .ok (.iload_n 2, 1) := by decide +kernel
theorem d_Model_isKeyBefore_98 : decode b_Model_isKeyBefore 98 = .ok (.iaload, 1) := by decide +kernel
theorem d_Model_isKeyBefore_99 : decode b_Model_isKeyBefore 99 = .ok (.if_icmp .ge 7, 3) := by decide +kernel
theorem d_Model_isKeyBefore_102 : decode b_Model_isKeyBefore 102 = .ok (.iconst 1, 1) := by decide +kernel
theorem d_Model_isKeyBefore_103 : decode b_Model_isKeyBefore 103 = .ok (.goto 27, 3) := by decide +kernel
theorem d_Model_isKeyBefore_106 : decode b_Model_isKeyBefore 106 = .ok (.iconst 0, 1) := by decide +kernel
theorem d_Model_isKeyBefore_107 : decode b_Model_isKeyBefore 107 = .ok (.goto 23, 3) := by decide +kernel
theorem d_Model_isKeyBefore_110 : decode b_Model_isKeyBefore 110 = .ok (.aload_n 0, 1) := by decide +kernel
theorem d_Model_isKeyBefore_111 : decode b_Model_isKeyBefore 111 = .ok (.getfield 26, 3) := by decide +kernel
theorem d_Model_isKeyBefore_114 : decode b_Model_isKeyBefore 114 = .ok (.iload_n 1, 1) := by decide +kernel
theorem d_Model_isKeyBefore_115 : decode b_Model_isKeyBefore 115 = .ok (.iaload, 1) := by decide +kernel
theorem d_Model_isKeyBefore_116 : decode b_Model_isKeyBefore 116 = .ok (.aload_n 0, 1) := by decide +kernel
theorem d_Model_isKeyBefore_117 : decode b_Model_isKeyBefore 117 = .ok (.getfield 26, 3) := by decide +kernel
theorem d_Model_isKeyBefore_120 : decode b_Model_isKeyBefore 120 = .ok (.iload_n 2, 1) := by decide +kernel
theorem d_Model_isKeyBefore_121 : decode b_Model_isKeyBefore 121 = .ok (.iaload, 1) := by decide +kernel
theorem d_Model_isKeyBefore_122 : decode b_Model_isKeyBefore 122 = .ok (.if_icmp .ge 7, 3) := by decide +kernel
theorem d_Model_isKeyBefore_125 : decode b_Model_isKeyBefore 125 = .ok (.iconst 1, 1) := by decide +kernel
theorem d_Model_isKeyBefore_126 : decode b_Model_isKeyBefore 126 = .ok (.goto 4, 3) := by decide +kernel
theorem d_Model_isKeyBefore_129 : decode b_Model_isKeyBefore 129 = .ok (.iconst 0, 1) := by decide +kernel
theorem d_Model_isKeyBefore_130 : decode b_Model_isKeyBefore 130 = .ok (.ireturn, 1) := by decide +kernel
theorem d_Model_conflict_0 : decode b_Model_conflict 0 = .ok (.iconst 0, 1) := by decide +kernel
theorem d_Model_conflict_1 : decode b_Model_conflict 1 = .ok (.istore 4, 2) := by decide +kernel
theorem d_Model_conflict_3 : decode b_Model_conflict 3 = .ok (.iload 4, 2) := by decide +kernel
theorem d_Model_conflict_5 : decode b_Model_conflict 5 = .ok (.aload_n 0, 1) := by decide +kernel
theorem d_Model_conflict_6 : decode b_Model_conflict 6 = .ok (.getfield 89, 3) := by decide +kernel
theorem d_Model_conflict_9 : decode b_Model_conflict 9 = .ok (.if_icmp .ge 146, 3) := by decide +kernel
theorem d_Model_conflict_12 : decode b_Model_conflict 12 = .ok (.aload_n 0, 1) := by decide +kernel
theorem d_Model_conflict_13 : decode b_Model_conflict 13 = .ok (.iload_n 1, 1) := by decide +kernel
theorem d_Model_conflict_14 : decode b_Model_conflict 14 = .ok (.invokevirtual 96, 3) := by decide +kernel
theorem d_Model_conflict_17 : decode b_Model_conflict 17 = .ok (.ifCond .eq 138, 3) := by decide +kernel
theorem d_Model_conflict_20 : decode b_Model_conflict 20 = .ok (.aload_n 0, 1) := by decide +kernel
theorem d_Model_conflict_21 : decode b_Model_conflict 21 = .ok (.iload_n 1, 1) := by decide +kernel
theorem d_Model_conflict_22 : decode b_Model_conflict 22 = .ok (.iload 4, 2) := by decide +kernel
theorem d_Model_conflict_24 : decode b_Model_conflict 24 = .ok (.invokevirtual 133, 3) := by decide +kernel
theorem d_Model_conflict_27 : decode b_Model_conflict 27 = .ok (.ifCond .eq 122, 3) := by decide +kernel
theorem d_Model_conflict_30 : decode b_Model_conflict 30 = .ok (.iconst 0, 1) := by decide +kernel
theorem d_Model_conflict_31 : decode b_Model_conflict 31 = .ok (.istore 5, 2) := by decide +kernel
theorem d_Model_conflict_33 : decode b_Model_conflict 33 = .ok (.iconst 0, 1) := by decide +kernel
theorem d_Model_conflict_34 : decode b_Model_conflict 34 = .ok (.istore 6, 2) := by decide +kernel
theorem d_Model_conflict_36 : decode b_Model_conflict 36 = .ok (.iload 6, 2) := by decide +kernel
theorem d_Model_conflict_38 : decode b_Model_conflict 38 = .ok (.aload_n 0, 1) := by decide +kernel
theorem d_Model_conflict_39 : decode b_Model_conflict 39 = .ok (.getfield 89, 3) := by decide +kernel
theorem d_Model_conflict_42 : decode b_Model_conflict 42 = .ok (.if_icmp .ge 40, 3) := by decide +kernel
theorem d_Model_conflict_45 : decode b_Model_conflict 45 = .ok (.iload 5, 2) := by decide +kernel
theorem d_Model_conflict_47 : decode b_Model_conflict 47 = .ok (.aload_n 0, 1) := by decide +kernel
theorem d_Model_conflict_48 : decode b_Model_conflict 48 = .ok (.iload_n 1, 1) := by decide +kernel
theorem d_Model_conflict_49 : decode b_Model_conflict 49 = .ok (.iload 6, 2) := by decide +kernel
theorem d_Model_conflict_51 : decode b_Model_conflict 51 = .ok (.invokevirtual 133, 3) := by decide +kernel
theorem d_Model_conflict_54 : decode b_Model_conflict 54 = .ok (.ifCond .eq 18, 3) := by decide +kernel
theorem d_Model_conflict_57 : decode b_Model_conflict 57 = .ok (.aload_n 0, 1) := by decide +kernel
theorem d_Model_conflict_58 : decode b_Model_conflict 58 = .ok (.iload 6, 2) := by decide +kernel
theorem d_Model_conflict_60 : decode b_Model_conflict 60 = .ok (.iload 4, 2) := by decide +kernel
theorem d_Model_conflict_62 : decode b_Model_conflict 62 = .ok (.invokevirtual 136, 3) := by decide +kernel
theorem d_Model_conflict_65 : decode b_Model_conflict 65 = .ok (.ifCond .eq 7, 3) := by decide +kernel
theorem d_Model_conflict_68 : decode b_Model_conflict 68 = .ok (.iconst 1, 1) := by decide +kernel
theorem d_Model_conflict_69 : decode b_Model_conflict 69 = .ok (.goto 4, 3) := by decide +kernel
theorem d_Model_conflict_72 : decode b_Model_conflict 72 = .ok (.iconst 0, 1) := by decide +kernel
theorem d_Model_conflict_73 : decode b_Model_conflict 73 = .ok (.iadd, 1) := by decide +kernel
theorem d_Model_conflict_74 : decode b_Model_conflict 74 = .ok (.istore 5, 2) := by decide +kernel
theorem d_Model_conflict_76 : decode b_Model_conflict 76 = .ok (.iinc 6 1, 3) := by decide +kernel
theorem d_Model_conflict_79 : decode b_Model_conflict 79 = .ok (.goto (-43), 3) := by decide +kernel
theorem d_Model_conflict_82 : decode b_Model_conflict 82 = .ok (.iload 5, 2) := by decide +kernel
theorem d_Model_conflict_84 : decode b_Model_conflict 84 = .ok (.iload_n 2, 1) := by decide +kernel
theorem d_Model_conflict_85 : decode b_Model_conflict 85 = .ok (.if_icmp .ne 64, 3) := by decide +kernel
theorem d_Model_conflict_88 : decode b_Model_conflict 88 = .ok (.iload_n 3, 1) := by decide +kernel
theorem d_Model_conflict_89 : decode b_Model_conflict 89 = .ok (.ifCond .ne 13, 3) := by decide +kernel
theorem d_Model_conflict_92 : decode b_Model_conflict 92 = .ok (.aload_n 0, 1) := by decide +kernel
theorem d_Model_conflict_93 : decode b_Model_conflict 93 = .ok (.getfield 17, 3) := by decide +kernel
theorem d_Model_conflict_96 : decode b_Model_conflict 96 = .ok (.iload 4, 2) := by decide +kernel
theorem d_Model_conflict_98 : decode b_Model_conflict 98 = .ok (.iaload, 1) := by decide +kernel
theorem d_Model_conflict_99 : decode b_Model_conflict 99 = .ok (.goto 49, 3) := by decide +kernel
theorem d_Model_conflict_102 : decode b_Model_conflict 102 = .ok (.iload_n 3, 1) := by decide +kernel
theorem d_Model_conflict_103 : decode b_Model_conflict 103 = .ok (.iconst 1, 1) := by decide +kernel
theorem d_Model_conflict_104 : decode b_Model_conflict 104 = .ok (.if_icmp .ne 13, 3) := by decide +kernel
theorem d_Model_conflict_107 : decode b_Model_conflict 107 = .ok (.aload_n 0, 1) := by decide +kernel
theorem d_Model_conflict_108 : decode b_Model_conflict 108 = .ok (.getfield 20, 3) := by decide +kernel
theorem d_Model_conflict_111 : decode b_Model_conflict 111 = .ok (.iload 4, 2) := by decide +kernel
theorem d_Model_conflict_113 : decode b_Model_conflict 113 = .ok (.iaload, 1) := by decide +kernel
theorem d_Model_conflict_114 : decode b_Model_conflict 114 = .ok (.goto 34, 3) := by decide +kernel
theorem d_Model_conflict_117 : decode b_Model_conflict 117 = .ok (.iload_n 3, 1) := by decide +kernel
theorem d_Model_conflict_118 : decode b_Model_conflict 118 = .ok (.iconst 2, 1) := by decide +kernel
theorem d_Model_conflict_119 : decode b_Model_conflict 119 = .ok (.if_icmp .ne 13, 3) := by decide +kernel
theorem d_Model_conflict_122 : decode b_Model_conflict 122 = .ok (.aload_n 0, 1) := by decide +kernel
theorem d_Model_conflict_123 : decode b_Model_conflict 123 = .ok (.getfield 23, 3) := by decide +kernel
theorem d_Model_conflict_126 : decode b_Model_conflict 126 = .ok (.iload 4, 2) := by decide +kernel
theorem d_Model_conflict_128 : decode b_Model_conflict 128 = .ok (.iaload, 1) := by decide +kernel
theorem d_Model_conflict_129 : decode b_Model_conflict 129 = .ok (.goto 19, 3) := by decide +kernel
theorem d_Model_conflict_132 : decode b_Model_conflict 132 = .ok (.iload_n 3, 1) := by decide +kernel
theorem d_Model_conflict_133 : decode b_Model_conflict 133 = .ok (.iconst 3, 1) := by decide +kernel
theorem d_Model_conflict_134 : decode b_Model_conflict 134 = .ok (.if_icmp .ne 13, 3) := by decide +kernel
theorem d_Model_conflict_137 : decode b_Model_conflict 137 = .ok (.aload_n 0, 1) := by decide +kernel
theorem d_Model_conflict_138 : decode b_Model_conflict 138 = .ok (.getfield 26, 3) := by decide +kernel
theorem d_Model_conflict_141 : decode b_Model_conflict 141 = .ok (.iload 4, 2) := by decide +kernel
theorem d_Model_conflict_143 : decode b_Model_conflict 143 = .ok (.iaload, 1) := by decide +kernel
theorem d_Model_conflict_144 : decode b_Model_conflict 144 = .ok (.goto 4, 3) := by decide +kernel
theorem d_Model_conflict_147 : decode b_Model_conflict 147 = .ok (.iconst (-1), 1) := by decide +kernel
theorem d_Model_conflict_148 : decode b_Model_conflict 148 = .ok (.ireturn, 1) := by decide +kernel
theorem d_Model_conflict_149 : decode b_Model_conflict 149 = .ok (.iinc 4 1, 3) := by decide +kernel
theorem d_Model_conflict_152 : decode b_Model_conflict 152 = .ok (.goto (-149), 3) := by decide +kernel
theorem d_Model_conflict_155 : decode b_Model_conflict 155 = .ok (.iconst (-1), 1) := by decide +kernel
theorem d_Model_conflict_156 : decode b_Model_conflict 156 = .ok (.ireturn, 1) := by decide +kernel
theorem d_Model_settle_0 : decode b_Model_settle 0 = .ok (.iconst (-1), 1) := by decide +kernel
theorem d_Model_settle_1 : decode b_Model_settle 1 = .ok (.istore 5, 2) := by decide +kernel
theorem d_Model_settle_3 : decode b_Model_settle 3 = .ok (.iconst 0, 1) := by decide +kernel
theorem d_Model_settle_4 : decode b_Model_settle 4 = .ok (.istore 6, 2) := by decide +kernel
theorem d_Model_settle_6 : decode b_Model_settle 6 = .ok (.iload 6, 2) := by decide +kernel
theorem d_Model_settle_8 : decode b_Model_settle 8 = .ok (.aload_n 0, 1) := by decide +kernel
theorem d_Model_settle_9 : decode b_Model_settle 9 = .ok (.getfield 89, 3) := by decide +kernel
theorem d_Model_settle_12 : decode b_Model_settle 12 = .ok (.if_icmp .ge 86, 3) := by decide +kernel
theorem d_Model_settle_15 : decode b_Model_settle 15 = .ok (.aload_n 0, 1) := by decide +kernel
theorem d_Model_settle_16 : decode b_Model_settle 16 = .ok (.iload_n 1, 1) := by decide +kernel
theorem d_Model_settle_17 : decode b_Model_settle 17 = .ok (.invokevirtual 96, 3) := by decide +kernel
theorem d_Model_settle_20 : decode b_Model_settle 20 = .ok (.ifCond .eq 39, 3) := by decide +kernel
theorem d_Model_settle_23 : decode b_Model_settle 23 = .ok (.aload_n 0, 1) := by decide +kernel
theorem d_Model_settle_24 : decode b_Model_settle 24 = .ok (.getfield 17, 3) := by decide +kernel
theorem d_Model_settle_27 : decode b_Model_settle 27 = .ok (.iload 6, 2) := by decide +kernel
theorem d_Model_settle_29 : decode b_Model_settle 29 = .ok (.iaload, 1) := by decide +kernel
theorem d_Model_settle_30 : decode b_Model_settle 30 = .ok (.iload_n 2, 1) := by decide +kernel
theorem d_Model_settle_31 : decode b_Model_settle 31 = .ok (.if_icmp .ne 28, 3) := by decide +kernel
theorem d_Model_settle_34 : decode b_Model_settle 34 = .ok (.aload_n 0, 1) := by decide +kernel
theorem d_Model_settle_35 : decode b_Model_settle 35 = .ok (.getfield 26, 3) := by decide +kernel
theorem d_Model_settle_38 : decode b_Model_settle 38 = .ok (.iload 6, 2) := by decide +kernel
theorem d_Model_settle_40 : decode b_Model_settle 40 = .ok (.iaload, 1) := by decide +kernel
theorem d_Model_settle_41 : decode b_Model_settle 41 = .ok (.iload_n 3, 1) := by decide +kernel
theorem d_Model_settle_42 : decode b_Model_settle 42 = .ok (.if_icmp .ne 17, 3) := by decide +kernel
theorem d_Model_settle_45 : decode b_Model_settle 45 = .ok (.aload_n 0, 1) := by decide +kernel
theorem d_Model_settle_46 : decode b_Model_settle 46 = .ok (.iload_n 1, 1) := by decide +kernel
theorem d_Model_settle_47 : decode b_Model_settle 47 = .ok (.iload 6, 2) := by decide +kernel
theorem d_Model_settle_49 : decode b_Model_settle 49 = .ok (.invokevirtual 133, 3) := by decide +kernel
theorem d_Model_settle_52 : decode b_Model_settle 52 = .ok (.ifCond .eq 7, 3) := by decide +kernel
theorem d_Model_settle_55 : decode b_Model_settle 55 = .ok (.iconst 1, 1) := by decide +kernel
theorem d_Model_settle_56 : decode b_Model_settle 56 = .ok (.goto 4, 3) := by decide +kernel
theorem d_Model_settle_59 : decode b_Model_settle 59 = .ok (.iconst 0, 1) := by decide +kernel
theorem d_Model_settle_60 : decode b_Model_settle 60 = .ok (.istore 7, 2) := by decide +kernel
theorem d_Model_settle_62 : decode b_Model_settle 62 = .ok (.iload 7, 2) := by decide +kernel
theorem d_Model_settle_64 : decode b_Model_settle 64 = .ok (.ifCond .eq 24, 3) := by decide +kernel
theorem d_Model_settle_67 : decode b_Model_settle 67 = .ok (.iload 5, 2) := by decide +kernel
theorem d_Model_settle_69 : decode b_Model_settle 69 = .ok (.ifCond .lt 14, 3) := by decide +kernel
theorem d_Model_settle_72 : decode b_Model_settle 72 = .ok (.aload_n 0, 1) := by decide +kernel
theorem d_Model_settle_73 : decode b_Model_settle 73 = .ok (.iload 6, 2) := by decide +kernel
theorem d_Model_settle_75 : decode b_Model_settle 75 = .ok (.iload 5, 2) := by decide +kernel
theorem d_Model_settle_77 : decode b_Model_settle 77 = .ok (.invokevirtual 136, 3) := by decide +kernel
theorem d_Model_settle_80 : decode b_Model_settle 80 = .ok (.ifCond .eq 8, 3) := by decide +kernel
theorem d_Model_settle_83 : decode b_Model_settle 83 = .ok (.iload 6, 2) := by decide +kernel
theorem d_Model_settle_85 : decode b_Model_settle 85 = .ok (.goto 5, 3) := by decide +kernel
theorem d_Model_settle_88 : decode b_Model_settle 88 = .ok (.iload 5, 2) := by decide +kernel
theorem d_Model_settle_90 : decode b_Model_settle 90 = .ok (.istore 5, 2) := by decide +kernel
theorem d_Model_settle_92 : decode b_Model_settle 92 = .ok (.iinc 6 1, 3) := by decide +kernel
theorem d_Model_settle_95 : decode b_Model_settle 95 = .ok (.goto (-89), 3) := by decide +kernel
theorem d_Model_settle_98 : decode b_Model_settle 98 = .ok (.iconst 0, 1) := by decide +kernel
theorem d_Model_settle_99 : decode b_Model_settle 99 = .ok (.istore 6, 2) := by decide +kernel
theorem d_Model_settle_101 : decode b_Model_settle 101 = .ok (.iload 6, 2) := by decide +kernel
theorem d_Model_settle_103 : decode b_Model_settle 103 = .ok (.aload_n 0, 1) := by decide +kernel
theorem d_Model_settle_104 : decode b_Model_settle 104 = .ok (.getfield 89, 3) := by decide +kernel
theorem d_Model_settle_107 : decode b_Model_settle 107 = .ok (.if_icmp .ge 131, 3) := by decide +kernel
theorem d_Model_settle_110 : decode b_Model_settle 110 = .ok (.iload 5, 2) := by decide +kernel
theorem d_Model_settle_112 : decode b_Model_settle 112 = .ok (.ifCond .lt 126, 3) := by decide +kernel
theorem d_Model_settle_115 : decode b_Model_settle 115 = .ok (.aload_n 0, 1) := by decide +kernel
theorem d_Model_settle_116 : decode b_Model_settle 116 = .ok (.iload 6, 2) := by decide +kernel
theorem d_Model_settle_118 : decode b_Model_settle 118 = .ok (.iload 5, 2) := by decide +kernel
theorem d_Model_settle_120 : decode b_Model_settle 120 = .ok (.invokevirtual 115, 3) := by decide +kernel
theorem d_Model_settle_123 : decode b_Model_settle 123 = .ok (.ifCond .eq 109, 3) := by decide +kernel
theorem d_Model_settle_126 : decode b_Model_settle 126 = .ok (.aload_n 0, 1) := by decide +kernel
theorem d_Model_settle_127 : decode b_Model_settle 127 = .ok (.iload_n 1, 1) := by decide +kernel
theorem d_Model_settle_128 : decode b_Model_settle 128 = .ok (.iload 6, 2) := by decide +kernel
theorem d_Model_settle_130 : decode b_Model_settle 130 = .ok (.invokevirtual 109, 3) := by decide +kernel
theorem d_Model_settle_133 : decode b_Model_settle 133 = .ok (.ifCond .eq 99, 3) := by decide +kernel
theorem d_Model_settle_136 : decode b_Model_settle 136 = .ok (.iconst 0, 1) := by decide +kernel
theorem d_Model_settle_137 : decode b_Model_settle 137 = .ok (.istore 7, 2) := by decide +kernel
theorem d_Model_settle_139 : decode b_Model_settle 139 = .ok (.iconst 0, 1) := by decide +kernel
theorem d_Model_settle_140 : decode b_Model_settle 140 = .ok (.istore 8, 2) := by decide +kernel
theorem d_Model_settle_142 : decode b_Model_settle 142 = .ok (.iload 8, 2) := by decide +kernel
theorem d_Model_settle_144 : decode b_Model_settle 144 = .ok (.aload_n 0, 1) := by decide +kernel
theorem d_Model_settle_145 : decode b_Model_settle 145 = .ok (.getfield 89, 3) := by decide +kernel
theorem d_Model_settle_148 : decode b_Model_settle 148 = .ok (.if_icmp .ge 58, 3) := by decide +kernel
theorem d_Model_settle_151 : decode b_Model_settle 151 = .ok (.iload 7, 2) := by decide +kernel
theorem d_Model_settle_153 : decode b_Model_settle 153 = .ok (.iload 8, 2) := by decide +kernel
theorem d_Model_settle_155 : decode b_Model_settle 155 = .ok (.iload 6, 2) := by decide +kernel
theorem d_Model_settle_157 : decode b_Model_settle 157 = .ok (.if_icmp .eq 39, 3) := by decide +kernel
theorem d_Model_settle_160 : decode b_Model_settle 160 = .ok (.aload_n 0, 1) := by decide +kernel
theorem d_Model_settle_161 : decode b_Model_settle 161 = .ok (.iload 8, 2) := by decide +kernel
theorem d_Model_settle_163 : decode b_Model_settle 163 = .ok (.iload 5, 2) := by decide +kernel
theorem d_Model_settle_165 : decode b_Model_settle 165 = .ok (.invokevirtual 115, 3) := by decide +kernel
theorem d_Model_settle_168 : decode b_Model_settle 168 = .ok (.ifCond .eq 28, 3) := by decide +kernel
theorem d_Model_settle_171 : decode b_Model_settle 171 = .ok (.aload_n 0, 1) := by decide +kernel
theorem d_Model_settle_172 : decode b_Model_settle 172 = .ok (.iload_n 1, 1) := by decide +kernel
theorem d_Model_settle_173 : decode b_Model_settle 173 = .ok (.iload 8, 2) := by decide +kernel
theorem d_Model_settle_175 : decode b_Model_settle 175 = .ok (.invokevirtual 109, 3) := by decide +kernel
theorem d_Model_settle_178 : decode b_Model_settle 178 = .ok (.ifCond .eq 18, 3) := by decide +kernel
theorem d_Model_settle_181 : decode b_Model_settle 181 = .ok (.aload_n 0, 1) := by decide +kernel
theorem d_Model_settle_182 : decode b_Model_settle 182 = .ok (.iload 8, 2) := by decide +kernel
theorem d_Model_settle_184 : decode b_Model_settle 184 = .ok (.iload 6, 2) := by decide +kernel
theorem d_Model_settle_186 : decode b_Model_settle 186 = .ok (.invokevirtual 118, 3) := by decide +kernel
theorem d_Model_settle_189 : decode b_Model_settle 189 = .ok (.ifCond .eq 7, 3) := by decide +kernel
theorem d_Model_settle_192 : decode b_Model_settle 192 = .ok (.iconst 1, 1) := by decide +kernel
theorem d_Model_settle_193 : decode b_Model_settle 193 = .ok (.goto 4, 3) := by decide +kernel
theorem d_Model_settle_196 : decode b_Model_settle 196 = .ok (.iconst 0, 1) := by decide +kernel
theorem d_Model_settle_197 : decode b_Model_settle 197 = .ok (.iadd, 1) := by decide +kernel
theorem d_Model_settle_198 : decode b_Model_settle 198 = .ok (.istore 7, 2) := by decide +kernel
theorem d_Model_settle_200 : decode b_Model_settle 200 = .ok (.iinc 8 1, 3) := by decide +kernel
theorem d_Model_settle_203 : decode b_Model_settle 203 = .ok (.goto (-61), 3) := by decide +kernel
theorem d_Model_settle_206 : decode b_Model_settle 206 = .ok (.iload 7, 2) := by decide +kernel
theorem d_Model_settle_208 : decode b_Model_settle 208 = .ok (.iload 4, 2) := by decide +kernel
theorem d_Model_settle_210 : decode b_Model_settle 210 = .ok (.if_icmp .ne 22, 3) := by decide +kernel
theorem d_Model_settle_213 : decode b_Model_settle 213 = .ok (.aload_n 0, 1) := by decide +kernel
theorem d_Model_settle_214 : decode b_Model_settle 214 = .ok (.getfield 45, 3) := by decide +kernel
theorem d_Model_settle_217 : decode b_Model_settle 217 = .ok (.bipush 60, 2) := by decide +kernel
theorem d_Model_settle_219 : decode b_Model_settle 219 = .ok (.iload_n 1, 1) := by decide +kernel
theorem d_Model_settle_220 : decode b_Model_settle 220 = .ok (.imul, 1) := by decide +kernel
theorem d_Model_settle_221 : decode b_Model_settle 221 = .ok (.iload 6, 2) := by decide +kernel
theorem d_Model_settle_223 : decode b_Model_settle 223 = .ok (.iadd, 1) := by decide +kernel
theorem d_Model_settle_224 : decode b_Model_settle 224 = .ok (.iconst 1, 1) := by decide +kernel
theorem d_Model_settle_225 : decode b_Model_settle 225 = .ok (.bastore, 1) := by decide +kernel
theorem d_Model_settle_226 : decode b_Model_settle 226 = .ok (.aload_n 0, 1) := by decide +kernel
theorem d_Model_settle_227 : decode b_Model_settle 227 = .ok (.iload_n 1, 1) := by decide +kernel
theorem d_Model_settle_228 : decode b_Model_settle 228 = .ok (.invokevirtual 102, 3) := by decide +kernel
theorem d_Model_settle_231 : decode b_Model_settle 231 = .ok (.ireturn, 1) := by decide +kernel
theorem d_Model_settle_232 : decode b_Model_settle 232 = .ok (.iinc 6 1, 3) := by decide +kernel
theorem d_Model_settle_235 : decode b_Model_settle 235 = .ok (.goto (-134), 3) := by decide +kernel
theorem d_Model_settle_238 : decode b_Model_settle 238 = .ok (.iconst (-1), 1) := by decide +kernel
theorem d_Model_settle_239 : decode b_Model_settle 239 = .ok (.ireturn, 1) := by decide +kernel
theorem d_Model_equal_0 : decode b_Model_equal 0 = .ok (.aload_n 0, 1) := by decide +kernel
theorem d_Model_equal_1 : decode b_Model_equal 1 = .ok (.iload_n 1, 1) := by decide +kernel
theorem d_Model_equal_2 : decode b_Model_equal 2 = .ok (.invokevirtual 96, 3) := by decide +kernel
theorem d_Model_equal_5 : decode b_Model_equal 5 = .ok (.ifCond .eq 11, 3) := by decide +kernel
theorem d_Model_equal_8 : decode b_Model_equal 8 = .ok (.aload_n 0, 1) := by decide +kernel
theorem d_Model_equal_9 : decode b_Model_equal 9 = .ok (.iload_n 2, 1) := by decide +kernel
theorem d_Model_equal_10 : decode b_Model_equal 10 = .ok (.invokevirtual 96, 3) := by decide +kernel
theorem d_Model_equal_13 : decode b_Model_equal 13 = .ok (.ifCond .ne 5, 3) := by decide +kernel
theorem d_Model_equal_16 : decode b_Model_equal 16 = .ok (.iconst 0, 1) := by decide +kernel
theorem d_Model_equal_17 : decode b_Model_equal 17 = .ok (.ireturn, 1) := by decide +kernel
theorem d_Model_equal_18 : decode b_Model_equal 18 = .ok (.aload_n 0, 1) := by decide +kernel
theorem d_Model_equal_19 : decode b_Model_equal 19 = .ok (.getfield 51, 3) := by decide +kernel
theorem d_Model_equal_22 : decode b_Model_equal 22 = .ok (.iload_n 1, 1) := by decide +kernel
theorem d_Model_equal_23 : decode b_Model_equal 23 = .ok (.laload, 1) := by decide +kernel
theorem d_Model_equal_24 : decode b_Model_equal 24 = .ok (.aload_n 0, 1) := by decide +kernel
theorem d_Model_equal_25 : decode b_Model_equal 25 = .ok (.getfield 51, 3) := by decide +kernel
theorem d_Model_equal_28 : decode b_Model_equal 28 = .ok (.iload_n 2, 1) := by decide +kernel
theorem d_Model_equal_29 : decode b_Model_equal 29 = .ok (.laload, 1) := by decide +kernel
theorem d_Model_equal_30 : decode b_Model_equal 30 = .ok (.lcmp, 1) := by decide +kernel
theorem d_Model_equal_31 : decode b_Model_equal 31 = .ok (.ifCond .ne 7, 3) := by decide +kernel
theorem d_Model_equal_34 : decode b_Model_equal 34 = .ok (.iconst 1, 1) := by decide +kernel
theorem d_Model_equal_35 : decode b_Model_equal 35 = .ok (.goto 4, 3) := by decide +kernel
theorem d_Model_equal_38 : decode b_Model_equal 38 = .ok (.iconst 0, 1) := by decide +kernel
theorem d_Model_equal_39 : decode b_Model_equal 39 = .ok (.istore_n 3, 1) := by decide +kernel
theorem d_Model_equal_40 : decode b_Model_equal 40 = .ok (.iconst 0, 1) := by decide +kernel
theorem d_Model_equal_41 : decode b_Model_equal 41 = .ok (.istore 4, 2) := by decide +kernel
theorem d_Model_equal_43 : decode b_Model_equal 43 = .ok (.iload 4, 2) := by decide +kernel
theorem d_Model_equal_45 : decode b_Model_equal 45 = .ok (.bipush 60, 2) := by decide +kernel
theorem d_Model_equal_47 : decode b_Model_equal 47 = .ok (.if_icmp .ge 71, 3) := by decide +kernel
theorem d_Model_equal_50 : decode b_Model_equal 50 = .ok (.bipush 60, 2) := by decide +kernel
theorem d_Model_equal_52 : decode b_Model_equal 52 = .ok (.iload_n 1, 1) := by decide +kernel
theorem d_Model_equal_53 : decode b_Model_equal 53 = .ok (.imul, 1) := by decide +kernel
theorem d_Model_equal_54 : decode b_Model_equal 54 = .ok (.iload 4, 2) := by decide +kernel
theorem d_Model_equal_56 : decode b_Model_equal 56 = .ok (.iadd, 1) := by decide +kernel
theorem d_Model_equal_57 : decode b_Model_equal 57 = .ok (.istore 5, 2) := by decide +kernel
theorem d_Model_equal_59 : decode b_Model_equal 59 = .ok (.bipush 60, 2) := by decide +kernel
theorem d_Model_equal_61 : decode b_Model_equal 61 = .ok (.iload_n 2, 1) := by decide +kernel
theorem d_Model_equal_62 : decode b_Model_equal 62 = .ok (.imul, 1) := by decide +kernel
theorem d_Model_equal_63 : decode b_Model_equal 63 = .ok (.iload 4, 2) := by decide +kernel
theorem d_Model_equal_65 : decode b_Model_equal 65 = .ok (.iadd, 1) := by decide +kernel
theorem d_Model_equal_66 : decode b_Model_equal 66 = .ok (.istore 6, 2) := by decide +kernel
theorem d_Model_equal_68 : decode b_Model_equal 68 = .ok (.iload_n 3, 1) := by decide +kernel
theorem d_Model_equal_69 : decode b_Model_equal 69 = .ok (.ifCond .eq 41, 3) := by decide +kernel
theorem d_Model_equal_72 : decode b_Model_equal 72 = .ok (.aload_n 0, 1) := by decide +kernel
theorem d_Model_equal_73 : decode b_Model_equal 73 = .ok (.getfield 41, 3) := by decide +kernel
theorem d_Model_equal_76 : decode b_Model_equal 76 = .ok (.iload 5, 2) := by decide +kernel
theorem d_Model_equal_78 : decode b_Model_equal 78 = .ok (.baload, 1) := by decide +kernel
theorem d_Model_equal_79 : decode b_Model_equal 79 = .ok (.aload_n 0, 1) := by decide +kernel
theorem d_Model_equal_80 : decode b_Model_equal 80 = .ok (.getfield 41, 3) := by decide +kernel
theorem d_Model_equal_83 : decode b_Model_equal 83 = .ok (.iload 6, 2) := by decide +kernel
theorem d_Model_equal_85 : decode b_Model_equal 85 = .ok (.baload, 1) := by decide +kernel
theorem d_Model_equal_86 : decode b_Model_equal 86 = .ok (.if_icmp .ne 24, 3) := by decide +kernel
theorem d_Model_equal_89 : decode b_Model_equal 89 = .ok (.aload_n 0, 1) := by decide +kernel
theorem d_Model_equal_90 : decode b_Model_equal 90 = .ok (.getfield 45, 3) := by decide +kernel
theorem d_Model_equal_93 : decode b_Model_equal 93 = .ok (.iload 5, 2) := by decide +kernel
theorem d_Model_equal_95 : decode b_Model_equal 95 = .ok (.baload, 1) := by decide +kernel
theorem d_Model_equal_96 : decode b_Model_equal 96 = .ok (.aload_n 0, 1) := by decide +kernel
theorem d_Model_equal_97 : decode b_Model_equal 97 = .ok (.getfield 45, 3) := by decide +kernel
theorem d_Model_equal_100 : decode b_Model_equal 100 = .ok (.iload 6, 2) := by decide +kernel
theorem d_Model_equal_102 : decode b_Model_equal 102 = .ok (.baload, 1) := by decide +kernel
theorem d_Model_equal_103 : decode b_Model_equal 103 = .ok (.if_icmp .ne 7, 3) := by decide +kernel
theorem d_Model_equal_106 : decode b_Model_equal 106 = .ok (.iconst 1, 1) := by decide +kernel
theorem d_Model_equal_107 : decode b_Model_equal 107 = .ok (.goto 4, 3) := by decide +kernel
theorem d_Model_equal_110 : decode b_Model_equal 110 = .ok (.iconst 0, 1) := by decide +kernel
theorem d_Model_equal_111 : decode b_Model_equal 111 = .ok (.istore_n 3, 1) := by decide +kernel
theorem d_Model_equal_112 : decode b_Model_equal 112 = .ok (.iinc 4 1, 3) := by decide +kernel
theorem d_Model_equal_115 : decode b_Model_equal 115 = .ok (.goto (-72), 3) := by decide +kernel
theorem d_Model_equal_118 : decode b_Model_equal 118 = .ok (.iconst 0, 1) := by decide +kernel
theorem d_Model_equal_119 : decode b_Model_equal 119 = .ok (.istore 4, 2) := by decide +kernel
theorem d_Model_equal_121 : decode b_Model_equal 121 = .ok (.iload 4, 2) := by decide +kernel
theorem d_Model_equal_123 : decode b_Model_equal 123 = .ok (.bipush 20, 2) := by decide +kernel
theorem d_Model_equal_125 : decode b_Model_equal 125 = .ok (.if_icmp .ge 46, 3) := by decide +kernel
theorem d_Model_equal_128 : decode b_Model_equal 128 = .ok (.iload_n 3, 1) := by decide +kernel
theorem d_Model_equal_129 : decode b_Model_equal 129 = .ok (.ifCond .eq 34, 3) := by decide +kernel
theorem d_Model_equal_132 : decode b_Model_equal 132 = .ok (.aload_n 0, 1) := by decide +kernel
theorem d_Model_equal_133 : decode b_Model_equal 133 = .ok (.getfield 48, 3) := by decide +kernel
theorem d_Model_equal_136 : decode b_Model_equal 136 = .ok (.bipush 20, 2) := by decide +kernel
theorem d_Model_equal_138 : decode b_Model_equal 138 = .ok (.iload_n 1, 1) := by decide +kernel
theorem d_Model_equal_139 : decode b_Model_equal 139 = .ok (.imul, 1) := by decide +kernel
theorem d_Model_equal_140 : decode b_Model_equal 140 = .ok (.iload 4, 2) := by decide +kernel
theorem d_Model_equal_142 : decode b_Model_equal 142 = .ok (.iadd, 1) := by decide +kernel
theorem d_Model_equal_143 : decode b_Model_equal 143 = .ok (.baload, 1) := by decide +kernel
theorem d_Model_equal_144 : decode b_Model_equal 144 = .ok (.aload_n 0, 1) := by decide +kernel
theorem d_Model_equal_145 : decode b_Model_equal 145 = .ok (.getfield 48, 3) := by decide +kernel
theorem d_Model_equal_148 : decode b_Model_equal 148 = .ok (.bipush 20, 2) := by decide +kernel
theorem d_Model_equal_150 : decode b_Model_equal 150 = .ok (.iload_n 2, 1) := by decide +kernel
theorem d_Model_equal_151 : decode b_Model_equal 151 = .ok (.imul, 1) := by decide +kernel
theorem d_Model_equal_152 : decode b_Model_equal 152 = .ok (.iload 4, 2) := by decide +kernel
theorem d_Model_equal_154 : decode b_Model_equal 154 = .ok (.iadd, 1) := by decide +kernel
theorem d_Model_equal_155 : decode b_Model_equal 155 = .ok (.baload, 1) := by decide +kernel
theorem d_Model_equal_156 : decode b_Model_equal 156 = .ok (.if_icmp .ne 7, 3) := by decide +kernel
theorem d_Model_equal_159 : decode b_Model_equal 159 = .ok (.iconst 1, 1) := by decide +kernel
theorem d_Model_equal_160 : decode b_Model_equal 160 = .ok (.goto 4, 3) := by decide +kernel
theorem d_Model_equal_163 : decode b_Model_equal 163 = .ok (.iconst 0, 1) := by decide +kernel
theorem d_Model_equal_164 : decode b_Model_equal 164 = .ok (.istore_n 3, 1) := by decide +kernel
theorem d_Model_equal_165 : decode b_Model_equal 165 = .ok (.iinc 4 1, 3) := by decide +kernel
theorem d_Model_equal_168 : decode b_Model_equal 168 = .ok (.goto (-47), 3) := by decide +kernel
theorem d_Model_equal_171 : decode b_Model_equal 171 = .ok (.iload_n 3, 1) := by decide +kernel
theorem d_Model_equal_172 : decode b_Model_equal 172 = .ok (.ireturn, 1) := by decide +kernel
theorem d_Model_batch_0 : decode b_Model_batch 0 = .ok (.aload_n 0, 1) := by decide +kernel
theorem d_Model_batch_1 : decode b_Model_batch 1 = .ok (.iload_n 1, 1) := by decide +kernel
theorem d_Model_batch_2 : decode b_Model_batch 2 = .ok (.invokevirtual 96, 3) := by decide +kernel
theorem d_Model_batch_5 : decode b_Model_batch 5 = .ok (.ifCond .eq 12, 3) := by decide +kernel
theorem d_Model_batch_8 : decode b_Model_batch 8 = .ok (.aload_n 0, 1) := by decide +kernel
theorem d_Model_batch_9 : decode b_Model_batch 9 = .ok (.getfield 54, 3) := by decide +kernel
theorem d_Model_batch_12 : decode b_Model_batch 12 = .ok (.iload_n 1, 1) := by decide +kernel
theorem d_Model_batch_13 : decode b_Model_batch 13 = .ok (.iaload, 1) := by decide +kernel
theorem d_Model_batch_14 : decode b_Model_batch 14 = .ok (.ifCond .lt 5, 3) := by decide +kernel
theorem d_Model_batch_17 : decode b_Model_batch 17 = .ok (.iconst (-1), 1) := by decide +kernel
theorem d_Model_batch_18 : decode b_Model_batch 18 = .ok (.ireturn, 1) := by decide +kernel
theorem d_Model_batch_19 : decode b_Model_batch 19 = .ok (.bipush 6, 2) := by decide +kernel
theorem d_Model_batch_21 : decode b_Model_batch 21 = .ok (.iload_n 1, 1) := by decide +kernel
theorem d_Model_batch_22 : decode b_Model_batch 22 = .ok (.iadd, 1) := by decide +kernel
theorem d_Model_batch_23 : decode b_Model_batch 23 = .ok (.istore_n 2, 1) := by decide +kernel
theorem d_Model_batch_24 : decode b_Model_batch 24 = .ok (.aload_n 0, 1) := by decide +kernel
theorem d_Model_batch_25 : decode b_Model_batch 25 = .ok (.getfield 51, 3) := by decide +kernel
theorem d_Model_batch_28 : decode b_Model_batch 28 = .ok (.iload_n 2, 1) := by decide +kernel
theorem d_Model_batch_29 : decode b_Model_batch 29 = .ok (.lconst 0, 1) := by decide +kernel
theorem d_Model_batch_30 : decode b_Model_batch 30 = .ok (.lastore, 1) := by decide +kernel
theorem d_Model_batch_31 : decode b_Model_batch 31 = .ok (.iconst 0, 1) := by decide +kernel
theorem d_Model_batch_32 : decode b_Model_batch 32 = .ok (.istore_n 3, 1) := by decide +kernel
theorem d_Model_batch_33 : decode b_Model_batch 33 = .ok (.iload_n 3, 1) := by decide +kernel
theorem d_Model_batch_34 : decode b_Model_batch 34 = .ok (.bipush 60, 2) := by decide +kernel
theorem d_Model_batch_36 : decode b_Model_batch 36 = .ok (.if_icmp .ge 33, 3) := by decide +kernel
theorem d_Model_batch_39 : decode b_Model_batch 39 = .ok (.aload_n 0, 1) := by decide +kernel
theorem d_Model_batch_40 : decode b_Model_batch 40 = .ok (.getfield 41, 3) := by decide +kernel
theorem d_Model_batch_43 : decode b_Model_batch 43 = .ok (.bipush 60, 2) := by decide +kernel
theorem d_Model_batch_45 : decode b_Model_batch 45 = .ok (.iload_n 2, 1) := by decide +kernel
theorem d_Model_batch_46 : decode b_Model_batch 46 = .ok (.imul, 1) := by decide +kernel
theorem d_Model_batch_47 : decode b_Model_batch 47 = .ok (.iload_n 3, 1) := by decide +kernel
theorem d_Model_batch_48 : decode b_Model_batch 48 = .ok (.iadd, 1) := by decide +kernel
theorem d_Model_batch_49 : decode b_Model_batch 49 = .ok (.iconst 0, 1) := by decide +kernel
theorem d_Model_batch_50 : decode b_Model_batch 50 = .ok (.bastore, 1) := by decide +kernel
theorem d_Model_batch_51 : decode b_Model_batch 51 = .ok (.aload_n 0, 1) := by decide +kernel
theorem d_Model_batch_52 : decode b_Model_batch 52 = .ok (.getfield 45, 3) := by decide +kernel
theorem d_Model_batch_55 : decode b_Model_batch 55 = .ok (.bipush 60, 2) := by decide +kernel
theorem d_Model_batch_57 : decode b_Model_batch 57 = .ok (.iload_n 2, 1) := by decide +kernel
theorem d_Model_batch_58 : decode b_Model_batch 58 = .ok (.imul, 1) := by decide +kernel
theorem d_Model_batch_59 : decode b_Model_batch 59 = .ok (.iload_n 3, 1) := by decide +kernel
theorem d_Model_batch_60 : decode b_Model_batch 60 = .ok (.iadd, 1) := by decide +kernel
theorem d_Model_batch_61 : decode b_Model_batch 61 = .ok (.iconst 0, 1) := by decide +kernel
theorem d_Model_batch_62 : decode b_Model_batch 62 = .ok (.bastore, 1) := by decide +kernel
theorem d_Model_batch_63 : decode b_Model_batch 63 = .ok (.iinc 3 1, 3) := by decide +kernel
theorem d_Model_batch_66 : decode b_Model_batch 66 = .ok (.goto (-33), 3) := by decide +kernel
theorem d_Model_batch_69 : decode b_Model_batch 69 = .ok (.iconst 0, 1) := by decide +kernel
theorem d_Model_batch_70 : decode b_Model_batch 70 = .ok (.istore_n 3, 1) := by decide +kernel
theorem d_Model_batch_71 : decode b_Model_batch 71 = .ok (.iload_n 3, 1) := by decide +kernel
theorem d_Model_batch_72 : decode b_Model_batch 72 = .ok (.bipush 20, 2) := by decide +kernel
theorem d_Model_batch_74 : decode b_Model_batch 74 = .ok (.if_icmp .ge 21, 3) := by decide +kernel
theorem d_Model_batch_77 : decode b_Model_batch 77 = .ok (.aload_n 0, 1) := by decide +kernel
theorem d_Model_batch_78 : decode b_Model_batch 78 = .ok (.getfield 48, 3) := by decide +kernel
theorem d_Model_batch_81 : decode b_Model_batch 81 = .ok (.bipush 20, 2) := by decide +kernel
theorem d_Model_batch_83 : decode b_Model_batch 83 = .ok (.iload_n 2, 1) := by decide +kernel
theorem d_Model_batch_84 : decode b_Model_batch 84 = .ok (.imul, 1) := by decide +kernel
theorem d_Model_batch_85 : decode b_Model_batch 85 = .ok (.iload_n 3, 1) := by decide +kernel
theorem d_Model_batch_86 : decode b_Model_batch 86 = .ok (.iadd, 1) := by decide +kernel
theorem d_Model_batch_87 : decode b_Model_batch 87 = .ok (.iconst 0, 1) := by decide +kernel
theorem d_Model_batch_88 : decode b_Model_batch 88 = .ok (.bastore, 1) := by decide +kernel
theorem d_Model_batch_89 : decode b_Model_batch 89 = .ok (.iinc 3 1, 3) := by decide +kernel
theorem d_Model_batch_92 : decode b_Model_batch 92 = .ok (.goto (-21), 3) := by decide +kernel
theorem d_Model_batch_95 : decode b_Model_batch 95 = .ok (.aload_n 0, 1) := by decide +kernel
theorem d_Model_batch_96 : decode b_Model_batch 96 = .ok (.getfield 54, 3) := by decide +kernel
theorem d_Model_batch_99 : decode b_Model_batch 99 = .ok (.iload_n 1, 1) := by decide +kernel
theorem d_Model_batch_100 : decode b_Model_batch 100 = .ok (.aload_n 0, 1) := by decide +kernel
theorem d_Model_batch_101 : decode b_Model_batch 101 = .ok (.getfield 139, 3) := by decide +kernel
theorem d_Model_batch_104 : decode b_Model_batch 104 = .ok (.iastore, 1) := by decide +kernel
theorem d_Model_batch_105 : decode b_Model_batch 105 = .ok (.aload_n 0, 1) := by decide +kernel
theorem d_Model_batch_106 : decode b_Model_batch 106 = .ok (.dup, 1) := by decide +kernel
theorem d_Model_batch_107 : decode b_Model_batch 107 = .ok (.getfield 139, 3) := by decide +kernel
theorem d_Model_batch_110 : decode b_Model_batch 110 = .ok (.iconst 1, 1) := by decide +kernel
theorem d_Model_batch_111 : decode b_Model_batch 111 = .ok (.iadd, 1) := by decide +kernel
theorem d_Model_batch_112 : decode b_Model_batch 112 = .ok (.putfield 139, 3) := by decide +kernel
theorem d_Model_batch_115 : decode b_Model_batch 115 = .ok (.aload_n 0, 1) := by decide +kernel
theorem d_Model_batch_116 : decode b_Model_batch 116 = .ok (.getfield 54, 3) := by decide +kernel
theorem d_Model_batch_119 : decode b_Model_batch 119 = .ok (.iload_n 1, 1) := by decide +kernel
theorem d_Model_batch_120 : decode b_Model_batch 120 = .ok (.iaload, 1) := by decide +kernel
theorem d_Model_batch_121 : decode b_Model_batch 121 = .ok (.ireturn, 1) := by decide +kernel
theorem d_Model_endBatch_0 : decode b_Model_endBatch 0 = .ok (.iconst 0, 1) := by decide +kernel
theorem d_Model_endBatch_1 : decode b_Model_endBatch 1 = .ok (.istore_n 2, 1) := by decide +kernel
theorem d_Model_endBatch_2 : decode b_Model_endBatch 2 = .ok (.iload_n 2, 1) := by decide +kernel
theorem d_Model_endBatch_3 : decode b_Model_endBatch 3 = .ok (.aload_n 0, 1) := by decide +kernel
theorem d_Model_endBatch_4 : decode b_Model_endBatch 4 = .ok (.getfield 70, 3) := by decide +kernel
theorem d_Model_endBatch_7 : decode b_Model_endBatch 7 = .ok (.if_icmp .ge 42, 3) := by decide +kernel
theorem d_Model_endBatch_10 : decode b_Model_endBatch 10 = .ok (.iload_n 1, 1) := by decide +kernel
theorem d_Model_endBatch_11 : decode b_Model_endBatch 11 = .ok (.ifCond .lt 32, 3) := by decide +kernel
theorem d_Model_endBatch_14 : decode b_Model_endBatch 14 = .ok (.aload_n 0, 1) := by decide +kernel
theorem d_Model_endBatch_15 : decode b_Model_endBatch 15 = .ok (.getfield 54, 3) := by decide +kernel
theorem d_Model_endBatch_18 : decode b_Model_endBatch 18 = .ok (.iload_n 2, 1) := by decide +kernel
theorem d_Model_endBatch_19 : decode b_Model_endBatch 19 = .ok (.iaload, 1) := by decide +kernel
theorem d_Model_endBatch_20 : decode b_Model_endBatch 20 = .ok (.iload_n 1, 1) := by decide +kernel
theorem d_Model_endBatch_21 : decode b_Model_endBatch 21 = .ok (.if_icmp .ne 22, 3) := by decide +kernel
theorem d_Model_endBatch_24 : decode b_Model_endBatch 24 = .ok (.aload_n 0, 1) := by decide +kernel
theorem d_Model_endBatch_25 : decode b_Model_endBatch 25 = .ok (.iload_n 2, 1) := by decide +kernel
theorem d_Model_endBatch_26 : decode b_Model_endBatch 26 = .ok (.bipush 6, 2) := by decide +kernel
theorem d_Model_endBatch_28 : decode b_Model_endBatch 28 = .ok (.iload_n 2, 1) := by decide +kernel
theorem d_Model_endBatch_29 : decode b_Model_endBatch 29 = .ok (.iadd, 1) := by decide +kernel
theorem d_Model_endBatch_30 : decode b_Model_endBatch 30 = .ok (.invokevirtual 92, 3) := by decide +kernel
theorem d_Model_endBatch_33 : decode b_Model_endBatch 33 = .ok (.istore_n 3, 1) := by decide +kernel
theorem d_Model_endBatch_34 : decode b_Model_endBatch 34 = .ok (.aload_n 0, 1) := by decide +kernel
theorem d_Model_endBatch_35 : decode b_Model_endBatch 35 = .ok (.getfield 54, 3) := by decide +kernel
theorem d_Model_endBatch_38 : decode b_Model_endBatch 38 = .ok (.iload_n 2, 1) := by decide +kernel
theorem d_Model_endBatch_39 : decode b_Model_endBatch 39 = .ok (.iconst (-1), 1) := by decide +kernel
theorem d_Model_endBatch_40 : decode b_Model_endBatch 40 = .ok (.iastore, 1) := by decide +kernel
theorem d_Model_endBatch_41 : decode b_Model_endBatch 41 = .ok (.iconst 1, 1) := by decide +kernel
theorem d_Model_endBatch_42 : decode b_Model_endBatch 42 = .ok (.ireturn, 1) := by decide +kernel
theorem d_Model_endBatch_43 : decode b_Model_endBatch 43 = .ok (.iinc 2 1, 3) := by decide +kernel
theorem d_Model_endBatch_46 : decode b_Model_endBatch 46 = .ok (.goto (-44), 3) := by decide +kernel
theorem d_Model_endBatch_49 : decode b_Model_endBatch 49 = .ok (.iconst 0, 1) := by decide +kernel
theorem d_Model_endBatch_50 : decode b_Model_endBatch 50 = .ok (.ireturn, 1) := by decide +kernel
theorem d_Model_retain_0 : decode b_Model_retain 0 = .ok (.aload_n 0, 1) := by decide +kernel
theorem d_Model_retain_1 : decode b_Model_retain 1 = .ok (.iload_n 1, 1) := by decide +kernel
theorem d_Model_retain_2 : decode b_Model_retain 2 = .ok (.invokevirtual 96, 3) := by decide +kernel
theorem d_Model_retain_5 : decode b_Model_retain 5 = .ok (.ifCond .eq 14, 3) := by decide +kernel
theorem d_Model_retain_8 : decode b_Model_retain 8 = .ok (.lload_n 2, 1) := by decide +kernel
theorem d_Model_retain_9 : decode b_Model_retain 9 = .ok (.lconst 0, 1) := by decide +kernel
theorem d_Model_retain_10 : decode b_Model_retain 10 = .ok (.ldc2_w 142, 3) := by decide +kernel
theorem d_Model_retain_13 : decode b_Model_retain 13 = .ok (.invokestatic 79, 3) := by decide +kernel
theorem d_Model_retain_16 : decode b_Model_retain 16 = .ok (.ifCond .ne 5, 3) := by decide +kernel
theorem d_Model_retain_19 : decode b_Model_retain 19 = .ok (.iconst (-1), 1) := by decide +kernel
theorem d_Model_retain_20 : decode b_Model_retain 20 = .ok (.ireturn, 1) := by decide +kernel
theorem d_Model_retain_21 : decode b_Model_retain 21 = .ok (.iconst 0, 1) := by decide +kernel
theorem d_Model_retain_22 : decode b_Model_retain 22 = .ok (.istore 4, 2) := by decide +kernel
theorem d_Model_retain_24 : decode b_Model_retain 24 = .ok (.iconst 0, 1) := by decide +kernel
theorem d_Model_retain_25 : decode b_Model_retain 25 = .ok (.istore 5, 2) := by decide +kernel
theorem d_Model_retain_27 : decode b_Model_retain 27 = .ok (.iload 5, 2) := by decide +kernel
theorem d_Model_retain_29 : decode b_Model_retain 29 = .ok (.aload_n 0, 1) := by decide +kernel
theorem d_Model_retain_30 : decode b_Model_retain 30 = .ok (.getfield 89, 3) := by decide +kernel
theorem d_Model_retain_33 : decode b_Model_retain 33 = .ok (.if_icmp .ge 42, 3) := by decide +kernel
theorem d_Model_retain_36 : decode b_Model_retain 36 = .ok (.iload 4, 2) := by decide +kernel
theorem d_Model_retain_38 : decode b_Model_retain 38 = .ok (.aload_n 0, 1) := by decide +kernel
theorem d_Model_retain_39 : decode b_Model_retain 39 = .ok (.iload_n 1, 1) := by decide +kernel
theorem d_Model_retain_40 : decode b_Model_retain 40 = .ok (.iload 5, 2) := by decide +kernel
theorem d_Model_retain_42 : decode b_Model_retain 42 = .ok (.invokevirtual 109, 3) := by decide +kernel
theorem d_Model_retain_45 : decode b_Model_retain 45 = .ok (.ifCond .eq 20, 3) := by decide +kernel
theorem d_Model_retain_48 : decode b_Model_retain 48 = .ok (.aload_n 0, 1) := by decide +kernel
theorem d_Model_retain_49 : decode b_Model_retain 49 = .ok (.getfield 29, 3) := by decide +kernel
theorem d_Model_retain_52 : decode b_Model_retain 52 = .ok (.iload 5, 2) := by decide +kernel
theorem d_Model_retain_54 : decode b_Model_retain 54 = .ok (.iaload, 1) := by decide +kernel
theorem d_Model_retain_55 : decode b_Model_retain 55 = .ok (.i2l, 1) := by decide +kernel
theorem d_Model_retain_56 : decode b_Model_retain 56 = .ok (.lload_n 2, 1) := by decide +kernel
theorem d_Model_retain_57 : decode b_Model_retain 57 = .ok (.lcmp, 1) := by decide +kernel
theorem d_Model_retain_58 : decode b_Model_retain 58 = .ok (.ifCond .ge 7, 3) := by decide +kernel
theorem d_Model_retain_61 : decode b_Model_retain 61 = .ok (.iconst 1, 1) := by decide +kernel
theorem d_Model_retain_62 : decode b_Model_retain 62 = .ok (.goto 4, 3) := by decide +kernel
theorem d_Model_retain_65 : decode b_Model_retain 65 = .ok (.iconst 0, 1) := by decide +kernel
theorem d_Model_retain_66 : decode b_Model_retain 66 = .ok (.iadd, 1) := by decide +kernel
theorem d_Model_retain_67 : decode b_Model_retain 67 = .ok (.istore 4, 2) := by decide +kernel
theorem d_Model_retain_69 : decode b_Model_retain 69 = .ok (.iinc 5 1, 3) := by decide +kernel
theorem d_Model_retain_72 : decode b_Model_retain 72 = .ok (.goto (-45), 3) := by decide +kernel
theorem d_Model_retain_75 : decode b_Model_retain 75 = .ok (.aload_n 0, 1) := by decide +kernel
theorem d_Model_retain_76 : decode b_Model_retain 76 = .ok (.getfield 51, 3) := by decide +kernel
theorem d_Model_retain_79 : decode b_Model_retain 79 = .ok (.iload_n 1, 1) := by decide +kernel
theorem d_Model_retain_80 : decode b_Model_retain 80 = .ok (.lload_n 2, 1) := by decide +kernel
theorem d_Model_retain_81 : decode b_Model_retain 81 = .ok (.aload_n 0, 1) := by decide +kernel
theorem d_Model_retain_82 : decode b_Model_retain 82 = .ok (.getfield 51, 3) := by decide +kernel
theorem d_Model_retain_85 : decode b_Model_retain 85 = .ok (.iload_n 1, 1) := by decide +kernel
theorem d_Model_retain_86 : decode b_Model_retain 86 = .ok (.laload, 1) := by decide +kernel
theorem d_Model_retain_87 : decode b_Model_retain 87 = .ok (.lcmp, 1) := by decide +kernel
theorem d_Model_retain_88 : decode b_Model_retain 88 = .ok (.ifCond .le 7, 3) := by decide +kernel
theorem d_Model_retain_91 : decode b_Model_retain 91 = .ok (.lload_n 2, 1) := by decide +kernel
theorem d_Model_retain_92 : decode b_Model_retain 92 = .ok (.goto 9, 3) := by decide +kernel
theorem d_Model_retain_95 : decode b_Model_retain 95 = .ok (.aload_n 0, 1) := by decide +kernel
theorem d_Model_retain_96 : decode b_Model_retain 96 = .ok (.getfield 51, 3) := by decide +kernel
theorem d_Model_retain_99 : decode b_Model_retain 99 = .ok (.iload_n 1, 1) := by decide +kernel
theorem d_Model_retain_100 : decode b_Model_retain 100 = .ok (.laload, 1) := by decide +kernel
theorem d_Model_retain_101 : decode b_Model_retain 101 = .ok (.lastore, 1) := by decide +kernel
theorem d_Model_retain_102 : decode b_Model_retain 102 = .ok (.iload 4, 2) := by decide +kernel
theorem d_Model_retain_104 : decode b_Model_retain 104 = .ok (.ireturn, 1) := by decide +kernel
theorem d_Model_kept_0 : decode b_Model_kept 0 = .ok (.lconst 0, 1) := by decide +kernel
theorem d_Model_kept_1 : decode b_Model_kept 1 = .ok (.lstore_n 3, 1) := by decide +kernel
theorem d_Model_kept_2 : decode b_Model_kept 2 = .ok (.iconst 0, 1) := by decide +kernel
theorem d_Model_kept_3 : decode b_Model_kept 3 = .ok (.istore 5, 2) := by decide +kernel
theorem d_Model_kept_5 : decode b_Model_kept 5 = .ok (.iload 5, 2) := by decide +kernel
theorem d_Model_kept_7 : decode b_Model_kept 7 = .ok (.aload_n 0, 1) := by decide +kernel
theorem d_Model_kept_8 : decode b_Model_kept 8 = .ok (.getfield 89, 3) := by decide +kernel
theorem d_Model_kept_11 : decode b_Model_kept 11 = .ok (.if_icmp .ge 67, 3) := by decide +kernel
theorem d_Model_kept_14 : decode b_Model_kept 14 = .ok (.lload_n 3, 1) := by decide +kernel
theorem d_Model_kept_15 : decode b_Model_kept 15 = .ok (.aload_n 0, 1) := by decide +kernel
theorem d_Model_kept_16 : decode b_Model_kept 16 = .ok (.iload_n 1, 1) := by decide +kernel
theorem d_Model_kept_17 : decode b_Model_kept 17 = .ok (.invokevirtual 96, 3) := by decide +kernel
theorem d_Model_kept_20 : decode b_Model_kept 20 = .ok (.ifCond .eq 49, 3) := by decide +kernel
theorem d_Model_kept_23 : decode b_Model_kept 23 = .ok (.aload_n 0, 1) := by decide +kernel
theorem d_Model_kept_24 : decode b_Model_kept 24 = .ok (.getfield 26, 3) := by decide +kernel
theorem d_Model_kept_27 : decode b_Model_kept 27 = .ok (.iload 5, 2) := by decide +kernel
theorem d_Model_kept_29 : decode b_Model_kept 29 = .ok (.iaload, 1) := by decide +kernel
theorem d_Model_kept_30 : decode b_Model_kept 30 = .ok (.iload_n 2, 1) := by decide +kernel
theorem d_Model_kept_31 : decode b_Model_kept 31 = .ok (.if_icmp .ne 38, 3) := by decide +kernel
theorem d_Model_kept_34 : decode b_Model_kept 34 = .ok (.aload_n 0, 1) := by decide +kernel
theorem d_Model_kept_35 : decode b_Model_kept 35 = .ok (.getfield 41, 3) := by decide +kernel
theorem d_Model_kept_38 : decode b_Model_kept 38 = .ok (.bipush 60, 2) := by decide +kernel
theorem d_Model_kept_40 : decode b_Model_kept 40 = .ok (.iload_n 1, 1) := by decide +kernel
theorem d_Model_kept_41 : decode b_Model_kept 41 = .ok (.imul, 1) := by decide +kernel
theorem d_Model_kept_42 : decode b_Model_kept 42 = .ok (.iload 5, 2) := by decide +kernel
theorem d_Model_kept_44 : decode b_Model_kept 44 = .ok (.iadd, 1) := by decide +kernel
theorem d_Model_kept_45 : decode b_Model_kept 45 = .ok (.baload, 1) := by decide +kernel
theorem d_Model_kept_46 : decode b_Model_kept 46 = .ok (.ifCond .eq 23, 3) := by decide +kernel
theorem d_Model_kept_49 : decode b_Model_kept 49 = .ok (.aload_n 0, 1) := by decide +kernel
theorem d_Model_kept_50 : decode b_Model_kept 50 = .ok (.iload_n 1, 1) := by decide +kernel
theorem d_Model_kept_51 : decode b_Model_kept 51 = .ok (.iload 5, 2) := by decide +kernel
theorem d_Model_kept_53 : decode b_Model_kept 53 = .ok (.invokevirtual 109, 3) := by decide +kernel
theorem d_Model_kept_56 : decode b_Model_kept 56 = .ok (.ifCond .ne 13, 3) := by decide +kernel
theorem d_Model_kept_59 : decode b_Model_kept 59 = .ok (.aload_n 0, 1) := by decide +kernel
theorem d_Model_kept_60 : decode b_Model_kept 60 = .ok (.getfield 32, 3) := by decide +kernel
theorem d_Model_kept_63 : decode b_Model_kept 63 = .ok (.iload 5, 2) := by decide +kernel
theorem d_Model_kept_65 : decode b_Model_kept 65 = .ok (.laload, 1) := by decide +kernel
theorem d_Model_kept_66 : decode b_Model_kept 66 = .ok (.goto 4, 3) := by decide +kernel
theorem d_Model_kept_69 : decode b_Model_kept 69 = .ok (.lconst 0, 1) := by decide +kernel
theorem d_Model_kept_70 : decode b_Model_kept 70 = .ok (.ladd, 1) := by decide +kernel
theorem d_Model_kept_71 : decode b_Model_kept 71 = .ok (.lstore_n 3, 1) := by decide +kernel
theorem d_Model_kept_72 : decode b_Model_kept 72 = .ok (.iinc 5 1, 3) := by decide +kernel
theorem d_Model_kept_75 : decode b_Model_kept 75 = .ok (.goto (-70), 3) := by decide +kernel
theorem d_Model_kept_78 : decode b_Model_kept 78 = .ok (.lload_n 3, 1) := by decide +kernel
theorem d_Model_kept_79 : decode b_Model_kept 79 = .ok (.lreturn, 1) := by decide +kernel
theorem d_Model_mark_0 : decode b_Model_mark 0 = .ok (.aload_n 0, 1) := by decide +kernel
theorem d_Model_mark_1 : decode b_Model_mark 1 = .ok (.iload_n 1, 1) := by decide +kernel
theorem d_Model_mark_2 : decode b_Model_mark 2 = .ok (.invokevirtual 73, 3) := by decide +kernel
theorem d_Model_mark_5 : decode b_Model_mark 5 = .ok (.ifCond .eq 37, 3) := by decide +kernel
theorem d_Model_mark_8 : decode b_Model_mark 8 = .ok (.lload_n 2, 1) := by decide +kernel
theorem d_Model_mark_9 : decode b_Model_mark 9 = .ok (.lconst 0, 1) := by decide +kernel
theorem d_Model_mark_10 : decode b_Model_mark 10 = .ok (.ldc2_w 77, 3) := by decide +kernel
theorem d_Model_mark_13 : decode b_Model_mark 13 = .ok (.invokestatic 79, 3) := by decide +kernel
theorem d_Model_mark_16 : decode b_Model_mark 16 = .ok (.ifCond .eq 26, 3) := by decide +kernel
theorem d_Model_mark_19 : decode b_Model_mark 19 = .ok (.lload 4, 2) := by decide +kernel
theorem d_Model_mark_21 : decode b_Model_mark 21 = .ok (.lconst 0, 1) := by decide +kernel
theorem d_Model_mark_22 : decode b_Model_mark 22 = .ok (.ldc2_w 77, 3) := by decide +kernel
theorem d_Model_mark_25 : decode b_Model_mark 25 = .ok (.invokestatic 79, 3) := by decide +kernel
theorem d_Model_mark_28 : decode b_Model_mark 28 = .ok (.ifCond .eq 14, 3) := by decide +kernel
theorem d_Model_mark_31 : decode b_Model_mark 31 = .ok (.aload_n 0, 1) := by decide +kernel
theorem d_Model_mark_32 : decode b_Model_mark 32 = .ok (.getfield 57, 3) := by decide +kernel
theorem d_Model_mark_35 : decode b_Model_mark 35 = .ok (.iload_n 1, 1) := by decide +kernel
theorem d_Model_mark_36 : decode b_Model_mark 36 = .ok (.iaload, 1) := by decide +kernel
theorem d_Model_mark_37 : decode b_Model_mark 37 = .ok (.bipush 10, 2) := by decide +kernel
theorem d_Model_mark_39 : decode b_Model_mark 39 = .ok (.if_icmp .ne 5, 3) := by decide +kernel
theorem d_Model_mark_42 : decode b_Model_mark 42 = .ok (.iconst 0, 1) := by decide +kernel
theorem d_Model_mark_43 : decode b_Model_mark 43 = .ok (.ireturn, 1) := by decide +kernel
theorem d_Model_mark_44 : decode b_Model_mark 44 = .ok (.bipush 10, 2) := by decide +kernel
theorem d_Model_mark_46 : decode b_Model_mark 46 = .ok (.iload_n 1, 1) := by decide +kernel
theorem d_Model_mark_47 : decode b_Model_mark 47 = .ok (.imul, 1) := by decide +kernel
theorem d_Model_mark_48 : decode b_Model_mark 48 = .ok (.aload_n 0, 1) := by decide +kernel
theorem d_Model_mark_49 : decode b_Model_mark 49 = .ok (.getfield 57, 3) := by decide +kernel
theorem d_Model_mark_52 : decode b_Model_mark 52 = .ok (.iload_n 1, 1) := by decide +kernel
theorem d_Model_mark_53 : decode b_Model_mark 53 = .ok (.iaload, 1) := by decide +kernel
theorem d_Model_mark_54 : decode b_Model_mark 54 = .ok (.iadd, 1) := by decide +kernel
theorem d_Model_mark_55 : decode b_Model_mark 55 = .ok (.istore 6, 2) := by decide +kernel
theorem d_Model_mark_57 : decode b_Model_mark 57 = .ok (.aload_n 0, 1) := by decide +kernel
theorem d_Model_mark_58 : decode b_Model_mark 58 = .ok (.getfield 57, 3) := by decide +kernel
theorem d_Model_mark_61 : decode b_Model_mark 61 = .ok (.iload_n 1, 1) := by decide +kernel
theorem d_Model_mark_62 : decode b_Model_mark 62 = .ok (.iaload, 1) := by decide +kernel
theorem d_Model_mark_63 : decode b_Model_mark 63 = .ok (.ifCond .le 36, 3) := by decide +kernel
theorem d_Model_mark_66 : decode b_Model_mark 66 = .ok (.lload_n 2, 1) := by decide +kernel
theorem d_Model_mark_67 : decode b_Model_mark 67 = .ok (.aload_n 0, 1) := by decide +kernel
theorem d_Model_mark_68 : decode b_Model_mark 68 = .ok (.getfield 60, 3) := by decide +kernel
theorem d_Model_mark_71 : decode b_Model_mark 71 = .ok (.iload 6, 2) := by decide +kernel
theorem d_Model_mark_73 : decode b_Model_mark 73 = .ok (.iconst 1, 1) := by decide +kernel
theorem d_Model_mark_74 : decode b_Model_mark 74 = .ok (.isub, 1) := by decide +kernel
theorem d_Model_mark_75 : decode b_Model_mark 75 = .ok (.iaload, 1) := by decide +kernel
theorem d_Model_mark_76 : decode b_Model_mark 76 = .ok (.i2l, 1) := by decide +kernel
theorem d_Model_mark_77 : decode b_Model_mark 77 = .ok (.lcmp, 1) := by decide +kernel
theorem d_Model_mark_78 : decode b_Model_mark 78 = .ok (.ifCond .le 19, 3) := by decide +kernel
theorem d_Model_mark_81 : decode b_Model_mark 81 = .ok (.lload 4, 2) := by decide +kernel
theorem d_Model_mark_83 : decode b_Model_mark 83 = .ok (.aload_n 0, 1) := by decide +kernel
theorem d_Model_mark_84 : decode b_Model_mark 84 = .ok (.getfield 63, 3) := by decide +kernel
theorem d_Model_mark_87 : decode b_Model_mark 87 = .ok (.iload 6, 2) := by decide +kernel
theorem d_Model_mark_89 : decode b_Model_mark 89 = .ok (.iconst 1, 1) := by decide +kernel
theorem d_Model_mark_90 : decode b_Model_mark 90 = .ok (.isub, 1) := by decide +kernel
theorem d_Model_mark_91 : decode b_Model_mark 91 = .ok (.iaload, 1) := by decide +kernel
theorem d_Model_mark_92 : decode b_Model_mark 92 = .ok (.i2l, 1) := by decide +kernel
theorem d_Model_mark_93 : decode b_Model_mark 93 = .ok (.lcmp, 1) := by decide +kernel
theorem d_Model_mark_94 : decode b_Model_mark 94 = .ok (.ifCond .ge 5, 3) := by decide +kernel
theorem d_Model_mark_97 : decode b_Model_mark 97 = .ok (.iconst 0, 1) := by decide +kernel
theorem d_Model_mark_98 : decode b_Model_mark 98 = .ok (.ireturn, 1) := by decide +kernel
theorem d_Model_mark_99 : decode b_Model_mark 99 = .ok (.aload_n 0, 1) := by decide +kernel
theorem d_Model_mark_100 : decode b_Model_mark 100 = .ok (.getfield 60, 3) := by decide +kernel
theorem d_Model_mark_103 : decode b_Model_mark 103 = .ok (.iload 6, 2) := by decide +kernel
theorem d_Model_mark_105 : decode b_Model_mark 105 = .ok (.lload_n 2, 1) := by decide +kernel
theorem d_Model_mark_106 : decode b_Model_mark 106 = .ok (.l2i, 1) := by decide +kernel
theorem d_Model_mark_107 : decode b_Model_mark 107 = .ok (.iastore, 1) := by decide +kernel
theorem d_Model_mark_108 : decode b_Model_mark 108 = .ok (.aload_n 0, 1) := by decide +kernel
theorem d_Model_mark_109 : decode b_Model_mark 109 = .ok (.getfield 63, 3) := by decide +kernel
theorem d_Model_mark_112 : decode b_Model_mark 112 = .ok (.iload 6, 2) := by decide +kernel
theorem d_Model_mark_114 : decode b_Model_mark 114 = .ok (.lload 4, 2) := by decide +kernel
theorem d_Model_mark_116 : decode b_Model_mark 116 = .ok (.l2i, 1) := by decide +kernel
theorem d_Model_mark_117 : decode b_Model_mark 117 = .ok (.iastore, 1) := by decide +kernel
theorem d_Model_mark_118 : decode b_Model_mark 118 = .ok (.aload_n 0, 1) := by decide +kernel
theorem d_Model_mark_119 : decode b_Model_mark 119 = .ok (.getfield 57, 3) := by decide +kernel
theorem d_Model_mark_122 : decode b_Model_mark 122 = .ok (.iload_n 1, 1) := by decide +kernel
theorem d_Model_mark_123 : decode b_Model_mark 123 = .ok (.dup2, 1) := by decide +kernel
theorem d_Model_mark_124 : decode b_Model_mark 124 = .ok (.iaload, 1) := by decide +kernel
theorem d_Model_mark_125 : decode b_Model_mark 125 = .ok (.iconst 1, 1) := by decide +kernel
theorem d_Model_mark_126 : decode b_Model_mark 126 = .ok (.iadd, 1) := by decide +kernel
theorem d_Model_mark_127 : decode b_Model_mark 127 = .ok (.iastore, 1) := by decide +kernel
theorem d_Model_mark_128 : decode b_Model_mark 128 = .ok (.iconst 1, 1) := by decide +kernel
theorem d_Model_mark_129 : decode b_Model_mark 129 = .ok (.ireturn, 1) := by decide +kernel
theorem d_Model_corrected_0 : decode b_Model_corrected 0 = .ok (.aload_n 0, 1) := by decide +kernel
theorem d_Model_corrected_1 : decode b_Model_corrected 1 = .ok (.iload_n 1, 1) := by decide +kernel
theorem d_Model_corrected_2 : decode b_Model_corrected 2 = .ok (.invokevirtual 73, 3) := by decide +kernel
theorem d_Model_corrected_5 : decode b_Model_corrected 5 = .ok (.ifCond .eq 25, 3) := by decide +kernel
theorem d_Model_corrected_8 : decode b_Model_corrected 8 = .ok (.lload_n 2, 1) := by decide +kernel
theorem d_Model_corrected_9 : decode b_Model_corrected 9 = .ok (.lconst 0, 1) := by decide +kernel
theorem d_Model_corrected_10 : decode b_Model_corrected 10 = .ok (.ldc2_w 77, 3) := by decide +kernel
theorem d_Model_corrected_13 : decode b_Model_corrected 13 = .ok (.invokestatic 79, 3) := by decide +kernel
theorem d_Model_corrected_16 : decode b_Model_corrected 16 = .ok (.ifCond .eq 14, 3) := by decide +kernel
theorem d_Model_corrected_19 : decode b_Model_corrected 19 = .ok (.iload 4, 2) := by decide +kernel
theorem d_Model_corrected_21 : decode b_Model_corrected 21 = .ok (.ifCond .lt 9, 3) := by decide +kernel
theorem d_Model_corrected_24 : decode b_Model_corrected 24 = .ok (.iload 4, 2) := by decide +kernel
theorem d_Model_corrected_26 : decode b_Model_corrected 26 = .ok (.iconst 1, 1) := by decide +kernel
theorem d_Model_corrected_27 : decode b_Model_corrected 27 = .ok (.if_icmp .le 7, 3) := by decide +kernel
theorem d_Model_corrected_30 : decode b_Model_corrected 30 = .ok (.ldc2_w 124, 3) := by decide +kernel
theorem d_Model_corrected_33 : decode b_Model_corrected 33 = .ok (.lreturn, 1) := by decide +kernel
theorem d_Model_corrected_34 : decode b_Model_corrected 34 = .ok (.iconst (-1), 1) := by decide +kernel
theorem d_Model_corrected_35 : decode b_Model_corrected 35 = .ok (.istore 5, 2) := by decide +kernel
theorem d_Model_corrected_37 : decode b_Model_corrected 37 = .ok (.iconst (-1), 1) := by decide +kernel
theorem d_Model_corrected_38 : decode b_Model_corrected 38 = .ok (.istore 6, 2) := by decide +kernel
theorem d_Model_corrected_40 : decode b_Model_corrected 40 = .ok (.iconst 0, 1) := by decide +kernel
theorem d_Model_corrected_41 : decode b_Model_corrected 41 = .ok (.istore 7, 2) := by decide +kernel
theorem d_Model_corrected_43 : decode b_Model_corrected 43 = .ok (.iload 7, 2) := by decide +kernel
theorem d_Model_corrected_45 : decode b_Model_corrected 45 = .ok (.aload_n 0, 1) := by decide +kernel
theorem d_Model_corrected_46 : decode b_Model_corrected 46 = .ok (.getfield 57, 3) := by decide +kernel
theorem d_Model_corrected_49 : decode b_Model_corrected 49 = .ok (.iload_n 1, 1) := by decide +kernel
theorem d_Model_corrected_50 : decode b_Model_corrected 50 = .ok (.iaload, 1) := by decide +kernel
theorem d_Model_corrected_51 : decode b_Model_corrected 51 = .ok (.if_icmp .ge 67, 3) := by decide +kernel
theorem d_Model_corrected_54 : decode b_Model_corrected 54 = .ok (.bipush 10, 2) := by decide +kernel
theorem d_Model_corrected_56 : decode b_Model_corrected 56 = .ok (.iload_n 1, 1) := by decide +kernel
theorem d_Model_corrected_57 : decode b_Model_corrected 57 = .ok (.imul, 1) := by decide +kernel
theorem d_Model_corrected_58 : decode b_Model_corrected 58 = .ok (.iload 7, 2) := by decide +kernel
theorem d_Model_corrected_60 : decode b_Model_corrected 60 = .ok (.iadd, 1) := by decide +kernel
theorem d_Model_corrected_61 : decode b_Model_corrected 61 = .ok (.istore 8, 2) := by decide +kernel
theorem d_Model_corrected_63 : decode b_Model_corrected 63 = .ok (.aload_n 0, 1) := by decide +kernel
theorem d_Model_corrected_64 : decode b_Model_corrected 64 = .ok (.getfield 60, 3) := by decide +kernel
theorem d_Model_corrected_67 : decode b_Model_corrected 67 = .ok (.iload 8, 2) := by decide +kernel
theorem d_Model_corrected_69 : decode b_Model_corrected 69 = .ok (.iaload, 1) := by decide +kernel
theorem d_Model_corrected_70 : decode b_Model_corrected 70 = .ok (.i2l, 1) := by decide +kernel
theorem d_Model_corrected_71 : decode b_Model_corrected 71 = .ok (.lload_n 2, 1) := by decide +kernel
theorem d_Model_corrected_72 : decode b_Model_corrected 72 = .ok (.lcmp, 1) := by decide +kernel
theorem d_Model_corrected_73 : decode b_Model_corrected 73 = .ok (.ifCond .gt 8, 3) := by decide +kernel
theorem d_Model_corrected_76 : decode b_Model_corrected 76 = .ok (.iload 8, 2) := by decide +kernel
theorem d_Model_corrected_78 : decode b_Model_corrected 78 = .ok (.goto 5, 3) := by decide +kernel
theorem d_Model_corrected_81 : decode b_Model_corrected 81 = .ok (.iload 5, 2) := by decide +kernel
theorem d_Model_corrected_83 : decode b_Model_corrected 83 = .ok (.istore 5, 2) := by decide +kernel
theorem d_Model_corrected_85 : decode b_Model_corrected 85 = .ok (.iload 6, 2) := by decide +kernel
theorem d_Model_corrected_87 : decode b_Model_corrected 87 = .ok (.ifCond .ge 21, 3) := by decide +kernel
theorem d_Model_corrected_90 : decode b_Model_corrected 90 = .ok (.aload_n 0, 1) := by decide +kernel
theorem d_Model_corrected_91 : decode b_Model_corrected 91 = .ok (.getfield 60, 3) := by decide +kernel
theorem d_Model_corrected_94 : decode b_Model_corrected 94 = .ok (.iload 8, 2) := by decide +kernel
theorem d_Model_corrected_96 : decode b_Model_corrected 96 = .ok (.iaload, 1) := by decide +kernel
theorem d_Model_corrected_97 : decode b_Model_corrected 97 = .ok (.i2l, 1) := by decide +kernel
theorem d_Model_corrected_98 : decode b_Model_corrected 98 = .ok (.lload_n 2, 1) := by decide +kernel
theorem d_Model_corrected_99 : decode b_Model_corrected 99 = .ok (.lcmp, 1) := by decide +kernel
theorem d_Model_corrected_100 : decode b_Model_corrected 100 = .ok (.ifCond .le 8, 3) := by decide +kernel
theorem d_Model_corrected_103 : decode b_Model_corrected 103 = .ok (.iload 8, 2) := by decide +kernel
theorem d_Model_corrected_105 : decode b_Model_corrected 105 = .ok (.goto 5, 3) := by decide +kernel
theorem d_Model_corrected_108 : decode b_Model_corrected 108 = .ok (.iload 6, 2) := by decide +kernel
theorem d_Model_corrected_110 : decode b_Model_corrected 110 = .ok (.istore 6, 2) := by decide +kernel
theorem d_Model_corrected_112 : decode b_Model_corrected 112 = .ok (.iinc 7 1, 3) := by decide +kernel
theorem d_Model_corrected_115 : decode b_Model_corrected 115 = .ok (.goto (-72), 3) := by decide +kernel
theorem d_Model_corrected_118 : decode b_Model_corrected 118 = .ok (.iload 5, 2) := by decide +kernel
theorem d_Model_corrected_120 : decode b_Model_corrected 120 = .ok (.ifCond .lt 8, 3) := by decide +kernel
theorem d_Model_corrected_123 : decode b_Model_corrected 123 = .ok (.iload 6, 2) := by decide +kernel
theorem d_Model_corrected_125 : decode b_Model_corrected 125 = .ok (.ifCond .ge 58, 3) := by decide +kernel
theorem d_Model_corrected_128 : decode b_Model_corrected 128 = .ok (.iload 5, 2) := by decide +kernel
theorem d_Model_corrected_130 : decode b_Model_corrected 130 = .ok (.ifCond .ge 8, 3) := by decide +kernel
theorem d_Model_corrected_133 : decode b_Model_corrected 133 = .ok (.iload 6, 2) := by decide +kernel
theorem d_Model_corrected_135 : decode b_Model_corrected 135 = .ok (.goto 5, 3) := by decide +kernel
theorem d_Model_corrected_138 : decode b_Model_corrected 138 = .ok (.iload 5, 2) := by decide +kernel
theorem d_Model_corrected_140 : decode b_Model_corrected 140 = .ok (.istore 7, 2) := by decide +kernel
theorem d_Model_corrected_142 : decode b_Model_corrected 142 = .ok (.iload 7, 2) := by decide +kernel
theorem d_Model_corrected_144 : decode b_Model_corrected 144 = .ok (.ifCond .ge 7, 3) := by decide +kernel
theorem d_Model_corrected_147 : decode b_Model_corrected 147 = .ok (.lconst 0, 1) := by decide +kernel
theorem d_Model_corrected_148 : decode b_Model_corrected 148 = .ok (.goto 19, 3) := by decide +kernel
theorem d_Model_corrected_151 : decode b_Model_corrected 151 = .ok (.aload_n 0, 1) := by decide +kernel
theorem d_Model_corrected_152 : decode b_Model_corrected 152 = .ok (.getfield 63, 3) := by decide +kernel
theorem d_Model_corrected_155 : decode b_Model_corrected 155 = .ok (.iload 7, 2) := by decide +kernel
theorem d_Model_corrected_157 : decode b_Model_corrected 157 = .ok (.iaload, 1) := by decide +kernel
theorem d_Model_corrected_158 : decode b_Model_corrected 158 = .ok (.aload_n 0, 1) := by decide +kernel
theorem d_Model_corrected_159 : decode b_Model_corrected 159 = .ok (.getfield 60, 3) := by decide +kernel
theorem d_Model_corrected_162 : decode b_Model_corrected 162 = .ok (.iload 7, 2) := by decide +kernel
theorem d_Model_corrected_164 : decode b_Model_corrected 164 = .ok (.iaload, 1) := by decide +kernel
theorem d_Model_corrected_165 : decode b_Model_corrected 165 = .ok (.isub, 1) := by decide +kernel
theorem d_Model_corrected_166 : decode b_Model_corrected 166 = .ok (.i2l, 1) := by decide +kernel
theorem d_Model_corrected_167 : decode b_Model_corrected 167 = .ok (.lstore 8, 2) := by decide +kernel
theorem d_Model_corrected_169 : decode b_Model_corrected 169 = .ok (.iload 4, 2) := by decide +kernel
theorem d_Model_corrected_171 : decode b_Model_corrected 171 = .ok (.ifCond .ne 10, 3) := by decide +kernel
theorem d_Model_corrected_174 : decode b_Model_corrected 174 = .ok (.lload_n 2, 1) := by decide +kernel
theorem d_Model_corrected_175 : decode b_Model_corrected 175 = .ok (.lload 8, 2) := by decide +kernel
theorem d_Model_corrected_177 : decode b_Model_corrected 177 = .ok (.ladd, 1) := by decide +kernel
theorem d_Model_corrected_178 : decode b_Model_corrected 178 = .ok (.goto 4, 3) := by decide +kernel
theorem d_Model_corrected_181 : decode b_Model_corrected 181 = .ok (.lconst 1, 1) := by decide +kernel
theorem d_Model_corrected_182 : decode b_Model_corrected 182 = .ok (.lreturn, 1) := by decide +kernel
theorem d_Model_corrected_183 : decode b_Model_corrected 183 = .ok (.aload_n 0, 1) := by decide +kernel
theorem d_Model_corrected_184 : decode b_Model_corrected 184 = .ok (.getfield 60, 3) := by decide +kernel
theorem d_Model_corrected_187 : decode b_Model_corrected 187 = .ok (.iload 6, 2) := by decide +kernel
theorem d_Model_corrected_189 : decode b_Model_corrected 189 = .ok (.iaload, 1) := by decide +kernel
theorem d_Model_corrected_190 : decode b_Model_corrected 190 = .ok (.aload_n 0, 1) := by decide +kernel
theorem d_Model_corrected_191 : decode b_Model_corrected 191 = .ok (.getfield 60, 3) := by decide +kernel
theorem d_Model_corrected_194 : decode b_Model_corrected 194 = .ok (.iload 5, 2) := by decide +kernel
theorem d_Model_corrected_196 : decode b_Model_corrected 196 = .ok (.iaload, 1) := by decide +kernel
theorem d_Model_corrected_197 : decode b_Model_corrected 197 = .ok (.isub, 1) := by decide +kernel
theorem d_Model_corrected_198 : decode b_Model_corrected 198 = .ok (.i2l, 1) := by decide +kernel
theorem d_Model_corrected_199 : decode b_Model_corrected 199 = .ok (.lstore 7, 2) := by decide +kernel
theorem d_Model_corrected_201 : decode b_Model_corrected 201 = .ok (.aload_n 0, 1) := by decide +kernel
theorem d_Model_corrected_202 : decode b_Model_corrected 202 = .ok (.getfield 63, 3) := by decide +kernel
theorem d_Model_corrected_205 : decode b_Model_corrected 205 = .ok (.iload 5, 2) := by decide +kernel
theorem d_Model_corrected_207 : decode b_Model_corrected 207 = .ok (.iaload, 1) := by decide +kernel
theorem d_Model_corrected_208 : decode b_Model_corrected 208 = .ok (.i2l, 1) := by decide +kernel
theorem d_Model_corrected_209 : decode b_Model_corrected 209 = .ok (.lload 7, 2) := by decide +kernel
theorem d_Model_corrected_211 : decode b_Model_corrected 211 = .ok (.lmul, 1) := by decide +kernel
theorem d_Model_corrected_212 : decode b_Model_corrected 212 = .ok (.lload_n 2, 1) := by decide +kernel
theorem d_Model_corrected_213 : decode b_Model_corrected 213 = .ok (.aload_n 0, 1) := by decide +kernel
theorem d_Model_corrected_214 : decode b_Model_corrected 214 = .ok (.getfield 60, 3) := by decide +kernel
theorem d_Model_corrected_217 : decode b_Model_corrected 217 = .ok (.iload 5, 2) := by decide +kernel
theorem d_Model_corrected_219 : decode b_Model_corrected 219 = .ok (.iaload, 1) := by decide +kernel
theorem d_Model_corrected_220 : decode b_Model_corrected 220 = .ok (.i2l, 1) := by decide +kernel
theorem d_Model_corrected_221 : decode b_Model_corrected 221 = .ok (.lsub, 1) := by decide +kernel
theorem d_Model_corrected_222 : decode b_Model_corrected 222 = .ok (.aload_n 0, 1) := by decide +kernel
theorem d_Model_corrected_223 : decode b_Model_corrected 223 = .ok (.getfield 63, 3) := by decide +kernel
theorem d_Model_corrected_226 : decode b_Model_corrected 226 = .ok (.iload 6, 2) := by decide +kernel
theorem d_Model_corrected_228 : decode b_Model_corrected 228 = .ok (.iaload, 1) := by decide +kernel
theorem d_Model_corrected_229 : decode b_Model_corrected 229 = .ok (.aload_n 0, 1) := by decide +kernel
theorem d_Model_corrected_230 : decode b_Model_corrected 230 = .ok (.getfield 63, 3) := by decide +kernel
theorem d_Model_corrected_233 : decode b_Model_corrected 233 = .ok (.iload 5, 2) := by decide +kernel
theorem d_Model_corrected_235 : decode b_Model_corrected 235 = .ok (.iaload, 1) := by decide +kernel
theorem d_Model_corrected_236 : decode b_Model_corrected 236 = .ok (.isub, 1) := by decide +kernel
theorem d_Model_corrected_237 : decode b_Model_corrected 237 = .ok (.i2l, 1) := by decide +kernel
theorem d_Model_corrected_238 : decode b_Model_corrected 238 = .ok (.lmul, 1) := by decide +kernel
theorem d_Model_corrected_239 : decode b_Model_corrected 239 = .ok (.ladd, 1) := by decide +kernel
theorem d_Model_corrected_240 : decode b_Model_corrected 240 = .ok (.lstore 9, 2) := by decide +kernel
theorem d_Model_corrected_242 : decode b_Model_corrected 242 = .ok (.lload 9, 2) := by decide +kernel
theorem d_Model_corrected_244 : decode b_Model_corrected 244 = .ok (.lload 7, 2) := by decide +kernel
theorem d_Model_corrected_246 : decode b_Model_corrected 246 = .ok (.invokestatic 144, 3) := by decide +kernel
theorem d_Model_corrected_249 : decode b_Model_corrected 249 = .ok (.lstore 11, 2) := by decide +kernel
theorem d_Model_corrected_251 : decode b_Model_corrected 251 = .ok (.iload 4, 2) := by decide +kernel
theorem d_Model_corrected_253 : decode b_Model_corrected 253 = .ok (.ifCond .ne 11, 3) := by decide +kernel
theorem d_Model_corrected_256 : decode b_Model_corrected 256 = .ok (.lload 9, 2) := by decide +kernel
theorem d_Model_corrected_258 : decode b_Model_corrected 258 = .ok (.lload 11, 2) := by decide +kernel
theorem d_Model_corrected_260 : decode b_Model_corrected 260 = .ok (.ldiv, 1) := by decide +kernel
theorem d_Model_corrected_261 : decode b_Model_corrected 261 = .ok (.goto 8, 3) := by decide +kernel
theorem d_Model_corrected_264 : decode b_Model_corrected 264 = .ok (.lload 7, 2) := by decide +kernel
theorem d_Model_corrected_266 : decode b_Model_corrected 266 = .ok (.lload 11, 2) := by decide +kernel
theorem d_Model_corrected_268 : decode b_Model_corrected 268 = .ok (.ldiv, 1) := by decide +kernel
theorem d_Model_corrected_269 : decode b_Model_corrected 269 = .ok (.lreturn, 1) := by decide +kernel
theorem d_Model_common_0 : decode b_Model_common 0 = .ok (.lload_n 0, 1) := by decide +kernel
theorem d_Model_common_1 : decode b_Model_common 1 = .ok (.lstore 4, 2) := by decide +kernel
theorem d_Model_common_3 : decode b_Model_common 3 = .ok (.lload_n 2, 1) := by decide +kernel
theorem d_Model_common_4 : decode b_Model_common 4 = .ok (.lstore 6, 2) := by decide +kernel
theorem d_Model_common_6 : decode b_Model_common 6 = .ok (.lload 4, 2) := by decide +kernel
theorem d_Model_common_8 : decode b_Model_common 8 = .ok (.lconst 0, 1) := by decide +kernel
theorem d_Model_common_9 : decode b_Model_common 9 = .ok (.lcmp, 1) := by decide +kernel
theorem d_Model_common_10 : decode b_Model_common 10 = .ok (.ifCond .eq 21, 3) := by decide +kernel
theorem d_Model_common_13 : decode b_Model_common 13 = .ok (.lload 6, 2) := by decide +kernel
theorem d_Model_common_15 : decode b_Model_common 15 = .ok (.lload 4, 2) := by decide +kernel
theorem d_Model_common_17 : decode b_Model_common 17 = .ok (.lrem, 1) := by decide +kernel
theorem d_Model_common_18 : decode b_Model_common 18 = .ok (.lstore 8, 2) := by decide +kernel
theorem d_Model_common_20 : decode b_Model_common 20 = .ok (.lload 4, 2) := by decide +kernel
theorem d_Model_common_22 : decode b_Model_common 22 = .ok (.lstore 6, 2) := by decide +kernel
theorem d_Model_common_24 : decode b_Model_common 24 = .ok (.lload 8, 2) := by decide +kernel
theorem d_Model_common_26 : decode b_Model_common 26 = .ok (.lstore 4, 2) := by decide +kernel
theorem d_Model_common_28 : decode b_Model_common 28 = .ok (.goto (-22), 3) := by decide +kernel
theorem d_Model_common_31 : decode b_Model_common 31 = .ok (.lload 6, 2) := by decide +kernel
theorem d_Model_common_33 : decode b_Model_common 33 = .ok (.lreturn, 1) := by decide +kernel
theorem d_Model_play_0 : decode b_Model_play 0 = .ok (.aload_n 0, 1) := by decide +kernel
theorem d_Model_play_1 : decode b_Model_play 1 = .ok (.getfield 70, 3) := by decide +kernel
theorem d_Model_play_4 : decode b_Model_play 4 = .ok (.ifCond .eq 14, 3) := by decide +kernel
theorem d_Model_play_7 : decode b_Model_play 7 = .ok (.iload_n 3, 1) := by decide +kernel
theorem d_Model_play_8 : decode b_Model_play 8 = .ok (.ifCond .lt 10, 3) := by decide +kernel
theorem d_Model_play_11 : decode b_Model_play 11 = .ok (.iload_n 3, 1) := by decide +kernel
theorem d_Model_play_12 : decode b_Model_play 12 = .ok (.sipush 1000, 3) := by decide +kernel
theorem d_Model_play_15 : decode b_Model_play 15 = .ok (.if_icmp .le 5, 3) := by decide +kernel
theorem d_Model_play_18 : decode b_Model_play 18 = .ok (.iconst (-1), 1) := by decide +kernel
theorem d_Model_play_19 : decode b_Model_play 19 = .ok (.ireturn, 1) := by decide +kernel
theorem d_Model_play_20 : decode b_Model_play 20 = .ok (.lload_n 1, 1) := by decide +kernel
theorem d_Model_play_21 : decode b_Model_play 21 = .ok (.lstore 4, 2) := by decide +kernel
theorem d_Model_play_23 : decode b_Model_play 23 = .ok (.iconst 0, 1) := by decide +kernel
theorem d_Model_play_24 : decode b_Model_play 24 = .ok (.istore 6, 2) := by decide +kernel
theorem d_Model_play_26 : decode b_Model_play 26 = .ok (.iconst 0, 1) := by decide +kernel
theorem d_Model_play_27 : decode b_Model_play 27 = .ok (.istore 7, 2) := by decide +kernel
theorem d_Model_play_29 : decode b_Model_play 29 = .ok (.iload 7, 2) := by decide +kernel
theorem d_Model_play_31 : decode b_Model_play 31 = .ok (.iload_n 3, 1) := by decide +kernel
theorem d_Model_play_32 : decode b_Model_play 32 = .ok (.if_icmp .ge 89, 3) := by decide +kernel
theorem d_Model_play_35 : decode b_Model_play 35 = .ok (.lload 4, 2) := by decide +kernel
theorem d_Model_play_37 : decode b_Model_play 37 = .ok (.ldc2_w 148, 3) := by decide +kernel
theorem d_Model_play_40 : decode b_Model_play 40 = .ok (.lmul, 1) := by decide +kernel
theorem d_Model_play_41 : decode b_Model_play 41 = .ok (.ldc2_w 150, 3) := by decide +kernel
theorem d_Model_play_44 : decode b_Model_play 44 = .ok (.ladd, 1) := by decide +kernel
theorem d_Model_play_45 : decode b_Model_play 45 = .ok (.lstore 4, 2) := by decide +kernel
theorem d_Model_play_47 : decode b_Model_play 47 = .ok (.lload 4, 2) := by decide +kernel
theorem d_Model_play_49 : decode b_Model_play 49 = .ok (.bipush 33, 2) := by decide +kernel
theorem d_Model_play_51 : decode b_Model_play 51 = .ok (.lushr, 1) := by decide +kernel
theorem d_Model_play_52 : decode b_Model_play 52 = .ok (.aload_n 0, 1) := by decide +kernel
theorem d_Model_play_53 : decode b_Model_play 53 = .ok (.getfield 70, 3) := by decide +kernel
theorem d_Model_play_56 : decode b_Model_play 56 = .ok (.i2l, 1) := by decide +kernel
theorem d_Model_play_57 : decode b_Model_play 57 = .ok (.lrem, 1) := by decide +kernel
theorem d_Model_play_58 : decode b_Model_play 58 = .ok (.l2i, 1) := by decide +kernel
theorem d_Model_play_59 : decode b_Model_play 59 = .ok (.istore 8, 2) := by decide +kernel
theorem d_Model_play_61 : decode b_Model_play 61 = .ok (.lload 4, 2) := by decide +kernel
theorem d_Model_play_63 : decode b_Model_play 63 = .ok (.ldc2_w 148, 3) := by decide +kernel
theorem d_Model_play_66 : decode b_Model_play 66 = .ok (.lmul, 1) := by decide +kernel
theorem d_Model_play_67 : decode b_Model_play 67 = .ok (.ldc2_w 150, 3) := by decide +kernel
theorem d_Model_play_70 : decode b_Model_play 70 = .ok (.ladd, 1) := by decide +kernel
theorem d_Model_play_71 : decode b_Model_play 71 = .ok (.lstore 4, 2) := by decide +kernel
theorem d_Model_play_73 : decode b_Model_play 73 = .ok (.lload 4, 2) := by decide +kernel
theorem d_Model_play_75 : decode b_Model_play 75 = .ok (.bipush 33, 2) := by decide +kernel
theorem d_Model_play_77 : decode b_Model_play 77 = .ok (.lushr, 1) := by decide +kernel
theorem d_Model_play_78 : decode b_Model_play 78 = .ok (.aload_n 0, 1) := by decide +kernel
theorem d_Model_play_79 : decode b_Model_play 79 = .ok (.getfield 70, 3) := by decide +kernel
theorem d_Model_play_82 : decode b_Model_play 82 = .ok (.i2l, 1) := by decide +kernel
theorem d_Model_play_83 : decode b_Model_play 83 = .ok (.lrem, 1) := by decide +kernel
theorem d_Model_play_84 : decode b_Model_play 84 = .ok (.l2i, 1) := by decide +kernel
theorem d_Model_play_85 : decode b_Model_play 85 = .ok (.istore 9, 2) := by decide +kernel
theorem d_Model_play_87 : decode b_Model_play 87 = .ok (.iload 8, 2) := by decide +kernel
theorem d_Model_play_89 : decode b_Model_play 89 = .ok (.iload 9, 2) := by decide +kernel
theorem d_Model_play_91 : decode b_Model_play 91 = .ok (.if_icmp .eq 24, 3) := by decide +kernel
theorem d_Model_play_94 : decode b_Model_play 94 = .ok (.iload 6, 2) := by decide +kernel
theorem d_Model_play_96 : decode b_Model_play 96 = .ok (.aload_n 0, 1) := by decide +kernel
theorem d_Model_play_97 : decode b_Model_play 97 = .ok (.iload 8, 2) := by decide +kernel
theorem d_Model_play_99 : decode b_Model_play 99 = .ok (.iload 9, 2) := by decide +kernel
theorem d_Model_play_101 : decode b_Model_play 101 = .ok (.invokevirtual 99, 3) := by decide +kernel
theorem d_Model_play_104 : decode b_Model_play 104 = .ok (.ifCond .eq 7, 3) := by decide +kernel
theorem d_Model_play_107 : decode b_Model_play 107 = .ok (.iconst 1, 1) := by decide +kernel
theorem d_Model_play_108 : decode b_Model_play 108 = .ok (.goto 4, 3) := by decide +kernel
theorem d_Model_play_111 : decode b_Model_play 111 = .ok (.iconst 0, 1) := by decide +kernel
theorem d_Model_play_112 : decode b_Model_play 112 = .ok (.iadd, 1) := by decide +kernel
theorem d_Model_play_113 : decode b_Model_play 113 = .ok (.istore 6, 2) := by decide +kernel
theorem d_Model_play_115 : decode b_Model_play 115 = .ok (.iinc 7 1, 3) := by decide +kernel
theorem d_Model_play_118 : decode b_Model_play 118 = .ok (.goto (-89), 3) := by decide +kernel
theorem d_Model_play_121 : decode b_Model_play 121 = .ok (.iload 6, 2) := by decide +kernel
theorem d_Model_play_123 : decode b_Model_play 123 = .ok (.ireturn, 1) := by decide +kernel
end
section
set_option maxHeartbeats 4000000 in
set_option maxRecDepth 100000 in
theorem c_DeviceSets_isNumber (l : Launch) (G : sy_G) (x : Int64) : Met l y_DeviceSets_isNumber (sy_w y_DeviceSets_isNumber b_DeviceSets_isNumber 2 (some .boolean)) { frames := 0, cells := 0, slots := 0, locals := 0 } (va_Pc [.long x] (sy_KP G (fun _ => True))) (vp_Si (fun r => r = bI (ok_num x))) 0 0 (fun _ => False) := by
  refine Met.ofW (cc := b_DeviceSets_isNumber) (maxL := 2) (ret := (some .boolean)) (by decide) rfl ?_
  intro p e s m args below meth c s₁ B hml hv
  obtain ⟨rfl, hP, hK⟩ := hv
  have hx := B.exec
  have hb := B.bytes
  have hr := B.returns
  have hts := atoms_spec (ws := sy_w y_DeviceSets_isNumber b_DeviceSets_isNumber 2 (some .boolean)) B.pre
  have ht : ∀ wd ∈ sy_T, wd.before ([.long x] : List Value).toArray s = true := fun wd h => hts wd (List.mem_cons_of_mem _ h)
  have hown : s.vm.findClass R_DeviceSets = some m.cls := findClass_of_methodNamed B.named
  have hlocks := B.notSynchronized
  have hl := lv_entry ([.long x]) (n := 2) (Nat.le_of_ble_eq_true rfl)
  rw [lg_entry_eq]
  generalize (lg_sl ([.long x]) ++ List.replicate (2 - (lg_sl ([.long x])).length) Slot.unset).toArray = ls at hl ⊢
  have hl : lv_has ls 2 [(0, .long x)] := hl
  refine lv_lload_n hx hb d_DeviceSets_isNumber_0 rfl (lv_at hl 0 rfl) ?_
  refine lv_lconst (v := 0) hx hb d_DeviceSets_isNumber_1 (by decide) ?_
  refine sy_lc_lt (tgt := 18) hx hb d_DeviceSets_isNumber_2 d_DeviceSets_isNumber_3 (by decide) (fun c_1 => ?_) (fun c_1 => ?_)
  · have c_1n := sy_a64 c_1
    refine lv_iconst (v := 0) hx hb d_DeviceSets_isNumber_18 (by decide) ?_
    exact W.zret (v := (0 : Int32)) hx hb hr (rfl) (fun t ht hW => ⟨(0 : Int32), rfl, by simp [bI, ok_num, c_1, c_1n], ht⟩) (fun q h => by cases h) d_DeviceSets_isNumber_19
  · have c_1n := sy_b64 c_1
    refine lv_lload_n hx hb d_DeviceSets_isNumber_6 rfl (lv_at hl 0 rfl) ?_
    refine lv_ldc2 (v := 1000000) hx hb hown (ht _ m_182) d_DeviceSets_isNumber_7 ?_
    refine sy_lc_gt (tgt := 18) hx hb d_DeviceSets_isNumber_10 d_DeviceSets_isNumber_11 (by decide) (fun c_2 => ?_) (fun c_2 => ?_)
    · have c_2n := sy_a64 c_2
      refine lv_iconst (v := 0) hx hb d_DeviceSets_isNumber_18 (by decide) ?_
      exact W.zret (v := (0 : Int32)) hx hb hr (rfl) (fun t ht hW => ⟨(0 : Int32), rfl, by simp [bI, ok_num, c_1, c_1n, c_2, c_2n], ht⟩) (fun q h => by cases h) d_DeviceSets_isNumber_19
    · have c_2n := sy_b64 c_2
      refine lv_iconst (v := 1) hx hb d_DeviceSets_isNumber_14 (by decide) ?_
      refine lv_goto (tgt := 19) hx hb d_DeviceSets_isNumber_15 (by decide) ?_
      exact W.zret (v := (1 : Int32)) hx hb hr (rfl) (fun t ht hW => ⟨(1 : Int32), rfl, by simp [bI, ok_num, c_1, c_1n, c_2, c_2n], ht⟩) (fun q h => by cases h) d_DeviceSets_isNumber_19
set_option maxHeartbeats 4000000 in
set_option maxRecDepth 100000 in
theorem c_DeviceSets_isKind (l : Launch) (G : sy_G) (x : Int32) : Met l y_DeviceSets_isKind (sy_w y_DeviceSets_isKind b_DeviceSets_isKind 1 (some .boolean)) { frames := 0, cells := 0, slots := 0, locals := 0 } (va_Pc [.int x] (sy_KP G (fun _ => True))) (vp_Si (fun r => r = bI (ok_kind x))) 0 0 (fun _ => False) := by
  refine Met.ofW (cc := b_DeviceSets_isKind) (maxL := 1) (ret := (some .boolean)) (by decide) rfl ?_
  intro p e s m args below meth c s₁ B hml hv
  obtain ⟨rfl, hP, hK⟩ := hv
  have hx := B.exec
  have hb := B.bytes
  have hr := B.returns
  have hts := atoms_spec (ws := sy_w y_DeviceSets_isKind b_DeviceSets_isKind 1 (some .boolean)) B.pre
  have ht : ∀ wd ∈ sy_T, wd.before ([.int x] : List Value).toArray s = true := fun wd h => hts wd (List.mem_cons_of_mem _ h)
  have hown : s.vm.findClass R_DeviceSets = some m.cls := findClass_of_methodNamed B.named
  have hlocks := B.notSynchronized
  have hl := lv_entry ([.int x]) (n := 1) (Nat.le_of_ble_eq_true rfl)
  rw [lg_entry_eq]
  generalize (lg_sl ([.int x]) ++ List.replicate (1 - (lg_sl ([.int x])).length) Slot.unset).toArray = ls at hl ⊢
  have hl : lv_has ls 1 [(0, .int x)] := hl
  refine lv_iload_n hx hb d_DeviceSets_isKind_0 rfl (lv_at hl 0 rfl) ?_
  refine lv_if_lt (tgt := 13) hx hb d_DeviceSets_isKind_1 (by decide) (fun c_1 => ?_) (fun c_1 => ?_)
  · have c_1n := sy_a32 c_1
    refine lv_iconst (v := 0) hx hb d_DeviceSets_isKind_13 (by decide) ?_
    exact W.zret (v := (0 : Int32)) hx hb hr (rfl) (fun t ht hW => ⟨(0 : Int32), rfl, by simp [bI, ok_kind, c_1, c_1n], ht⟩) (fun q h => by cases h) d_DeviceSets_isKind_14
  · have c_1n := sy_b32 c_1
    refine lv_iload_n hx hb d_DeviceSets_isKind_4 rfl (lv_at hl 0 rfl) ?_
    refine lv_iconst (v := 4) hx hb d_DeviceSets_isKind_5 (by decide) ?_
    refine lv_icmp_ge (tgt := 13) hx hb d_DeviceSets_isKind_6 (by decide) (fun c_2 => ?_) (fun c_2 => ?_)
    · have c_2n := sy_c32 c_2
      refine lv_iconst (v := 0) hx hb d_DeviceSets_isKind_13 (by decide) ?_
      exact W.zret (v := (0 : Int32)) hx hb hr (rfl) (fun t ht hW => ⟨(0 : Int32), rfl, by simp [bI, ok_kind, c_1, c_1n, c_2, c_2n], ht⟩) (fun q h => by cases h) d_DeviceSets_isKind_14
    · have c_2n := sy_d32 c_2
      refine lv_iconst (v := 1) hx hb d_DeviceSets_isKind_9 (by decide) ?_
      refine lv_goto (tgt := 14) hx hb d_DeviceSets_isKind_10 (by decide) ?_
      exact W.zret (v := (1 : Int32)) hx hb hr (rfl) (fun t ht hW => ⟨(1 : Int32), rfl, by simp [bI, ok_kind, c_1, c_1n, c_2, c_2n], ht⟩) (fun q h => by cases h) d_DeviceSets_isKind_14
set_option maxHeartbeats 4000000 in
set_option maxRecDepth 100000 in
theorem c_DeviceSets_isValue (l : Launch) (G : sy_G) (x : Int64) : Met l y_DeviceSets_isValue (sy_w y_DeviceSets_isValue b_DeviceSets_isValue 2 (some .boolean)) { frames := 0, cells := 0, slots := 0, locals := 0 } (va_Pc [.long x] (sy_KP G (fun _ => True))) (vp_Si (fun r => r = bI (ok_val x))) 0 0 (fun _ => False) := by
  refine Met.ofW (cc := b_DeviceSets_isValue) (maxL := 2) (ret := (some .boolean)) (by decide) rfl ?_
  intro p e s m args below meth c s₁ B hml hv
  obtain ⟨rfl, hP, hK⟩ := hv
  have hx := B.exec
  have hb := B.bytes
  have hr := B.returns
  have hts := atoms_spec (ws := sy_w y_DeviceSets_isValue b_DeviceSets_isValue 2 (some .boolean)) B.pre
  have ht : ∀ wd ∈ sy_T, wd.before ([.long x] : List Value).toArray s = true := fun wd h => hts wd (List.mem_cons_of_mem _ h)
  have hown : s.vm.findClass R_DeviceSets = some m.cls := findClass_of_methodNamed B.named
  have hlocks := B.notSynchronized
  have hl := lv_entry ([.long x]) (n := 2) (Nat.le_of_ble_eq_true rfl)
  rw [lg_entry_eq]
  generalize (lg_sl ([.long x]) ++ List.replicate (2 - (lg_sl ([.long x])).length) Slot.unset).toArray = ls at hl ⊢
  have hl : lv_has ls 2 [(0, .long x)] := hl
  refine lv_lload_n hx hb d_DeviceSets_isValue_0 rfl (lv_at hl 0 rfl) ?_
  refine lv_ldc2 (v := (-1000000000)) hx hb hown (ht _ m_189) d_DeviceSets_isValue_1 ?_
  refine sy_lc_lt (tgt := 20) hx hb d_DeviceSets_isValue_4 d_DeviceSets_isValue_5 (by decide) (fun c_1 => ?_) (fun c_1 => ?_)
  · have c_1n := sy_a64 c_1
    refine lv_iconst (v := 0) hx hb d_DeviceSets_isValue_20 (by decide) ?_
    exact W.zret (v := (0 : Int32)) hx hb hr (rfl) (fun t ht hW => ⟨(0 : Int32), rfl, by simp [bI, ok_val, c_1, c_1n], ht⟩) (fun q h => by cases h) d_DeviceSets_isValue_21
  · have c_1n := sy_b64 c_1
    refine lv_lload_n hx hb d_DeviceSets_isValue_8 rfl (lv_at hl 0 rfl) ?_
    refine lv_ldc2 (v := 1000000000) hx hb hown (ht _ m_190) d_DeviceSets_isValue_9 ?_
    refine sy_lc_gt (tgt := 20) hx hb d_DeviceSets_isValue_12 d_DeviceSets_isValue_13 (by decide) (fun c_2 => ?_) (fun c_2 => ?_)
    · have c_2n := sy_a64 c_2
      refine lv_iconst (v := 0) hx hb d_DeviceSets_isValue_20 (by decide) ?_
      exact W.zret (v := (0 : Int32)) hx hb hr (rfl) (fun t ht hW => ⟨(0 : Int32), rfl, by simp [bI, ok_val, c_1, c_1n, c_2, c_2n], ht⟩) (fun q h => by cases h) d_DeviceSets_isValue_21
    · have c_2n := sy_b64 c_2
      refine lv_iconst (v := 1) hx hb d_DeviceSets_isValue_16 (by decide) ?_
      refine lv_goto (tgt := 21) hx hb d_DeviceSets_isValue_17 (by decide) ?_
      exact W.zret (v := (1 : Int32)) hx hb hr (rfl) (fun t ht hW => ⟨(1 : Int32), rfl, by simp [bI, ok_val, c_1, c_1n, c_2, c_2n], ht⟩) (fun q h => by cases h) d_DeviceSets_isValue_21
set_option maxHeartbeats 4000000 in
set_option maxRecDepth 100000 in
theorem c_DeviceSets_bit (l : Launch) (G : sy_G) (k : Nat) : Met l y_DeviceSets_bit (sy_w y_DeviceSets_bit b_DeviceSets_bit 1 (some .long)) { frames := 0, cells := 0, slots := 0, locals := 0 } (va_Pc [.int (nI k)] (sy_KP G (fun _ => True))) (vp_Sl (fun r => r = bs_b k)) 0 0 (fun _ => False) := by
  refine Met.ofW (cc := b_DeviceSets_bit) (maxL := 1) (ret := (some .long)) (by decide) rfl ?_
  intro p e s m args below meth c s₁ B hml hv
  obtain ⟨rfl, hP, hK⟩ := hv
  have hx := B.exec
  have hb := B.bytes
  have hr := B.returns
  have hts := atoms_spec (ws := sy_w y_DeviceSets_bit b_DeviceSets_bit 1 (some .long)) B.pre
  have ht : ∀ wd ∈ sy_T, wd.before ([.int (nI k)] : List Value).toArray s = true := fun wd h => hts wd (List.mem_cons_of_mem _ h)
  have hown : s.vm.findClass R_DeviceSets = some m.cls := findClass_of_methodNamed B.named
  have hlocks := B.notSynchronized
  have hl := lv_entry ([.int (nI k)]) (n := 1) (Nat.le_of_ble_eq_true rfl)
  rw [lg_entry_eq]
  generalize (lg_sl ([.int (nI k)]) ++ List.replicate (1 - (lg_sl ([.int (nI k)])).length) Slot.unset).toArray = ls at hl ⊢
  have hl : lv_has ls 1 [(0, .int (nI k))] := hl
  refine lv_lconst (v := 1) hx hb d_DeviceSets_bit_0 (by decide) ?_
  refine lv_iload_n hx hb d_DeviceSets_bit_1 rfl (lv_at hl 0 rfl) ?_
  refine lv_lshl (v := (1 : Int64) <<< ((nI k).toInt64 &&& 63)) hx hb d_DeviceSets_bit_2 rfl ?_
  exact W.lret (v := (1 : Int64) <<< ((nI k).toInt64 &&& 63)) hx hb hr (fun t ht hW => ⟨(1 : Int64) <<< ((nI k).toInt64 &&& 63), rfl, rfl, ht⟩) (fun q h => by cases h) d_DeviceSets_bit_3
set_option maxHeartbeats 4000000 in
set_option maxRecDepth 100000 in
theorem c_DeviceSets_isIn (l : Launch) (G : sy_G) (k : Nat) (x : Int64) : Met l y_DeviceSets_isIn (sy_w y_DeviceSets_isIn b_DeviceSets_isIn 3 (some .boolean)) { frames := 1, cells := 0, slots := 0, locals := 20 } (va_Pc [.int (nI k), .long x] (sy_KP G (fun _ => True))) (vp_Si (fun r => r = bI (bs_in x k))) 0 0 (fun _ => False) := by
  refine Met.ofW (cc := b_DeviceSets_isIn) (maxL := 3) (ret := (some .boolean)) (by decide) rfl ?_
  intro p e s m args below meth c s₁ B hml hv
  obtain ⟨rfl, hP, hK⟩ := hv
  have hx := B.exec
  have hb := B.bytes
  have hr := B.returns
  have hts := atoms_spec (ws := sy_w y_DeviceSets_isIn b_DeviceSets_isIn 3 (some .boolean)) B.pre
  have ht : ∀ wd ∈ sy_T, wd.before ([.int (nI k), .long x] : List Value).toArray s = true := fun wd h => hts wd (List.mem_cons_of_mem _ h)
  have hown : s.vm.findClass R_DeviceSets = some m.cls := findClass_of_methodNamed B.named
  have hlocks := B.notSynchronized
  have hl := lv_entry ([.int (nI k), .long x]) (n := 3) (Nat.le_of_ble_eq_true rfl)
  rw [lg_entry_eq]
  generalize (lg_sl ([.int (nI k), .long x]) ++ List.replicate (3 - (lg_sl ([.int (nI k), .long x])).length) Slot.unset).toArray = ls at hl ⊢
  have hl : lv_has ls 3 [(0, .int (nI k)), (1, .long x)] := hl
  refine lv_lload_n hx hb d_DeviceSets_isIn_0 rfl (lv_at hl 1 rfl) ?_
  refine lv_iload_n hx hb d_DeviceSets_isIn_1 rfl (lv_at hl 0 rfl) ?_
  refine vp_callSl (va_Run.run (sy_runS (As := [.int (nI k)]) (rest := [.long x]) ⟨hx, hb, hml, hown, ht⟩ cl_DeviceSets_110 (c_DeviceSets_bit l G k) hK trivial rfl nm_DeviceSets_bit rfl rfl ⟨Nat.le_of_ble_eq_true rfl, Nat.le_of_ble_eq_true rfl⟩ hl.1 (Nat.le_of_ble_eq_true rfl) d_DeviceSets_isIn_2 ⟨Nat.zero_le _, Nat.zero_le _⟩)) (fun r_1 hr_1 => ?_)
  subst hr_1
  refine lv_land hx hb d_DeviceSets_isIn_5 ?_
  refine lv_lconst (v := 0) hx hb d_DeviceSets_isIn_6 (by decide) ?_
  refine sy_lc_eq (tgt := 15) hx hb d_DeviceSets_isIn_7 d_DeviceSets_isIn_8 (by decide) (fun c_2 => ?_) (fun c_2 => ?_)
  · refine lv_iconst (v := 0) hx hb d_DeviceSets_isIn_15 (by decide) ?_
    exact W.zret (v := (0 : Int32)) hx hb hr (rfl) (fun t ht hW => ⟨(0 : Int32), rfl, by simp [bI, bs_in, c_2], ht⟩) (fun q h => by cases h) d_DeviceSets_isIn_16
  · refine lv_iconst (v := 1) hx hb d_DeviceSets_isIn_11 (by decide) ?_
    refine lv_goto (tgt := 16) hx hb d_DeviceSets_isIn_12 (by decide) ?_
    exact W.zret (v := (1 : Int32)) hx hb hr (rfl) (fun t ht hW => ⟨(1 : Int32), rfl, by simp [bI, bs_in, c_2], ht⟩) (fun q h => by cases h) d_DeviceSets_isIn_16
set_option maxHeartbeats 4000000 in
set_option maxRecDepth 100000 in
theorem c_DeviceSets_nextDraw (l : Launch) (G : sy_G) (x : Int64) : Met l y_DeviceSets_nextDraw (sy_w y_DeviceSets_nextDraw b_DeviceSets_nextDraw 2 (some .long)) { frames := 0, cells := 0, slots := 0, locals := 0 } (va_Pc [.long x] (sy_KP G (fun _ => True))) (vp_Sl (fun r => r = dr_next x)) 0 0 (fun _ => False) := by
  refine Met.ofW (cc := b_DeviceSets_nextDraw) (maxL := 2) (ret := (some .long)) (by decide) rfl ?_
  intro p e s m args below meth c s₁ B hml hv
  obtain ⟨rfl, hP, hK⟩ := hv
  have hx := B.exec
  have hb := B.bytes
  have hr := B.returns
  have hts := atoms_spec (ws := sy_w y_DeviceSets_nextDraw b_DeviceSets_nextDraw 2 (some .long)) B.pre
  have ht : ∀ wd ∈ sy_T, wd.before ([.long x] : List Value).toArray s = true := fun wd h => hts wd (List.mem_cons_of_mem _ h)
  have hown : s.vm.findClass R_DeviceSets = some m.cls := findClass_of_methodNamed B.named
  have hlocks := B.notSynchronized
  have hl := lv_entry ([.long x]) (n := 2) (Nat.le_of_ble_eq_true rfl)
  rw [lg_entry_eq]
  generalize (lg_sl ([.long x]) ++ List.replicate (2 - (lg_sl ([.long x])).length) Slot.unset).toArray = ls at hl ⊢
  have hl : lv_has ls 2 [(0, .long x)] := hl
  refine lv_lload_n hx hb d_DeviceSets_nextDraw_0 rfl (lv_at hl 0 rfl) ?_
  refine lv_ldc2 (v := 6364136223846793005) hx hb hown (ht _ m_493) d_DeviceSets_nextDraw_1 ?_
  refine lv_lmul hx hb d_DeviceSets_nextDraw_4 ?_
  refine lv_ldc2 (v := 1442695040888963407) hx hb hown (ht _ m_494) d_DeviceSets_nextDraw_5 ?_
  refine lv_ladd hx hb d_DeviceSets_nextDraw_8 ?_
  exact W.lret (v := (x * 6364136223846793005) + 1442695040888963407) hx hb hr (fun t ht hW => ⟨(x * 6364136223846793005) + 1442695040888963407, rfl, rfl, ht⟩) (fun q h => by cases h) d_DeviceSets_nextDraw_9
end
section
set_option maxHeartbeats 4000000 in
set_option maxRecDepth 100000 in
theorem c_Tellings_isBefore (l : Launch) (G : sy_G) (h0 : Nat) (ad : Nat → Nat) (n : Nat) (fI : Nat → Nat → Int32) (fL : Nat → Nat → Int64) (a : Nat) (b : Nat) (ha : a < 60) (hb2 : b < 60) : Met l y_Tellings_isBefore (sy_w y_Tellings_isBefore b_Tellings_isBefore 3 (some .boolean)) { frames := 0, cells := 0, slots := 0, locals := 0 } (va_Pc [.ref h0, .int (nI a), .int (nI b)] (sy_KP G (va_P G.1 classes (tw G.2 h0 ad n fI fL)))) (vp_Si (fun r => r = bI (tl_bf fI fL a b))) 0 0 (fun _ => False) := by
  refine Met.ofW (cc := b_Tellings_isBefore) (maxL := 3) (ret := (some .boolean)) (by decide) rfl ?_
  intro p e s m args below meth c s₁ B hml hv
  obtain ⟨rfl, hP, hK⟩ := hv
  have hx := B.exec
  have hb := B.bytes
  have hr := B.returns
  have hts := atoms_spec (ws := sy_w y_Tellings_isBefore b_Tellings_isBefore 3 (some .boolean)) B.pre
  have ht : ∀ wd ∈ sy_T, wd.before ([.ref h0, .int (nI a), .int (nI b)] : List Value).toArray s = true := fun wd h => hts wd (List.mem_cons_of_mem _ h)
  have hown : s.vm.findClass R_Tellings = some m.cls := findClass_of_methodNamed B.named
  have hlocks := B.notSynchronized
  have hl := lv_entry ([.ref h0, .int (nI a), .int (nI b)]) (n := 3) (Nat.le_of_ble_eq_true rfl)
  rw [lg_entry_eq]
  generalize (lg_sl ([.ref h0, .int (nI a), .int (nI b)]) ++ List.replicate (3 - (lg_sl ([.ref h0, .int (nI a), .int (nI b)])).length) Slot.unset).toArray = ls at hl ⊢
  have hl : lv_has ls 3 [(0, .ref h0), (1, .int (nI a)), (2, .int (nI b))] := hl
  refine lv_aload_n hx hb d_Tellings_isBefore_0 rfl (lv_at hl 0 rfl) ?_
  refine va_get (D := G.1) (ci := 5) (v := .ref (ad 0)) (C := R_Tellings) (T := F_Tellings) (N := 8) hx hb ht i_Tellings hown hK.1 hP 0 rfl rfl 0 (by decide) (ht _ m_58) (fun _ h9 => h9) rfl d_Tellings_isBefore_1 ?_
  refine lv_iload_n hx hb d_Tellings_isBefore_4 rfl (lv_at hl 1 rfl) ?_
  refine sy_iald hx hb hK.1 hP 1 0 rfl rfl (k := a) (by omega) (by decide) d_Tellings_isBefore_5 ?_
  refine lv_aload_n hx hb d_Tellings_isBefore_6 rfl (lv_at hl 0 rfl) ?_
  refine va_get (D := G.1) (ci := 5) (v := .ref (ad 0)) (C := R_Tellings) (T := F_Tellings) (N := 8) hx hb ht i_Tellings hown hK.1 hP 0 rfl rfl 0 (by decide) (ht _ m_58) (fun _ h9 => h9) rfl d_Tellings_isBefore_7 ?_
  refine lv_iload_n hx hb d_Tellings_isBefore_10 rfl (lv_at hl 2 rfl) ?_
  refine sy_iald hx hb hK.1 hP 1 0 rfl rfl (k := b) (by omega) (by decide) d_Tellings_isBefore_11 ?_
  refine lv_icmp_eq (tgt := 36) hx hb d_Tellings_isBefore_12 (by decide) (fun c_1 => ?_) (fun c_1 => ?_)
  · refine lv_aload_n hx hb d_Tellings_isBefore_36 rfl (lv_at hl 0 rfl) ?_
    refine va_get (D := G.1) (ci := 5) (v := .ref (ad 1)) (C := R_Tellings) (T := F_Tellings) (N := 8) hx hb ht i_Tellings hown hK.1 hP 0 rfl rfl 1 (by decide) (ht _ m_59) (fun _ h9 => h9) rfl d_Tellings_isBefore_37 ?_
    refine lv_iload_n hx hb d_Tellings_isBefore_40 rfl (lv_at hl 1 rfl) ?_
    refine sy_iald hx hb hK.1 hP 2 0 rfl rfl (k := a) (by omega) (by decide) d_Tellings_isBefore_41 ?_
    refine lv_aload_n hx hb d_Tellings_isBefore_42 rfl (lv_at hl 0 rfl) ?_
    refine va_get (D := G.1) (ci := 5) (v := .ref (ad 1)) (C := R_Tellings) (T := F_Tellings) (N := 8) hx hb ht i_Tellings hown hK.1 hP 0 rfl rfl 1 (by decide) (ht _ m_59) (fun _ h9 => h9) rfl d_Tellings_isBefore_43 ?_
    refine lv_iload_n hx hb d_Tellings_isBefore_46 rfl (lv_at hl 2 rfl) ?_
    refine sy_iald hx hb hK.1 hP 2 0 rfl rfl (k := b) (by omega) (by decide) d_Tellings_isBefore_47 ?_
    refine lv_icmp_eq (tgt := 72) hx hb d_Tellings_isBefore_48 (by decide) (fun c_2 => ?_) (fun c_2 => ?_)
    · refine lv_aload_n hx hb d_Tellings_isBefore_72 rfl (lv_at hl 0 rfl) ?_
      refine va_get (D := G.1) (ci := 5) (v := .ref (ad 2)) (C := R_Tellings) (T := F_Tellings) (N := 8) hx hb ht i_Tellings hown hK.1 hP 0 rfl rfl 2 (by decide) (ht _ m_60) (fun _ h9 => h9) rfl d_Tellings_isBefore_73 ?_
      refine lv_iload_n hx hb d_Tellings_isBefore_76 rfl (lv_at hl 1 rfl) ?_
      refine sy_iald hx hb hK.1 hP 3 0 rfl rfl (k := a) (by omega) (by decide) d_Tellings_isBefore_77 ?_
      refine lv_aload_n hx hb d_Tellings_isBefore_78 rfl (lv_at hl 0 rfl) ?_
      refine va_get (D := G.1) (ci := 5) (v := .ref (ad 2)) (C := R_Tellings) (T := F_Tellings) (N := 8) hx hb ht i_Tellings hown hK.1 hP 0 rfl rfl 2 (by decide) (ht _ m_60) (fun _ h9 => h9) rfl d_Tellings_isBefore_79 ?_
      refine lv_iload_n hx hb d_Tellings_isBefore_82 rfl (lv_at hl 2 rfl) ?_
      refine sy_iald hx hb hK.1 hP 3 0 rfl rfl (k := b) (by omega) (by decide) d_Tellings_isBefore_83 ?_
      refine lv_icmp_eq (tgt := 108) hx hb d_Tellings_isBefore_84 (by decide) (fun c_3 => ?_) (fun c_3 => ?_)
      · refine lv_aload_n hx hb d_Tellings_isBefore_108 rfl (lv_at hl 0 rfl) ?_
        refine va_get (D := G.1) (ci := 5) (v := .ref (ad 3)) (C := R_Tellings) (T := F_Tellings) (N := 8) hx hb ht i_Tellings hown hK.1 hP 0 rfl rfl 3 (by decide) (ht _ m_61) (fun _ h9 => h9) rfl d_Tellings_isBefore_109 ?_
        refine lv_iload_n hx hb d_Tellings_isBefore_112 rfl (lv_at hl 1 rfl) ?_
        refine sy_iald hx hb hK.1 hP 4 0 rfl rfl (k := a) (by omega) (by decide) d_Tellings_isBefore_113 ?_
        refine lv_aload_n hx hb d_Tellings_isBefore_114 rfl (lv_at hl 0 rfl) ?_
        refine va_get (D := G.1) (ci := 5) (v := .ref (ad 3)) (C := R_Tellings) (T := F_Tellings) (N := 8) hx hb ht i_Tellings hown hK.1 hP 0 rfl rfl 3 (by decide) (ht _ m_61) (fun _ h9 => h9) rfl d_Tellings_isBefore_115 ?_
        refine lv_iload_n hx hb d_Tellings_isBefore_118 rfl (lv_at hl 2 rfl) ?_
        refine sy_iald hx hb hK.1 hP 4 0 rfl rfl (k := b) (by omega) (by decide) d_Tellings_isBefore_119 ?_
        refine lv_icmp_eq (tgt := 144) hx hb d_Tellings_isBefore_120 (by decide) (fun c_4 => ?_) (fun c_4 => ?_)
        · refine lv_aload_n hx hb d_Tellings_isBefore_144 rfl (lv_at hl 0 rfl) ?_
          refine va_get (D := G.1) (ci := 5) (v := .ref (ad 4)) (C := R_Tellings) (T := F_Tellings) (N := 8) hx hb ht i_Tellings hown hK.1 hP 0 rfl rfl 4 (by decide) (ht _ m_62) (fun _ h9 => h9) rfl d_Tellings_isBefore_145 ?_
          refine lv_iload_n hx hb d_Tellings_isBefore_148 rfl (lv_at hl 1 rfl) ?_
          refine sy_lald hx hb hK.1 hP 5 1 rfl rfl (k := a) (by omega) (by decide) d_Tellings_isBefore_149 ?_
          refine lv_aload_n hx hb d_Tellings_isBefore_150 rfl (lv_at hl 0 rfl) ?_
          refine va_get (D := G.1) (ci := 5) (v := .ref (ad 4)) (C := R_Tellings) (T := F_Tellings) (N := 8) hx hb ht i_Tellings hown hK.1 hP 0 rfl rfl 4 (by decide) (ht _ m_62) (fun _ h9 => h9) rfl d_Tellings_isBefore_151 ?_
          refine lv_iload_n hx hb d_Tellings_isBefore_154 rfl (lv_at hl 2 rfl) ?_
          refine sy_lald hx hb hK.1 hP 5 1 rfl rfl (k := b) (by omega) (by decide) d_Tellings_isBefore_155 ?_
          refine sy_lc_eq (tgt := 182) hx hb d_Tellings_isBefore_156 d_Tellings_isBefore_157 (by decide) (fun c_5 => ?_) (fun c_5 => ?_)
          · refine lv_aload_n hx hb d_Tellings_isBefore_182 rfl (lv_at hl 0 rfl) ?_
            refine va_get (D := G.1) (ci := 5) (v := .ref (ad 5)) (C := R_Tellings) (T := F_Tellings) (N := 8) hx hb ht i_Tellings hown hK.1 hP 0 rfl rfl 5 (by decide) (ht _ m_64) (fun _ h9 => h9) rfl d_Tellings_isBefore_183 ?_
            refine lv_iload_n hx hb d_Tellings_isBefore_186 rfl (lv_at hl 1 rfl) ?_
            refine sy_lald hx hb hK.1 hP 6 1 rfl rfl (k := a) (by omega) (by decide) d_Tellings_isBefore_187 ?_
            refine lv_aload_n hx hb d_Tellings_isBefore_188 rfl (lv_at hl 0 rfl) ?_
            refine va_get (D := G.1) (ci := 5) (v := .ref (ad 5)) (C := R_Tellings) (T := F_Tellings) (N := 8) hx hb ht i_Tellings hown hK.1 hP 0 rfl rfl 5 (by decide) (ht _ m_64) (fun _ h9 => h9) rfl d_Tellings_isBefore_189 ?_
            refine lv_iload_n hx hb d_Tellings_isBefore_192 rfl (lv_at hl 2 rfl) ?_
            refine sy_lald hx hb hK.1 hP 6 1 rfl rfl (k := b) (by omega) (by decide) d_Tellings_isBefore_193 ?_
            refine sy_lc_ge (tgt := 202) hx hb d_Tellings_isBefore_194 d_Tellings_isBefore_195 (by decide) (fun c_6 => ?_) (fun c_6 => ?_)
            · have c_6n := sy_c64 c_6
              refine lv_iconst (v := 0) hx hb d_Tellings_isBefore_202 (by decide) ?_
              exact W.zret (v := (0 : Int32)) hx hb hr (rfl) (fun t ht hW => ⟨(0 : Int32), rfl, by simp [bI, tl_bf, c_1, c_2, c_3, c_4, c_5, c_6, c_6n], ht⟩) (fun q h => by cases h) d_Tellings_isBefore_203
            · have c_6n := sy_d64 c_6
              refine lv_iconst (v := 1) hx hb d_Tellings_isBefore_198 (by decide) ?_
              refine lv_goto (tgt := 203) hx hb d_Tellings_isBefore_199 (by decide) ?_
              exact W.zret (v := (1 : Int32)) hx hb hr (rfl) (fun t ht hW => ⟨(1 : Int32), rfl, by simp [bI, tl_bf, c_1, c_2, c_3, c_4, c_5, c_6, c_6n], ht⟩) (fun q h => by cases h) d_Tellings_isBefore_203
          · refine lv_aload_n hx hb d_Tellings_isBefore_160 rfl (lv_at hl 0 rfl) ?_
            refine va_get (D := G.1) (ci := 5) (v := .ref (ad 4)) (C := R_Tellings) (T := F_Tellings) (N := 8) hx hb ht i_Tellings hown hK.1 hP 0 rfl rfl 4 (by decide) (ht _ m_62) (fun _ h9 => h9) rfl d_Tellings_isBefore_161 ?_
            refine lv_iload_n hx hb d_Tellings_isBefore_164 rfl (lv_at hl 1 rfl) ?_
            refine sy_lald hx hb hK.1 hP 5 1 rfl rfl (k := a) (by omega) (by decide) d_Tellings_isBefore_165 ?_
            refine lv_aload_n hx hb d_Tellings_isBefore_166 rfl (lv_at hl 0 rfl) ?_
            refine va_get (D := G.1) (ci := 5) (v := .ref (ad 4)) (C := R_Tellings) (T := F_Tellings) (N := 8) hx hb ht i_Tellings hown hK.1 hP 0 rfl rfl 4 (by decide) (ht _ m_62) (fun _ h9 => h9) rfl d_Tellings_isBefore_167 ?_
            refine lv_iload_n hx hb d_Tellings_isBefore_170 rfl (lv_at hl 2 rfl) ?_
            refine sy_lald hx hb hK.1 hP 5 1 rfl rfl (k := b) (by omega) (by decide) d_Tellings_isBefore_171 ?_
            refine sy_lc_ge (tgt := 180) hx hb d_Tellings_isBefore_172 d_Tellings_isBefore_173 (by decide) (fun c_7 => ?_) (fun c_7 => ?_)
            · have c_7n := sy_c64 c_7
              refine lv_iconst (v := 0) hx hb d_Tellings_isBefore_180 (by decide) ?_
              exact W.zret (v := (0 : Int32)) hx hb hr (rfl) (fun t ht hW => ⟨(0 : Int32), rfl, by simp [bI, tl_bf, c_1, c_2, c_3, c_4, c_5, c_7, c_7n], ht⟩) (fun q h => by cases h) d_Tellings_isBefore_181
            · have c_7n := sy_d64 c_7
              refine lv_iconst (v := 1) hx hb d_Tellings_isBefore_176 (by decide) ?_
              refine lv_goto (tgt := 181) hx hb d_Tellings_isBefore_177 (by decide) ?_
              exact W.zret (v := (1 : Int32)) hx hb hr (rfl) (fun t ht hW => ⟨(1 : Int32), rfl, by simp [bI, tl_bf, c_1, c_2, c_3, c_4, c_5, c_7, c_7n], ht⟩) (fun q h => by cases h) d_Tellings_isBefore_181
        · refine lv_aload_n hx hb d_Tellings_isBefore_123 rfl (lv_at hl 0 rfl) ?_
          refine va_get (D := G.1) (ci := 5) (v := .ref (ad 3)) (C := R_Tellings) (T := F_Tellings) (N := 8) hx hb ht i_Tellings hown hK.1 hP 0 rfl rfl 3 (by decide) (ht _ m_61) (fun _ h9 => h9) rfl d_Tellings_isBefore_124 ?_
          refine lv_iload_n hx hb d_Tellings_isBefore_127 rfl (lv_at hl 1 rfl) ?_
          refine sy_iald hx hb hK.1 hP 4 0 rfl rfl (k := a) (by omega) (by decide) d_Tellings_isBefore_128 ?_
          refine lv_aload_n hx hb d_Tellings_isBefore_129 rfl (lv_at hl 0 rfl) ?_
          refine va_get (D := G.1) (ci := 5) (v := .ref (ad 3)) (C := R_Tellings) (T := F_Tellings) (N := 8) hx hb ht i_Tellings hown hK.1 hP 0 rfl rfl 3 (by decide) (ht _ m_61) (fun _ h9 => h9) rfl d_Tellings_isBefore_130 ?_
          refine lv_iload_n hx hb d_Tellings_isBefore_133 rfl (lv_at hl 2 rfl) ?_
          refine sy_iald hx hb hK.1 hP 4 0 rfl rfl (k := b) (by omega) (by decide) d_Tellings_isBefore_134 ?_
          refine lv_icmp_ge (tgt := 142) hx hb d_Tellings_isBefore_135 (by decide) (fun c_8 => ?_) (fun c_8 => ?_)
          · have c_8n := sy_c32 c_8
            refine lv_iconst (v := 0) hx hb d_Tellings_isBefore_142 (by decide) ?_
            exact W.zret (v := (0 : Int32)) hx hb hr (rfl) (fun t ht hW => ⟨(0 : Int32), rfl, by simp [bI, tl_bf, c_1, c_2, c_3, c_4, c_8, c_8n], ht⟩) (fun q h => by cases h) d_Tellings_isBefore_143
          · have c_8n := sy_d32 c_8
            refine lv_iconst (v := 1) hx hb d_Tellings_isBefore_138 (by decide) ?_
            refine lv_goto (tgt := 143) hx hb d_Tellings_isBefore_139 (by decide) ?_
            exact W.zret (v := (1 : Int32)) hx hb hr (rfl) (fun t ht hW => ⟨(1 : Int32), rfl, by simp [bI, tl_bf, c_1, c_2, c_3, c_4, c_8, c_8n], ht⟩) (fun q h => by cases h) d_Tellings_isBefore_143
      · refine lv_aload_n hx hb d_Tellings_isBefore_87 rfl (lv_at hl 0 rfl) ?_
        refine va_get (D := G.1) (ci := 5) (v := .ref (ad 2)) (C := R_Tellings) (T := F_Tellings) (N := 8) hx hb ht i_Tellings hown hK.1 hP 0 rfl rfl 2 (by decide) (ht _ m_60) (fun _ h9 => h9) rfl d_Tellings_isBefore_88 ?_
        refine lv_iload_n hx hb d_Tellings_isBefore_91 rfl (lv_at hl 1 rfl) ?_
        refine sy_iald hx hb hK.1 hP 3 0 rfl rfl (k := a) (by omega) (by decide) d_Tellings_isBefore_92 ?_
        refine lv_aload_n hx hb d_Tellings_isBefore_93 rfl (lv_at hl 0 rfl) ?_
        refine va_get (D := G.1) (ci := 5) (v := .ref (ad 2)) (C := R_Tellings) (T := F_Tellings) (N := 8) hx hb ht i_Tellings hown hK.1 hP 0 rfl rfl 2 (by decide) (ht _ m_60) (fun _ h9 => h9) rfl d_Tellings_isBefore_94 ?_
        refine lv_iload_n hx hb d_Tellings_isBefore_97 rfl (lv_at hl 2 rfl) ?_
        refine sy_iald hx hb hK.1 hP 3 0 rfl rfl (k := b) (by omega) (by decide) d_Tellings_isBefore_98 ?_
        refine lv_icmp_ge (tgt := 106) hx hb d_Tellings_isBefore_99 (by decide) (fun c_9 => ?_) (fun c_9 => ?_)
        · have c_9n := sy_c32 c_9
          refine lv_iconst (v := 0) hx hb d_Tellings_isBefore_106 (by decide) ?_
          exact W.zret (v := (0 : Int32)) hx hb hr (rfl) (fun t ht hW => ⟨(0 : Int32), rfl, by simp [bI, tl_bf, c_1, c_2, c_3, c_9, c_9n], ht⟩) (fun q h => by cases h) d_Tellings_isBefore_107
        · have c_9n := sy_d32 c_9
          refine lv_iconst (v := 1) hx hb d_Tellings_isBefore_102 (by decide) ?_
          refine lv_goto (tgt := 107) hx hb d_Tellings_isBefore_103 (by decide) ?_
          exact W.zret (v := (1 : Int32)) hx hb hr (rfl) (fun t ht hW => ⟨(1 : Int32), rfl, by simp [bI, tl_bf, c_1, c_2, c_3, c_9, c_9n], ht⟩) (fun q h => by cases h) d_Tellings_isBefore_107
    · refine lv_aload_n hx hb d_Tellings_isBefore_51 rfl (lv_at hl 0 rfl) ?_
      refine va_get (D := G.1) (ci := 5) (v := .ref (ad 1)) (C := R_Tellings) (T := F_Tellings) (N := 8) hx hb ht i_Tellings hown hK.1 hP 0 rfl rfl 1 (by decide) (ht _ m_59) (fun _ h9 => h9) rfl d_Tellings_isBefore_52 ?_
      refine lv_iload_n hx hb d_Tellings_isBefore_55 rfl (lv_at hl 1 rfl) ?_
      refine sy_iald hx hb hK.1 hP 2 0 rfl rfl (k := a) (by omega) (by decide) d_Tellings_isBefore_56 ?_
      refine lv_aload_n hx hb d_Tellings_isBefore_57 rfl (lv_at hl 0 rfl) ?_
      refine va_get (D := G.1) (ci := 5) (v := .ref (ad 1)) (C := R_Tellings) (T := F_Tellings) (N := 8) hx hb ht i_Tellings hown hK.1 hP 0 rfl rfl 1 (by decide) (ht _ m_59) (fun _ h9 => h9) rfl d_Tellings_isBefore_58 ?_
      refine lv_iload_n hx hb d_Tellings_isBefore_61 rfl (lv_at hl 2 rfl) ?_
      refine sy_iald hx hb hK.1 hP 2 0 rfl rfl (k := b) (by omega) (by decide) d_Tellings_isBefore_62 ?_
      refine lv_icmp_ge (tgt := 70) hx hb d_Tellings_isBefore_63 (by decide) (fun c_10 => ?_) (fun c_10 => ?_)
      · have c_10n := sy_c32 c_10
        refine lv_iconst (v := 0) hx hb d_Tellings_isBefore_70 (by decide) ?_
        exact W.zret (v := (0 : Int32)) hx hb hr (rfl) (fun t ht hW => ⟨(0 : Int32), rfl, by simp [bI, tl_bf, c_1, c_2, c_10, c_10n], ht⟩) (fun q h => by cases h) d_Tellings_isBefore_71
      · have c_10n := sy_d32 c_10
        refine lv_iconst (v := 1) hx hb d_Tellings_isBefore_66 (by decide) ?_
        refine lv_goto (tgt := 71) hx hb d_Tellings_isBefore_67 (by decide) ?_
        exact W.zret (v := (1 : Int32)) hx hb hr (rfl) (fun t ht hW => ⟨(1 : Int32), rfl, by simp [bI, tl_bf, c_1, c_2, c_10, c_10n], ht⟩) (fun q h => by cases h) d_Tellings_isBefore_71
  · refine lv_aload_n hx hb d_Tellings_isBefore_15 rfl (lv_at hl 0 rfl) ?_
    refine va_get (D := G.1) (ci := 5) (v := .ref (ad 0)) (C := R_Tellings) (T := F_Tellings) (N := 8) hx hb ht i_Tellings hown hK.1 hP 0 rfl rfl 0 (by decide) (ht _ m_58) (fun _ h9 => h9) rfl d_Tellings_isBefore_16 ?_
    refine lv_iload_n hx hb d_Tellings_isBefore_19 rfl (lv_at hl 1 rfl) ?_
    refine sy_iald hx hb hK.1 hP 1 0 rfl rfl (k := a) (by omega) (by decide) d_Tellings_isBefore_20 ?_
    refine lv_aload_n hx hb d_Tellings_isBefore_21 rfl (lv_at hl 0 rfl) ?_
    refine va_get (D := G.1) (ci := 5) (v := .ref (ad 0)) (C := R_Tellings) (T := F_Tellings) (N := 8) hx hb ht i_Tellings hown hK.1 hP 0 rfl rfl 0 (by decide) (ht _ m_58) (fun _ h9 => h9) rfl d_Tellings_isBefore_22 ?_
    refine lv_iload_n hx hb d_Tellings_isBefore_25 rfl (lv_at hl 2 rfl) ?_
    refine sy_iald hx hb hK.1 hP 1 0 rfl rfl (k := b) (by omega) (by decide) d_Tellings_isBefore_26 ?_
    refine lv_icmp_ge (tgt := 34) hx hb d_Tellings_isBefore_27 (by decide) (fun c_11 => ?_) (fun c_11 => ?_)
    · have c_11n := sy_c32 c_11
      refine lv_iconst (v := 0) hx hb d_Tellings_isBefore_34 (by decide) ?_
      exact W.zret (v := (0 : Int32)) hx hb hr (rfl) (fun t ht hW => ⟨(0 : Int32), rfl, by simp [bI, tl_bf, c_1, c_11, c_11n], ht⟩) (fun q h => by cases h) d_Tellings_isBefore_35
    · have c_11n := sy_d32 c_11
      refine lv_iconst (v := 1) hx hb d_Tellings_isBefore_30 (by decide) ?_
      refine lv_goto (tgt := 35) hx hb d_Tellings_isBefore_31 (by decide) ?_
      exact W.zret (v := (1 : Int32)) hx hb hr (rfl) (fun t ht hW => ⟨(1 : Int32), rfl, by simp [bI, tl_bf, c_1, c_11, c_11n], ht⟩) (fun q h => by cases h) d_Tellings_isBefore_35
set_option maxHeartbeats 4000000 in
set_option maxRecDepth 100000 in
theorem c_Tellings_has (l : Launch) (G : sy_G) (h0 : Nat) (ad : Nat → Nat) (n : Nat) (fI : Nat → Nat → Int32) (fL : Nat → Nat → Int64) (d : Int32) (lf : Int32) (nu : Int32) (kd : Int32) (se : Int64) (v : Int64) (hn : n ≤ 60) : Met l y_Tellings_has (sy_w y_Tellings_has b_Tellings_has 10 (some .boolean)) { frames := 0, cells := 0, slots := 0, locals := 0 } (va_Pc [.ref h0, .int d, .int lf, .int nu, .int kd, .long se, .long v] (sy_KP G (va_P G.1 classes (tw G.2 h0 ad n fI fL)))) (vp_Si (fun r => r = bI (tl_has fI fL n d lf nu kd se v))) 0 0 (fun _ => False) := by
  refine Met.ofW (cc := b_Tellings_has) (maxL := 10) (ret := (some .boolean)) (by decide) rfl ?_
  intro p e s m args below meth c s₁ B hml hv
  obtain ⟨rfl, hP, hK⟩ := hv
  have hx := B.exec
  have hb := B.bytes
  have hr := B.returns
  have hts := atoms_spec (ws := sy_w y_Tellings_has b_Tellings_has 10 (some .boolean)) B.pre
  have ht : ∀ wd ∈ sy_T, wd.before ([.ref h0, .int d, .int lf, .int nu, .int kd, .long se, .long v] : List Value).toArray s = true := fun wd h => hts wd (List.mem_cons_of_mem _ h)
  have hown : s.vm.findClass R_Tellings = some m.cls := findClass_of_methodNamed B.named
  have hlocks := B.notSynchronized
  have hl := lv_entry ([.ref h0, .int d, .int lf, .int nu, .int kd, .long se, .long v]) (n := 10) (Nat.le_of_ble_eq_true rfl)
  rw [lg_entry_eq]
  generalize (lg_sl ([.ref h0, .int d, .int lf, .int nu, .int kd, .long se, .long v]) ++ List.replicate (10 - (lg_sl ([.ref h0, .int d, .int lf, .int nu, .int kd, .long se, .long v])).length) Slot.unset).toArray = ls at hl ⊢
  have hl : lv_has ls 10 [(0, .ref h0), (1, .int d), (2, .int lf), (3, .int nu), (4, .int kd), (5, .long se), (7, .long v)] := hl
  refine lv_iconst (v := 0) hx hb d_Tellings_has_0 (by decide) ?_
  refine lv_istore (lv' := [(9, .int 0), (0, .ref h0), (1, .int d), (2, .int lf), (3, .int nu), (4, .int kd), (5, .long se), (7, .long v)]) hx hb d_Tellings_has_1 hl (by decide) rfl (fun ls hl => ?_)
  refine sy_loop (σ := Nat) (nL := 10) (fun k => n - k) (fun k => [(9, .int (nI k)), (0, .ref h0), (1, .int d), (2, .int lf), (3, .int nu), (4, .int kd), (5, .long se), (7, .long v)]) (fun k => k ≤ n ∧ nn_any (tl_eq fI fL d lf nu kd se v) k = false) ?_ 0 ?_ (lv_sub hl [0, 1, 2, 3, 4, 5, 6, 7] rfl)
  · intro k ls hI hl ih3
    have hl : lv_has ls 10 [(9, .int (nI k)), (0, .ref h0), (1, .int d), (2, .int lf), (3, .int nu), (4, .int kd), (5, .long se), (7, .long v)] := hl
    obtain ⟨hk, hI⟩ := hI
    refine lv_iload hx hb d_Tellings_has_3 (lv_at hl 0 rfl) ?_
    refine lv_aload_n hx hb d_Tellings_has_5 rfl (lv_at hl 1 rfl) ?_
    refine va_get (D := G.1) (ci := 5) (v := .int (nI n)) (C := R_Tellings) (T := F_Tellings) (N := 8) hx hb ht i_Tellings hown hK.1 hP 0 rfl rfl 7 (by decide) (ht _ m_67) (fun _ h9 => h9) rfl d_Tellings_has_6 ?_
    refine lv_icmp_ge (tgt := 91) hx hb d_Tellings_has_9 (by decide) (fun c_1 => ?_) (fun c_1 => ?_)
    · have c_1 : n ≤ k := (nI_leI (a := n) (b := k) (by omega) (by omega)).mp c_1
      have c_1n : ¬ k < n := by omega
      refine lv_iconst (v := 0) hx hb d_Tellings_has_91 (by decide) ?_
      exact W.zret (v := (0 : Int32)) hx hb hr (rfl) (fun t ht hW => ⟨(0 : Int32), rfl, by first | (rw [tl_has, nn_any_of (k := k) (by omega) (by simp [tl_eq, c_1, c_1n]; done)]; rfl) | (rw [tl_has, show n = k by omega, hI]; rfl), ht⟩) (fun q h => by cases h) d_Tellings_has_92
    · have c_1 : ¬ n ≤ k := fun h9 => c_1 ((nI_leI (a := n) (b := k) (by omega) (by omega)).mpr h9)
      have c_1n : k < n := by omega
      refine lv_aload_n hx hb d_Tellings_has_12 rfl (lv_at hl 1 rfl) ?_
      refine va_get (D := G.1) (ci := 5) (v := .ref (ad 0)) (C := R_Tellings) (T := F_Tellings) (N := 8) hx hb ht i_Tellings hown hK.1 hP 0 rfl rfl 0 (by decide) (ht _ m_58) (fun _ h9 => h9) rfl d_Tellings_has_13 ?_
      refine lv_iload hx hb d_Tellings_has_16 (lv_at hl 0 rfl) ?_
      refine sy_iald hx hb hK.1 hP 1 0 rfl rfl (k := k) (by omega) (by decide) d_Tellings_has_18 ?_
      refine lv_iload_n hx hb d_Tellings_has_19 rfl (lv_at hl 2 rfl) ?_
      refine lv_icmp_ne (tgt := 85) hx hb d_Tellings_has_20 (by decide) (fun c_2 => ?_) (fun c_2 => ?_)
      · refine lv_iinc (v := nI (k + 1)) (lv' := [(9, .int (nI (k + 1))), (0, .ref h0), (1, .int d), (2, .int lf), (3, .int nu), (4, .int kd), (5, .long se), (7, .long v)]) hx hb d_Tellings_has_85 hl (k := 0) rfl (nI_add k 1) (by decide) rfl (fun ls hl => ?_)
        refine lv_goto (tgt := 3) hx hb d_Tellings_has_88 (by decide) ?_
        refine ih3 (k + 1) ls (show n - (k + 1) < n - k by omega) ?_ (lv_sub hl [0, 1, 2, 3, 4, 5, 6, 7] rfl)
        exact ⟨by omega, by simp [nn_any, hI, tl_eq, c_1, c_1n, c_2]⟩
      · refine lv_aload_n hx hb d_Tellings_has_23 rfl (lv_at hl 1 rfl) ?_
        refine va_get (D := G.1) (ci := 5) (v := .ref (ad 1)) (C := R_Tellings) (T := F_Tellings) (N := 8) hx hb ht i_Tellings hown hK.1 hP 0 rfl rfl 1 (by decide) (ht _ m_59) (fun _ h9 => h9) rfl d_Tellings_has_24 ?_
        refine lv_iload hx hb d_Tellings_has_27 (lv_at hl 0 rfl) ?_
        refine sy_iald hx hb hK.1 hP 2 0 rfl rfl (k := k) (by omega) (by decide) d_Tellings_has_29 ?_
        refine lv_iload_n hx hb d_Tellings_has_30 rfl (lv_at hl 3 rfl) ?_
        refine lv_icmp_ne (tgt := 85) hx hb d_Tellings_has_31 (by decide) (fun c_3 => ?_) (fun c_3 => ?_)
        · refine lv_iinc (v := nI (k + 1)) (lv' := [(9, .int (nI (k + 1))), (0, .ref h0), (1, .int d), (2, .int lf), (3, .int nu), (4, .int kd), (5, .long se), (7, .long v)]) hx hb d_Tellings_has_85 hl (k := 0) rfl (nI_add k 1) (by decide) rfl (fun ls hl => ?_)
          refine lv_goto (tgt := 3) hx hb d_Tellings_has_88 (by decide) ?_
          refine ih3 (k + 1) ls (show n - (k + 1) < n - k by omega) ?_ (lv_sub hl [0, 1, 2, 3, 4, 5, 6, 7] rfl)
          exact ⟨by omega, by simp [nn_any, hI, tl_eq, c_1, c_1n, c_2, c_3]⟩
        · refine lv_aload_n hx hb d_Tellings_has_34 rfl (lv_at hl 1 rfl) ?_
          refine va_get (D := G.1) (ci := 5) (v := .ref (ad 2)) (C := R_Tellings) (T := F_Tellings) (N := 8) hx hb ht i_Tellings hown hK.1 hP 0 rfl rfl 2 (by decide) (ht _ m_60) (fun _ h9 => h9) rfl d_Tellings_has_35 ?_
          refine lv_iload hx hb d_Tellings_has_38 (lv_at hl 0 rfl) ?_
          refine sy_iald hx hb hK.1 hP 3 0 rfl rfl (k := k) (by omega) (by decide) d_Tellings_has_40 ?_
          refine lv_iload_n hx hb d_Tellings_has_41 rfl (lv_at hl 4 rfl) ?_
          refine lv_icmp_ne (tgt := 85) hx hb d_Tellings_has_42 (by decide) (fun c_4 => ?_) (fun c_4 => ?_)
          · refine lv_iinc (v := nI (k + 1)) (lv' := [(9, .int (nI (k + 1))), (0, .ref h0), (1, .int d), (2, .int lf), (3, .int nu), (4, .int kd), (5, .long se), (7, .long v)]) hx hb d_Tellings_has_85 hl (k := 0) rfl (nI_add k 1) (by decide) rfl (fun ls hl => ?_)
            refine lv_goto (tgt := 3) hx hb d_Tellings_has_88 (by decide) ?_
            refine ih3 (k + 1) ls (show n - (k + 1) < n - k by omega) ?_ (lv_sub hl [0, 1, 2, 3, 4, 5, 6, 7] rfl)
            exact ⟨by omega, by simp [nn_any, hI, tl_eq, c_1, c_1n, c_2, c_3, c_4]⟩
          · refine lv_aload_n hx hb d_Tellings_has_45 rfl (lv_at hl 1 rfl) ?_
            refine va_get (D := G.1) (ci := 5) (v := .ref (ad 3)) (C := R_Tellings) (T := F_Tellings) (N := 8) hx hb ht i_Tellings hown hK.1 hP 0 rfl rfl 3 (by decide) (ht _ m_61) (fun _ h9 => h9) rfl d_Tellings_has_46 ?_
            refine lv_iload hx hb d_Tellings_has_49 (lv_at hl 0 rfl) ?_
            refine sy_iald hx hb hK.1 hP 4 0 rfl rfl (k := k) (by omega) (by decide) d_Tellings_has_51 ?_
            refine lv_iload hx hb d_Tellings_has_52 (lv_at hl 5 rfl) ?_
            refine lv_icmp_ne (tgt := 85) hx hb d_Tellings_has_54 (by decide) (fun c_5 => ?_) (fun c_5 => ?_)
            · refine lv_iinc (v := nI (k + 1)) (lv' := [(9, .int (nI (k + 1))), (0, .ref h0), (1, .int d), (2, .int lf), (3, .int nu), (4, .int kd), (5, .long se), (7, .long v)]) hx hb d_Tellings_has_85 hl (k := 0) rfl (nI_add k 1) (by decide) rfl (fun ls hl => ?_)
              refine lv_goto (tgt := 3) hx hb d_Tellings_has_88 (by decide) ?_
              refine ih3 (k + 1) ls (show n - (k + 1) < n - k by omega) ?_ (lv_sub hl [0, 1, 2, 3, 4, 5, 6, 7] rfl)
              exact ⟨by omega, by simp [nn_any, hI, tl_eq, c_1, c_1n, c_2, c_3, c_4, c_5]⟩
            · refine lv_aload_n hx hb d_Tellings_has_57 rfl (lv_at hl 1 rfl) ?_
              refine va_get (D := G.1) (ci := 5) (v := .ref (ad 4)) (C := R_Tellings) (T := F_Tellings) (N := 8) hx hb ht i_Tellings hown hK.1 hP 0 rfl rfl 4 (by decide) (ht _ m_62) (fun _ h9 => h9) rfl d_Tellings_has_58 ?_
              refine lv_iload hx hb d_Tellings_has_61 (lv_at hl 0 rfl) ?_
              refine sy_lald hx hb hK.1 hP 5 1 rfl rfl (k := k) (by omega) (by decide) d_Tellings_has_63 ?_
              refine lv_lload hx hb d_Tellings_has_64 (lv_at hl 6 rfl) ?_
              refine sy_lc_ne (tgt := 85) hx hb d_Tellings_has_66 d_Tellings_has_67 (by decide) (fun c_6 => ?_) (fun c_6 => ?_)
              · refine lv_iinc (v := nI (k + 1)) (lv' := [(9, .int (nI (k + 1))), (0, .ref h0), (1, .int d), (2, .int lf), (3, .int nu), (4, .int kd), (5, .long se), (7, .long v)]) hx hb d_Tellings_has_85 hl (k := 0) rfl (nI_add k 1) (by decide) rfl (fun ls hl => ?_)
                refine lv_goto (tgt := 3) hx hb d_Tellings_has_88 (by decide) ?_
                refine ih3 (k + 1) ls (show n - (k + 1) < n - k by omega) ?_ (lv_sub hl [0, 1, 2, 3, 4, 5, 6, 7] rfl)
                exact ⟨by omega, by simp [nn_any, hI, tl_eq, c_1, c_1n, c_2, c_3, c_4, c_5, c_6]⟩
              · refine lv_aload_n hx hb d_Tellings_has_70 rfl (lv_at hl 1 rfl) ?_
                refine va_get (D := G.1) (ci := 5) (v := .ref (ad 5)) (C := R_Tellings) (T := F_Tellings) (N := 8) hx hb ht i_Tellings hown hK.1 hP 0 rfl rfl 5 (by decide) (ht _ m_64) (fun _ h9 => h9) rfl d_Tellings_has_71 ?_
                refine lv_iload hx hb d_Tellings_has_74 (lv_at hl 0 rfl) ?_
                refine sy_lald hx hb hK.1 hP 6 1 rfl rfl (k := k) (by omega) (by decide) d_Tellings_has_76 ?_
                refine lv_lload hx hb d_Tellings_has_77 (lv_at hl 7 rfl) ?_
                refine sy_lc_ne (tgt := 85) hx hb d_Tellings_has_79 d_Tellings_has_80 (by decide) (fun c_7 => ?_) (fun c_7 => ?_)
                · refine lv_iinc (v := nI (k + 1)) (lv' := [(9, .int (nI (k + 1))), (0, .ref h0), (1, .int d), (2, .int lf), (3, .int nu), (4, .int kd), (5, .long se), (7, .long v)]) hx hb d_Tellings_has_85 hl (k := 0) rfl (nI_add k 1) (by decide) rfl (fun ls hl => ?_)
                  refine lv_goto (tgt := 3) hx hb d_Tellings_has_88 (by decide) ?_
                  refine ih3 (k + 1) ls (show n - (k + 1) < n - k by omega) ?_ (lv_sub hl [0, 1, 2, 3, 4, 5, 6, 7] rfl)
                  exact ⟨by omega, by simp [nn_any, hI, tl_eq, c_1, c_1n, c_2, c_3, c_4, c_5, c_6, c_7]⟩
                · refine lv_iconst (v := 1) hx hb d_Tellings_has_83 (by decide) ?_
                  exact W.zret (v := (1 : Int32)) hx hb hr (rfl) (fun t ht hW => ⟨(1 : Int32), rfl, by first | (rw [tl_has, nn_any_of (k := k) (by omega) (by simp [tl_eq, c_1, c_1n, c_2, c_3, c_4, c_5, c_6, c_7]; done)]; rfl) | (rw [tl_has, show n = k by omega, hI]; rfl), ht⟩) (fun q h => by cases h) d_Tellings_has_84
  · exact ⟨Nat.zero_le _, rfl⟩
set_option maxHeartbeats 4000000 in
set_option maxRecDepth 100000 in
theorem c_Tellings_ofDevice (l : Launch) (G : sy_G) (h0 : Nat) (ad : Nat → Nat) (n : Nat) (fI : Nat → Nat → Int32) (fL : Nat → Nat → Int64) (w : Int32) (hn : n ≤ 60) : Met l y_Tellings_ofDevice (sy_w y_Tellings_ofDevice b_Tellings_ofDevice 5 (some .long)) { frames := 1, cells := 0, slots := 0, locals := 20 } (va_Pc [.ref h0, .int w] (sy_KP G (va_P G.1 classes (tw G.2 h0 ad n fI fL)))) (vp_Sl (fun r => r = tl_ofD fI n w)) 0 0 (fun _ => False) := by
  refine Met.ofW (cc := b_Tellings_ofDevice) (maxL := 5) (ret := (some .long)) (by decide) rfl ?_
  intro p e s m args below meth c s₁ B hml hv
  obtain ⟨rfl, hP, hK⟩ := hv
  have hx := B.exec
  have hb := B.bytes
  have hr := B.returns
  have hts := atoms_spec (ws := sy_w y_Tellings_ofDevice b_Tellings_ofDevice 5 (some .long)) B.pre
  have ht : ∀ wd ∈ sy_T, wd.before ([.ref h0, .int w] : List Value).toArray s = true := fun wd h => hts wd (List.mem_cons_of_mem _ h)
  have hown : s.vm.findClass R_Tellings = some m.cls := findClass_of_methodNamed B.named
  have hlocks := B.notSynchronized
  have hl := lv_entry ([.ref h0, .int w]) (n := 5) (Nat.le_of_ble_eq_true rfl)
  rw [lg_entry_eq]
  generalize (lg_sl ([.ref h0, .int w]) ++ List.replicate (5 - (lg_sl ([.ref h0, .int w])).length) Slot.unset).toArray = ls at hl ⊢
  have hl : lv_has ls 5 [(0, .ref h0), (1, .int w)] := hl
  refine lv_lconst (v := 0) hx hb d_Tellings_ofDevice_0 (by decide) ?_
  refine lv_lstore_n (lv' := [(2, .long 0), (0, .ref h0), (1, .int w)]) hx hb d_Tellings_ofDevice_1 rfl hl (by decide) rfl (fun ls hl => ?_)
  refine lv_iconst (v := 0) hx hb d_Tellings_ofDevice_2 (by decide) ?_
  refine lv_istore (lv' := [(4, .int 0), (2, .long 0), (0, .ref h0), (1, .int w)]) hx hb d_Tellings_ofDevice_3 hl (by decide) rfl (fun ls hl => ?_)
  refine sy_loop (σ := Nat × Int64) (nL := 5) (fun x5 => match x5 with | (k, f) => n - k) (fun x5 => match x5 with | (k, f) => [(4, .int (nI k)), (2, .long f), (0, .ref h0), (1, .int w)]) (fun x5 => match x5 with | (k, f) => k ≤ n ∧ f = bs_m (tl_pD fI w) k) ?_ (0, (0 : Int64)) ?_ (lv_sub hl [0, 1, 2, 3] rfl)
  · intro x5 ls hI hl ih5
    obtain ⟨k, f⟩ := x5
    have hl : lv_has ls 5 [(4, .int (nI k)), (2, .long f), (0, .ref h0), (1, .int w)] := hl
    obtain ⟨hk, hI⟩ := hI
    refine lv_iload hx hb d_Tellings_ofDevice_5 (lv_at hl 0 rfl) ?_
    refine lv_aload_n hx hb d_Tellings_ofDevice_7 rfl (lv_at hl 2 rfl) ?_
    refine va_get (D := G.1) (ci := 5) (v := .int (nI n)) (C := R_Tellings) (T := F_Tellings) (N := 8) hx hb ht i_Tellings hown hK.1 hP 0 rfl rfl 7 (by decide) (ht _ m_67) (fun _ h9 => h9) rfl d_Tellings_ofDevice_8 ?_
    refine lv_icmp_ge (tgt := 39) hx hb d_Tellings_ofDevice_11 (by decide) (fun c_1 => ?_) (fun c_1 => ?_)
    · have c_1 : n ≤ k := (nI_leI (a := n) (b := k) (by omega) (by omega)).mp c_1
      have c_1n : ¬ k < n := by omega
      refine lv_lload_n hx hb d_Tellings_ofDevice_39 rfl (lv_at hl 1 rfl) ?_
      exact W.lret (v := f) hx hb hr (fun t ht hW => ⟨f, rfl, by rw [hI, show k = n by omega] <;> rfl, ht⟩) (fun q h => by cases h) d_Tellings_ofDevice_40
    · have c_1 : ¬ n ≤ k := fun h9 => c_1 ((nI_leI (a := n) (b := k) (by omega) (by omega)).mpr h9)
      have c_1n : k < n := by omega
      refine lv_aload_n hx hb d_Tellings_ofDevice_14 rfl (lv_at hl 2 rfl) ?_
      refine va_get (D := G.1) (ci := 5) (v := .ref (ad 0)) (C := R_Tellings) (T := F_Tellings) (N := 8) hx hb ht i_Tellings hown hK.1 hP 0 rfl rfl 0 (by decide) (ht _ m_58) (fun _ h9 => h9) rfl d_Tellings_ofDevice_15 ?_
      refine lv_iload hx hb d_Tellings_ofDevice_18 (lv_at hl 0 rfl) ?_
      refine sy_iald hx hb hK.1 hP 1 0 rfl rfl (k := k) (by omega) (by decide) d_Tellings_ofDevice_20 ?_
      refine lv_iload_n hx hb d_Tellings_ofDevice_21 rfl (lv_at hl 3 rfl) ?_
      refine lv_icmp_ne (tgt := 33) hx hb d_Tellings_ofDevice_22 (by decide) (fun c_2 => ?_) (fun c_2 => ?_)
      · refine lv_iinc (v := nI (k + 1)) (lv' := [(4, .int (nI (k + 1))), (2, .long f), (0, .ref h0), (1, .int w)]) hx hb d_Tellings_ofDevice_33 hl (k := 0) rfl (nI_add k 1) (by decide) rfl (fun ls hl => ?_)
        refine lv_goto (tgt := 5) hx hb d_Tellings_ofDevice_36 (by decide) ?_
        refine ih5 (k + 1, f) ls (show n - (k + 1) < n - k by omega) ?_ (lv_sub hl [0, 1, 2, 3] rfl)
        exact ⟨by omega, by first | (rw [bs_m, if_pos (by simp [tl_pD, c_1, c_1n, c_2]; done), ← hI]; done) | (rw [bs_m, if_neg (by simp [tl_pD, c_1, c_1n, c_2]; done), ← hI])⟩
      · refine lv_lload_n hx hb d_Tellings_ofDevice_25 rfl (lv_at hl 1 rfl) ?_
        refine lv_iload hx hb d_Tellings_ofDevice_26 (lv_at hl 0 rfl) ?_
        refine vp_callSl (va_Run.run (sy_runSN (As := [.int (nI k)]) (rest := [.long f]) ⟨hx, hb, hml, hown, ht⟩ cl_Tellings_38 (c_DeviceSets_bit l G k) hK trivial rfl nm_DeviceSets_bit rfl rfl ⟨Nat.le_of_ble_eq_true rfl, Nat.le_of_ble_eq_true rfl⟩ hl.1 (Nat.le_of_ble_eq_true rfl) d_Tellings_ofDevice_28 ⟨Nat.zero_le _, Nat.zero_le _⟩)) (fun r_3 hr_3 => ?_)
        subst hr_3
        refine lv_lor hx hb d_Tellings_ofDevice_31 ?_
        refine lv_lstore_n (lv' := [(2, .long (f ||| (bs_b k))), (4, .int (nI k)), (0, .ref h0), (1, .int w)]) hx hb d_Tellings_ofDevice_32 rfl hl (by decide) rfl (fun ls hl => ?_)
        refine lv_iinc (v := nI (k + 1)) (lv' := [(4, .int (nI (k + 1))), (2, .long (f ||| (bs_b k))), (0, .ref h0), (1, .int w)]) hx hb d_Tellings_ofDevice_33 hl (k := 1) rfl (nI_add k 1) (by decide) rfl (fun ls hl => ?_)
        refine lv_goto (tgt := 5) hx hb d_Tellings_ofDevice_36 (by decide) ?_
        refine ih5 (k + 1, f ||| (bs_b k)) ls (show n - (k + 1) < n - k by omega) ?_ (lv_sub hl [0, 1, 2, 3] rfl)
        exact ⟨by omega, by first | (rw [bs_m, if_pos (by simp [tl_pD, c_1, c_1n, c_2]; done), ← hI]; done) | (rw [bs_m, if_neg (by simp [tl_pD, c_1, c_1n, c_2]; done), ← hI])⟩
  · exact ⟨Nat.zero_le _, rfl⟩
set_option maxHeartbeats 4000000 in
set_option maxRecDepth 100000 in
theorem c_Tellings_ofKind (l : Launch) (G : sy_G) (h0 : Nat) (ad : Nat → Nat) (n : Nat) (fI : Nat → Nat → Int32) (fL : Nat → Nat → Int64) (w : Int32) (kd : Int32) (hn : n ≤ 60) : Met l y_Tellings_ofKind (sy_w y_Tellings_ofKind b_Tellings_ofKind 6 (some .long)) { frames := 1, cells := 0, slots := 0, locals := 20 } (va_Pc [.ref h0, .int w, .int kd] (sy_KP G (va_P G.1 classes (tw G.2 h0 ad n fI fL)))) (vp_Sl (fun r => r = tl_ofK fI n w kd)) 0 0 (fun _ => False) := by
  refine Met.ofW (cc := b_Tellings_ofKind) (maxL := 6) (ret := (some .long)) (by decide) rfl ?_
  intro p e s m args below meth c s₁ B hml hv
  obtain ⟨rfl, hP, hK⟩ := hv
  have hx := B.exec
  have hb := B.bytes
  have hr := B.returns
  have hts := atoms_spec (ws := sy_w y_Tellings_ofKind b_Tellings_ofKind 6 (some .long)) B.pre
  have ht : ∀ wd ∈ sy_T, wd.before ([.ref h0, .int w, .int kd] : List Value).toArray s = true := fun wd h => hts wd (List.mem_cons_of_mem _ h)
  have hown : s.vm.findClass R_Tellings = some m.cls := findClass_of_methodNamed B.named
  have hlocks := B.notSynchronized
  have hl := lv_entry ([.ref h0, .int w, .int kd]) (n := 6) (Nat.le_of_ble_eq_true rfl)
  rw [lg_entry_eq]
  generalize (lg_sl ([.ref h0, .int w, .int kd]) ++ List.replicate (6 - (lg_sl ([.ref h0, .int w, .int kd])).length) Slot.unset).toArray = ls at hl ⊢
  have hl : lv_has ls 6 [(0, .ref h0), (1, .int w), (2, .int kd)] := hl
  refine lv_lconst (v := 0) hx hb d_Tellings_ofKind_0 (by decide) ?_
  refine lv_lstore_n (lv' := [(3, .long 0), (0, .ref h0), (1, .int w), (2, .int kd)]) hx hb d_Tellings_ofKind_1 rfl hl (by decide) rfl (fun ls hl => ?_)
  refine lv_iconst (v := 0) hx hb d_Tellings_ofKind_2 (by decide) ?_
  refine lv_istore (lv' := [(5, .int 0), (3, .long 0), (0, .ref h0), (1, .int w), (2, .int kd)]) hx hb d_Tellings_ofKind_3 hl (by decide) rfl (fun ls hl => ?_)
  refine sy_loop (σ := Nat × Int64) (nL := 6) (fun x5 => match x5 with | (k, f) => n - k) (fun x5 => match x5 with | (k, f) => [(5, .int (nI k)), (3, .long f), (0, .ref h0), (1, .int w), (2, .int kd)]) (fun x5 => match x5 with | (k, f) => k ≤ n ∧ f = bs_m (tl_pK fI w kd) k) ?_ (0, (0 : Int64)) ?_ (lv_sub hl [0, 1, 2, 3, 4] rfl)
  · intro x5 ls hI hl ih5
    obtain ⟨k, f⟩ := x5
    have hl : lv_has ls 6 [(5, .int (nI k)), (3, .long f), (0, .ref h0), (1, .int w), (2, .int kd)] := hl
    obtain ⟨hk, hI⟩ := hI
    refine lv_iload hx hb d_Tellings_ofKind_5 (lv_at hl 0 rfl) ?_
    refine lv_aload_n hx hb d_Tellings_ofKind_7 rfl (lv_at hl 2 rfl) ?_
    refine va_get (D := G.1) (ci := 5) (v := .int (nI n)) (C := R_Tellings) (T := F_Tellings) (N := 8) hx hb ht i_Tellings hown hK.1 hP 0 rfl rfl 7 (by decide) (ht _ m_67) (fun _ h9 => h9) rfl d_Tellings_ofKind_8 ?_
    refine lv_icmp_ge (tgt := 50) hx hb d_Tellings_ofKind_11 (by decide) (fun c_1 => ?_) (fun c_1 => ?_)
    · have c_1 : n ≤ k := (nI_leI (a := n) (b := k) (by omega) (by omega)).mp c_1
      have c_1n : ¬ k < n := by omega
      refine lv_lload_n hx hb d_Tellings_ofKind_50 rfl (lv_at hl 1 rfl) ?_
      exact W.lret (v := f) hx hb hr (fun t ht hW => ⟨f, rfl, by rw [hI, show k = n by omega] <;> rfl, ht⟩) (fun q h => by cases h) d_Tellings_ofKind_51
    · have c_1 : ¬ n ≤ k := fun h9 => c_1 ((nI_leI (a := n) (b := k) (by omega) (by omega)).mpr h9)
      have c_1n : k < n := by omega
      refine lv_aload_n hx hb d_Tellings_ofKind_14 rfl (lv_at hl 2 rfl) ?_
      refine va_get (D := G.1) (ci := 5) (v := .ref (ad 0)) (C := R_Tellings) (T := F_Tellings) (N := 8) hx hb ht i_Tellings hown hK.1 hP 0 rfl rfl 0 (by decide) (ht _ m_58) (fun _ h9 => h9) rfl d_Tellings_ofKind_15 ?_
      refine lv_iload hx hb d_Tellings_ofKind_18 (lv_at hl 0 rfl) ?_
      refine sy_iald hx hb hK.1 hP 1 0 rfl rfl (k := k) (by omega) (by decide) d_Tellings_ofKind_20 ?_
      refine lv_iload_n hx hb d_Tellings_ofKind_21 rfl (lv_at hl 3 rfl) ?_
      refine lv_icmp_ne (tgt := 44) hx hb d_Tellings_ofKind_22 (by decide) (fun c_2 => ?_) (fun c_2 => ?_)
      · refine lv_iinc (v := nI (k + 1)) (lv' := [(5, .int (nI (k + 1))), (3, .long f), (0, .ref h0), (1, .int w), (2, .int kd)]) hx hb d_Tellings_ofKind_44 hl (k := 0) rfl (nI_add k 1) (by decide) rfl (fun ls hl => ?_)
        refine lv_goto (tgt := 5) hx hb d_Tellings_ofKind_47 (by decide) ?_
        refine ih5 (k + 1, f) ls (show n - (k + 1) < n - k by omega) ?_ (lv_sub hl [0, 1, 2, 3, 4] rfl)
        exact ⟨by omega, by first | (rw [bs_m, if_pos (by simp [tl_pK, c_1, c_1n, c_2]; done), ← hI]; done) | (rw [bs_m, if_neg (by simp [tl_pK, c_1, c_1n, c_2]; done), ← hI])⟩
      · refine lv_aload_n hx hb d_Tellings_ofKind_25 rfl (lv_at hl 2 rfl) ?_
        refine va_get (D := G.1) (ci := 5) (v := .ref (ad 3)) (C := R_Tellings) (T := F_Tellings) (N := 8) hx hb ht i_Tellings hown hK.1 hP 0 rfl rfl 3 (by decide) (ht _ m_61) (fun _ h9 => h9) rfl d_Tellings_ofKind_26 ?_
        refine lv_iload hx hb d_Tellings_ofKind_29 (lv_at hl 0 rfl) ?_
        refine sy_iald hx hb hK.1 hP 4 0 rfl rfl (k := k) (by omega) (by decide) d_Tellings_ofKind_31 ?_
        refine lv_iload_n hx hb d_Tellings_ofKind_32 rfl (lv_at hl 4 rfl) ?_
        refine lv_icmp_ne (tgt := 44) hx hb d_Tellings_ofKind_33 (by decide) (fun c_3 => ?_) (fun c_3 => ?_)
        · refine lv_iinc (v := nI (k + 1)) (lv' := [(5, .int (nI (k + 1))), (3, .long f), (0, .ref h0), (1, .int w), (2, .int kd)]) hx hb d_Tellings_ofKind_44 hl (k := 0) rfl (nI_add k 1) (by decide) rfl (fun ls hl => ?_)
          refine lv_goto (tgt := 5) hx hb d_Tellings_ofKind_47 (by decide) ?_
          refine ih5 (k + 1, f) ls (show n - (k + 1) < n - k by omega) ?_ (lv_sub hl [0, 1, 2, 3, 4] rfl)
          exact ⟨by omega, by first | (rw [bs_m, if_pos (by simp [tl_pK, c_1, c_1n, c_2, c_3]; done), ← hI]; done) | (rw [bs_m, if_neg (by simp [tl_pK, c_1, c_1n, c_2, c_3]; done), ← hI])⟩
        · refine lv_lload_n hx hb d_Tellings_ofKind_36 rfl (lv_at hl 1 rfl) ?_
          refine lv_iload hx hb d_Tellings_ofKind_37 (lv_at hl 0 rfl) ?_
          refine vp_callSl (va_Run.run (sy_runSN (As := [.int (nI k)]) (rest := [.long f]) ⟨hx, hb, hml, hown, ht⟩ cl_Tellings_38 (c_DeviceSets_bit l G k) hK trivial rfl nm_DeviceSets_bit rfl rfl ⟨Nat.le_of_ble_eq_true rfl, Nat.le_of_ble_eq_true rfl⟩ hl.1 (Nat.le_of_ble_eq_true rfl) d_Tellings_ofKind_39 ⟨Nat.zero_le _, Nat.zero_le _⟩)) (fun r_4 hr_4 => ?_)
          subst hr_4
          refine lv_lor hx hb d_Tellings_ofKind_42 ?_
          refine lv_lstore_n (lv' := [(3, .long (f ||| (bs_b k))), (5, .int (nI k)), (0, .ref h0), (1, .int w), (2, .int kd)]) hx hb d_Tellings_ofKind_43 rfl hl (by decide) rfl (fun ls hl => ?_)
          refine lv_iinc (v := nI (k + 1)) (lv' := [(5, .int (nI (k + 1))), (3, .long (f ||| (bs_b k))), (0, .ref h0), (1, .int w), (2, .int kd)]) hx hb d_Tellings_ofKind_44 hl (k := 1) rfl (nI_add k 1) (by decide) rfl (fun ls hl => ?_)
          refine lv_goto (tgt := 5) hx hb d_Tellings_ofKind_47 (by decide) ?_
          refine ih5 (k + 1, f ||| (bs_b k)) ls (show n - (k + 1) < n - k by omega) ?_ (lv_sub hl [0, 1, 2, 3, 4] rfl)
          exact ⟨by omega, by first | (rw [bs_m, if_pos (by simp [tl_pK, c_1, c_1n, c_2, c_3]; done), ← hI]; done) | (rw [bs_m, if_neg (by simp [tl_pK, c_1, c_1n, c_2, c_3]; done), ← hI])⟩
  · exact ⟨Nat.zero_le _, rfl⟩
set_option maxHeartbeats 4000000 in
set_option maxRecDepth 100000 in
theorem c_Tellings_notBelow (l : Launch) (G : sy_G) (h0 : Nat) (ad : Nat → Nat) (n : Nat) (fI : Nat → Nat → Int32) (fL : Nat → Nat → Int64) (bd : Int64) (am : Int64) (hn : n ≤ 60) : Met l y_Tellings_notBelow (sy_w y_Tellings_notBelow b_Tellings_notBelow 8 (some .long)) { frames := 2, cells := 0, slots := 0, locals := 42 } (va_Pc [.ref h0, .long bd, .long am] (sy_KP G (va_P G.1 classes (tw G.2 h0 ad n fI fL)))) (vp_Sl (fun r => r = tl_nb fL n bd am)) 0 0 (fun _ => False) := by
  refine Met.ofW (cc := b_Tellings_notBelow) (maxL := 8) (ret := (some .long)) (by decide) rfl ?_
  intro p e s m args below meth c s₁ B hml hv
  obtain ⟨rfl, hP, hK⟩ := hv
  have hx := B.exec
  have hb := B.bytes
  have hr := B.returns
  have hts := atoms_spec (ws := sy_w y_Tellings_notBelow b_Tellings_notBelow 8 (some .long)) B.pre
  have ht : ∀ wd ∈ sy_T, wd.before ([.ref h0, .long bd, .long am] : List Value).toArray s = true := fun wd h => hts wd (List.mem_cons_of_mem _ h)
  have hown : s.vm.findClass R_Tellings = some m.cls := findClass_of_methodNamed B.named
  have hlocks := B.notSynchronized
  have hl := lv_entry ([.ref h0, .long bd, .long am]) (n := 8) (Nat.le_of_ble_eq_true rfl)
  rw [lg_entry_eq]
  generalize (lg_sl ([.ref h0, .long bd, .long am]) ++ List.replicate (8 - (lg_sl ([.ref h0, .long bd, .long am])).length) Slot.unset).toArray = ls at hl ⊢
  have hl : lv_has ls 8 [(0, .ref h0), (1, .long bd), (3, .long am)] := hl
  refine lv_lconst (v := 0) hx hb d_Tellings_notBelow_0 (by decide) ?_
  refine lv_lstore (lv' := [(5, .long 0), (0, .ref h0), (1, .long bd), (3, .long am)]) hx hb d_Tellings_notBelow_1 hl (by decide) rfl (fun ls hl => ?_)
  refine lv_iconst (v := 0) hx hb d_Tellings_notBelow_3 (by decide) ?_
  refine lv_istore (lv' := [(7, .int 0), (5, .long 0), (0, .ref h0), (1, .long bd), (3, .long am)]) hx hb d_Tellings_notBelow_4 hl (by decide) rfl (fun ls hl => ?_)
  refine sy_loop (σ := Nat × Int64) (nL := 8) (fun x6 => match x6 with | (k, f) => n - k) (fun x6 => match x6 with | (k, f) => [(7, .int (nI k)), (5, .long f), (0, .ref h0), (1, .long bd), (3, .long am)]) (fun x6 => match x6 with | (k, f) => k ≤ n ∧ f = bs_m (tl_pN fL bd am) k) ?_ (0, (0 : Int64)) ?_ (lv_sub hl [0, 1, 2, 3, 4] rfl)
  · intro x6 ls hI hl ih6
    obtain ⟨k, f⟩ := x6
    have hl : lv_has ls 8 [(7, .int (nI k)), (5, .long f), (0, .ref h0), (1, .long bd), (3, .long am)] := hl
    obtain ⟨hk, hI⟩ := hI
    refine lv_iload hx hb d_Tellings_notBelow_6 (lv_at hl 0 rfl) ?_
    refine lv_aload_n hx hb d_Tellings_notBelow_8 rfl (lv_at hl 2 rfl) ?_
    refine va_get (D := G.1) (ci := 5) (v := .int (nI n)) (C := R_Tellings) (T := F_Tellings) (N := 8) hx hb ht i_Tellings hown hK.1 hP 0 rfl rfl 7 (by decide) (ht _ m_67) (fun _ h9 => h9) rfl d_Tellings_notBelow_9 ?_
    refine lv_icmp_ge (tgt := 52) hx hb d_Tellings_notBelow_12 (by decide) (fun c_1 => ?_) (fun c_1 => ?_)
    · have c_1 : n ≤ k := (nI_leI (a := n) (b := k) (by omega) (by omega)).mp c_1
      have c_1n : ¬ k < n := by omega
      refine lv_lload hx hb d_Tellings_notBelow_52 (lv_at hl 1 rfl) ?_
      exact W.lret (v := f) hx hb hr (fun t ht hW => ⟨f, rfl, by rw [hI, show k = n by omega] <;> rfl, ht⟩) (fun q h => by cases h) d_Tellings_notBelow_54
    · have c_1 : ¬ n ≤ k := fun h9 => c_1 ((nI_leI (a := n) (b := k) (by omega) (by omega)).mpr h9)
      have c_1n : k < n := by omega
      refine lv_iload hx hb d_Tellings_notBelow_15 (lv_at hl 0 rfl) ?_
      refine lv_lload_n hx hb d_Tellings_notBelow_17 rfl (lv_at hl 4 rfl) ?_
      refine vp_callSi (va_Run.run (sy_runSN (As := [.int (nI k), .long am]) (rest := []) ⟨hx, hb, hml, hown, ht⟩ cl_Tellings_42 (c_DeviceSets_isIn l G k am) hK trivial rfl nm_DeviceSets_isIn rfl rfl ⟨Nat.le_of_ble_eq_true rfl, Nat.le_of_ble_eq_true rfl⟩ hl.1 (Nat.le_of_ble_eq_true rfl) d_Tellings_notBelow_18 ⟨Nat.zero_le _, Nat.zero_le _⟩)) (fun r_2 hr_2 => ?_)
      subst hr_2
      refine lv_if_eq (tgt := 46) hx hb d_Tellings_notBelow_21 (by decide) (fun c_3 => ?_) (fun c_3 => ?_)
      · have c_3 := bI_f c_3
        refine lv_iinc (v := nI (k + 1)) (lv' := [(7, .int (nI (k + 1))), (5, .long f), (0, .ref h0), (1, .long bd), (3, .long am)]) hx hb d_Tellings_notBelow_46 hl (k := 0) rfl (nI_add k 1) (by decide) rfl (fun ls hl => ?_)
        refine lv_goto (tgt := 6) hx hb d_Tellings_notBelow_49 (by decide) ?_
        refine ih6 (k + 1, f) ls (show n - (k + 1) < n - k by omega) ?_ (lv_sub hl [0, 1, 2, 3, 4] rfl)
        exact ⟨by omega, by first | (rw [bs_m, if_pos (by simp [tl_pN, c_1, c_1n, c_3]; done), ← hI]; done) | (rw [bs_m, if_neg (by simp [tl_pN, c_1, c_1n, c_3]; done), ← hI])⟩
      · have c_3 := bI_t c_3
        refine lv_aload_n hx hb d_Tellings_notBelow_24 rfl (lv_at hl 2 rfl) ?_
        refine va_get (D := G.1) (ci := 5) (v := .ref (ad 4)) (C := R_Tellings) (T := F_Tellings) (N := 8) hx hb ht i_Tellings hown hK.1 hP 0 rfl rfl 4 (by decide) (ht _ m_62) (fun _ h9 => h9) rfl d_Tellings_notBelow_25 ?_
        refine lv_iload hx hb d_Tellings_notBelow_28 (lv_at hl 0 rfl) ?_
        refine sy_lald hx hb hK.1 hP 5 1 rfl rfl (k := k) (by omega) (by decide) d_Tellings_notBelow_30 ?_
        refine lv_lload_n hx hb d_Tellings_notBelow_31 rfl (lv_at hl 3 rfl) ?_
        refine sy_lc_lt (tgt := 46) hx hb d_Tellings_notBelow_32 d_Tellings_notBelow_33 (by decide) (fun c_4 => ?_) (fun c_4 => ?_)
        · have c_4n := sy_a64 c_4
          refine lv_iinc (v := nI (k + 1)) (lv' := [(7, .int (nI (k + 1))), (5, .long f), (0, .ref h0), (1, .long bd), (3, .long am)]) hx hb d_Tellings_notBelow_46 hl (k := 0) rfl (nI_add k 1) (by decide) rfl (fun ls hl => ?_)
          refine lv_goto (tgt := 6) hx hb d_Tellings_notBelow_49 (by decide) ?_
          refine ih6 (k + 1, f) ls (show n - (k + 1) < n - k by omega) ?_ (lv_sub hl [0, 1, 2, 3, 4] rfl)
          exact ⟨by omega, by first | (rw [bs_m, if_pos (by simp [tl_pN, c_1, c_1n, c_3, c_4, c_4n]; done), ← hI]; done) | (rw [bs_m, if_neg (by simp [tl_pN, c_1, c_1n, c_3, c_4, c_4n]; done), ← hI])⟩
        · have c_4n := sy_b64 c_4
          refine lv_lload hx hb d_Tellings_notBelow_36 (lv_at hl 1 rfl) ?_
          refine lv_iload hx hb d_Tellings_notBelow_38 (lv_at hl 0 rfl) ?_
          refine vp_callSl (va_Run.run (sy_runSN (As := [.int (nI k)]) (rest := [.long f]) ⟨hx, hb, hml, hown, ht⟩ cl_Tellings_38 (c_DeviceSets_bit l G k) hK trivial rfl nm_DeviceSets_bit rfl rfl ⟨Nat.le_of_ble_eq_true rfl, Nat.le_of_ble_eq_true rfl⟩ hl.1 (Nat.le_of_ble_eq_true rfl) d_Tellings_notBelow_40 ⟨Nat.zero_le _, Nat.zero_le _⟩)) (fun r_5 hr_5 => ?_)
          subst hr_5
          refine lv_lor hx hb d_Tellings_notBelow_43 ?_
          refine lv_lstore (lv' := [(5, .long (f ||| (bs_b k))), (7, .int (nI k)), (0, .ref h0), (1, .long bd), (3, .long am)]) hx hb d_Tellings_notBelow_44 hl (by decide) rfl (fun ls hl => ?_)
          refine lv_iinc (v := nI (k + 1)) (lv' := [(7, .int (nI (k + 1))), (5, .long (f ||| (bs_b k))), (0, .ref h0), (1, .long bd), (3, .long am)]) hx hb d_Tellings_notBelow_46 hl (k := 1) rfl (nI_add k 1) (by decide) rfl (fun ls hl => ?_)
          refine lv_goto (tgt := 6) hx hb d_Tellings_notBelow_49 (by decide) ?_
          refine ih6 (k + 1, f ||| (bs_b k)) ls (show n - (k + 1) < n - k by omega) ?_ (lv_sub hl [0, 1, 2, 3, 4] rfl)
          exact ⟨by omega, by first | (rw [bs_m, if_pos (by simp [tl_pN, c_1, c_1n, c_3, c_4, c_4n]; done), ← hI]; done) | (rw [bs_m, if_neg (by simp [tl_pN, c_1, c_1n, c_3, c_4, c_4n]; done), ← hI])⟩
  · exact ⟨Nat.zero_le _, rfl⟩
set_option maxHeartbeats 4000000 in
set_option maxRecDepth 100000 in
theorem c_Tellings_ofKeyOf (l : Launch) (G : sy_G) (h0 : Nat) (ad : Nat → Nat) (n : Nat) (fI : Nat → Nat → Int32) (fL : Nat → Nat → Int64) (j : Nat) (am : Int64) (hn : n ≤ 60) (hj : j < 60) : Met l y_Tellings_ofKeyOf (sy_w y_Tellings_ofKeyOf b_Tellings_ofKeyOf 7 (some .long)) { frames := 2, cells := 0, slots := 0, locals := 42 } (va_Pc [.ref h0, .int (nI j), .long am] (sy_KP G (va_P G.1 classes (tw G.2 h0 ad n fI fL)))) (vp_Sl (fun r => r = tl_key fI n j am)) 0 0 (fun _ => False) := by
  refine Met.ofW (cc := b_Tellings_ofKeyOf) (maxL := 7) (ret := (some .long)) (by decide) rfl ?_
  intro p e s m args below meth c s₁ B hml hv
  obtain ⟨rfl, hP, hK⟩ := hv
  have hx := B.exec
  have hb := B.bytes
  have hr := B.returns
  have hts := atoms_spec (ws := sy_w y_Tellings_ofKeyOf b_Tellings_ofKeyOf 7 (some .long)) B.pre
  have ht : ∀ wd ∈ sy_T, wd.before ([.ref h0, .int (nI j), .long am] : List Value).toArray s = true := fun wd h => hts wd (List.mem_cons_of_mem _ h)
  have hown : s.vm.findClass R_Tellings = some m.cls := findClass_of_methodNamed B.named
  have hlocks := B.notSynchronized
  have hl := lv_entry ([.ref h0, .int (nI j), .long am]) (n := 7) (Nat.le_of_ble_eq_true rfl)
  rw [lg_entry_eq]
  generalize (lg_sl ([.ref h0, .int (nI j), .long am]) ++ List.replicate (7 - (lg_sl ([.ref h0, .int (nI j), .long am])).length) Slot.unset).toArray = ls at hl ⊢
  have hl : lv_has ls 7 [(0, .ref h0), (1, .int (nI j)), (2, .long am)] := hl
  refine lv_lconst (v := 0) hx hb d_Tellings_ofKeyOf_0 (by decide) ?_
  refine lv_lstore (lv' := [(4, .long 0), (0, .ref h0), (1, .int (nI j)), (2, .long am)]) hx hb d_Tellings_ofKeyOf_1 hl (by decide) rfl (fun ls hl => ?_)
  refine lv_iconst (v := 0) hx hb d_Tellings_ofKeyOf_3 (by decide) ?_
  refine lv_istore (lv' := [(6, .int 0), (4, .long 0), (0, .ref h0), (1, .int (nI j)), (2, .long am)]) hx hb d_Tellings_ofKeyOf_4 hl (by decide) rfl (fun ls hl => ?_)
  refine sy_loop (σ := Nat × Int64) (nL := 7) (fun x6 => match x6 with | (k, f) => n - k) (fun x6 => match x6 with | (k, f) => [(6, .int (nI k)), (4, .long f), (0, .ref h0), (1, .int (nI j)), (2, .long am)]) (fun x6 => match x6 with | (k, f) => k ≤ n ∧ f = bs_m (tl_pS fI j am) k) ?_ (0, (0 : Int64)) ?_ (lv_sub hl [0, 1, 2, 3, 4] rfl)
  · intro x6 ls hI hl ih6
    obtain ⟨k, f⟩ := x6
    have hl : lv_has ls 7 [(6, .int (nI k)), (4, .long f), (0, .ref h0), (1, .int (nI j)), (2, .long am)] := hl
    obtain ⟨hk, hI⟩ := hI
    refine lv_iload hx hb d_Tellings_ofKeyOf_6 (lv_at hl 0 rfl) ?_
    refine lv_aload_n hx hb d_Tellings_ofKeyOf_8 rfl (lv_at hl 2 rfl) ?_
    refine va_get (D := G.1) (ci := 5) (v := .int (nI n)) (C := R_Tellings) (T := F_Tellings) (N := 8) hx hb ht i_Tellings hown hK.1 hP 0 rfl rfl 7 (by decide) (ht _ m_67) (fun _ h9 => h9) rfl d_Tellings_ofKeyOf_9 ?_
    refine lv_icmp_ge (tgt := 104) hx hb d_Tellings_ofKeyOf_12 (by decide) (fun c_1 => ?_) (fun c_1 => ?_)
    · have c_1 : n ≤ k := (nI_leI (a := n) (b := k) (by omega) (by omega)).mp c_1
      have c_1n : ¬ k < n := by omega
      refine lv_lload hx hb d_Tellings_ofKeyOf_104 (lv_at hl 1 rfl) ?_
      exact W.lret (v := f) hx hb hr (fun t ht hW => ⟨f, rfl, by rw [hI, show k = n by omega] <;> rfl, ht⟩) (fun q h => by cases h) d_Tellings_ofKeyOf_106
    · have c_1 : ¬ n ≤ k := fun h9 => c_1 ((nI_leI (a := n) (b := k) (by omega) (by omega)).mpr h9)
      have c_1n : k < n := by omega
      refine lv_iload hx hb d_Tellings_ofKeyOf_15 (lv_at hl 0 rfl) ?_
      refine lv_lload_n hx hb d_Tellings_ofKeyOf_17 rfl (lv_at hl 4 rfl) ?_
      refine vp_callSi (va_Run.run (sy_runSN (As := [.int (nI k), .long am]) (rest := []) ⟨hx, hb, hml, hown, ht⟩ cl_Tellings_42 (c_DeviceSets_isIn l G k am) hK trivial rfl nm_DeviceSets_isIn rfl rfl ⟨Nat.le_of_ble_eq_true rfl, Nat.le_of_ble_eq_true rfl⟩ hl.1 (Nat.le_of_ble_eq_true rfl) d_Tellings_ofKeyOf_18 ⟨Nat.zero_le _, Nat.zero_le _⟩)) (fun r_2 hr_2 => ?_)
      subst hr_2
      refine lv_if_eq (tgt := 98) hx hb d_Tellings_ofKeyOf_21 (by decide) (fun c_3 => ?_) (fun c_3 => ?_)
      · have c_3 := bI_f c_3
        refine lv_iinc (v := nI (k + 1)) (lv' := [(6, .int (nI (k + 1))), (4, .long f), (0, .ref h0), (1, .int (nI j)), (2, .long am)]) hx hb d_Tellings_ofKeyOf_98 hl (k := 0) rfl (nI_add k 1) (by decide) rfl (fun ls hl => ?_)
        refine lv_goto (tgt := 6) hx hb d_Tellings_ofKeyOf_101 (by decide) ?_
        refine ih6 (k + 1, f) ls (show n - (k + 1) < n - k by omega) ?_ (lv_sub hl [0, 1, 2, 3, 4] rfl)
        exact ⟨by omega, by first | (rw [bs_m, if_pos (by simp [tl_pS, tl_sk, c_1, c_1n, c_3]; done), ← hI]; done) | (rw [bs_m, if_neg (by simp [tl_pS, tl_sk, c_1, c_1n, c_3]; done), ← hI])⟩
      · have c_3 := bI_t c_3
        refine lv_aload_n hx hb d_Tellings_ofKeyOf_24 rfl (lv_at hl 2 rfl) ?_
        refine va_get (D := G.1) (ci := 5) (v := .ref (ad 0)) (C := R_Tellings) (T := F_Tellings) (N := 8) hx hb ht i_Tellings hown hK.1 hP 0 rfl rfl 0 (by decide) (ht _ m_58) (fun _ h9 => h9) rfl d_Tellings_ofKeyOf_25 ?_
        refine lv_iload hx hb d_Tellings_ofKeyOf_28 (lv_at hl 0 rfl) ?_
        refine sy_iald hx hb hK.1 hP 1 0 rfl rfl (k := k) (by omega) (by decide) d_Tellings_ofKeyOf_30 ?_
        refine lv_aload_n hx hb d_Tellings_ofKeyOf_31 rfl (lv_at hl 2 rfl) ?_
        refine va_get (D := G.1) (ci := 5) (v := .ref (ad 0)) (C := R_Tellings) (T := F_Tellings) (N := 8) hx hb ht i_Tellings hown hK.1 hP 0 rfl rfl 0 (by decide) (ht _ m_58) (fun _ h9 => h9) rfl d_Tellings_ofKeyOf_32 ?_
        refine lv_iload_n hx hb d_Tellings_ofKeyOf_35 rfl (lv_at hl 3 rfl) ?_
        refine sy_iald hx hb hK.1 hP 1 0 rfl rfl (k := j) (by omega) (by decide) d_Tellings_ofKeyOf_36 ?_
        refine lv_icmp_ne (tgt := 98) hx hb d_Tellings_ofKeyOf_37 (by decide) (fun c_4 => ?_) (fun c_4 => ?_)
        · refine lv_iinc (v := nI (k + 1)) (lv' := [(6, .int (nI (k + 1))), (4, .long f), (0, .ref h0), (1, .int (nI j)), (2, .long am)]) hx hb d_Tellings_ofKeyOf_98 hl (k := 0) rfl (nI_add k 1) (by decide) rfl (fun ls hl => ?_)
          refine lv_goto (tgt := 6) hx hb d_Tellings_ofKeyOf_101 (by decide) ?_
          refine ih6 (k + 1, f) ls (show n - (k + 1) < n - k by omega) ?_ (lv_sub hl [0, 1, 2, 3, 4] rfl)
          exact ⟨by omega, by first | (rw [bs_m, if_pos (by simp [tl_pS, tl_sk, c_1, c_1n, c_3, c_4]; done), ← hI]; done) | (rw [bs_m, if_neg (by simp [tl_pS, tl_sk, c_1, c_1n, c_3, c_4]; done), ← hI])⟩
        · refine lv_aload_n hx hb d_Tellings_ofKeyOf_40 rfl (lv_at hl 2 rfl) ?_
          refine va_get (D := G.1) (ci := 5) (v := .ref (ad 1)) (C := R_Tellings) (T := F_Tellings) (N := 8) hx hb ht i_Tellings hown hK.1 hP 0 rfl rfl 1 (by decide) (ht _ m_59) (fun _ h9 => h9) rfl d_Tellings_ofKeyOf_41 ?_
          refine lv_iload hx hb d_Tellings_ofKeyOf_44 (lv_at hl 0 rfl) ?_
          refine sy_iald hx hb hK.1 hP 2 0 rfl rfl (k := k) (by omega) (by decide) d_Tellings_ofKeyOf_46 ?_
          refine lv_aload_n hx hb d_Tellings_ofKeyOf_47 rfl (lv_at hl 2 rfl) ?_
          refine va_get (D := G.1) (ci := 5) (v := .ref (ad 1)) (C := R_Tellings) (T := F_Tellings) (N := 8) hx hb ht i_Tellings hown hK.1 hP 0 rfl rfl 1 (by decide) (ht _ m_59) (fun _ h9 => h9) rfl d_Tellings_ofKeyOf_48 ?_
          refine lv_iload_n hx hb d_Tellings_ofKeyOf_51 rfl (lv_at hl 3 rfl) ?_
          refine sy_iald hx hb hK.1 hP 2 0 rfl rfl (k := j) (by omega) (by decide) d_Tellings_ofKeyOf_52 ?_
          refine lv_icmp_ne (tgt := 98) hx hb d_Tellings_ofKeyOf_53 (by decide) (fun c_5 => ?_) (fun c_5 => ?_)
          · refine lv_iinc (v := nI (k + 1)) (lv' := [(6, .int (nI (k + 1))), (4, .long f), (0, .ref h0), (1, .int (nI j)), (2, .long am)]) hx hb d_Tellings_ofKeyOf_98 hl (k := 0) rfl (nI_add k 1) (by decide) rfl (fun ls hl => ?_)
            refine lv_goto (tgt := 6) hx hb d_Tellings_ofKeyOf_101 (by decide) ?_
            refine ih6 (k + 1, f) ls (show n - (k + 1) < n - k by omega) ?_ (lv_sub hl [0, 1, 2, 3, 4] rfl)
            exact ⟨by omega, by first | (rw [bs_m, if_pos (by simp [tl_pS, tl_sk, c_1, c_1n, c_3, c_4, c_5]; done), ← hI]; done) | (rw [bs_m, if_neg (by simp [tl_pS, tl_sk, c_1, c_1n, c_3, c_4, c_5]; done), ← hI])⟩
          · refine lv_aload_n hx hb d_Tellings_ofKeyOf_56 rfl (lv_at hl 2 rfl) ?_
            refine va_get (D := G.1) (ci := 5) (v := .ref (ad 2)) (C := R_Tellings) (T := F_Tellings) (N := 8) hx hb ht i_Tellings hown hK.1 hP 0 rfl rfl 2 (by decide) (ht _ m_60) (fun _ h9 => h9) rfl d_Tellings_ofKeyOf_57 ?_
            refine lv_iload hx hb d_Tellings_ofKeyOf_60 (lv_at hl 0 rfl) ?_
            refine sy_iald hx hb hK.1 hP 3 0 rfl rfl (k := k) (by omega) (by decide) d_Tellings_ofKeyOf_62 ?_
            refine lv_aload_n hx hb d_Tellings_ofKeyOf_63 rfl (lv_at hl 2 rfl) ?_
            refine va_get (D := G.1) (ci := 5) (v := .ref (ad 2)) (C := R_Tellings) (T := F_Tellings) (N := 8) hx hb ht i_Tellings hown hK.1 hP 0 rfl rfl 2 (by decide) (ht _ m_60) (fun _ h9 => h9) rfl d_Tellings_ofKeyOf_64 ?_
            refine lv_iload_n hx hb d_Tellings_ofKeyOf_67 rfl (lv_at hl 3 rfl) ?_
            refine sy_iald hx hb hK.1 hP 3 0 rfl rfl (k := j) (by omega) (by decide) d_Tellings_ofKeyOf_68 ?_
            refine lv_icmp_ne (tgt := 98) hx hb d_Tellings_ofKeyOf_69 (by decide) (fun c_6 => ?_) (fun c_6 => ?_)
            · refine lv_iinc (v := nI (k + 1)) (lv' := [(6, .int (nI (k + 1))), (4, .long f), (0, .ref h0), (1, .int (nI j)), (2, .long am)]) hx hb d_Tellings_ofKeyOf_98 hl (k := 0) rfl (nI_add k 1) (by decide) rfl (fun ls hl => ?_)
              refine lv_goto (tgt := 6) hx hb d_Tellings_ofKeyOf_101 (by decide) ?_
              refine ih6 (k + 1, f) ls (show n - (k + 1) < n - k by omega) ?_ (lv_sub hl [0, 1, 2, 3, 4] rfl)
              exact ⟨by omega, by first | (rw [bs_m, if_pos (by simp [tl_pS, tl_sk, c_1, c_1n, c_3, c_4, c_5, c_6]; done), ← hI]; done) | (rw [bs_m, if_neg (by simp [tl_pS, tl_sk, c_1, c_1n, c_3, c_4, c_5, c_6]; done), ← hI])⟩
            · refine lv_aload_n hx hb d_Tellings_ofKeyOf_72 rfl (lv_at hl 2 rfl) ?_
              refine va_get (D := G.1) (ci := 5) (v := .ref (ad 3)) (C := R_Tellings) (T := F_Tellings) (N := 8) hx hb ht i_Tellings hown hK.1 hP 0 rfl rfl 3 (by decide) (ht _ m_61) (fun _ h9 => h9) rfl d_Tellings_ofKeyOf_73 ?_
              refine lv_iload hx hb d_Tellings_ofKeyOf_76 (lv_at hl 0 rfl) ?_
              refine sy_iald hx hb hK.1 hP 4 0 rfl rfl (k := k) (by omega) (by decide) d_Tellings_ofKeyOf_78 ?_
              refine lv_aload_n hx hb d_Tellings_ofKeyOf_79 rfl (lv_at hl 2 rfl) ?_
              refine va_get (D := G.1) (ci := 5) (v := .ref (ad 3)) (C := R_Tellings) (T := F_Tellings) (N := 8) hx hb ht i_Tellings hown hK.1 hP 0 rfl rfl 3 (by decide) (ht _ m_61) (fun _ h9 => h9) rfl d_Tellings_ofKeyOf_80 ?_
              refine lv_iload_n hx hb d_Tellings_ofKeyOf_83 rfl (lv_at hl 3 rfl) ?_
              refine sy_iald hx hb hK.1 hP 4 0 rfl rfl (k := j) (by omega) (by decide) d_Tellings_ofKeyOf_84 ?_
              refine lv_icmp_ne (tgt := 98) hx hb d_Tellings_ofKeyOf_85 (by decide) (fun c_7 => ?_) (fun c_7 => ?_)
              · refine lv_iinc (v := nI (k + 1)) (lv' := [(6, .int (nI (k + 1))), (4, .long f), (0, .ref h0), (1, .int (nI j)), (2, .long am)]) hx hb d_Tellings_ofKeyOf_98 hl (k := 0) rfl (nI_add k 1) (by decide) rfl (fun ls hl => ?_)
                refine lv_goto (tgt := 6) hx hb d_Tellings_ofKeyOf_101 (by decide) ?_
                refine ih6 (k + 1, f) ls (show n - (k + 1) < n - k by omega) ?_ (lv_sub hl [0, 1, 2, 3, 4] rfl)
                exact ⟨by omega, by first | (rw [bs_m, if_pos (by simp [tl_pS, tl_sk, c_1, c_1n, c_3, c_4, c_5, c_6, c_7]; done), ← hI]; done) | (rw [bs_m, if_neg (by simp [tl_pS, tl_sk, c_1, c_1n, c_3, c_4, c_5, c_6, c_7]; done), ← hI])⟩
              · refine lv_lload hx hb d_Tellings_ofKeyOf_88 (lv_at hl 1 rfl) ?_
                refine lv_iload hx hb d_Tellings_ofKeyOf_90 (lv_at hl 0 rfl) ?_
                refine vp_callSl (va_Run.run (sy_runSN (As := [.int (nI k)]) (rest := [.long f]) ⟨hx, hb, hml, hown, ht⟩ cl_Tellings_38 (c_DeviceSets_bit l G k) hK trivial rfl nm_DeviceSets_bit rfl rfl ⟨Nat.le_of_ble_eq_true rfl, Nat.le_of_ble_eq_true rfl⟩ hl.1 (Nat.le_of_ble_eq_true rfl) d_Tellings_ofKeyOf_92 ⟨Nat.zero_le _, Nat.zero_le _⟩)) (fun r_8 hr_8 => ?_)
                subst hr_8
                refine lv_lor hx hb d_Tellings_ofKeyOf_95 ?_
                refine lv_lstore (lv' := [(4, .long (f ||| (bs_b k))), (6, .int (nI k)), (0, .ref h0), (1, .int (nI j)), (2, .long am)]) hx hb d_Tellings_ofKeyOf_96 hl (by decide) rfl (fun ls hl => ?_)
                refine lv_iinc (v := nI (k + 1)) (lv' := [(6, .int (nI (k + 1))), (4, .long (f ||| (bs_b k))), (0, .ref h0), (1, .int (nI j)), (2, .long am)]) hx hb d_Tellings_ofKeyOf_98 hl (k := 1) rfl (nI_add k 1) (by decide) rfl (fun ls hl => ?_)
                refine lv_goto (tgt := 6) hx hb d_Tellings_ofKeyOf_101 (by decide) ?_
                refine ih6 (k + 1, f ||| (bs_b k)) ls (show n - (k + 1) < n - k by omega) ?_ (lv_sub hl [0, 1, 2, 3, 4] rfl)
                exact ⟨by omega, by first | (rw [bs_m, if_pos (by simp [tl_pS, tl_sk, c_1, c_1n, c_3, c_4, c_5, c_6, c_7]; done), ← hI]; done) | (rw [bs_m, if_neg (by simp [tl_pS, tl_sk, c_1, c_1n, c_3, c_4, c_5, c_6, c_7]; done), ← hI])⟩
  · exact ⟨Nat.zero_le _, rfl⟩
set_option maxHeartbeats 4000000 in
set_option maxRecDepth 100000 in
theorem c_Tellings_isOfLater (l : Launch) (G : sy_G) (h0 : Nat) (ad : Nat → Nat) (n : Nat) (fI : Nat → Nat → Int32) (fL : Nat → Nat → Int64) (a : Nat) (b : Nat) (ha : a < 60) (hb2 : b < 60) : Met l y_Tellings_isOfLater (sy_w y_Tellings_isOfLater b_Tellings_isOfLater 3 (some .boolean)) { frames := 1, cells := 0, slots := 0, locals := 22 } (va_Pc [.ref h0, .int (nI a), .int (nI b)] (sy_KP G (va_P G.1 classes (tw G.2 h0 ad n fI fL)))) (vp_Si (fun r => r = bI (tl_lt fI fL a b))) 0 0 (fun _ => False) := by
  refine Met.ofW (cc := b_Tellings_isOfLater) (maxL := 3) (ret := (some .boolean)) (by decide) rfl ?_
  intro p e s m args below meth c s₁ B hml hv
  obtain ⟨rfl, hP, hK⟩ := hv
  have hx := B.exec
  have hb := B.bytes
  have hr := B.returns
  have hts := atoms_spec (ws := sy_w y_Tellings_isOfLater b_Tellings_isOfLater 3 (some .boolean)) B.pre
  have ht : ∀ wd ∈ sy_T, wd.before ([.ref h0, .int (nI a), .int (nI b)] : List Value).toArray s = true := fun wd h => hts wd (List.mem_cons_of_mem _ h)
  have hown : s.vm.findClass R_Tellings = some m.cls := findClass_of_methodNamed B.named
  have hlocks := B.notSynchronized
  have hl := lv_entry ([.ref h0, .int (nI a), .int (nI b)]) (n := 3) (Nat.le_of_ble_eq_true rfl)
  rw [lg_entry_eq]
  generalize (lg_sl ([.ref h0, .int (nI a), .int (nI b)]) ++ List.replicate (3 - (lg_sl ([.ref h0, .int (nI a), .int (nI b)])).length) Slot.unset).toArray = ls at hl ⊢
  have hl : lv_has ls 3 [(0, .ref h0), (1, .int (nI a)), (2, .int (nI b))] := hl
  refine lv_aload_n hx hb d_Tellings_isOfLater_0 rfl (lv_at hl 0 rfl) ?_
  refine va_get (D := G.1) (ci := 5) (v := .ref (ad 4)) (C := R_Tellings) (T := F_Tellings) (N := 8) hx hb ht i_Tellings hown hK.1 hP 0 rfl rfl 4 (by decide) (ht _ m_62) (fun _ h9 => h9) rfl d_Tellings_isOfLater_1 ?_
  refine lv_iload_n hx hb d_Tellings_isOfLater_4 rfl (lv_at hl 1 rfl) ?_
  refine sy_lald hx hb hK.1 hP 5 1 rfl rfl (k := a) (by omega) (by decide) d_Tellings_isOfLater_5 ?_
  refine lv_aload_n hx hb d_Tellings_isOfLater_6 rfl (lv_at hl 0 rfl) ?_
  refine va_get (D := G.1) (ci := 5) (v := .ref (ad 4)) (C := R_Tellings) (T := F_Tellings) (N := 8) hx hb ht i_Tellings hown hK.1 hP 0 rfl rfl 4 (by decide) (ht _ m_62) (fun _ h9 => h9) rfl d_Tellings_isOfLater_7 ?_
  refine lv_iload_n hx hb d_Tellings_isOfLater_10 rfl (lv_at hl 2 rfl) ?_
  refine sy_lald hx hb hK.1 hP 5 1 rfl rfl (k := b) (by omega) (by decide) d_Tellings_isOfLater_11 ?_
  refine sy_lc_eq (tgt := 40) hx hb d_Tellings_isOfLater_12 d_Tellings_isOfLater_13 (by decide) (fun c_1 => ?_) (fun c_1 => ?_)
  · refine lv_aload_n hx hb d_Tellings_isOfLater_40 rfl (lv_at hl 0 rfl) ?_
    refine lv_iload_n hx hb d_Tellings_isOfLater_41 rfl (lv_at hl 2 rfl) ?_
    refine lv_iload_n hx hb d_Tellings_isOfLater_42 rfl (lv_at hl 1 rfl) ?_
    refine vp_callSi (va_Run.run (sy_runV (As := [.int (nI b), .int (nI a)]) (rest := []) (b := h0) ⟨hx, hb, hml, hown, ht⟩ cl_Tellings_56 (c_Tellings_isBefore l G h0 ad n fI fL b a (by omega) (by omega)) hK hP (va_recv hK.1 hP (ci := 5) (q0 := 0) rfl rfl) rfl nm_Tellings_isBefore rfl rfl ⟨Nat.le_of_ble_eq_true rfl, Nat.le_of_ble_eq_true rfl⟩ hl.1 (Nat.le_of_ble_eq_true rfl) d_Tellings_isOfLater_43 ⟨Nat.zero_le _, Nat.zero_le _⟩)) (fun r_2 hr_2 => ?_)
    subst hr_2
    exact W.zret (v := bI (tl_bf fI fL b a)) hx hb hr (bI_n _) (fun t ht hW => ⟨bI (tl_bf fI fL b a), rfl, by simp [bI, tl_lt, c_1], ht⟩) (fun q h => by cases h) d_Tellings_isOfLater_46
  · refine lv_aload_n hx hb d_Tellings_isOfLater_16 rfl (lv_at hl 0 rfl) ?_
    refine va_get (D := G.1) (ci := 5) (v := .ref (ad 4)) (C := R_Tellings) (T := F_Tellings) (N := 8) hx hb ht i_Tellings hown hK.1 hP 0 rfl rfl 4 (by decide) (ht _ m_62) (fun _ h9 => h9) rfl d_Tellings_isOfLater_17 ?_
    refine lv_iload_n hx hb d_Tellings_isOfLater_20 rfl (lv_at hl 1 rfl) ?_
    refine sy_lald hx hb hK.1 hP 5 1 rfl rfl (k := a) (by omega) (by decide) d_Tellings_isOfLater_21 ?_
    refine lv_aload_n hx hb d_Tellings_isOfLater_22 rfl (lv_at hl 0 rfl) ?_
    refine va_get (D := G.1) (ci := 5) (v := .ref (ad 4)) (C := R_Tellings) (T := F_Tellings) (N := 8) hx hb ht i_Tellings hown hK.1 hP 0 rfl rfl 4 (by decide) (ht _ m_62) (fun _ h9 => h9) rfl d_Tellings_isOfLater_23 ?_
    refine lv_iload_n hx hb d_Tellings_isOfLater_26 rfl (lv_at hl 2 rfl) ?_
    refine sy_lald hx hb hK.1 hP 5 1 rfl rfl (k := b) (by omega) (by decide) d_Tellings_isOfLater_27 ?_
    refine sy_lc_le (tgt := 36) hx hb d_Tellings_isOfLater_28 d_Tellings_isOfLater_29 (by decide) (fun c_3 => ?_) (fun c_3 => ?_)
    · have c_3n := sy_c64 c_3
      refine lv_iconst (v := 0) hx hb d_Tellings_isOfLater_36 (by decide) ?_
      refine lv_goto (tgt := 46) hx hb d_Tellings_isOfLater_37 (by decide) ?_
      exact W.zret (v := (0 : Int32)) hx hb hr (rfl) (fun t ht hW => ⟨(0 : Int32), rfl, by simp [bI, tl_lt, c_1, c_3, c_3n], ht⟩) (fun q h => by cases h) d_Tellings_isOfLater_46
    · have c_3n := sy_d64 c_3
      refine lv_iconst (v := 1) hx hb d_Tellings_isOfLater_32 (by decide) ?_
      refine lv_goto (tgt := 46) hx hb d_Tellings_isOfLater_33 (by decide) ?_
      exact W.zret (v := (1 : Int32)) hx hb hr (rfl) (fun t ht hW => ⟨(1 : Int32), rfl, by simp [bI, tl_lt, c_1, c_3, c_3n], ht⟩) (fun q h => by cases h) d_Tellings_isOfLater_46
set_option maxHeartbeats 4000000 in
set_option maxRecDepth 100000 in
theorem c_Tellings_first (l : Launch) (G : sy_G) (h0 : Nat) (ad : Nat → Nat) (n : Nat) (fI : Nat → Nat → Int32) (fL : Nat → Nat → Int64) (am : Int64) (hn : n ≤ 60) : Met l y_Tellings_first (sy_w y_Tellings_first b_Tellings_first 5 (some .int)) { frames := 2, cells := 0, slots := 0, locals := 42 } (va_Pc [.ref h0, .long am] (sy_KP G (va_P G.1 classes (tw G.2 h0 ad n fI fL)))) (vp_Si (fun r => r = oI (tl_first fI fL n am))) 0 0 (fun _ => False) := by
  refine Met.ofW (cc := b_Tellings_first) (maxL := 5) (ret := (some .int)) (by decide) rfl ?_
  intro p e s m args below meth c s₁ B hml hv
  obtain ⟨rfl, hP, hK⟩ := hv
  have hx := B.exec
  have hb := B.bytes
  have hr := B.returns
  have hts := atoms_spec (ws := sy_w y_Tellings_first b_Tellings_first 5 (some .int)) B.pre
  have ht : ∀ wd ∈ sy_T, wd.before ([.ref h0, .long am] : List Value).toArray s = true := fun wd h => hts wd (List.mem_cons_of_mem _ h)
  have hown : s.vm.findClass R_Tellings = some m.cls := findClass_of_methodNamed B.named
  have hlocks := B.notSynchronized
  have hl := lv_entry ([.ref h0, .long am]) (n := 5) (Nat.le_of_ble_eq_true rfl)
  rw [lg_entry_eq]
  generalize (lg_sl ([.ref h0, .long am]) ++ List.replicate (5 - (lg_sl ([.ref h0, .long am])).length) Slot.unset).toArray = ls at hl ⊢
  have hl : lv_has ls 5 [(0, .ref h0), (1, .long am)] := hl
  refine lv_iconst (v := (-1)) hx hb d_Tellings_first_0 (by decide) ?_
  refine lv_istore_n (lv' := [(3, .int (-1)), (0, .ref h0), (1, .long am)]) hx hb d_Tellings_first_1 rfl hl (by decide) rfl (fun ls hl => ?_)
  refine lv_iconst (v := 0) hx hb d_Tellings_first_2 (by decide) ?_
  refine lv_istore (lv' := [(4, .int 0), (3, .int (-1)), (0, .ref h0), (1, .long am)]) hx hb d_Tellings_first_3 hl (by decide) rfl (fun ls hl => ?_)
  refine sy_loop (σ := Nat × Option Nat) (nL := 5) (fun x5 => match x5 with | (k, o) => n - k) (fun x5 => match x5 with | (k, o) => [(4, .int (nI k)), (3, .int (oI o)), (0, .ref h0), (1, .long am)]) (fun x5 => match x5 with | (k, o) => k ≤ n ∧ o = nn_fm (bs_in am) (tl_bf fI fL) k) ?_ (0, none) ?_ (lv_sub hl [0, 1, 2, 3] rfl)
  · intro x5 ls hI hl ih5
    obtain ⟨k, o⟩ := x5
    have hl : lv_has ls 5 [(4, .int (nI k)), (3, .int (oI o)), (0, .ref h0), (1, .long am)] := hl
    obtain ⟨hk, hI⟩ := hI
    refine lv_iload hx hb d_Tellings_first_5 (lv_at hl 0 rfl) ?_
    refine lv_aload_n hx hb d_Tellings_first_7 rfl (lv_at hl 2 rfl) ?_
    refine va_get (D := G.1) (ci := 5) (v := .int (nI n)) (C := R_Tellings) (T := F_Tellings) (N := 8) hx hb ht i_Tellings hown hK.1 hP 0 rfl rfl 7 (by decide) (ht _ m_67) (fun _ h9 => h9) rfl d_Tellings_first_8 ?_
    refine lv_icmp_ge (tgt := 47) hx hb d_Tellings_first_11 (by decide) (fun c_1 => ?_) (fun c_1 => ?_)
    · have c_1 : n ≤ k := (nI_leI (a := n) (b := k) (by omega) (by omega)).mp c_1
      have c_1n : ¬ k < n := by omega
      refine lv_iload_n hx hb d_Tellings_first_47 rfl (lv_at hl 1 rfl) ?_
      exact W.iret (v := oI o) hx hb hr (fun t ht hW => ⟨oI o, rfl, by rw [hI, show k = n by omega] <;> rfl, ht⟩) (fun q h => by cases h) d_Tellings_first_48
    · have c_1 : ¬ n ≤ k := fun h9 => c_1 ((nI_leI (a := n) (b := k) (by omega) (by omega)).mpr h9)
      have c_1n : k < n := by omega
      refine lv_iload hx hb d_Tellings_first_14 (lv_at hl 0 rfl) ?_
      refine lv_lload_n hx hb d_Tellings_first_16 rfl (lv_at hl 3 rfl) ?_
      refine vp_callSi (va_Run.run (sy_runSN (As := [.int (nI k), .long am]) (rest := []) ⟨hx, hb, hml, hown, ht⟩ cl_Tellings_42 (c_DeviceSets_isIn l G k am) hK trivial rfl nm_DeviceSets_isIn rfl rfl ⟨Nat.le_of_ble_eq_true rfl, Nat.le_of_ble_eq_true rfl⟩ hl.1 (Nat.le_of_ble_eq_true rfl) d_Tellings_first_17 ⟨Nat.zero_le _, Nat.zero_le _⟩)) (fun r_2 hr_2 => ?_)
      subst hr_2
      refine lv_if_eq (tgt := 41) hx hb d_Tellings_first_20 (by decide) (fun c_3 => ?_) (fun c_3 => ?_)
      · have c_3 := bI_f c_3
        refine lv_iinc (v := nI (k + 1)) (lv' := [(4, .int (nI (k + 1))), (3, .int (oI o)), (0, .ref h0), (1, .long am)]) hx hb d_Tellings_first_41 hl (k := 0) rfl (nI_add k 1) (by decide) rfl (fun ls hl => ?_)
        refine lv_goto (tgt := 5) hx hb d_Tellings_first_44 (by decide) ?_
        refine ih5 (k + 1, o) ls (show n - (k + 1) < n - k by omega) ?_ (lv_sub hl [0, 1, 2, 3] rfl)
        exact ⟨by omega, by first | (rw [nn_fm, if_pos (by simp [c_1, c_1n, c_3]; done), ← hI]; simp [nn_up, c_1, c_1n, c_3]; done) | (rw [nn_fm, if_neg (by simp [c_1, c_1n, c_3]; done), ← hI])⟩
      · have c_3 := bI_t c_3
        refine lv_iload_n hx hb d_Tellings_first_23 rfl (lv_at hl 1 rfl) ?_
        refine lv_iconst (v := (-1)) hx hb d_Tellings_first_24 (by decide) ?_
        rcases o with _ | j_5
        · have hl : lv_has ls 5 [(4, .int (nI k)), (3, .int (-1)), (0, .ref h0), (1, .long am)] := hl
          refine lv_icmp_eq (tgt := 38) hx hb d_Tellings_first_25 (by decide) (fun c_6 => ?_) (fun c_6 => absurd (by decide) c_6)
          refine lv_iload hx hb d_Tellings_first_38 (lv_at hl 0 rfl) ?_
          refine lv_istore_n (lv' := [(3, .int (nI k)), (4, .int (nI k)), (0, .ref h0), (1, .long am)]) hx hb d_Tellings_first_40 rfl hl (by decide) rfl (fun ls hl => ?_)
          refine lv_iinc (v := nI (k + 1)) (lv' := [(4, .int (nI (k + 1))), (3, .int (nI k)), (0, .ref h0), (1, .long am)]) hx hb d_Tellings_first_41 hl (k := 1) rfl (nI_add k 1) (by decide) rfl (fun ls hl => ?_)
          refine lv_goto (tgt := 5) hx hb d_Tellings_first_44 (by decide) ?_
          refine ih5 (k + 1, (some k)) ls (show n - (k + 1) < n - k by omega) ?_ (lv_sub hl [0, 1, 2, 3] rfl)
          exact ⟨by omega, by first | (rw [nn_fm, if_pos (by simp [c_1, c_1n, c_3, c_6]; done), ← hI]; simp [nn_up, c_1, c_1n, c_3, c_6]; done) | (rw [nn_fm, if_neg (by simp [c_1, c_1n, c_3, c_6]; done), ← hI])⟩
        · have hl : lv_has ls 5 [(4, .int (nI k)), (3, .int (nI j_5)), (0, .ref h0), (1, .long am)] := hl
          have hj_5 : j_5 < k := nn_fm_lt hI.symm
          refine lv_icmp_eq (tgt := 38) hx hb d_Tellings_first_25 (by decide) (fun c_7 => absurd c_7 (oI_ne (by omega))) (fun c_7 => ?_)
          refine lv_aload_n hx hb d_Tellings_first_28 rfl (lv_at hl 2 rfl) ?_
          refine lv_iload hx hb d_Tellings_first_29 (lv_at hl 0 rfl) ?_
          refine lv_iload_n hx hb d_Tellings_first_31 rfl (lv_at hl 1 rfl) ?_
          refine vp_callSi (va_Run.run (sy_runV (As := [.int (nI k), .int (nI j_5)]) (rest := []) (b := h0) ⟨hx, hb, hml, hown, ht⟩ cl_Tellings_56 (c_Tellings_isBefore l G h0 ad n fI fL k j_5 (by omega) (by omega)) hK hP (va_recv hK.1 hP (ci := 5) (q0 := 0) rfl rfl) rfl nm_Tellings_isBefore rfl rfl ⟨Nat.le_of_ble_eq_true rfl, Nat.le_of_ble_eq_true rfl⟩ hl.1 (Nat.le_of_ble_eq_true rfl) d_Tellings_first_32 ⟨Nat.zero_le _, Nat.zero_le _⟩)) (fun r_8 hr_8 => ?_)
          subst hr_8
          refine lv_if_eq (tgt := 41) hx hb d_Tellings_first_35 (by decide) (fun c_9 => ?_) (fun c_9 => ?_)
          · have c_9 := bI_f c_9
            refine lv_iinc (v := nI (k + 1)) (lv' := [(4, .int (nI (k + 1))), (3, .int (nI j_5)), (0, .ref h0), (1, .long am)]) hx hb d_Tellings_first_41 hl (k := 0) rfl (nI_add k 1) (by decide) rfl (fun ls hl => ?_)
            refine lv_goto (tgt := 5) hx hb d_Tellings_first_44 (by decide) ?_
            refine ih5 (k + 1, (some j_5)) ls (show n - (k + 1) < n - k by omega) ?_ (lv_sub hl [0, 1, 2, 3] rfl)
            exact ⟨by omega, by first | (rw [nn_fm, if_pos (by simp [c_1, c_1n, c_3, c_7, c_9]; done), ← hI]; simp [nn_up, c_1, c_1n, c_3, c_7, c_9]; done) | (rw [nn_fm, if_neg (by simp [c_1, c_1n, c_3, c_7, c_9]; done), ← hI])⟩
          · have c_9 := bI_t c_9
            refine lv_iload hx hb d_Tellings_first_38 (lv_at hl 0 rfl) ?_
            refine lv_istore_n (lv' := [(3, .int (nI k)), (4, .int (nI k)), (0, .ref h0), (1, .long am)]) hx hb d_Tellings_first_40 rfl hl (by decide) rfl (fun ls hl => ?_)
            refine lv_iinc (v := nI (k + 1)) (lv' := [(4, .int (nI (k + 1))), (3, .int (nI k)), (0, .ref h0), (1, .long am)]) hx hb d_Tellings_first_41 hl (k := 1) rfl (nI_add k 1) (by decide) rfl (fun ls hl => ?_)
            refine lv_goto (tgt := 5) hx hb d_Tellings_first_44 (by decide) ?_
            refine ih5 (k + 1, (some k)) ls (show n - (k + 1) < n - k by omega) ?_ (lv_sub hl [0, 1, 2, 3] rfl)
            exact ⟨by omega, by first | (rw [nn_fm, if_pos (by simp [c_1, c_1n, c_3, c_7, c_9]; done), ← hI]; simp [nn_up, c_1, c_1n, c_3, c_7, c_9]; done) | (rw [nn_fm, if_neg (by simp [c_1, c_1n, c_3, c_7, c_9]; done), ← hI])⟩
  · exact ⟨Nat.zero_le _, rfl⟩
set_option maxHeartbeats 4000000 in
set_option maxRecDepth 100000 in
theorem c_Tellings_latestNumbered (l : Launch) (G : sy_G) (h0 : Nat) (ad : Nat → Nat) (n : Nat) (fI : Nat → Nat → Int32) (fL : Nat → Nat → Int64) (am : Int64) (hn : n ≤ 60) : Met l y_Tellings_latestNumbered (sy_w y_Tellings_latestNumbered b_Tellings_latestNumbered 5 (some .int)) { frames := 2, cells := 0, slots := 0, locals := 42 } (va_Pc [.ref h0, .long am] (sy_KP G (va_P G.1 classes (tw G.2 h0 ad n fI fL)))) (vp_Si (fun r => r = oI (tl_ln fI fL n am))) 0 0 (fun _ => False) := by
  refine Met.ofW (cc := b_Tellings_latestNumbered) (maxL := 5) (ret := (some .int)) (by decide) rfl ?_
  intro p e s m args below meth c s₁ B hml hv
  obtain ⟨rfl, hP, hK⟩ := hv
  have hx := B.exec
  have hb := B.bytes
  have hr := B.returns
  have hts := atoms_spec (ws := sy_w y_Tellings_latestNumbered b_Tellings_latestNumbered 5 (some .int)) B.pre
  have ht : ∀ wd ∈ sy_T, wd.before ([.ref h0, .long am] : List Value).toArray s = true := fun wd h => hts wd (List.mem_cons_of_mem _ h)
  have hown : s.vm.findClass R_Tellings = some m.cls := findClass_of_methodNamed B.named
  have hlocks := B.notSynchronized
  have hl := lv_entry ([.ref h0, .long am]) (n := 5) (Nat.le_of_ble_eq_true rfl)
  rw [lg_entry_eq]
  generalize (lg_sl ([.ref h0, .long am]) ++ List.replicate (5 - (lg_sl ([.ref h0, .long am])).length) Slot.unset).toArray = ls at hl ⊢
  have hl : lv_has ls 5 [(0, .ref h0), (1, .long am)] := hl
  refine lv_iconst (v := (-1)) hx hb d_Tellings_latestNumbered_0 (by decide) ?_
  refine lv_istore_n (lv' := [(3, .int (-1)), (0, .ref h0), (1, .long am)]) hx hb d_Tellings_latestNumbered_1 rfl hl (by decide) rfl (fun ls hl => ?_)
  refine lv_iconst (v := 0) hx hb d_Tellings_latestNumbered_2 (by decide) ?_
  refine lv_istore (lv' := [(4, .int 0), (3, .int (-1)), (0, .ref h0), (1, .long am)]) hx hb d_Tellings_latestNumbered_3 hl (by decide) rfl (fun ls hl => ?_)
  refine sy_loop (σ := Nat × Option Nat) (nL := 5) (fun x5 => match x5 with | (k, o) => n - k) (fun x5 => match x5 with | (k, o) => [(4, .int (nI k)), (3, .int (oI o)), (0, .ref h0), (1, .long am)]) (fun x5 => match x5 with | (k, o) => k ≤ n ∧ o = nn_fm (bs_in am) (tl_fb fI fL) k) ?_ (0, none) ?_ (lv_sub hl [0, 1, 2, 3] rfl)
  · intro x5 ls hI hl ih5
    obtain ⟨k, o⟩ := x5
    have hl : lv_has ls 5 [(4, .int (nI k)), (3, .int (oI o)), (0, .ref h0), (1, .long am)] := hl
    obtain ⟨hk, hI⟩ := hI
    refine lv_iload hx hb d_Tellings_latestNumbered_5 (lv_at hl 0 rfl) ?_
    refine lv_aload_n hx hb d_Tellings_latestNumbered_7 rfl (lv_at hl 2 rfl) ?_
    refine va_get (D := G.1) (ci := 5) (v := .int (nI n)) (C := R_Tellings) (T := F_Tellings) (N := 8) hx hb ht i_Tellings hown hK.1 hP 0 rfl rfl 7 (by decide) (ht _ m_67) (fun _ h9 => h9) rfl d_Tellings_latestNumbered_8 ?_
    refine lv_icmp_ge (tgt := 47) hx hb d_Tellings_latestNumbered_11 (by decide) (fun c_1 => ?_) (fun c_1 => ?_)
    · have c_1 : n ≤ k := (nI_leI (a := n) (b := k) (by omega) (by omega)).mp c_1
      have c_1n : ¬ k < n := by omega
      refine lv_iload_n hx hb d_Tellings_latestNumbered_47 rfl (lv_at hl 1 rfl) ?_
      exact W.iret (v := oI o) hx hb hr (fun t ht hW => ⟨oI o, rfl, by rw [hI, show k = n by omega] <;> rfl, ht⟩) (fun q h => by cases h) d_Tellings_latestNumbered_48
    · have c_1 : ¬ n ≤ k := fun h9 => c_1 ((nI_leI (a := n) (b := k) (by omega) (by omega)).mpr h9)
      have c_1n : k < n := by omega
      refine lv_iload hx hb d_Tellings_latestNumbered_14 (lv_at hl 0 rfl) ?_
      refine lv_lload_n hx hb d_Tellings_latestNumbered_16 rfl (lv_at hl 3 rfl) ?_
      refine vp_callSi (va_Run.run (sy_runSN (As := [.int (nI k), .long am]) (rest := []) ⟨hx, hb, hml, hown, ht⟩ cl_Tellings_42 (c_DeviceSets_isIn l G k am) hK trivial rfl nm_DeviceSets_isIn rfl rfl ⟨Nat.le_of_ble_eq_true rfl, Nat.le_of_ble_eq_true rfl⟩ hl.1 (Nat.le_of_ble_eq_true rfl) d_Tellings_latestNumbered_17 ⟨Nat.zero_le _, Nat.zero_le _⟩)) (fun r_2 hr_2 => ?_)
      subst hr_2
      refine lv_if_eq (tgt := 41) hx hb d_Tellings_latestNumbered_20 (by decide) (fun c_3 => ?_) (fun c_3 => ?_)
      · have c_3 := bI_f c_3
        refine lv_iinc (v := nI (k + 1)) (lv' := [(4, .int (nI (k + 1))), (3, .int (oI o)), (0, .ref h0), (1, .long am)]) hx hb d_Tellings_latestNumbered_41 hl (k := 0) rfl (nI_add k 1) (by decide) rfl (fun ls hl => ?_)
        refine lv_goto (tgt := 5) hx hb d_Tellings_latestNumbered_44 (by decide) ?_
        refine ih5 (k + 1, o) ls (show n - (k + 1) < n - k by omega) ?_ (lv_sub hl [0, 1, 2, 3] rfl)
        exact ⟨by omega, by first | (rw [nn_fm, if_pos (by simp [tl_fb, c_1, c_1n, c_3]; done), ← hI]; simp [nn_up, tl_fb, c_1, c_1n, c_3]; done) | (rw [nn_fm, if_neg (by simp [tl_fb, c_1, c_1n, c_3]; done), ← hI])⟩
      · have c_3 := bI_t c_3
        refine lv_iload_n hx hb d_Tellings_latestNumbered_23 rfl (lv_at hl 1 rfl) ?_
        refine lv_iconst (v := (-1)) hx hb d_Tellings_latestNumbered_24 (by decide) ?_
        rcases o with _ | j_5
        · have hl : lv_has ls 5 [(4, .int (nI k)), (3, .int (-1)), (0, .ref h0), (1, .long am)] := hl
          refine lv_icmp_eq (tgt := 38) hx hb d_Tellings_latestNumbered_25 (by decide) (fun c_6 => ?_) (fun c_6 => absurd (by decide) c_6)
          refine lv_iload hx hb d_Tellings_latestNumbered_38 (lv_at hl 0 rfl) ?_
          refine lv_istore_n (lv' := [(3, .int (nI k)), (4, .int (nI k)), (0, .ref h0), (1, .long am)]) hx hb d_Tellings_latestNumbered_40 rfl hl (by decide) rfl (fun ls hl => ?_)
          refine lv_iinc (v := nI (k + 1)) (lv' := [(4, .int (nI (k + 1))), (3, .int (nI k)), (0, .ref h0), (1, .long am)]) hx hb d_Tellings_latestNumbered_41 hl (k := 1) rfl (nI_add k 1) (by decide) rfl (fun ls hl => ?_)
          refine lv_goto (tgt := 5) hx hb d_Tellings_latestNumbered_44 (by decide) ?_
          refine ih5 (k + 1, (some k)) ls (show n - (k + 1) < n - k by omega) ?_ (lv_sub hl [0, 1, 2, 3] rfl)
          exact ⟨by omega, by first | (rw [nn_fm, if_pos (by simp [tl_fb, c_1, c_1n, c_3, c_6]; done), ← hI]; simp [nn_up, tl_fb, c_1, c_1n, c_3, c_6]; done) | (rw [nn_fm, if_neg (by simp [tl_fb, c_1, c_1n, c_3, c_6]; done), ← hI])⟩
        · have hl : lv_has ls 5 [(4, .int (nI k)), (3, .int (nI j_5)), (0, .ref h0), (1, .long am)] := hl
          have hj_5 : j_5 < k := nn_fm_lt hI.symm
          refine lv_icmp_eq (tgt := 38) hx hb d_Tellings_latestNumbered_25 (by decide) (fun c_7 => absurd c_7 (oI_ne (by omega))) (fun c_7 => ?_)
          refine lv_aload_n hx hb d_Tellings_latestNumbered_28 rfl (lv_at hl 2 rfl) ?_
          refine lv_iload_n hx hb d_Tellings_latestNumbered_29 rfl (lv_at hl 1 rfl) ?_
          refine lv_iload hx hb d_Tellings_latestNumbered_30 (lv_at hl 0 rfl) ?_
          refine vp_callSi (va_Run.run (sy_runV (As := [.int (nI j_5), .int (nI k)]) (rest := []) (b := h0) ⟨hx, hb, hml, hown, ht⟩ cl_Tellings_56 (c_Tellings_isBefore l G h0 ad n fI fL j_5 k (by omega) (by omega)) hK hP (va_recv hK.1 hP (ci := 5) (q0 := 0) rfl rfl) rfl nm_Tellings_isBefore rfl rfl ⟨Nat.le_of_ble_eq_true rfl, Nat.le_of_ble_eq_true rfl⟩ hl.1 (Nat.le_of_ble_eq_true rfl) d_Tellings_latestNumbered_32 ⟨Nat.zero_le _, Nat.zero_le _⟩)) (fun r_8 hr_8 => ?_)
          subst hr_8
          refine lv_if_eq (tgt := 41) hx hb d_Tellings_latestNumbered_35 (by decide) (fun c_9 => ?_) (fun c_9 => ?_)
          · have c_9 := bI_f c_9
            refine lv_iinc (v := nI (k + 1)) (lv' := [(4, .int (nI (k + 1))), (3, .int (nI j_5)), (0, .ref h0), (1, .long am)]) hx hb d_Tellings_latestNumbered_41 hl (k := 0) rfl (nI_add k 1) (by decide) rfl (fun ls hl => ?_)
            refine lv_goto (tgt := 5) hx hb d_Tellings_latestNumbered_44 (by decide) ?_
            refine ih5 (k + 1, (some j_5)) ls (show n - (k + 1) < n - k by omega) ?_ (lv_sub hl [0, 1, 2, 3] rfl)
            exact ⟨by omega, by first | (rw [nn_fm, if_pos (by simp [tl_fb, c_1, c_1n, c_3, c_7, c_9]; done), ← hI]; simp [nn_up, tl_fb, c_1, c_1n, c_3, c_7, c_9]; done) | (rw [nn_fm, if_neg (by simp [tl_fb, c_1, c_1n, c_3, c_7, c_9]; done), ← hI])⟩
          · have c_9 := bI_t c_9
            refine lv_iload hx hb d_Tellings_latestNumbered_38 (lv_at hl 0 rfl) ?_
            refine lv_istore_n (lv' := [(3, .int (nI k)), (4, .int (nI k)), (0, .ref h0), (1, .long am)]) hx hb d_Tellings_latestNumbered_40 rfl hl (by decide) rfl (fun ls hl => ?_)
            refine lv_iinc (v := nI (k + 1)) (lv' := [(4, .int (nI (k + 1))), (3, .int (nI k)), (0, .ref h0), (1, .long am)]) hx hb d_Tellings_latestNumbered_41 hl (k := 1) rfl (nI_add k 1) (by decide) rfl (fun ls hl => ?_)
            refine lv_goto (tgt := 5) hx hb d_Tellings_latestNumbered_44 (by decide) ?_
            refine ih5 (k + 1, (some k)) ls (show n - (k + 1) < n - k by omega) ?_ (lv_sub hl [0, 1, 2, 3] rfl)
            exact ⟨by omega, by first | (rw [nn_fm, if_pos (by simp [tl_fb, c_1, c_1n, c_3, c_7, c_9]; done), ← hI]; simp [nn_up, tl_fb, c_1, c_1n, c_3, c_7, c_9]; done) | (rw [nn_fm, if_neg (by simp [tl_fb, c_1, c_1n, c_3, c_7, c_9]; done), ← hI])⟩
  · exact ⟨Nat.zero_le _, rfl⟩
set_option maxHeartbeats 4000000 in
set_option maxRecDepth 100000 in
theorem c_Tellings_latestKnown (l : Launch) (G : sy_G) (h0 : Nat) (ad : Nat → Nat) (n : Nat) (fI : Nat → Nat → Int32) (fL : Nat → Nat → Int64) (am : Int64) (up : Int64) (ao : Int64) (hn : n ≤ 60) : Met l y_Tellings_latestKnown (sy_w y_Tellings_latestKnown b_Tellings_latestKnown 9 (some .int)) { frames := 2, cells := 0, slots := 0, locals := 44 } (va_Pc [.ref h0, .long am, .long up, .long ao] (sy_KP G (va_P G.1 classes (tw G.2 h0 ad n fI fL)))) (vp_Si (fun r => r = oI (tl_lk fI fL n am up ao))) 0 0 (fun _ => False) := by
  refine Met.ofW (cc := b_Tellings_latestKnown) (maxL := 9) (ret := (some .int)) (by decide) rfl ?_
  intro p e s m args below meth c s₁ B hml hv
  obtain ⟨rfl, hP, hK⟩ := hv
  have hx := B.exec
  have hb := B.bytes
  have hr := B.returns
  have hts := atoms_spec (ws := sy_w y_Tellings_latestKnown b_Tellings_latestKnown 9 (some .int)) B.pre
  have ht : ∀ wd ∈ sy_T, wd.before ([.ref h0, .long am, .long up, .long ao] : List Value).toArray s = true := fun wd h => hts wd (List.mem_cons_of_mem _ h)
  have hown : s.vm.findClass R_Tellings = some m.cls := findClass_of_methodNamed B.named
  have hlocks := B.notSynchronized
  have hl := lv_entry ([.ref h0, .long am, .long up, .long ao]) (n := 9) (Nat.le_of_ble_eq_true rfl)
  rw [lg_entry_eq]
  generalize (lg_sl ([.ref h0, .long am, .long up, .long ao]) ++ List.replicate (9 - (lg_sl ([.ref h0, .long am, .long up, .long ao])).length) Slot.unset).toArray = ls at hl ⊢
  have hl : lv_has ls 9 [(0, .ref h0), (1, .long am), (3, .long up), (5, .long ao)] := hl
  refine lv_iconst (v := (-1)) hx hb d_Tellings_latestKnown_0 (by decide) ?_
  refine lv_istore (lv' := [(7, .int (-1)), (0, .ref h0), (1, .long am), (3, .long up), (5, .long ao)]) hx hb d_Tellings_latestKnown_1 hl (by decide) rfl (fun ls hl => ?_)
  refine lv_iconst (v := 0) hx hb d_Tellings_latestKnown_3 (by decide) ?_
  refine lv_istore (lv' := [(8, .int 0), (7, .int (-1)), (0, .ref h0), (1, .long am), (3, .long up), (5, .long ao)]) hx hb d_Tellings_latestKnown_4 hl (by decide) rfl (fun ls hl => ?_)
  refine sy_loop (σ := Nat × Option Nat) (nL := 9) (fun x6 => match x6 with | (k, o) => n - k) (fun x6 => match x6 with | (k, o) => [(8, .int (nI k)), (7, .int (oI o)), (0, .ref h0), (1, .long am), (3, .long up), (5, .long ao)]) (fun x6 => match x6 with | (k, o) => k ≤ n ∧ o = nn_fm (tl_pL fL am up ao) (tl_lt fI fL) k) ?_ (0, none) ?_ (lv_sub hl [0, 1, 2, 3, 4, 5] rfl)
  · intro x6 ls hI hl ih6
    obtain ⟨k, o⟩ := x6
    have hl : lv_has ls 9 [(8, .int (nI k)), (7, .int (oI o)), (0, .ref h0), (1, .long am), (3, .long up), (5, .long ao)] := hl
    obtain ⟨hk, hI⟩ := hI
    refine lv_iload hx hb d_Tellings_latestKnown_6 (lv_at hl 0 rfl) ?_
    refine lv_aload_n hx hb d_Tellings_latestKnown_8 rfl (lv_at hl 2 rfl) ?_
    refine va_get (D := G.1) (ci := 5) (v := .int (nI n)) (C := R_Tellings) (T := F_Tellings) (N := 8) hx hb ht i_Tellings hown hK.1 hP 0 rfl rfl 7 (by decide) (ht _ m_67) (fun _ h9 => h9) rfl d_Tellings_latestKnown_9 ?_
    refine lv_icmp_ge (tgt := 76) hx hb d_Tellings_latestKnown_12 (by decide) (fun c_1 => ?_) (fun c_1 => ?_)
    · have c_1 : n ≤ k := (nI_leI (a := n) (b := k) (by omega) (by omega)).mp c_1
      have c_1n : ¬ k < n := by omega
      refine lv_iload hx hb d_Tellings_latestKnown_76 (lv_at hl 1 rfl) ?_
      exact W.iret (v := oI o) hx hb hr (fun t ht hW => ⟨oI o, rfl, by rw [hI, show k = n by omega] <;> rfl, ht⟩) (fun q h => by cases h) d_Tellings_latestKnown_78
    · have c_1 : ¬ n ≤ k := fun h9 => c_1 ((nI_leI (a := n) (b := k) (by omega) (by omega)).mpr h9)
      have c_1n : k < n := by omega
      refine lv_iload hx hb d_Tellings_latestKnown_15 (lv_at hl 0 rfl) ?_
      refine lv_lload_n hx hb d_Tellings_latestKnown_17 rfl (lv_at hl 3 rfl) ?_
      refine vp_callSi (va_Run.run (sy_runSN (As := [.int (nI k), .long am]) (rest := []) ⟨hx, hb, hml, hown, ht⟩ cl_Tellings_42 (c_DeviceSets_isIn l G k am) hK trivial rfl nm_DeviceSets_isIn rfl rfl ⟨Nat.le_of_ble_eq_true rfl, Nat.le_of_ble_eq_true rfl⟩ hl.1 (Nat.le_of_ble_eq_true rfl) d_Tellings_latestKnown_18 ⟨Nat.zero_le _, Nat.zero_le _⟩)) (fun r_2 hr_2 => ?_)
      subst hr_2
      refine lv_if_eq (tgt := 70) hx hb d_Tellings_latestKnown_21 (by decide) (fun c_3 => ?_) (fun c_3 => ?_)
      · have c_3 := bI_f c_3
        refine lv_iinc (v := nI (k + 1)) (lv' := [(8, .int (nI (k + 1))), (7, .int (oI o)), (0, .ref h0), (1, .long am), (3, .long up), (5, .long ao)]) hx hb d_Tellings_latestKnown_70 hl (k := 0) rfl (nI_add k 1) (by decide) rfl (fun ls hl => ?_)
        refine lv_goto (tgt := 6) hx hb d_Tellings_latestKnown_73 (by decide) ?_
        refine ih6 (k + 1, o) ls (show n - (k + 1) < n - k by omega) ?_ (lv_sub hl [0, 1, 2, 3, 4, 5] rfl)
        exact ⟨by omega, by first | (rw [nn_fm, if_pos (by simp [tl_pL, c_1, c_1n, c_3]; done), ← hI]; simp [nn_up, tl_pL, c_1, c_1n, c_3]; done) | (rw [nn_fm, if_neg (by simp [tl_pL, c_1, c_1n, c_3]; done), ← hI])⟩
      · have c_3 := bI_t c_3
        refine lv_aload_n hx hb d_Tellings_latestKnown_24 rfl (lv_at hl 2 rfl) ?_
        refine va_get (D := G.1) (ci := 5) (v := .ref (ad 4)) (C := R_Tellings) (T := F_Tellings) (N := 8) hx hb ht i_Tellings hown hK.1 hP 0 rfl rfl 4 (by decide) (ht _ m_62) (fun _ h9 => h9) rfl d_Tellings_latestKnown_25 ?_
        refine lv_iload hx hb d_Tellings_latestKnown_28 (lv_at hl 0 rfl) ?_
        refine sy_lald hx hb hK.1 hP 5 1 rfl rfl (k := k) (by omega) (by decide) d_Tellings_latestKnown_30 ?_
        refine lv_lload_n hx hb d_Tellings_latestKnown_31 rfl (lv_at hl 4 rfl) ?_
        refine sy_lc_gt (tgt := 70) hx hb d_Tellings_latestKnown_32 d_Tellings_latestKnown_33 (by decide) (fun c_4 => ?_) (fun c_4 => ?_)
        · have c_4n := sy_a64 c_4
          refine lv_iinc (v := nI (k + 1)) (lv' := [(8, .int (nI (k + 1))), (7, .int (oI o)), (0, .ref h0), (1, .long am), (3, .long up), (5, .long ao)]) hx hb d_Tellings_latestKnown_70 hl (k := 0) rfl (nI_add k 1) (by decide) rfl (fun ls hl => ?_)
          refine lv_goto (tgt := 6) hx hb d_Tellings_latestKnown_73 (by decide) ?_
          refine ih6 (k + 1, o) ls (show n - (k + 1) < n - k by omega) ?_ (lv_sub hl [0, 1, 2, 3, 4, 5] rfl)
          exact ⟨by omega, by first | (rw [nn_fm, if_pos (by simp [tl_pL, c_1, c_1n, c_3, c_4, c_4n]; done), ← hI]; simp [nn_up, tl_pL, c_1, c_1n, c_3, c_4, c_4n]; done) | (rw [nn_fm, if_neg (by simp [tl_pL, c_1, c_1n, c_3, c_4, c_4n]; done), ← hI])⟩
        · have c_4n := sy_b64 c_4
          refine lv_aload_n hx hb d_Tellings_latestKnown_36 rfl (lv_at hl 2 rfl) ?_
          refine va_get (D := G.1) (ci := 5) (v := .ref (ad 6)) (C := R_Tellings) (T := F_Tellings) (N := 8) hx hb ht i_Tellings hown hK.1 hP 0 rfl rfl 6 (by decide) (ht _ m_66) (fun _ h9 => h9) rfl d_Tellings_latestKnown_37 ?_
          refine lv_iload hx hb d_Tellings_latestKnown_40 (lv_at hl 0 rfl) ?_
          refine sy_lald hx hb hK.1 hP 7 1 rfl rfl (k := k) (by omega) (by decide) d_Tellings_latestKnown_42 ?_
          refine lv_lload hx hb d_Tellings_latestKnown_43 (lv_at hl 5 rfl) ?_
          refine sy_lc_gt (tgt := 70) hx hb d_Tellings_latestKnown_45 d_Tellings_latestKnown_46 (by decide) (fun c_5 => ?_) (fun c_5 => ?_)
          · have c_5n := sy_a64 c_5
            refine lv_iinc (v := nI (k + 1)) (lv' := [(8, .int (nI (k + 1))), (7, .int (oI o)), (0, .ref h0), (1, .long am), (3, .long up), (5, .long ao)]) hx hb d_Tellings_latestKnown_70 hl (k := 0) rfl (nI_add k 1) (by decide) rfl (fun ls hl => ?_)
            refine lv_goto (tgt := 6) hx hb d_Tellings_latestKnown_73 (by decide) ?_
            refine ih6 (k + 1, o) ls (show n - (k + 1) < n - k by omega) ?_ (lv_sub hl [0, 1, 2, 3, 4, 5] rfl)
            exact ⟨by omega, by first | (rw [nn_fm, if_pos (by simp [tl_pL, c_1, c_1n, c_3, c_4, c_4n, c_5, c_5n]; done), ← hI]; simp [nn_up, tl_pL, c_1, c_1n, c_3, c_4, c_4n, c_5, c_5n]; done) | (rw [nn_fm, if_neg (by simp [tl_pL, c_1, c_1n, c_3, c_4, c_4n, c_5, c_5n]; done), ← hI])⟩
          · have c_5n := sy_b64 c_5
            refine lv_iload hx hb d_Tellings_latestKnown_49 (lv_at hl 1 rfl) ?_
            refine lv_iconst (v := (-1)) hx hb d_Tellings_latestKnown_51 (by decide) ?_
            rcases o with _ | j_7
            · have hl : lv_has ls 9 [(8, .int (nI k)), (7, .int (-1)), (0, .ref h0), (1, .long am), (3, .long up), (5, .long ao)] := hl
              refine lv_icmp_eq (tgt := 66) hx hb d_Tellings_latestKnown_52 (by decide) (fun c_8 => ?_) (fun c_8 => absurd (by decide) c_8)
              refine lv_iload hx hb d_Tellings_latestKnown_66 (lv_at hl 0 rfl) ?_
              refine lv_istore (lv' := [(7, .int (nI k)), (8, .int (nI k)), (0, .ref h0), (1, .long am), (3, .long up), (5, .long ao)]) hx hb d_Tellings_latestKnown_68 hl (by decide) rfl (fun ls hl => ?_)
              refine lv_iinc (v := nI (k + 1)) (lv' := [(8, .int (nI (k + 1))), (7, .int (nI k)), (0, .ref h0), (1, .long am), (3, .long up), (5, .long ao)]) hx hb d_Tellings_latestKnown_70 hl (k := 1) rfl (nI_add k 1) (by decide) rfl (fun ls hl => ?_)
              refine lv_goto (tgt := 6) hx hb d_Tellings_latestKnown_73 (by decide) ?_
              refine ih6 (k + 1, (some k)) ls (show n - (k + 1) < n - k by omega) ?_ (lv_sub hl [0, 1, 2, 3, 4, 5] rfl)
              exact ⟨by omega, by first | (rw [nn_fm, if_pos (by simp [tl_pL, c_1, c_1n, c_3, c_4, c_4n, c_5, c_5n, c_8]; done), ← hI]; simp [nn_up, tl_pL, c_1, c_1n, c_3, c_4, c_4n, c_5, c_5n, c_8]; done) | (rw [nn_fm, if_neg (by simp [tl_pL, c_1, c_1n, c_3, c_4, c_4n, c_5, c_5n, c_8]; done), ← hI])⟩
            · have hl : lv_has ls 9 [(8, .int (nI k)), (7, .int (nI j_7)), (0, .ref h0), (1, .long am), (3, .long up), (5, .long ao)] := hl
              have hj_7 : j_7 < k := nn_fm_lt hI.symm
              refine lv_icmp_eq (tgt := 66) hx hb d_Tellings_latestKnown_52 (by decide) (fun c_9 => absurd c_9 (oI_ne (by omega))) (fun c_9 => ?_)
              refine lv_aload_n hx hb d_Tellings_latestKnown_55 rfl (lv_at hl 2 rfl) ?_
              refine lv_iload hx hb d_Tellings_latestKnown_56 (lv_at hl 0 rfl) ?_
              refine lv_iload hx hb d_Tellings_latestKnown_58 (lv_at hl 1 rfl) ?_
              refine vp_callSi (va_Run.run (sy_runV (As := [.int (nI k), .int (nI j_7)]) (rest := []) (b := h0) ⟨hx, hb, hml, hown, ht⟩ cl_Tellings_64 (c_Tellings_isOfLater l G h0 ad n fI fL k j_7 (by omega) (by omega)) hK hP (va_recv hK.1 hP (ci := 5) (q0 := 0) rfl rfl) rfl nm_Tellings_isOfLater rfl rfl ⟨Nat.le_of_ble_eq_true rfl, Nat.le_of_ble_eq_true rfl⟩ hl.1 (Nat.le_of_ble_eq_true rfl) d_Tellings_latestKnown_60 ⟨Nat.zero_le _, Nat.zero_le _⟩)) (fun r_10 hr_10 => ?_)
              subst hr_10
              refine lv_if_eq (tgt := 70) hx hb d_Tellings_latestKnown_63 (by decide) (fun c_11 => ?_) (fun c_11 => ?_)
              · have c_11 := bI_f c_11
                refine lv_iinc (v := nI (k + 1)) (lv' := [(8, .int (nI (k + 1))), (7, .int (nI j_7)), (0, .ref h0), (1, .long am), (3, .long up), (5, .long ao)]) hx hb d_Tellings_latestKnown_70 hl (k := 0) rfl (nI_add k 1) (by decide) rfl (fun ls hl => ?_)
                refine lv_goto (tgt := 6) hx hb d_Tellings_latestKnown_73 (by decide) ?_
                refine ih6 (k + 1, (some j_7)) ls (show n - (k + 1) < n - k by omega) ?_ (lv_sub hl [0, 1, 2, 3, 4, 5] rfl)
                exact ⟨by omega, by first | (rw [nn_fm, if_pos (by simp [tl_pL, c_1, c_1n, c_3, c_4, c_4n, c_5, c_5n, c_9, c_11]; done), ← hI]; simp [nn_up, tl_pL, c_1, c_1n, c_3, c_4, c_4n, c_5, c_5n, c_9, c_11]; done) | (rw [nn_fm, if_neg (by simp [tl_pL, c_1, c_1n, c_3, c_4, c_4n, c_5, c_5n, c_9, c_11]; done), ← hI])⟩
              · have c_11 := bI_t c_11
                refine lv_iload hx hb d_Tellings_latestKnown_66 (lv_at hl 0 rfl) ?_
                refine lv_istore (lv' := [(7, .int (nI k)), (8, .int (nI k)), (0, .ref h0), (1, .long am), (3, .long up), (5, .long ao)]) hx hb d_Tellings_latestKnown_68 hl (by decide) rfl (fun ls hl => ?_)
                refine lv_iinc (v := nI (k + 1)) (lv' := [(8, .int (nI (k + 1))), (7, .int (nI k)), (0, .ref h0), (1, .long am), (3, .long up), (5, .long ao)]) hx hb d_Tellings_latestKnown_70 hl (k := 1) rfl (nI_add k 1) (by decide) rfl (fun ls hl => ?_)
                refine lv_goto (tgt := 6) hx hb d_Tellings_latestKnown_73 (by decide) ?_
                refine ih6 (k + 1, (some k)) ls (show n - (k + 1) < n - k by omega) ?_ (lv_sub hl [0, 1, 2, 3, 4, 5] rfl)
                exact ⟨by omega, by first | (rw [nn_fm, if_pos (by simp [tl_pL, c_1, c_1n, c_3, c_4, c_4n, c_5, c_5n, c_9, c_11]; done), ← hI]; simp [nn_up, tl_pL, c_1, c_1n, c_3, c_4, c_4n, c_5, c_5n, c_9, c_11]; done) | (rw [nn_fm, if_neg (by simp [tl_pL, c_1, c_1n, c_3, c_4, c_4n, c_5, c_5n, c_9, c_11]; done), ← hI])⟩
  · exact ⟨Nat.zero_le _, rfl⟩
set_option maxHeartbeats 4000000 in
set_option maxRecDepth 100000 in
theorem c_Tellings_countBefore (l : Launch) (G : sy_G) (h0 : Nat) (ad : Nat → Nat) (n : Nat) (fI : Nat → Nat → Int32) (fL : Nat → Nat → Int64) (j : Nat) (am : Int64) (hn : n ≤ 60) (hj : j < 60) : Met l y_Tellings_countBefore (sy_w y_Tellings_countBefore b_Tellings_countBefore 6 (some .int)) { frames := 2, cells := 0, slots := 0, locals := 42 } (va_Pc [.ref h0, .int (nI j), .long am] (sy_KP G (va_P G.1 classes (tw G.2 h0 ad n fI fL)))) (vp_Si (fun r => r = nI (tl_cb fI fL n j am))) 0 0 (fun _ => False) := by
  refine Met.ofW (cc := b_Tellings_countBefore) (maxL := 6) (ret := (some .int)) (by decide) rfl ?_
  intro p e s m args below meth c s₁ B hml hv
  obtain ⟨rfl, hP, hK⟩ := hv
  have hx := B.exec
  have hb := B.bytes
  have hr := B.returns
  have hts := atoms_spec (ws := sy_w y_Tellings_countBefore b_Tellings_countBefore 6 (some .int)) B.pre
  have ht : ∀ wd ∈ sy_T, wd.before ([.ref h0, .int (nI j), .long am] : List Value).toArray s = true := fun wd h => hts wd (List.mem_cons_of_mem _ h)
  have hown : s.vm.findClass R_Tellings = some m.cls := findClass_of_methodNamed B.named
  have hlocks := B.notSynchronized
  have hl := lv_entry ([.ref h0, .int (nI j), .long am]) (n := 6) (Nat.le_of_ble_eq_true rfl)
  rw [lg_entry_eq]
  generalize (lg_sl ([.ref h0, .int (nI j), .long am]) ++ List.replicate (6 - (lg_sl ([.ref h0, .int (nI j), .long am])).length) Slot.unset).toArray = ls at hl ⊢
  have hl : lv_has ls 6 [(0, .ref h0), (1, .int (nI j)), (2, .long am)] := hl
  refine lv_iconst (v := 0) hx hb d_Tellings_countBefore_0 (by decide) ?_
  refine lv_istore (lv' := [(4, .int 0), (0, .ref h0), (1, .int (nI j)), (2, .long am)]) hx hb d_Tellings_countBefore_1 hl (by decide) rfl (fun ls hl => ?_)
  refine lv_iconst (v := 0) hx hb d_Tellings_countBefore_3 (by decide) ?_
  refine lv_istore (lv' := [(5, .int 0), (4, .int 0), (0, .ref h0), (1, .int (nI j)), (2, .long am)]) hx hb d_Tellings_countBefore_4 hl (by decide) rfl (fun ls hl => ?_)
  refine sy_loop (σ := Nat × Nat) (nL := 6) (fun x6 => match x6 with | (k, f) => n - k) (fun x6 => match x6 with | (k, f) => [(5, .int (nI k)), (4, .int (nI f)), (0, .ref h0), (1, .int (nI j)), (2, .long am)]) (fun x6 => match x6 with | (k, f) => k ≤ n ∧ f = nn_ct (tl_pC fI fL j am) k) ?_ (0, 0) ?_ (lv_sub hl [0, 1, 2, 3, 4] rfl)
  · intro x6 ls hI hl ih6
    obtain ⟨k, f⟩ := x6
    have hl : lv_has ls 6 [(5, .int (nI k)), (4, .int (nI f)), (0, .ref h0), (1, .int (nI j)), (2, .long am)] := hl
    obtain ⟨hk, hI⟩ := hI
    refine lv_iload hx hb d_Tellings_countBefore_6 (lv_at hl 0 rfl) ?_
    refine lv_aload_n hx hb d_Tellings_countBefore_8 rfl (lv_at hl 2 rfl) ?_
    refine va_get (D := G.1) (ci := 5) (v := .int (nI n)) (C := R_Tellings) (T := F_Tellings) (N := 8) hx hb ht i_Tellings hown hK.1 hP 0 rfl rfl 7 (by decide) (ht _ m_67) (fun _ h9 => h9) rfl d_Tellings_countBefore_9 ?_
    refine lv_icmp_ge (tgt := 43) hx hb d_Tellings_countBefore_12 (by decide) (fun c_1 => ?_) (fun c_1 => ?_)
    · have c_1 : n ≤ k := (nI_leI (a := n) (b := k) (by omega) (by omega)).mp c_1
      have c_1n : ¬ k < n := by omega
      refine lv_iload hx hb d_Tellings_countBefore_43 (lv_at hl 1 rfl) ?_
      exact W.iret (v := nI f) hx hb hr (fun t ht hW => ⟨nI f, rfl, by rw [hI, show k = n by omega] <;> rfl, ht⟩) (fun q h => by cases h) d_Tellings_countBefore_45
    · have c_1 : ¬ n ≤ k := fun h9 => c_1 ((nI_leI (a := n) (b := k) (by omega) (by omega)).mpr h9)
      have c_1n : k < n := by omega
      refine lv_iload hx hb d_Tellings_countBefore_15 (lv_at hl 0 rfl) ?_
      refine lv_lload_n hx hb d_Tellings_countBefore_17 rfl (lv_at hl 4 rfl) ?_
      refine vp_callSi (va_Run.run (sy_runSN (As := [.int (nI k), .long am]) (rest := []) ⟨hx, hb, hml, hown, ht⟩ cl_Tellings_42 (c_DeviceSets_isIn l G k am) hK trivial rfl nm_DeviceSets_isIn rfl rfl ⟨Nat.le_of_ble_eq_true rfl, Nat.le_of_ble_eq_true rfl⟩ hl.1 (Nat.le_of_ble_eq_true rfl) d_Tellings_countBefore_18 ⟨Nat.zero_le _, Nat.zero_le _⟩)) (fun r_2 hr_2 => ?_)
      subst hr_2
      refine lv_if_eq (tgt := 37) hx hb d_Tellings_countBefore_21 (by decide) (fun c_3 => ?_) (fun c_3 => ?_)
      · have c_3 := bI_f c_3
        refine lv_iinc (v := nI (k + 1)) (lv' := [(5, .int (nI (k + 1))), (4, .int (nI f)), (0, .ref h0), (1, .int (nI j)), (2, .long am)]) hx hb d_Tellings_countBefore_37 hl (k := 0) rfl (nI_add k 1) (by decide) rfl (fun ls hl => ?_)
        refine lv_goto (tgt := 6) hx hb d_Tellings_countBefore_40 (by decide) ?_
        refine ih6 (k + 1, f) ls (show n - (k + 1) < n - k by omega) ?_ (lv_sub hl [0, 1, 2, 3, 4] rfl)
        exact ⟨by omega, by first | (rw [nn_ct, if_pos (by simp [tl_pC, c_1, c_1n, c_3]; done), ← hI]; done) | (rw [nn_ct, if_neg (by simp [tl_pC, c_1, c_1n, c_3]; done), ← hI])⟩
      · have c_3 := bI_t c_3
        refine lv_aload_n hx hb d_Tellings_countBefore_24 rfl (lv_at hl 2 rfl) ?_
        refine lv_iload hx hb d_Tellings_countBefore_25 (lv_at hl 0 rfl) ?_
        refine lv_iload_n hx hb d_Tellings_countBefore_27 rfl (lv_at hl 3 rfl) ?_
        refine vp_callSi (va_Run.run (sy_runV (As := [.int (nI k), .int (nI j)]) (rest := []) (b := h0) ⟨hx, hb, hml, hown, ht⟩ cl_Tellings_56 (c_Tellings_isBefore l G h0 ad n fI fL k j (by omega) (by omega)) hK hP (va_recv hK.1 hP (ci := 5) (q0 := 0) rfl rfl) rfl nm_Tellings_isBefore rfl rfl ⟨Nat.le_of_ble_eq_true rfl, Nat.le_of_ble_eq_true rfl⟩ hl.1 (Nat.le_of_ble_eq_true rfl) d_Tellings_countBefore_28 ⟨Nat.zero_le _, Nat.zero_le _⟩)) (fun r_4 hr_4 => ?_)
        subst hr_4
        refine lv_if_eq (tgt := 37) hx hb d_Tellings_countBefore_31 (by decide) (fun c_5 => ?_) (fun c_5 => ?_)
        · have c_5 := bI_f c_5
          refine lv_iinc (v := nI (k + 1)) (lv' := [(5, .int (nI (k + 1))), (4, .int (nI f)), (0, .ref h0), (1, .int (nI j)), (2, .long am)]) hx hb d_Tellings_countBefore_37 hl (k := 0) rfl (nI_add k 1) (by decide) rfl (fun ls hl => ?_)
          refine lv_goto (tgt := 6) hx hb d_Tellings_countBefore_40 (by decide) ?_
          refine ih6 (k + 1, f) ls (show n - (k + 1) < n - k by omega) ?_ (lv_sub hl [0, 1, 2, 3, 4] rfl)
          exact ⟨by omega, by first | (rw [nn_ct, if_pos (by simp [tl_pC, c_1, c_1n, c_3, c_5]; done), ← hI]; done) | (rw [nn_ct, if_neg (by simp [tl_pC, c_1, c_1n, c_3, c_5]; done), ← hI])⟩
        · have c_5 := bI_t c_5
          refine lv_iinc (v := nI (f + 1)) (lv' := [(4, .int (nI (f + 1))), (5, .int (nI k)), (0, .ref h0), (1, .int (nI j)), (2, .long am)]) hx hb d_Tellings_countBefore_34 hl (k := 1) rfl (nI_add f 1) (by decide) rfl (fun ls hl => ?_)
          refine lv_iinc (v := nI (k + 1)) (lv' := [(5, .int (nI (k + 1))), (4, .int (nI (f + 1))), (0, .ref h0), (1, .int (nI j)), (2, .long am)]) hx hb d_Tellings_countBefore_37 hl (k := 1) rfl (nI_add k 1) (by decide) rfl (fun ls hl => ?_)
          refine lv_goto (tgt := 6) hx hb d_Tellings_countBefore_40 (by decide) ?_
          refine ih6 (k + 1, f + 1) ls (show n - (k + 1) < n - k by omega) ?_ (lv_sub hl [0, 1, 2, 3, 4] rfl)
          exact ⟨by omega, by first | (rw [nn_ct, if_pos (by simp [tl_pC, c_1, c_1n, c_3, c_5]; done), ← hI]; done) | (rw [nn_ct, if_neg (by simp [tl_pC, c_1, c_1n, c_3, c_5]; done), ← hI])⟩
  · exact ⟨Nat.zero_le _, rfl⟩
set_option maxHeartbeats 4000000 in
set_option maxRecDepth 100000 in
theorem c_Tellings_inPlace (l : Launch) (G : sy_G) (h0 : Nat) (ad : Nat → Nat) (n : Nat) (fI : Nat → Nat → Int32) (fL : Nat → Nat → Int64) (am : Int64) (pl : Int32) (hn : n ≤ 60) : Met l y_Tellings_inPlace (sy_w y_Tellings_inPlace b_Tellings_inPlace 5 (some .int)) { frames := 3, cells := 0, slots := 0, locals := 67 } (va_Pc [.ref h0, .long am, .int pl] (sy_KP G (va_P G.1 classes (tw G.2 h0 ad n fI fL)))) (vp_Si (fun r => r = oI (tl_ip fI fL n am pl))) 0 0 (fun _ => False) := by
  refine Met.ofW (cc := b_Tellings_inPlace) (maxL := 5) (ret := (some .int)) (by decide) rfl ?_
  intro p e s m args below meth c s₁ B hml hv
  obtain ⟨rfl, hP, hK⟩ := hv
  have hx := B.exec
  have hb := B.bytes
  have hr := B.returns
  have hts := atoms_spec (ws := sy_w y_Tellings_inPlace b_Tellings_inPlace 5 (some .int)) B.pre
  have ht : ∀ wd ∈ sy_T, wd.before ([.ref h0, .long am, .int pl] : List Value).toArray s = true := fun wd h => hts wd (List.mem_cons_of_mem _ h)
  have hown : s.vm.findClass R_Tellings = some m.cls := findClass_of_methodNamed B.named
  have hlocks := B.notSynchronized
  have hl := lv_entry ([.ref h0, .long am, .int pl]) (n := 5) (Nat.le_of_ble_eq_true rfl)
  rw [lg_entry_eq]
  generalize (lg_sl ([.ref h0, .long am, .int pl]) ++ List.replicate (5 - (lg_sl ([.ref h0, .long am, .int pl])).length) Slot.unset).toArray = ls at hl ⊢
  have hl : lv_has ls 5 [(0, .ref h0), (1, .long am), (3, .int pl)] := hl
  refine lv_iconst (v := 0) hx hb d_Tellings_inPlace_0 (by decide) ?_
  refine lv_istore (lv' := [(4, .int 0), (0, .ref h0), (1, .long am), (3, .int pl)]) hx hb d_Tellings_inPlace_1 hl (by decide) rfl (fun ls hl => ?_)
  refine sy_loop (σ := Nat) (nL := 5) (fun k => n - k) (fun k => [(4, .int (nI k)), (0, .ref h0), (1, .long am), (3, .int pl)]) (fun k => k ≤ n ∧ nn_ff (tl_pI fI fL n am pl) k = none) ?_ 0 ?_ (lv_sub hl [0, 1, 2, 3] rfl)
  · intro k ls hI hl ih3
    have hl : lv_has ls 5 [(4, .int (nI k)), (0, .ref h0), (1, .long am), (3, .int pl)] := hl
    obtain ⟨hk, hI⟩ := hI
    refine lv_iload hx hb d_Tellings_inPlace_3 (lv_at hl 0 rfl) ?_
    refine lv_aload_n hx hb d_Tellings_inPlace_5 rfl (lv_at hl 1 rfl) ?_
    refine va_get (D := G.1) (ci := 5) (v := .int (nI n)) (C := R_Tellings) (T := F_Tellings) (N := 8) hx hb ht i_Tellings hown hK.1 hP 0 rfl rfl 7 (by decide) (ht _ m_67) (fun _ h9 => h9) rfl d_Tellings_inPlace_6 ?_
    refine lv_icmp_ge (tgt := 41) hx hb d_Tellings_inPlace_9 (by decide) (fun c_1 => ?_) (fun c_1 => ?_)
    · have c_1 : n ≤ k := (nI_leI (a := n) (b := k) (by omega) (by omega)).mp c_1
      have c_1n : ¬ k < n := by omega
      refine lv_iconst (v := (-1)) hx hb d_Tellings_inPlace_41 (by decide) ?_
      exact W.iret (v := (-1 : Int32)) hx hb hr (fun t ht hW => ⟨(-1 : Int32), rfl, by first | (rw [tl_ip, nn_ff_of (k := k) (by omega) hI (by simp [tl_pI, c_1, c_1n]; done)]; rfl) | (have e : k = n := (by omega); rw [e] at hI; rw [tl_ip, hI]; rfl), ht⟩) (fun q h => by cases h) d_Tellings_inPlace_42
    · have c_1 : ¬ n ≤ k := fun h9 => c_1 ((nI_leI (a := n) (b := k) (by omega) (by omega)).mpr h9)
      have c_1n : k < n := by omega
      refine lv_iload hx hb d_Tellings_inPlace_12 (lv_at hl 0 rfl) ?_
      refine lv_lload_n hx hb d_Tellings_inPlace_14 rfl (lv_at hl 2 rfl) ?_
      refine vp_callSi (va_Run.run (sy_runSN (As := [.int (nI k), .long am]) (rest := []) ⟨hx, hb, hml, hown, ht⟩ cl_Tellings_42 (c_DeviceSets_isIn l G k am) hK trivial rfl nm_DeviceSets_isIn rfl rfl ⟨Nat.le_of_ble_eq_true rfl, Nat.le_of_ble_eq_true rfl⟩ hl.1 (Nat.le_of_ble_eq_true rfl) d_Tellings_inPlace_15 ⟨Nat.zero_le _, Nat.zero_le _⟩)) (fun r_2 hr_2 => ?_)
      subst hr_2
      refine lv_if_eq (tgt := 35) hx hb d_Tellings_inPlace_18 (by decide) (fun c_3 => ?_) (fun c_3 => ?_)
      · have c_3 := bI_f c_3
        refine lv_iinc (v := nI (k + 1)) (lv' := [(4, .int (nI (k + 1))), (0, .ref h0), (1, .long am), (3, .int pl)]) hx hb d_Tellings_inPlace_35 hl (k := 0) rfl (nI_add k 1) (by decide) rfl (fun ls hl => ?_)
        refine lv_goto (tgt := 3) hx hb d_Tellings_inPlace_38 (by decide) ?_
        refine ih3 (k + 1) ls (show n - (k + 1) < n - k by omega) ?_ (lv_sub hl [0, 1, 2, 3] rfl)
        exact ⟨by omega, by simp [nn_ff, hI, tl_pI, c_1, c_1n, c_3]⟩
      · have c_3 := bI_t c_3
        refine lv_aload_n hx hb d_Tellings_inPlace_21 rfl (lv_at hl 1 rfl) ?_
        refine lv_iload hx hb d_Tellings_inPlace_22 (lv_at hl 0 rfl) ?_
        refine lv_lload_n hx hb d_Tellings_inPlace_24 rfl (lv_at hl 2 rfl) ?_
        refine vp_callSi (va_Run.run (sy_runV (As := [.int (nI k), .long am]) (rest := []) (b := h0) ⟨hx, hb, hml, hown, ht⟩ cl_Tellings_60 (c_Tellings_countBefore l G h0 ad n fI fL k am (by omega) (by omega)) hK hP (va_recv hK.1 hP (ci := 5) (q0 := 0) rfl rfl) rfl nm_Tellings_countBefore rfl rfl ⟨Nat.le_of_ble_eq_true rfl, Nat.le_of_ble_eq_true rfl⟩ hl.1 (Nat.le_of_ble_eq_true rfl) d_Tellings_inPlace_25 ⟨Nat.zero_le _, Nat.zero_le _⟩)) (fun r_4 hr_4 => ?_)
        subst hr_4
        refine lv_iload_n hx hb d_Tellings_inPlace_28 rfl (lv_at hl 3 rfl) ?_
        refine lv_icmp_ne (tgt := 35) hx hb d_Tellings_inPlace_29 (by decide) (fun c_5 => ?_) (fun c_5 => ?_)
        · refine lv_iinc (v := nI (k + 1)) (lv' := [(4, .int (nI (k + 1))), (0, .ref h0), (1, .long am), (3, .int pl)]) hx hb d_Tellings_inPlace_35 hl (k := 0) rfl (nI_add k 1) (by decide) rfl (fun ls hl => ?_)
          refine lv_goto (tgt := 3) hx hb d_Tellings_inPlace_38 (by decide) ?_
          refine ih3 (k + 1) ls (show n - (k + 1) < n - k by omega) ?_ (lv_sub hl [0, 1, 2, 3] rfl)
          exact ⟨by omega, by simp [nn_ff, hI, tl_pI, c_1, c_1n, c_3, c_5]⟩
        · refine lv_iload hx hb d_Tellings_inPlace_32 (lv_at hl 0 rfl) ?_
          exact W.iret (v := nI k) hx hb hr (fun t ht hW => ⟨nI k, rfl, by first | (rw [tl_ip, nn_ff_of (k := k) (by omega) hI (by simp [tl_pI, c_1, c_1n, c_3, c_5]; done)]; rfl) | (have e : k = n := (by omega); rw [e] at hI; rw [tl_ip, hI]; rfl), ht⟩) (fun q h => by cases h) d_Tellings_inPlace_34
  · exact ⟨Nat.zero_le _, rfl⟩
set_option maxHeartbeats 4000000 in
set_option maxRecDepth 100000 in
theorem c_Tellings_unsettled (l : Launch) (G : sy_G) (h0 : Nat) (ad : Nat → Nat) (n : Nat) (fI : Nat → Nat → Int32) (fL : Nat → Nat → Int64) (lv : Int64) (ch : Int64) (hn : n ≤ 60) : Met l y_Tellings_unsettled (sy_w y_Tellings_unsettled b_Tellings_unsettled 12 (some .long)) { frames := 3, cells := 0, slots := 0, locals := 68 } (va_Pc [.ref h0, .long lv, .long ch] (sy_KP G (va_P G.1 classes (tw G.2 h0 ad n fI fL)))) (vp_Sl (fun r => r = tl_us fI n lv ch)) 0 0 (fun _ => False) := by
  refine Met.ofW (cc := b_Tellings_unsettled) (maxL := 12) (ret := (some .long)) (by decide) rfl ?_
  intro p e s m args below meth c s₁ B hml hv
  obtain ⟨rfl, hP, hK⟩ := hv
  have hx := B.exec
  have hb := B.bytes
  have hr := B.returns
  have hts := atoms_spec (ws := sy_w y_Tellings_unsettled b_Tellings_unsettled 12 (some .long)) B.pre
  have ht : ∀ wd ∈ sy_T, wd.before ([.ref h0, .long lv, .long ch] : List Value).toArray s = true := fun wd h => hts wd (List.mem_cons_of_mem _ h)
  have hown : s.vm.findClass R_Tellings = some m.cls := findClass_of_methodNamed B.named
  have hlocks := B.notSynchronized
  have hl := lv_entry ([.ref h0, .long lv, .long ch]) (n := 12) (Nat.le_of_ble_eq_true rfl)
  rw [lg_entry_eq]
  generalize (lg_sl ([.ref h0, .long lv, .long ch]) ++ List.replicate (12 - (lg_sl ([.ref h0, .long lv, .long ch])).length) Slot.unset).toArray = ls at hl ⊢
  have hl : lv_has ls 12 [(0, .ref h0), (1, .long lv), (3, .long ch)] := hl
  refine lv_lconst (v := 0) hx hb d_Tellings_unsettled_0 (by decide) ?_
  refine lv_lstore (lv' := [(5, .long 0), (0, .ref h0), (1, .long lv), (3, .long ch)]) hx hb d_Tellings_unsettled_1 hl (by decide) rfl (fun ls hl => ?_)
  refine lv_lload_n hx hb d_Tellings_unsettled_3 rfl (lv_at hl 2 rfl) ?_
  refine lv_lstore (lv' := [(7, .long lv), (5, .long 0), (0, .ref h0), (1, .long lv), (3, .long ch)]) hx hb d_Tellings_unsettled_4 hl (by decide) rfl (fun ls hl => ?_)
  refine lv_iconst (v := 0) hx hb d_Tellings_unsettled_6 (by decide) ?_
  refine lv_istore (lv' := [(9, .int 0), (7, .long lv), (5, .long 0), (0, .ref h0), (1, .long lv), (3, .long ch)]) hx hb d_Tellings_unsettled_7 hl (by decide) rfl (fun ls hl => ?_)
  refine sy_loop (σ := Nat × Int64 × Int64) (nL := 12) (fun x9 => match x9 with | (k, f, g) => n - k) (fun x9 => match x9 with | (k, f, g) => [(9, .int (nI k)), (5, .long f), (7, .long g), (0, .ref h0), (1, .long lv), (3, .long ch)]) (fun x9 => match x9 with | (k, f, g) => k ≤ n ∧ f = bs_m (tl_pU fI n lv ch) k ∧ g = tl_usr fI n lv k) ?_ (0, (0 : Int64), lv) ?_ (lv_sub hl [0, 2, 1, 3, 4, 5] rfl)
  · intro x9 ls hI hl ih9
    obtain ⟨k, f, g⟩ := x9
    have hl : lv_has ls 12 [(9, .int (nI k)), (5, .long f), (7, .long g), (0, .ref h0), (1, .long lv), (3, .long ch)] := hl
    obtain ⟨hk, hI, hI2⟩ := hI
    refine lv_iload hx hb d_Tellings_unsettled_9 (lv_at hl 0 rfl) ?_
    refine lv_aload_n hx hb d_Tellings_unsettled_11 rfl (lv_at hl 3 rfl) ?_
    refine va_get (D := G.1) (ci := 5) (v := .int (nI n)) (C := R_Tellings) (T := F_Tellings) (N := 8) hx hb ht i_Tellings hown hK.1 hP 0 rfl rfl 7 (by decide) (ht _ m_67) (fun _ h9 => h9) rfl d_Tellings_unsettled_12 ?_
    refine lv_icmp_ge (tgt := 84) hx hb d_Tellings_unsettled_15 (by decide) (fun c_1 => ?_) (fun c_1 => ?_)
    · have c_1 : n ≤ k := (nI_leI (a := n) (b := k) (by omega) (by omega)).mp c_1
      have c_1n : ¬ k < n := by omega
      refine lv_lload hx hb d_Tellings_unsettled_84 (lv_at hl 1 rfl) ?_
      exact W.lret (v := f) hx hb hr (fun t ht hW => ⟨f, rfl, by rw [hI, show k = n by omega] <;> rfl, ht⟩) (fun q h => by cases h) d_Tellings_unsettled_86
    · have c_1 : ¬ n ≤ k := fun h9 => c_1 ((nI_leI (a := n) (b := k) (by omega) (by omega)).mpr h9)
      have c_1n : k < n := by omega
      refine lv_iload hx hb d_Tellings_unsettled_18 (lv_at hl 0 rfl) ?_
      refine lv_lload hx hb d_Tellings_unsettled_20 (lv_at hl 2 rfl) ?_
      refine vp_callSi (va_Run.run (sy_runSN (As := [.int (nI k), .long g]) (rest := []) ⟨hx, hb, hml, hown, ht⟩ cl_Tellings_42 (c_DeviceSets_isIn l G k g) hK trivial rfl nm_DeviceSets_isIn rfl rfl ⟨Nat.le_of_ble_eq_true rfl, Nat.le_of_ble_eq_true rfl⟩ hl.1 (Nat.le_of_ble_eq_true rfl) d_Tellings_unsettled_22 ⟨Nat.zero_le _, Nat.zero_le _⟩)) (fun r_2 hr_2 => ?_)
      subst hr_2
      refine lv_if_eq (tgt := 78) hx hb d_Tellings_unsettled_25 (by decide) (fun c_3 => ?_) (fun c_3 => ?_)
      · have c_3 := bI_f c_3
        refine lv_iinc (v := nI (k + 1)) (lv' := [(9, .int (nI (k + 1))), (5, .long f), (7, .long g), (0, .ref h0), (1, .long lv), (3, .long ch)]) hx hb d_Tellings_unsettled_78 hl (k := 0) rfl (nI_add k 1) (by decide) rfl (fun ls hl => ?_)
        refine lv_goto (tgt := 9) hx hb d_Tellings_unsettled_81 (by decide) ?_
        refine ih9 (k + 1, f, g) ls (show n - (k + 1) < n - k by omega) ?_ (lv_sub hl [0, 1, 2, 3, 4, 5] rfl)
        exact ⟨by omega, by first | (rw [bs_m, if_pos (by simp [tl_pU, ← hI2, c_1, c_1n, c_3]; done), ← hI]; done) | (rw [bs_m, if_neg (by simp [tl_pU, ← hI2, c_1, c_1n, c_3]; done), ← hI]), by first | (rw [tl_usr, if_pos (by simp [← hI2, c_1, c_1n, c_3]; done), ← hI2]; done) | (rw [tl_usr, if_neg (by simp [← hI2, c_1, c_1n, c_3]; done), ← hI2])⟩
      · have c_3 := bI_t c_3
        refine lv_aload_n hx hb d_Tellings_unsettled_28 rfl (lv_at hl 3 rfl) ?_
        refine lv_iload hx hb d_Tellings_unsettled_29 (lv_at hl 0 rfl) ?_
        refine lv_lload_n hx hb d_Tellings_unsettled_31 rfl (lv_at hl 4 rfl) ?_
        refine vp_callSl (va_Run.run (sy_runV (As := [.int (nI k), .long lv]) (rest := []) (b := h0) ⟨hx, hb, hml, hown, ht⟩ cl_Tellings_46 (c_Tellings_ofKeyOf l G h0 ad n fI fL k lv (by omega) (by omega)) hK hP (va_recv hK.1 hP (ci := 5) (q0 := 0) rfl rfl) rfl nm_Tellings_ofKeyOf rfl rfl ⟨Nat.le_of_ble_eq_true rfl, Nat.le_of_ble_eq_true rfl⟩ hl.1 (Nat.le_of_ble_eq_true rfl) d_Tellings_unsettled_32 ⟨Nat.zero_le _, Nat.zero_le _⟩)) (fun r_4 hr_4 => ?_)
        subst hr_4
        refine lv_lstore (lv' := [(10, .long (tl_key fI n k lv)), (9, .int (nI k)), (5, .long f), (7, .long g), (0, .ref h0), (1, .long lv), (3, .long ch)]) hx hb d_Tellings_unsettled_35 hl (by decide) rfl (fun ls hl => ?_)
        refine lv_lload hx hb d_Tellings_unsettled_37 (lv_at hl 3 rfl) ?_
        refine lv_lload hx hb d_Tellings_unsettled_39 (lv_at hl 0 rfl) ?_
        refine lv_ldc2 (v := (-1)) hx hb hown (ht _ m_303) d_Tellings_unsettled_41 ?_
        refine lv_lxor hx hb d_Tellings_unsettled_44 ?_
        refine lv_land hx hb d_Tellings_unsettled_45 ?_
        refine lv_lstore (lv' := [(7, .long (g &&& ((tl_key fI n k lv) ^^^ (-1)))), (10, .long (tl_key fI n k lv)), (9, .int (nI k)), (5, .long f), (0, .ref h0), (1, .long lv), (3, .long ch)]) hx hb d_Tellings_unsettled_46 hl (by decide) rfl (fun ls hl => ?_)
        refine lv_lload hx hb d_Tellings_unsettled_48 (lv_at hl 1 rfl) ?_
        refine lv_iload hx hb d_Tellings_unsettled_50 (lv_at hl 2 rfl) ?_
        refine vp_callSl (va_Run.run (sy_runSN (As := [.int (nI k)]) (rest := [.long (tl_key fI n k lv)]) ⟨hx, hb, hml, hown, ht⟩ cl_Tellings_38 (c_DeviceSets_bit l G k) hK trivial rfl nm_DeviceSets_bit rfl rfl ⟨Nat.le_of_ble_eq_true rfl, Nat.le_of_ble_eq_true rfl⟩ hl.1 (Nat.le_of_ble_eq_true rfl) d_Tellings_unsettled_52 ⟨Nat.zero_le _, Nat.zero_le _⟩)) (fun r_5 hr_5 => ?_)
        subst hr_5
        refine sy_lc_eq (tgt := 78) hx hb d_Tellings_unsettled_55 d_Tellings_unsettled_56 (by decide) (fun c_6 => ?_) (fun c_6 => ?_)
        · refine lv_iinc (v := nI (k + 1)) (lv' := [(9, .int (nI (k + 1))), (7, .long (g &&& ((tl_key fI n k lv) ^^^ (-1)))), (10, .long (tl_key fI n k lv)), (5, .long f), (0, .ref h0), (1, .long lv), (3, .long ch)]) hx hb d_Tellings_unsettled_78 hl (k := 2) rfl (nI_add k 1) (by decide) rfl (fun ls hl => ?_)
          refine lv_goto (tgt := 9) hx hb d_Tellings_unsettled_81 (by decide) ?_
          refine ih9 (k + 1, f, g &&& ((tl_key fI n k lv) ^^^ (-1))) ls (show n - (k + 1) < n - k by omega) ?_ (lv_sub hl [0, 3, 1, 4, 5, 6] rfl)
          exact ⟨by omega, by first | (rw [bs_m, if_pos (by simp [tl_pU, ← hI2, c_1, c_1n, c_3, c_6]; done), ← hI]; done) | (rw [bs_m, if_neg (by simp [tl_pU, ← hI2, c_1, c_1n, c_3, c_6]; done), ← hI]), by first | (rw [tl_usr, if_pos (by simp [← hI2, c_1, c_1n, c_3, c_6]; done), ← hI2]; done) | (rw [tl_usr, if_neg (by simp [← hI2, c_1, c_1n, c_3, c_6]; done), ← hI2])⟩
        · refine lv_lload hx hb d_Tellings_unsettled_59 (lv_at hl 1 rfl) ?_
          refine lv_lload_n hx hb d_Tellings_unsettled_61 rfl (lv_at hl 6 rfl) ?_
          refine lv_land hx hb d_Tellings_unsettled_62 ?_
          refine lv_lconst (v := 0) hx hb d_Tellings_unsettled_63 (by decide) ?_
          refine sy_lc_ne (tgt := 78) hx hb d_Tellings_unsettled_64 d_Tellings_unsettled_65 (by decide) (fun c_7 => ?_) (fun c_7 => ?_)
          · refine lv_iinc (v := nI (k + 1)) (lv' := [(9, .int (nI (k + 1))), (7, .long (g &&& ((tl_key fI n k lv) ^^^ (-1)))), (10, .long (tl_key fI n k lv)), (5, .long f), (0, .ref h0), (1, .long lv), (3, .long ch)]) hx hb d_Tellings_unsettled_78 hl (k := 2) rfl (nI_add k 1) (by decide) rfl (fun ls hl => ?_)
            refine lv_goto (tgt := 9) hx hb d_Tellings_unsettled_81 (by decide) ?_
            refine ih9 (k + 1, f, g &&& ((tl_key fI n k lv) ^^^ (-1))) ls (show n - (k + 1) < n - k by omega) ?_ (lv_sub hl [0, 3, 1, 4, 5, 6] rfl)
            exact ⟨by omega, by first | (rw [bs_m, if_pos (by simp [tl_pU, ← hI2, c_1, c_1n, c_3, c_6, c_7]; done), ← hI]; done) | (rw [bs_m, if_neg (by simp [tl_pU, ← hI2, c_1, c_1n, c_3, c_6, c_7]; done), ← hI]), by first | (rw [tl_usr, if_pos (by simp [← hI2, c_1, c_1n, c_3, c_6, c_7]; done), ← hI2]; done) | (rw [tl_usr, if_neg (by simp [← hI2, c_1, c_1n, c_3, c_6, c_7]; done), ← hI2])⟩
          · refine lv_lload hx hb d_Tellings_unsettled_68 (lv_at hl 3 rfl) ?_
            refine lv_iload hx hb d_Tellings_unsettled_70 (lv_at hl 2 rfl) ?_
            refine vp_callSl (va_Run.run (sy_runSN (As := [.int (nI k)]) (rest := [.long f]) ⟨hx, hb, hml, hown, ht⟩ cl_Tellings_38 (c_DeviceSets_bit l G k) hK trivial rfl nm_DeviceSets_bit rfl rfl ⟨Nat.le_of_ble_eq_true rfl, Nat.le_of_ble_eq_true rfl⟩ hl.1 (Nat.le_of_ble_eq_true rfl) d_Tellings_unsettled_72 ⟨Nat.zero_le _, Nat.zero_le _⟩)) (fun r_8 hr_8 => ?_)
            subst hr_8
            refine lv_lor hx hb d_Tellings_unsettled_75 ?_
            refine lv_lstore (lv' := [(5, .long (f ||| (bs_b k))), (7, .long (g &&& ((tl_key fI n k lv) ^^^ (-1)))), (10, .long (tl_key fI n k lv)), (9, .int (nI k)), (0, .ref h0), (1, .long lv), (3, .long ch)]) hx hb d_Tellings_unsettled_76 hl (by decide) rfl (fun ls hl => ?_)
            refine lv_iinc (v := nI (k + 1)) (lv' := [(9, .int (nI (k + 1))), (5, .long (f ||| (bs_b k))), (7, .long (g &&& ((tl_key fI n k lv) ^^^ (-1)))), (10, .long (tl_key fI n k lv)), (0, .ref h0), (1, .long lv), (3, .long ch)]) hx hb d_Tellings_unsettled_78 hl (k := 3) rfl (nI_add k 1) (by decide) rfl (fun ls hl => ?_)
            refine lv_goto (tgt := 9) hx hb d_Tellings_unsettled_81 (by decide) ?_
            refine ih9 (k + 1, f ||| (bs_b k), g &&& ((tl_key fI n k lv) ^^^ (-1))) ls (show n - (k + 1) < n - k by omega) ?_ (lv_sub hl [0, 1, 2, 4, 5, 6] rfl)
            exact ⟨by omega, by first | (rw [bs_m, if_pos (by simp [tl_pU, ← hI2, c_1, c_1n, c_3, c_6, c_7]; done), ← hI]; done) | (rw [bs_m, if_neg (by simp [tl_pU, ← hI2, c_1, c_1n, c_3, c_6, c_7]; done), ← hI]), by first | (rw [tl_usr, if_pos (by simp [← hI2, c_1, c_1n, c_3, c_6, c_7]; done), ← hI2]; done) | (rw [tl_usr, if_neg (by simp [← hI2, c_1, c_1n, c_3, c_6, c_7]; done), ← hI2])⟩
  · exact ⟨Nat.zero_le _, rfl, rfl⟩
set_option maxHeartbeats 4000000 in
set_option maxRecDepth 100000 in
theorem c_Tellings_holding (l : Launch) (G : sy_G) (h0 : Nat) (ad : Nat → Nat) (n : Nat) (fI : Nat → Nat → Int32) (fL : Nat → Nat → Int64) (lv : Int64) (ch : Int64) (hn : n ≤ 60) : Met l y_Tellings_holding (sy_w y_Tellings_holding b_Tellings_holding 10 (some .long)) { frames := 3, cells := 0, slots := 0, locals := 68 } (va_Pc [.ref h0, .long lv, .long ch] (sy_KP G (va_P G.1 classes (tw G.2 h0 ad n fI fL)))) (vp_Sl (fun r => r = tl_hold fI fL n lv ch)) 0 0 (fun _ => False) := by
  refine Met.ofW (cc := b_Tellings_holding) (maxL := 10) (ret := (some .long)) (by decide) rfl ?_
  intro p e s m args below meth c s₁ B hml hv
  obtain ⟨rfl, hP, hK⟩ := hv
  have hx := B.exec
  have hb := B.bytes
  have hr := B.returns
  have hts := atoms_spec (ws := sy_w y_Tellings_holding b_Tellings_holding 10 (some .long)) B.pre
  have ht : ∀ wd ∈ sy_T, wd.before ([.ref h0, .long lv, .long ch] : List Value).toArray s = true := fun wd h => hts wd (List.mem_cons_of_mem _ h)
  have hown : s.vm.findClass R_Tellings = some m.cls := findClass_of_methodNamed B.named
  have hlocks := B.notSynchronized
  have hl := lv_entry ([.ref h0, .long lv, .long ch]) (n := 10) (Nat.le_of_ble_eq_true rfl)
  rw [lg_entry_eq]
  generalize (lg_sl ([.ref h0, .long lv, .long ch]) ++ List.replicate (10 - (lg_sl ([.ref h0, .long lv, .long ch])).length) Slot.unset).toArray = ls at hl ⊢
  have hl : lv_has ls 10 [(0, .ref h0), (1, .long lv), (3, .long ch)] := hl
  refine lv_lconst (v := 0) hx hb d_Tellings_holding_0 (by decide) ?_
  refine lv_lstore (lv' := [(5, .long 0), (0, .ref h0), (1, .long lv), (3, .long ch)]) hx hb d_Tellings_holding_1 hl (by decide) rfl (fun ls hl => ?_)
  refine lv_iconst (v := 0) hx hb d_Tellings_holding_3 (by decide) ?_
  refine lv_istore (lv' := [(7, .int 0), (5, .long 0), (0, .ref h0), (1, .long lv), (3, .long ch)]) hx hb d_Tellings_holding_4 hl (by decide) rfl (fun ls hl => ?_)
  refine sy_loop (σ := Nat × Int64) (nL := 10) (fun x6 => match x6 with | (k, f) => n - k) (fun x6 => match x6 with | (k, f) => [(7, .int (nI k)), (5, .long f), (0, .ref h0), (1, .long lv), (3, .long ch)]) (fun x6 => match x6 with | (k, f) => k ≤ n ∧ f = bs_m (tl_pH fI fL n lv ch) k) ?_ (0, (0 : Int64)) ?_ (lv_sub hl [0, 1, 2, 3, 4] rfl)
  · intro x6 ls hI hl ih6
    obtain ⟨k, f⟩ := x6
    have hl : lv_has ls 10 [(7, .int (nI k)), (5, .long f), (0, .ref h0), (1, .long lv), (3, .long ch)] := hl
    obtain ⟨hk, hI⟩ := hI
    refine lv_iload hx hb d_Tellings_holding_6 (lv_at hl 0 rfl) ?_
    refine lv_aload_n hx hb d_Tellings_holding_8 rfl (lv_at hl 2 rfl) ?_
    refine va_get (D := G.1) (ci := 5) (v := .int (nI n)) (C := R_Tellings) (T := F_Tellings) (N := 8) hx hb ht i_Tellings hown hK.1 hP 0 rfl rfl 7 (by decide) (ht _ m_67) (fun _ h9 => h9) rfl d_Tellings_holding_9 ?_
    refine lv_icmp_ge (tgt := 73) hx hb d_Tellings_holding_12 (by decide) (fun c_1 => ?_) (fun c_1 => ?_)
    · have c_1 : n ≤ k := (nI_leI (a := n) (b := k) (by omega) (by omega)).mp c_1
      have c_1n : ¬ k < n := by omega
      refine lv_lload hx hb d_Tellings_holding_73 (lv_at hl 1 rfl) ?_
      exact W.lret (v := f) hx hb hr (fun t ht hW => ⟨f, rfl, by rw [hI, show k = n by omega] <;> rfl, ht⟩) (fun q h => by cases h) d_Tellings_holding_75
    · have c_1 : ¬ n ≤ k := fun h9 => c_1 ((nI_leI (a := n) (b := k) (by omega) (by omega)).mpr h9)
      have c_1n : k < n := by omega
      refine lv_iload hx hb d_Tellings_holding_15 (lv_at hl 0 rfl) ?_
      refine lv_lload_n hx hb d_Tellings_holding_17 rfl (lv_at hl 3 rfl) ?_
      refine vp_callSi (va_Run.run (sy_runSN (As := [.int (nI k), .long lv]) (rest := []) ⟨hx, hb, hml, hown, ht⟩ cl_Tellings_42 (c_DeviceSets_isIn l G k lv) hK trivial rfl nm_DeviceSets_isIn rfl rfl ⟨Nat.le_of_ble_eq_true rfl, Nat.le_of_ble_eq_true rfl⟩ hl.1 (Nat.le_of_ble_eq_true rfl) d_Tellings_holding_18 ⟨Nat.zero_le _, Nat.zero_le _⟩)) (fun r_2 hr_2 => ?_)
      subst hr_2
      refine lv_if_eq (tgt := 67) hx hb d_Tellings_holding_21 (by decide) (fun c_3 => ?_) (fun c_3 => ?_)
      · have c_3 := bI_f c_3
        refine lv_iinc (v := nI (k + 1)) (lv' := [(7, .int (nI (k + 1))), (5, .long f), (0, .ref h0), (1, .long lv), (3, .long ch)]) hx hb d_Tellings_holding_67 hl (k := 0) rfl (nI_add k 1) (by decide) rfl (fun ls hl => ?_)
        refine lv_goto (tgt := 6) hx hb d_Tellings_holding_70 (by decide) ?_
        refine ih6 (k + 1, f) ls (show n - (k + 1) < n - k by omega) ?_ (lv_sub hl [0, 1, 2, 3, 4] rfl)
        exact ⟨by omega, by first | (rw [bs_m, if_pos (by simp [tl_pH, c_1, c_1n, c_3]; done), ← hI]; done) | (rw [bs_m, if_neg (by simp [tl_pH, c_1, c_1n, c_3]; done), ← hI])⟩
      · have c_3 := bI_t c_3
        refine lv_aload_n hx hb d_Tellings_holding_24 rfl (lv_at hl 2 rfl) ?_
        refine lv_iload hx hb d_Tellings_holding_25 (lv_at hl 0 rfl) ?_
        refine lv_lload_n hx hb d_Tellings_holding_27 rfl (lv_at hl 3 rfl) ?_
        refine vp_callSl (va_Run.run (sy_runV (As := [.int (nI k), .long lv]) (rest := []) (b := h0) ⟨hx, hb, hml, hown, ht⟩ cl_Tellings_46 (c_Tellings_ofKeyOf l G h0 ad n fI fL k lv (by omega) (by omega)) hK hP (va_recv hK.1 hP (ci := 5) (q0 := 0) rfl rfl) rfl nm_Tellings_ofKeyOf rfl rfl ⟨Nat.le_of_ble_eq_true rfl, Nat.le_of_ble_eq_true rfl⟩ hl.1 (Nat.le_of_ble_eq_true rfl) d_Tellings_holding_28 ⟨Nat.zero_le _, Nat.zero_le _⟩)) (fun r_4 hr_4 => ?_)
        subst hr_4
        refine lv_lstore (lv' := [(8, .long (tl_key fI n k lv)), (7, .int (nI k)), (5, .long f), (0, .ref h0), (1, .long lv), (3, .long ch)]) hx hb d_Tellings_holding_31 hl (by decide) rfl (fun ls hl => ?_)
        refine lv_lload hx hb d_Tellings_holding_33 (lv_at hl 0 rfl) ?_
        refine lv_iload hx hb d_Tellings_holding_35 (lv_at hl 1 rfl) ?_
        refine vp_callSl (va_Run.run (sy_runSN (As := [.int (nI k)]) (rest := [.long (tl_key fI n k lv)]) ⟨hx, hb, hml, hown, ht⟩ cl_Tellings_38 (c_DeviceSets_bit l G k) hK trivial rfl nm_DeviceSets_bit rfl rfl ⟨Nat.le_of_ble_eq_true rfl, Nat.le_of_ble_eq_true rfl⟩ hl.1 (Nat.le_of_ble_eq_true rfl) d_Tellings_holding_37 ⟨Nat.zero_le _, Nat.zero_le _⟩)) (fun r_5 hr_5 => ?_)
        subst hr_5
        refine sy_lc_eq (tgt := 57) hx hb d_Tellings_holding_40 d_Tellings_holding_41 (by decide) (fun c_6 => ?_) (fun c_6 => ?_)
        · refine lv_lload hx hb d_Tellings_holding_57 (lv_at hl 2 rfl) ?_
          refine lv_iload hx hb d_Tellings_holding_59 (lv_at hl 1 rfl) ?_
          refine vp_callSl (va_Run.run (sy_runSN (As := [.int (nI k)]) (rest := [.long f]) ⟨hx, hb, hml, hown, ht⟩ cl_Tellings_38 (c_DeviceSets_bit l G k) hK trivial rfl nm_DeviceSets_bit rfl rfl ⟨Nat.le_of_ble_eq_true rfl, Nat.le_of_ble_eq_true rfl⟩ hl.1 (Nat.le_of_ble_eq_true rfl) d_Tellings_holding_61 ⟨Nat.zero_le _, Nat.zero_le _⟩)) (fun r_7 hr_7 => ?_)
          subst hr_7
          refine lv_lor hx hb d_Tellings_holding_64 ?_
          refine lv_lstore (lv' := [(5, .long (f ||| (bs_b k))), (8, .long (tl_key fI n k lv)), (7, .int (nI k)), (0, .ref h0), (1, .long lv), (3, .long ch)]) hx hb d_Tellings_holding_65 hl (by decide) rfl (fun ls hl => ?_)
          refine lv_iinc (v := nI (k + 1)) (lv' := [(7, .int (nI (k + 1))), (5, .long (f ||| (bs_b k))), (8, .long (tl_key fI n k lv)), (0, .ref h0), (1, .long lv), (3, .long ch)]) hx hb d_Tellings_holding_67 hl (k := 2) rfl (nI_add k 1) (by decide) rfl (fun ls hl => ?_)
          refine lv_goto (tgt := 6) hx hb d_Tellings_holding_70 (by decide) ?_
          refine ih6 (k + 1, f ||| (bs_b k)) ls (show n - (k + 1) < n - k by omega) ?_ (lv_sub hl [0, 1, 3, 4, 5] rfl)
          exact ⟨by omega, by first | (rw [bs_m, if_pos (by simp [tl_pH, c_1, c_1n, c_3, c_6]; done), ← hI]; done) | (rw [bs_m, if_neg (by simp [tl_pH, c_1, c_1n, c_3, c_6]; done), ← hI])⟩
        · refine lv_aload_n hx hb d_Tellings_holding_44 rfl (lv_at hl 3 rfl) ?_
          refine lv_lload hx hb d_Tellings_holding_45 (lv_at hl 0 rfl) ?_
          refine lv_lload_n hx hb d_Tellings_holding_47 rfl (lv_at hl 5 rfl) ?_
          refine lv_land hx hb d_Tellings_holding_48 ?_
          refine vp_callSi (va_Run.run (sy_runV (As := [.long ((tl_key fI n k lv) &&& ch)]) (rest := []) (b := h0) ⟨hx, hb, hml, hown, ht⟩ cl_Tellings_52 (c_Tellings_first l G h0 ad n fI fL ((tl_key fI n k lv) &&& ch) (by omega)) hK hP (va_recv hK.1 hP (ci := 5) (q0 := 0) rfl rfl) rfl nm_Tellings_first rfl rfl ⟨Nat.le_of_ble_eq_true rfl, Nat.le_of_ble_eq_true rfl⟩ hl.1 (Nat.le_of_ble_eq_true rfl) d_Tellings_holding_49 ⟨Nat.zero_le _, Nat.zero_le _⟩)) (fun r_8 hr_8 => ?_)
          obtain ⟨o_9, ho_9, hr_8⟩ := sy_opt hr_8
          subst hr_8
          refine lv_iload hx hb d_Tellings_holding_52 (lv_at hl 1 rfl) ?_
          rcases o_9 with _ | j_11
          · have hl : lv_has ls 10 [(8, .long (tl_key fI n k lv)), (7, .int (nI k)), (5, .long f), (0, .ref h0), (1, .long lv), (3, .long ch)] := hl
            refine lv_icmp_ne (tgt := 67) hx hb d_Tellings_holding_54 (by decide) (fun c_12 => ?_) (fun c_12 => absurd c_12.symm (oI_ne (by omega)))
            refine lv_iinc (v := nI (k + 1)) (lv' := [(7, .int (nI (k + 1))), (8, .long (tl_key fI n k lv)), (5, .long f), (0, .ref h0), (1, .long lv), (3, .long ch)]) hx hb d_Tellings_holding_67 hl (k := 1) rfl (nI_add k 1) (by decide) rfl (fun ls hl => ?_)
            refine lv_goto (tgt := 6) hx hb d_Tellings_holding_70 (by decide) ?_
            refine ih6 (k + 1, f) ls (show n - (k + 1) < n - k by omega) ?_ (lv_sub hl [0, 2, 3, 4, 5] rfl)
            exact ⟨by omega, by first | (rw [bs_m, if_pos (by simp [tl_pH, c_1, c_1n, c_3, c_6, ← ho_9, c_12]; done), ← hI]; done) | (rw [bs_m, if_neg (by simp [tl_pH, c_1, c_1n, c_3, c_6, ← ho_9, c_12]; done), ← hI])⟩
          · have hl : lv_has ls 10 [(8, .long (tl_key fI n k lv)), (7, .int (nI k)), (5, .long f), (0, .ref h0), (1, .long lv), (3, .long ch)] := hl
            have hj_11 : j_11 < 60 := by have := nn_fm_lt ho_9.symm; omega
            refine lv_icmp_ne (tgt := 67) hx hb d_Tellings_holding_54 (by decide) (fun c_13 => ?_) (fun c_13 => ?_)
            · have c_13 : ¬ j_11 = k := fun h9 => c_13 ((nI_eq (a := j_11) (b := k) (by omega) (by omega)).mpr h9)
              refine lv_iinc (v := nI (k + 1)) (lv' := [(7, .int (nI (k + 1))), (8, .long (tl_key fI n k lv)), (5, .long f), (0, .ref h0), (1, .long lv), (3, .long ch)]) hx hb d_Tellings_holding_67 hl (k := 1) rfl (nI_add k 1) (by decide) rfl (fun ls hl => ?_)
              refine lv_goto (tgt := 6) hx hb d_Tellings_holding_70 (by decide) ?_
              refine ih6 (k + 1, f) ls (show n - (k + 1) < n - k by omega) ?_ (lv_sub hl [0, 2, 3, 4, 5] rfl)
              exact ⟨by omega, by first | (rw [bs_m, if_pos (by simp [tl_pH, c_1, c_1n, c_3, c_6, ← ho_9, c_13]; done), ← hI]; done) | (rw [bs_m, if_neg (by simp [tl_pH, c_1, c_1n, c_3, c_6, ← ho_9, c_13]; done), ← hI])⟩
            · have c_13 : j_11 = k := (nI_eq (a := j_11) (b := k) (by omega) (by omega)).mp c_13
              refine lv_lload hx hb d_Tellings_holding_57 (lv_at hl 2 rfl) ?_
              refine lv_iload hx hb d_Tellings_holding_59 (lv_at hl 1 rfl) ?_
              refine vp_callSl (va_Run.run (sy_runSN (As := [.int (nI k)]) (rest := [.long f]) ⟨hx, hb, hml, hown, ht⟩ cl_Tellings_38 (c_DeviceSets_bit l G k) hK trivial rfl nm_DeviceSets_bit rfl rfl ⟨Nat.le_of_ble_eq_true rfl, Nat.le_of_ble_eq_true rfl⟩ hl.1 (Nat.le_of_ble_eq_true rfl) d_Tellings_holding_61 ⟨Nat.zero_le _, Nat.zero_le _⟩)) (fun r_14 hr_14 => ?_)
              subst hr_14
              refine lv_lor hx hb d_Tellings_holding_64 ?_
              refine lv_lstore (lv' := [(5, .long (f ||| (bs_b k))), (8, .long (tl_key fI n k lv)), (7, .int (nI k)), (0, .ref h0), (1, .long lv), (3, .long ch)]) hx hb d_Tellings_holding_65 hl (by decide) rfl (fun ls hl => ?_)
              refine lv_iinc (v := nI (k + 1)) (lv' := [(7, .int (nI (k + 1))), (5, .long (f ||| (bs_b k))), (8, .long (tl_key fI n k lv)), (0, .ref h0), (1, .long lv), (3, .long ch)]) hx hb d_Tellings_holding_67 hl (k := 2) rfl (nI_add k 1) (by decide) rfl (fun ls hl => ?_)
              refine lv_goto (tgt := 6) hx hb d_Tellings_holding_70 (by decide) ?_
              refine ih6 (k + 1, f ||| (bs_b k)) ls (show n - (k + 1) < n - k by omega) ?_ (lv_sub hl [0, 1, 3, 4, 5] rfl)
              exact ⟨by omega, by first | (rw [bs_m, if_pos (by simp [tl_pH, c_1, c_1n, c_3, c_6, ← ho_9, c_13]; done), ← hI]; done) | (rw [bs_m, if_neg (by simp [tl_pH, c_1, c_1n, c_3, c_6, ← ho_9, c_13]; done), ← hI])⟩
  · exact ⟨Nat.zero_le _, rfl⟩
set_option maxHeartbeats 4000000 in
set_option maxRecDepth 100000 in
theorem c_Tellings_sumOfKind (l : Launch) (G : sy_G) (h0 : Nat) (ad : Nat → Nat) (n : Nat) (fI : Nat → Nat → Int32) (fL : Nat → Nat → Int64) (am : Int64) (kd : Int32) (hn : n ≤ 60) : Met l y_Tellings_sumOfKind (sy_w y_Tellings_sumOfKind b_Tellings_sumOfKind 7 (some .long)) { frames := 2, cells := 0, slots := 0, locals := 42 } (va_Pc [.ref h0, .long am, .int kd] (sy_KP G (va_P G.1 classes (tw G.2 h0 ad n fI fL)))) (vp_Sl (fun r => r = tl_sum fI fL n am kd)) 0 0 (fun _ => False) := by
  refine Met.ofW (cc := b_Tellings_sumOfKind) (maxL := 7) (ret := (some .long)) (by decide) rfl ?_
  intro p e s m args below meth c s₁ B hml hv
  obtain ⟨rfl, hP, hK⟩ := hv
  have hx := B.exec
  have hb := B.bytes
  have hr := B.returns
  have hts := atoms_spec (ws := sy_w y_Tellings_sumOfKind b_Tellings_sumOfKind 7 (some .long)) B.pre
  have ht : ∀ wd ∈ sy_T, wd.before ([.ref h0, .long am, .int kd] : List Value).toArray s = true := fun wd h => hts wd (List.mem_cons_of_mem _ h)
  have hown : s.vm.findClass R_Tellings = some m.cls := findClass_of_methodNamed B.named
  have hlocks := B.notSynchronized
  have hl := lv_entry ([.ref h0, .long am, .int kd]) (n := 7) (Nat.le_of_ble_eq_true rfl)
  rw [lg_entry_eq]
  generalize (lg_sl ([.ref h0, .long am, .int kd]) ++ List.replicate (7 - (lg_sl ([.ref h0, .long am, .int kd])).length) Slot.unset).toArray = ls at hl ⊢
  have hl : lv_has ls 7 [(0, .ref h0), (1, .long am), (3, .int kd)] := hl
  refine lv_lconst (v := 0) hx hb d_Tellings_sumOfKind_0 (by decide) ?_
  refine lv_lstore (lv' := [(4, .long 0), (0, .ref h0), (1, .long am), (3, .int kd)]) hx hb d_Tellings_sumOfKind_1 hl (by decide) rfl (fun ls hl => ?_)
  refine lv_iconst (v := 0) hx hb d_Tellings_sumOfKind_3 (by decide) ?_
  refine lv_istore (lv' := [(6, .int 0), (4, .long 0), (0, .ref h0), (1, .long am), (3, .int kd)]) hx hb d_Tellings_sumOfKind_4 hl (by decide) rfl (fun ls hl => ?_)
  refine sy_loop (σ := Nat × Int64) (nL := 7) (fun x6 => match x6 with | (k, f) => n - k) (fun x6 => match x6 with | (k, f) => [(6, .int (nI k)), (4, .long f), (0, .ref h0), (1, .long am), (3, .int kd)]) (fun x6 => match x6 with | (k, f) => k ≤ n ∧ f = nn_sm (tl_pW fI am kd) (fL 1) k) ?_ (0, (0 : Int64)) ?_ (lv_sub hl [0, 1, 2, 3, 4] rfl)
  · intro x6 ls hI hl ih6
    obtain ⟨k, f⟩ := x6
    have hl : lv_has ls 7 [(6, .int (nI k)), (4, .long f), (0, .ref h0), (1, .long am), (3, .int kd)] := hl
    obtain ⟨hk, hI⟩ := hI
    refine lv_iload hx hb d_Tellings_sumOfKind_6 (lv_at hl 0 rfl) ?_
    refine lv_aload_n hx hb d_Tellings_sumOfKind_8 rfl (lv_at hl 2 rfl) ?_
    refine va_get (D := G.1) (ci := 5) (v := .int (nI n)) (C := R_Tellings) (T := F_Tellings) (N := 8) hx hb ht i_Tellings hown hK.1 hP 0 rfl rfl 7 (by decide) (ht _ m_67) (fun _ h9 => h9) rfl d_Tellings_sumOfKind_9 ?_
    refine lv_icmp_ge (tgt := 53) hx hb d_Tellings_sumOfKind_12 (by decide) (fun c_1 => ?_) (fun c_1 => ?_)
    · have c_1 : n ≤ k := (nI_leI (a := n) (b := k) (by omega) (by omega)).mp c_1
      have c_1n : ¬ k < n := by omega
      refine lv_lload hx hb d_Tellings_sumOfKind_53 (lv_at hl 1 rfl) ?_
      exact W.lret (v := f) hx hb hr (fun t ht hW => ⟨f, rfl, by rw [hI, show k = n by omega] <;> rfl, ht⟩) (fun q h => by cases h) d_Tellings_sumOfKind_55
    · have c_1 : ¬ n ≤ k := fun h9 => c_1 ((nI_leI (a := n) (b := k) (by omega) (by omega)).mpr h9)
      have c_1n : k < n := by omega
      refine lv_iload hx hb d_Tellings_sumOfKind_15 (lv_at hl 0 rfl) ?_
      refine lv_lload_n hx hb d_Tellings_sumOfKind_17 rfl (lv_at hl 3 rfl) ?_
      refine vp_callSi (va_Run.run (sy_runSN (As := [.int (nI k), .long am]) (rest := []) ⟨hx, hb, hml, hown, ht⟩ cl_Tellings_42 (c_DeviceSets_isIn l G k am) hK trivial rfl nm_DeviceSets_isIn rfl rfl ⟨Nat.le_of_ble_eq_true rfl, Nat.le_of_ble_eq_true rfl⟩ hl.1 (Nat.le_of_ble_eq_true rfl) d_Tellings_sumOfKind_18 ⟨Nat.zero_le _, Nat.zero_le _⟩)) (fun r_2 hr_2 => ?_)
      subst hr_2
      refine lv_if_eq (tgt := 47) hx hb d_Tellings_sumOfKind_21 (by decide) (fun c_3 => ?_) (fun c_3 => ?_)
      · have c_3 := bI_f c_3
        refine lv_iinc (v := nI (k + 1)) (lv' := [(6, .int (nI (k + 1))), (4, .long f), (0, .ref h0), (1, .long am), (3, .int kd)]) hx hb d_Tellings_sumOfKind_47 hl (k := 0) rfl (nI_add k 1) (by decide) rfl (fun ls hl => ?_)
        refine lv_goto (tgt := 6) hx hb d_Tellings_sumOfKind_50 (by decide) ?_
        refine ih6 (k + 1, f) ls (show n - (k + 1) < n - k by omega) ?_ (lv_sub hl [0, 1, 2, 3, 4] rfl)
        exact ⟨by omega, by first | (rw [nn_sm, if_pos (by simp [tl_pW, c_1, c_1n, c_3]; done), ← hI]; done) | (rw [nn_sm, if_neg (by simp [tl_pW, c_1, c_1n, c_3]; done), ← hI])⟩
      · have c_3 := bI_t c_3
        refine lv_aload_n hx hb d_Tellings_sumOfKind_24 rfl (lv_at hl 2 rfl) ?_
        refine va_get (D := G.1) (ci := 5) (v := .ref (ad 3)) (C := R_Tellings) (T := F_Tellings) (N := 8) hx hb ht i_Tellings hown hK.1 hP 0 rfl rfl 3 (by decide) (ht _ m_61) (fun _ h9 => h9) rfl d_Tellings_sumOfKind_25 ?_
        refine lv_iload hx hb d_Tellings_sumOfKind_28 (lv_at hl 0 rfl) ?_
        refine sy_iald hx hb hK.1 hP 4 0 rfl rfl (k := k) (by omega) (by decide) d_Tellings_sumOfKind_30 ?_
        refine lv_iload_n hx hb d_Tellings_sumOfKind_31 rfl (lv_at hl 4 rfl) ?_
        refine lv_icmp_ne (tgt := 47) hx hb d_Tellings_sumOfKind_32 (by decide) (fun c_4 => ?_) (fun c_4 => ?_)
        · refine lv_iinc (v := nI (k + 1)) (lv' := [(6, .int (nI (k + 1))), (4, .long f), (0, .ref h0), (1, .long am), (3, .int kd)]) hx hb d_Tellings_sumOfKind_47 hl (k := 0) rfl (nI_add k 1) (by decide) rfl (fun ls hl => ?_)
          refine lv_goto (tgt := 6) hx hb d_Tellings_sumOfKind_50 (by decide) ?_
          refine ih6 (k + 1, f) ls (show n - (k + 1) < n - k by omega) ?_ (lv_sub hl [0, 1, 2, 3, 4] rfl)
          exact ⟨by omega, by first | (rw [nn_sm, if_pos (by simp [tl_pW, c_1, c_1n, c_3, c_4]; done), ← hI]; done) | (rw [nn_sm, if_neg (by simp [tl_pW, c_1, c_1n, c_3, c_4]; done), ← hI])⟩
        · refine lv_lload hx hb d_Tellings_sumOfKind_35 (lv_at hl 1 rfl) ?_
          refine lv_aload_n hx hb d_Tellings_sumOfKind_37 rfl (lv_at hl 2 rfl) ?_
          refine va_get (D := G.1) (ci := 5) (v := .ref (ad 5)) (C := R_Tellings) (T := F_Tellings) (N := 8) hx hb ht i_Tellings hown hK.1 hP 0 rfl rfl 5 (by decide) (ht _ m_64) (fun _ h9 => h9) rfl d_Tellings_sumOfKind_38 ?_
          refine lv_iload hx hb d_Tellings_sumOfKind_41 (lv_at hl 0 rfl) ?_
          refine sy_lald hx hb hK.1 hP 6 1 rfl rfl (k := k) (by omega) (by decide) d_Tellings_sumOfKind_43 ?_
          refine lv_ladd hx hb d_Tellings_sumOfKind_44 ?_
          refine lv_lstore (lv' := [(4, .long (f + (fL 1 k))), (6, .int (nI k)), (0, .ref h0), (1, .long am), (3, .int kd)]) hx hb d_Tellings_sumOfKind_45 hl (by decide) rfl (fun ls hl => ?_)
          refine lv_iinc (v := nI (k + 1)) (lv' := [(6, .int (nI (k + 1))), (4, .long (f + (fL 1 k))), (0, .ref h0), (1, .long am), (3, .int kd)]) hx hb d_Tellings_sumOfKind_47 hl (k := 1) rfl (nI_add k 1) (by decide) rfl (fun ls hl => ?_)
          refine lv_goto (tgt := 6) hx hb d_Tellings_sumOfKind_50 (by decide) ?_
          refine ih6 (k + 1, f + (fL 1 k)) ls (show n - (k + 1) < n - k by omega) ?_ (lv_sub hl [0, 1, 2, 3, 4] rfl)
          exact ⟨by omega, by first | (rw [nn_sm, if_pos (by simp [tl_pW, c_1, c_1n, c_3, c_4]; done), ← hI]; done) | (rw [nn_sm, if_neg (by simp [tl_pW, c_1, c_1n, c_3, c_4]; done), ← hI])⟩
  · exact ⟨Nat.zero_le _, rfl⟩
end
section
set_option maxHeartbeats 4000000 in
set_option maxRecDepth 100000 in
theorem c_Corrections_isFor (l : Launch) (G : sy_G) (h0 : Nat) (ad : Nat → Nat) (n : Nat) (fI : Nat → Nat → Int32) (fL : Nat → Nat → Int64) (i : Nat) (d : Int32) (kd : Int32) (se : Int64) (hi : i < 20) : Met l y_Corrections_isFor (sy_w y_Corrections_isFor b_Corrections_isFor 6 (some .boolean)) { frames := 0, cells := 0, slots := 0, locals := 0 } (va_Pc [.ref h0, .int (nI i), .int d, .int kd, .long se] (sy_KP G (va_P G.1 classes (cw G.2 h0 ad n fI fL)))) (vp_Si (fun r => r = bI (co_for fI fL d kd se i))) 0 0 (fun _ => False) := by
  refine Met.ofW (cc := b_Corrections_isFor) (maxL := 6) (ret := (some .boolean)) (by decide) rfl ?_
  intro p e s m args below meth c s₁ B hml hv
  obtain ⟨rfl, hP, hK⟩ := hv
  have hx := B.exec
  have hb := B.bytes
  have hr := B.returns
  have hts := atoms_spec (ws := sy_w y_Corrections_isFor b_Corrections_isFor 6 (some .boolean)) B.pre
  have ht : ∀ wd ∈ sy_T, wd.before ([.ref h0, .int (nI i), .int d, .int kd, .long se] : List Value).toArray s = true := fun wd h => hts wd (List.mem_cons_of_mem _ h)
  have hown : s.vm.findClass R_Corrections = some m.cls := findClass_of_methodNamed B.named
  have hlocks := B.notSynchronized
  have hl := lv_entry ([.ref h0, .int (nI i), .int d, .int kd, .long se]) (n := 6) (Nat.le_of_ble_eq_true rfl)
  rw [lg_entry_eq]
  generalize (lg_sl ([.ref h0, .int (nI i), .int d, .int kd, .long se]) ++ List.replicate (6 - (lg_sl ([.ref h0, .int (nI i), .int d, .int kd, .long se])).length) Slot.unset).toArray = ls at hl ⊢
  have hl : lv_has ls 6 [(0, .ref h0), (1, .int (nI i)), (2, .int d), (3, .int kd), (4, .long se)] := hl
  refine lv_aload_n hx hb d_Corrections_isFor_0 rfl (lv_at hl 0 rfl) ?_
  refine va_get (D := G.1) (ci := 6) (v := .ref (ad 0)) (C := R_Corrections) (T := F_Corrections) (N := 6) hx hb ht i_Corrections hown hK.1 hP 0 rfl rfl 0 (by decide) (ht _ m_93) (fun _ h9 => h9) rfl d_Corrections_isFor_1 ?_
  refine lv_iload_n hx hb d_Corrections_isFor_4 rfl (lv_at hl 1 rfl) ?_
  refine sy_iald hx hb hK.1 hP 1 0 rfl rfl (k := i) (by omega) (by decide) d_Corrections_isFor_5 ?_
  refine lv_iload_n hx hb d_Corrections_isFor_6 rfl (lv_at hl 2 rfl) ?_
  refine lv_icmp_ne (tgt := 36) hx hb d_Corrections_isFor_7 (by decide) (fun c_1 => ?_) (fun c_1 => ?_)
  · refine lv_iconst (v := 0) hx hb d_Corrections_isFor_36 (by decide) ?_
    exact W.zret (v := (0 : Int32)) hx hb hr (rfl) (fun t ht hW => ⟨(0 : Int32), rfl, by simp [bI, co_for, c_1], ht⟩) (fun q h => by cases h) d_Corrections_isFor_37
  · refine lv_aload_n hx hb d_Corrections_isFor_10 rfl (lv_at hl 0 rfl) ?_
    refine va_get (D := G.1) (ci := 6) (v := .ref (ad 1)) (C := R_Corrections) (T := F_Corrections) (N := 6) hx hb ht i_Corrections hown hK.1 hP 0 rfl rfl 1 (by decide) (ht _ m_94) (fun _ h9 => h9) rfl d_Corrections_isFor_11 ?_
    refine lv_iload_n hx hb d_Corrections_isFor_14 rfl (lv_at hl 1 rfl) ?_
    refine sy_iald hx hb hK.1 hP 2 0 rfl rfl (k := i) (by omega) (by decide) d_Corrections_isFor_15 ?_
    refine lv_iload_n hx hb d_Corrections_isFor_16 rfl (lv_at hl 3 rfl) ?_
    refine lv_icmp_ne (tgt := 36) hx hb d_Corrections_isFor_17 (by decide) (fun c_2 => ?_) (fun c_2 => ?_)
    · refine lv_iconst (v := 0) hx hb d_Corrections_isFor_36 (by decide) ?_
      exact W.zret (v := (0 : Int32)) hx hb hr (rfl) (fun t ht hW => ⟨(0 : Int32), rfl, by simp [bI, co_for, c_1, c_2], ht⟩) (fun q h => by cases h) d_Corrections_isFor_37
    · refine lv_aload_n hx hb d_Corrections_isFor_20 rfl (lv_at hl 0 rfl) ?_
      refine va_get (D := G.1) (ci := 6) (v := .ref (ad 2)) (C := R_Corrections) (T := F_Corrections) (N := 6) hx hb ht i_Corrections hown hK.1 hP 0 rfl rfl 2 (by decide) (ht _ m_95) (fun _ h9 => h9) rfl d_Corrections_isFor_21 ?_
      refine lv_iload_n hx hb d_Corrections_isFor_24 rfl (lv_at hl 1 rfl) ?_
      refine sy_lald hx hb hK.1 hP 3 1 rfl rfl (k := i) (by omega) (by decide) d_Corrections_isFor_25 ?_
      refine lv_lload hx hb d_Corrections_isFor_26 (lv_at hl 4 rfl) ?_
      refine sy_lc_ne (tgt := 36) hx hb d_Corrections_isFor_28 d_Corrections_isFor_29 (by decide) (fun c_3 => ?_) (fun c_3 => ?_)
      · refine lv_iconst (v := 0) hx hb d_Corrections_isFor_36 (by decide) ?_
        exact W.zret (v := (0 : Int32)) hx hb hr (rfl) (fun t ht hW => ⟨(0 : Int32), rfl, by simp [bI, co_for, c_1, c_2, c_3], ht⟩) (fun q h => by cases h) d_Corrections_isFor_37
      · refine lv_iconst (v := 1) hx hb d_Corrections_isFor_32 (by decide) ?_
        refine lv_goto (tgt := 37) hx hb d_Corrections_isFor_33 (by decide) ?_
        exact W.zret (v := (1 : Int32)) hx hb hr (rfl) (fun t ht hW => ⟨(1 : Int32), rfl, by simp [bI, co_for, c_1, c_2, c_3], ht⟩) (fun q h => by cases h) d_Corrections_isFor_37
set_option maxHeartbeats 4000000 in
set_option maxRecDepth 100000 in
theorem c_Corrections_isStronger (l : Launch) (G : sy_G) (h0 : Nat) (ad : Nat → Nat) (n : Nat) (fI : Nat → Nat → Int32) (fL : Nat → Nat → Int64) (a : Nat) (b : Nat) (ha : a < 20) (hb2 : b < 20) : Met l y_Corrections_isStronger (sy_w y_Corrections_isStronger b_Corrections_isStronger 3 (some .boolean)) { frames := 0, cells := 0, slots := 0, locals := 0 } (va_Pc [.ref h0, .int (nI a), .int (nI b)] (sy_KP G (va_P G.1 classes (cw G.2 h0 ad n fI fL)))) (vp_Si (fun r => r = bI (co_st fL a b))) 0 0 (fun _ => False) := by
  refine Met.ofW (cc := b_Corrections_isStronger) (maxL := 3) (ret := (some .boolean)) (by decide) rfl ?_
  intro p e s m args below meth c s₁ B hml hv
  obtain ⟨rfl, hP, hK⟩ := hv
  have hx := B.exec
  have hb := B.bytes
  have hr := B.returns
  have hts := atoms_spec (ws := sy_w y_Corrections_isStronger b_Corrections_isStronger 3 (some .boolean)) B.pre
  have ht : ∀ wd ∈ sy_T, wd.before ([.ref h0, .int (nI a), .int (nI b)] : List Value).toArray s = true := fun wd h => hts wd (List.mem_cons_of_mem _ h)
  have hown : s.vm.findClass R_Corrections = some m.cls := findClass_of_methodNamed B.named
  have hlocks := B.notSynchronized
  have hl := lv_entry ([.ref h0, .int (nI a), .int (nI b)]) (n := 3) (Nat.le_of_ble_eq_true rfl)
  rw [lg_entry_eq]
  generalize (lg_sl ([.ref h0, .int (nI a), .int (nI b)]) ++ List.replicate (3 - (lg_sl ([.ref h0, .int (nI a), .int (nI b)])).length) Slot.unset).toArray = ls at hl ⊢
  have hl : lv_has ls 3 [(0, .ref h0), (1, .int (nI a)), (2, .int (nI b))] := hl
  refine lv_aload_n hx hb d_Corrections_isStronger_0 rfl (lv_at hl 0 rfl) ?_
  refine va_get (D := G.1) (ci := 6) (v := .ref (ad 4)) (C := R_Corrections) (T := F_Corrections) (N := 6) hx hb ht i_Corrections hown hK.1 hP 0 rfl rfl 4 (by decide) (ht _ m_98) (fun _ h9 => h9) rfl d_Corrections_isStronger_1 ?_
  refine lv_iload_n hx hb d_Corrections_isStronger_4 rfl (lv_at hl 1 rfl) ?_
  refine sy_lald hx hb hK.1 hP 5 1 rfl rfl (k := a) (by omega) (by decide) d_Corrections_isStronger_5 ?_
  refine lv_aload_n hx hb d_Corrections_isStronger_6 rfl (lv_at hl 0 rfl) ?_
  refine va_get (D := G.1) (ci := 6) (v := .ref (ad 4)) (C := R_Corrections) (T := F_Corrections) (N := 6) hx hb ht i_Corrections hown hK.1 hP 0 rfl rfl 4 (by decide) (ht _ m_98) (fun _ h9 => h9) rfl d_Corrections_isStronger_7 ?_
  refine lv_iload_n hx hb d_Corrections_isStronger_10 rfl (lv_at hl 2 rfl) ?_
  refine sy_lald hx hb hK.1 hP 5 1 rfl rfl (k := b) (by omega) (by decide) d_Corrections_isStronger_11 ?_
  refine sy_lc_eq (tgt := 40) hx hb d_Corrections_isStronger_12 d_Corrections_isStronger_13 (by decide) (fun c_1 => ?_) (fun c_1 => ?_)
  · refine lv_aload_n hx hb d_Corrections_isStronger_40 rfl (lv_at hl 0 rfl) ?_
    refine va_get (D := G.1) (ci := 6) (v := .ref (ad 3)) (C := R_Corrections) (T := F_Corrections) (N := 6) hx hb ht i_Corrections hown hK.1 hP 0 rfl rfl 3 (by decide) (ht _ m_96) (fun _ h9 => h9) rfl d_Corrections_isStronger_41 ?_
    refine lv_iload_n hx hb d_Corrections_isStronger_44 rfl (lv_at hl 1 rfl) ?_
    refine sy_lald hx hb hK.1 hP 4 1 rfl rfl (k := a) (by omega) (by decide) d_Corrections_isStronger_45 ?_
    refine lv_aload_n hx hb d_Corrections_isStronger_46 rfl (lv_at hl 0 rfl) ?_
    refine va_get (D := G.1) (ci := 6) (v := .ref (ad 3)) (C := R_Corrections) (T := F_Corrections) (N := 6) hx hb ht i_Corrections hown hK.1 hP 0 rfl rfl 3 (by decide) (ht _ m_96) (fun _ h9 => h9) rfl d_Corrections_isStronger_47 ?_
    refine lv_iload_n hx hb d_Corrections_isStronger_50 rfl (lv_at hl 2 rfl) ?_
    refine sy_lald hx hb hK.1 hP 4 1 rfl rfl (k := b) (by omega) (by decide) d_Corrections_isStronger_51 ?_
    refine sy_lc_le (tgt := 60) hx hb d_Corrections_isStronger_52 d_Corrections_isStronger_53 (by decide) (fun c_2 => ?_) (fun c_2 => ?_)
    · have c_2n := sy_c64 c_2
      refine lv_iconst (v := 0) hx hb d_Corrections_isStronger_60 (by decide) ?_
      exact W.zret (v := (0 : Int32)) hx hb hr (rfl) (fun t ht hW => ⟨(0 : Int32), rfl, by simp [bI, co_st, c_1, c_2, c_2n], ht⟩) (fun q h => by cases h) d_Corrections_isStronger_61
    · have c_2n := sy_d64 c_2
      refine lv_iconst (v := 1) hx hb d_Corrections_isStronger_56 (by decide) ?_
      refine lv_goto (tgt := 61) hx hb d_Corrections_isStronger_57 (by decide) ?_
      exact W.zret (v := (1 : Int32)) hx hb hr (rfl) (fun t ht hW => ⟨(1 : Int32), rfl, by simp [bI, co_st, c_1, c_2, c_2n], ht⟩) (fun q h => by cases h) d_Corrections_isStronger_61
  · refine lv_aload_n hx hb d_Corrections_isStronger_16 rfl (lv_at hl 0 rfl) ?_
    refine va_get (D := G.1) (ci := 6) (v := .ref (ad 4)) (C := R_Corrections) (T := F_Corrections) (N := 6) hx hb ht i_Corrections hown hK.1 hP 0 rfl rfl 4 (by decide) (ht _ m_98) (fun _ h9 => h9) rfl d_Corrections_isStronger_17 ?_
    refine lv_iload_n hx hb d_Corrections_isStronger_20 rfl (lv_at hl 1 rfl) ?_
    refine sy_lald hx hb hK.1 hP 5 1 rfl rfl (k := a) (by omega) (by decide) d_Corrections_isStronger_21 ?_
    refine lv_aload_n hx hb d_Corrections_isStronger_22 rfl (lv_at hl 0 rfl) ?_
    refine va_get (D := G.1) (ci := 6) (v := .ref (ad 4)) (C := R_Corrections) (T := F_Corrections) (N := 6) hx hb ht i_Corrections hown hK.1 hP 0 rfl rfl 4 (by decide) (ht _ m_98) (fun _ h9 => h9) rfl d_Corrections_isStronger_23 ?_
    refine lv_iload_n hx hb d_Corrections_isStronger_26 rfl (lv_at hl 2 rfl) ?_
    refine sy_lald hx hb hK.1 hP 5 1 rfl rfl (k := b) (by omega) (by decide) d_Corrections_isStronger_27 ?_
    refine sy_lc_le (tgt := 36) hx hb d_Corrections_isStronger_28 d_Corrections_isStronger_29 (by decide) (fun c_3 => ?_) (fun c_3 => ?_)
    · have c_3n := sy_c64 c_3
      refine lv_iconst (v := 0) hx hb d_Corrections_isStronger_36 (by decide) ?_
      refine lv_goto (tgt := 61) hx hb d_Corrections_isStronger_37 (by decide) ?_
      exact W.zret (v := (0 : Int32)) hx hb hr (rfl) (fun t ht hW => ⟨(0 : Int32), rfl, by simp [bI, co_st, c_1, c_3, c_3n], ht⟩) (fun q h => by cases h) d_Corrections_isStronger_61
    · have c_3n := sy_d64 c_3
      refine lv_iconst (v := 1) hx hb d_Corrections_isStronger_32 (by decide) ?_
      refine lv_goto (tgt := 61) hx hb d_Corrections_isStronger_33 (by decide) ?_
      exact W.zret (v := (1 : Int32)) hx hb hr (rfl) (fun t ht hW => ⟨(1 : Int32), rfl, by simp [bI, co_st, c_1, c_3, c_3n], ht⟩) (fun q h => by cases h) d_Corrections_isStronger_61
set_option maxHeartbeats 4000000 in
set_option maxRecDepth 100000 in
theorem c_Corrections_latest (l : Launch) (G : sy_G) (h0 : Nat) (ad : Nat → Nat) (n : Nat) (fI : Nat → Nat → Int32) (fL : Nat → Nat → Int64) (am : Int64) (d : Int32) (kd : Int32) (se : Int64) (ao : Int64) (hn : n ≤ 20) : Met l y_Corrections_latest (sy_w y_Corrections_latest b_Corrections_latest 11 (some .int)) { frames := 2, cells := 0, slots := 0, locals := 42 } (va_Pc [.ref h0, .long am, .int d, .int kd, .long se, .long ao] (sy_KP G (va_P G.1 classes (cw G.2 h0 ad n fI fL)))) (vp_Si (fun r => r = oI (co_la fI fL n am d kd se ao))) 0 0 (fun _ => False) := by
  refine Met.ofW (cc := b_Corrections_latest) (maxL := 11) (ret := (some .int)) (by decide) rfl ?_
  intro p e s m args below meth c s₁ B hml hv
  obtain ⟨rfl, hP, hK⟩ := hv
  have hx := B.exec
  have hb := B.bytes
  have hr := B.returns
  have hts := atoms_spec (ws := sy_w y_Corrections_latest b_Corrections_latest 11 (some .int)) B.pre
  have ht : ∀ wd ∈ sy_T, wd.before ([.ref h0, .long am, .int d, .int kd, .long se, .long ao] : List Value).toArray s = true := fun wd h => hts wd (List.mem_cons_of_mem _ h)
  have hown : s.vm.findClass R_Corrections = some m.cls := findClass_of_methodNamed B.named
  have hlocks := B.notSynchronized
  have hl := lv_entry ([.ref h0, .long am, .int d, .int kd, .long se, .long ao]) (n := 11) (Nat.le_of_ble_eq_true rfl)
  rw [lg_entry_eq]
  generalize (lg_sl ([.ref h0, .long am, .int d, .int kd, .long se, .long ao]) ++ List.replicate (11 - (lg_sl ([.ref h0, .long am, .int d, .int kd, .long se, .long ao])).length) Slot.unset).toArray = ls at hl ⊢
  have hl : lv_has ls 11 [(0, .ref h0), (1, .long am), (3, .int d), (4, .int kd), (5, .long se), (7, .long ao)] := hl
  refine lv_iconst (v := (-1)) hx hb d_Corrections_latest_0 (by decide) ?_
  refine lv_istore (lv' := [(9, .int (-1)), (0, .ref h0), (1, .long am), (3, .int d), (4, .int kd), (5, .long se), (7, .long ao)]) hx hb d_Corrections_latest_1 hl (by decide) rfl (fun ls hl => ?_)
  refine lv_iconst (v := 0) hx hb d_Corrections_latest_3 (by decide) ?_
  refine lv_istore (lv' := [(10, .int 0), (9, .int (-1)), (0, .ref h0), (1, .long am), (3, .int d), (4, .int kd), (5, .long se), (7, .long ao)]) hx hb d_Corrections_latest_4 hl (by decide) rfl (fun ls hl => ?_)
  refine sy_loop (σ := Nat × Option Nat) (nL := 11) (fun x6 => match x6 with | (k, o) => n - k) (fun x6 => match x6 with | (k, o) => [(10, .int (nI k)), (9, .int (oI o)), (0, .ref h0), (1, .long am), (3, .int d), (4, .int kd), (5, .long se), (7, .long ao)]) (fun x6 => match x6 with | (k, o) => k ≤ n ∧ o = nn_fm (co_p fI fL am d kd se ao) (co_st fL) k) ?_ (0, none) ?_ (lv_sub hl [0, 1, 2, 3, 4, 5, 6, 7] rfl)
  · intro x6 ls hI hl ih6
    obtain ⟨k, o⟩ := x6
    have hl : lv_has ls 11 [(10, .int (nI k)), (9, .int (oI o)), (0, .ref h0), (1, .long am), (3, .int d), (4, .int kd), (5, .long se), (7, .long ao)] := hl
    obtain ⟨hk, hI⟩ := hI
    refine lv_iload hx hb d_Corrections_latest_6 (lv_at hl 0 rfl) ?_
    refine lv_aload_n hx hb d_Corrections_latest_8 rfl (lv_at hl 2 rfl) ?_
    refine va_get (D := G.1) (ci := 6) (v := .int (nI n)) (C := R_Corrections) (T := F_Corrections) (N := 6) hx hb ht i_Corrections hown hK.1 hP 0 rfl rfl 5 (by decide) (ht _ m_99) (fun _ h9 => h9) rfl d_Corrections_latest_9 ?_
    refine lv_icmp_ge (tgt := 78) hx hb d_Corrections_latest_12 (by decide) (fun c_1 => ?_) (fun c_1 => ?_)
    · have c_1 : n ≤ k := (nI_leI (a := n) (b := k) (by omega) (by omega)).mp c_1
      have c_1n : ¬ k < n := by omega
      refine lv_iload hx hb d_Corrections_latest_78 (lv_at hl 1 rfl) ?_
      exact W.iret (v := oI o) hx hb hr (fun t ht hW => ⟨oI o, rfl, by rw [hI, show k = n by omega] <;> rfl, ht⟩) (fun q h => by cases h) d_Corrections_latest_80
    · have c_1 : ¬ n ≤ k := fun h9 => c_1 ((nI_leI (a := n) (b := k) (by omega) (by omega)).mpr h9)
      have c_1n : k < n := by omega
      refine lv_iload hx hb d_Corrections_latest_15 (lv_at hl 0 rfl) ?_
      refine lv_lload_n hx hb d_Corrections_latest_17 rfl (lv_at hl 3 rfl) ?_
      refine vp_callSi (va_Run.run (sy_runSN (As := [.int (nI k), .long am]) (rest := []) ⟨hx, hb, hml, hown, ht⟩ cl_Corrections_36 (c_DeviceSets_isIn l G k am) hK trivial rfl nm_DeviceSets_isIn rfl rfl ⟨Nat.le_of_ble_eq_true rfl, Nat.le_of_ble_eq_true rfl⟩ hl.1 (Nat.le_of_ble_eq_true rfl) d_Corrections_latest_18 ⟨Nat.zero_le _, Nat.zero_le _⟩)) (fun r_2 hr_2 => ?_)
      subst hr_2
      refine lv_if_eq (tgt := 72) hx hb d_Corrections_latest_21 (by decide) (fun c_3 => ?_) (fun c_3 => ?_)
      · have c_3 := bI_f c_3
        refine lv_iinc (v := nI (k + 1)) (lv' := [(10, .int (nI (k + 1))), (9, .int (oI o)), (0, .ref h0), (1, .long am), (3, .int d), (4, .int kd), (5, .long se), (7, .long ao)]) hx hb d_Corrections_latest_72 hl (k := 0) rfl (nI_add k 1) (by decide) rfl (fun ls hl => ?_)
        refine lv_goto (tgt := 6) hx hb d_Corrections_latest_75 (by decide) ?_
        refine ih6 (k + 1, o) ls (show n - (k + 1) < n - k by omega) ?_ (lv_sub hl [0, 1, 2, 3, 4, 5, 6, 7] rfl)
        exact ⟨by omega, by first | (rw [nn_fm, if_pos (by simp [co_p, c_1, c_1n, c_3]; done), ← hI]; simp [nn_up, co_p, c_1, c_1n, c_3]; done) | (rw [nn_fm, if_neg (by simp [co_p, c_1, c_1n, c_3]; done), ← hI])⟩
      · have c_3 := bI_t c_3
        refine lv_aload_n hx hb d_Corrections_latest_24 rfl (lv_at hl 2 rfl) ?_
        refine lv_iload hx hb d_Corrections_latest_25 (lv_at hl 0 rfl) ?_
        refine lv_iload_n hx hb d_Corrections_latest_27 rfl (lv_at hl 4 rfl) ?_
        refine lv_iload hx hb d_Corrections_latest_28 (lv_at hl 5 rfl) ?_
        refine lv_lload hx hb d_Corrections_latest_30 (lv_at hl 6 rfl) ?_
        refine vp_callSi (va_Run.run (sy_runV (As := [.int (nI k), .int d, .int kd, .long se]) (rest := []) (b := h0) ⟨hx, hb, hml, hown, ht⟩ cl_Corrections_32 (c_Corrections_isFor l G h0 ad n fI fL k d kd se (by omega)) hK hP (va_recv hK.1 hP (ci := 6) (q0 := 0) rfl rfl) rfl nm_Corrections_isFor rfl rfl ⟨Nat.le_of_ble_eq_true rfl, Nat.le_of_ble_eq_true rfl⟩ hl.1 (Nat.le_of_ble_eq_true rfl) d_Corrections_latest_32 ⟨Nat.zero_le _, Nat.zero_le _⟩)) (fun r_4 hr_4 => ?_)
        subst hr_4
        refine lv_if_eq (tgt := 72) hx hb d_Corrections_latest_35 (by decide) (fun c_5 => ?_) (fun c_5 => ?_)
        · have c_5 := bI_f c_5
          refine lv_iinc (v := nI (k + 1)) (lv' := [(10, .int (nI (k + 1))), (9, .int (oI o)), (0, .ref h0), (1, .long am), (3, .int d), (4, .int kd), (5, .long se), (7, .long ao)]) hx hb d_Corrections_latest_72 hl (k := 0) rfl (nI_add k 1) (by decide) rfl (fun ls hl => ?_)
          refine lv_goto (tgt := 6) hx hb d_Corrections_latest_75 (by decide) ?_
          refine ih6 (k + 1, o) ls (show n - (k + 1) < n - k by omega) ?_ (lv_sub hl [0, 1, 2, 3, 4, 5, 6, 7] rfl)
          exact ⟨by omega, by first | (rw [nn_fm, if_pos (by simp [co_p, c_1, c_1n, c_3, c_5]; done), ← hI]; simp [nn_up, co_p, c_1, c_1n, c_3, c_5]; done) | (rw [nn_fm, if_neg (by simp [co_p, c_1, c_1n, c_3, c_5]; done), ← hI])⟩
        · have c_5 := bI_t c_5
          refine lv_aload_n hx hb d_Corrections_latest_38 rfl (lv_at hl 2 rfl) ?_
          refine va_get (D := G.1) (ci := 6) (v := .ref (ad 4)) (C := R_Corrections) (T := F_Corrections) (N := 6) hx hb ht i_Corrections hown hK.1 hP 0 rfl rfl 4 (by decide) (ht _ m_98) (fun _ h9 => h9) rfl d_Corrections_latest_39 ?_
          refine lv_iload hx hb d_Corrections_latest_42 (lv_at hl 0 rfl) ?_
          refine sy_lald hx hb hK.1 hP 5 1 rfl rfl (k := k) (by omega) (by decide) d_Corrections_latest_44 ?_
          refine lv_lload hx hb d_Corrections_latest_45 (lv_at hl 7 rfl) ?_
          refine sy_lc_gt (tgt := 72) hx hb d_Corrections_latest_47 d_Corrections_latest_48 (by decide) (fun c_6 => ?_) (fun c_6 => ?_)
          · have c_6n := sy_a64 c_6
            refine lv_iinc (v := nI (k + 1)) (lv' := [(10, .int (nI (k + 1))), (9, .int (oI o)), (0, .ref h0), (1, .long am), (3, .int d), (4, .int kd), (5, .long se), (7, .long ao)]) hx hb d_Corrections_latest_72 hl (k := 0) rfl (nI_add k 1) (by decide) rfl (fun ls hl => ?_)
            refine lv_goto (tgt := 6) hx hb d_Corrections_latest_75 (by decide) ?_
            refine ih6 (k + 1, o) ls (show n - (k + 1) < n - k by omega) ?_ (lv_sub hl [0, 1, 2, 3, 4, 5, 6, 7] rfl)
            exact ⟨by omega, by first | (rw [nn_fm, if_pos (by simp [co_p, c_1, c_1n, c_3, c_5, c_6, c_6n]; done), ← hI]; simp [nn_up, co_p, c_1, c_1n, c_3, c_5, c_6, c_6n]; done) | (rw [nn_fm, if_neg (by simp [co_p, c_1, c_1n, c_3, c_5, c_6, c_6n]; done), ← hI])⟩
          · have c_6n := sy_b64 c_6
            refine lv_iload hx hb d_Corrections_latest_51 (lv_at hl 1 rfl) ?_
            refine lv_iconst (v := (-1)) hx hb d_Corrections_latest_53 (by decide) ?_
            rcases o with _ | j_8
            · have hl : lv_has ls 11 [(10, .int (nI k)), (9, .int (-1)), (0, .ref h0), (1, .long am), (3, .int d), (4, .int kd), (5, .long se), (7, .long ao)] := hl
              refine lv_icmp_eq (tgt := 68) hx hb d_Corrections_latest_54 (by decide) (fun c_9 => ?_) (fun c_9 => absurd (by decide) c_9)
              refine lv_iload hx hb d_Corrections_latest_68 (lv_at hl 0 rfl) ?_
              refine lv_istore (lv' := [(9, .int (nI k)), (10, .int (nI k)), (0, .ref h0), (1, .long am), (3, .int d), (4, .int kd), (5, .long se), (7, .long ao)]) hx hb d_Corrections_latest_70 hl (by decide) rfl (fun ls hl => ?_)
              refine lv_iinc (v := nI (k + 1)) (lv' := [(10, .int (nI (k + 1))), (9, .int (nI k)), (0, .ref h0), (1, .long am), (3, .int d), (4, .int kd), (5, .long se), (7, .long ao)]) hx hb d_Corrections_latest_72 hl (k := 1) rfl (nI_add k 1) (by decide) rfl (fun ls hl => ?_)
              refine lv_goto (tgt := 6) hx hb d_Corrections_latest_75 (by decide) ?_
              refine ih6 (k + 1, (some k)) ls (show n - (k + 1) < n - k by omega) ?_ (lv_sub hl [0, 1, 2, 3, 4, 5, 6, 7] rfl)
              exact ⟨by omega, by first | (rw [nn_fm, if_pos (by simp [co_p, c_1, c_1n, c_3, c_5, c_6, c_6n, c_9]; done), ← hI]; simp [nn_up, co_p, c_1, c_1n, c_3, c_5, c_6, c_6n, c_9]; done) | (rw [nn_fm, if_neg (by simp [co_p, c_1, c_1n, c_3, c_5, c_6, c_6n, c_9]; done), ← hI])⟩
            · have hl : lv_has ls 11 [(10, .int (nI k)), (9, .int (nI j_8)), (0, .ref h0), (1, .long am), (3, .int d), (4, .int kd), (5, .long se), (7, .long ao)] := hl
              have hj_8 : j_8 < k := nn_fm_lt hI.symm
              refine lv_icmp_eq (tgt := 68) hx hb d_Corrections_latest_54 (by decide) (fun c_10 => absurd c_10 (oI_ne (by omega))) (fun c_10 => ?_)
              refine lv_aload_n hx hb d_Corrections_latest_57 rfl (lv_at hl 2 rfl) ?_
              refine lv_iload hx hb d_Corrections_latest_58 (lv_at hl 0 rfl) ?_
              refine lv_iload hx hb d_Corrections_latest_60 (lv_at hl 1 rfl) ?_
              refine vp_callSi (va_Run.run (sy_runV (As := [.int (nI k), .int (nI j_8)]) (rest := []) (b := h0) ⟨hx, hb, hml, hown, ht⟩ cl_Corrections_40 (c_Corrections_isStronger l G h0 ad n fI fL k j_8 (by omega) (by omega)) hK hP (va_recv hK.1 hP (ci := 6) (q0 := 0) rfl rfl) rfl nm_Corrections_isStronger rfl rfl ⟨Nat.le_of_ble_eq_true rfl, Nat.le_of_ble_eq_true rfl⟩ hl.1 (Nat.le_of_ble_eq_true rfl) d_Corrections_latest_62 ⟨Nat.zero_le _, Nat.zero_le _⟩)) (fun r_11 hr_11 => ?_)
              subst hr_11
              refine lv_if_eq (tgt := 72) hx hb d_Corrections_latest_65 (by decide) (fun c_12 => ?_) (fun c_12 => ?_)
              · have c_12 := bI_f c_12
                refine lv_iinc (v := nI (k + 1)) (lv' := [(10, .int (nI (k + 1))), (9, .int (nI j_8)), (0, .ref h0), (1, .long am), (3, .int d), (4, .int kd), (5, .long se), (7, .long ao)]) hx hb d_Corrections_latest_72 hl (k := 0) rfl (nI_add k 1) (by decide) rfl (fun ls hl => ?_)
                refine lv_goto (tgt := 6) hx hb d_Corrections_latest_75 (by decide) ?_
                refine ih6 (k + 1, (some j_8)) ls (show n - (k + 1) < n - k by omega) ?_ (lv_sub hl [0, 1, 2, 3, 4, 5, 6, 7] rfl)
                exact ⟨by omega, by first | (rw [nn_fm, if_pos (by simp [co_p, c_1, c_1n, c_3, c_5, c_6, c_6n, c_10, c_12]; done), ← hI]; simp [nn_up, co_p, c_1, c_1n, c_3, c_5, c_6, c_6n, c_10, c_12]; done) | (rw [nn_fm, if_neg (by simp [co_p, c_1, c_1n, c_3, c_5, c_6, c_6n, c_10, c_12]; done), ← hI])⟩
              · have c_12 := bI_t c_12
                refine lv_iload hx hb d_Corrections_latest_68 (lv_at hl 0 rfl) ?_
                refine lv_istore (lv' := [(9, .int (nI k)), (10, .int (nI k)), (0, .ref h0), (1, .long am), (3, .int d), (4, .int kd), (5, .long se), (7, .long ao)]) hx hb d_Corrections_latest_70 hl (by decide) rfl (fun ls hl => ?_)
                refine lv_iinc (v := nI (k + 1)) (lv' := [(10, .int (nI (k + 1))), (9, .int (nI k)), (0, .ref h0), (1, .long am), (3, .int d), (4, .int kd), (5, .long se), (7, .long ao)]) hx hb d_Corrections_latest_72 hl (k := 1) rfl (nI_add k 1) (by decide) rfl (fun ls hl => ?_)
                refine lv_goto (tgt := 6) hx hb d_Corrections_latest_75 (by decide) ?_
                refine ih6 (k + 1, (some k)) ls (show n - (k + 1) < n - k by omega) ?_ (lv_sub hl [0, 1, 2, 3, 4, 5, 6, 7] rfl)
                exact ⟨by omega, by first | (rw [nn_fm, if_pos (by simp [co_p, c_1, c_1n, c_3, c_5, c_6, c_6n, c_10, c_12]; done), ← hI]; simp [nn_up, co_p, c_1, c_1n, c_3, c_5, c_6, c_6n, c_10, c_12]; done) | (rw [nn_fm, if_neg (by simp [co_p, c_1, c_1n, c_3, c_5, c_6, c_6n, c_10, c_12]; done), ← hI])⟩
  · exact ⟨Nat.zero_le _, rfl⟩
set_option maxHeartbeats 4000000 in
set_option maxRecDepth 100000 in
theorem c_Clock_isBetween (l : Launch) (G : sy_G) (h0 : Nat) (ad : Nat → Nat) (n : Nat) (fL : Nat → Nat → Int64) (o : Option Nat) (hn : n ≤ 10) (ho : ∀ j, o = some j → j < n) : Met l y_Clock_isBetween (sy_w y_Clock_isBetween b_Clock_isBetween 2 (some .boolean)) { frames := 0, cells := 0, slots := 0, locals := 0 } (va_Pc [.ref h0, .int (oI o)] (sy_KP G (va_P G.1 classes (kw G.2 h0 ad n fL)))) (vp_Si (fun r => r = bI (ck_bt n o))) 0 0 (fun _ => False) := by
  refine Met.ofW (cc := b_Clock_isBetween) (maxL := 2) (ret := (some .boolean)) (by decide) rfl ?_
  intro p e s m args below meth c s₁ B hml hv
  obtain ⟨rfl, hP, hK⟩ := hv
  have hx := B.exec
  have hb := B.bytes
  have hr := B.returns
  have hts := atoms_spec (ws := sy_w y_Clock_isBetween b_Clock_isBetween 2 (some .boolean)) B.pre
  have ht : ∀ wd ∈ sy_T, wd.before ([.ref h0, .int (oI o)] : List Value).toArray s = true := fun wd h => hts wd (List.mem_cons_of_mem _ h)
  have hown : s.vm.findClass R_Clock = some m.cls := findClass_of_methodNamed B.named
  have hlocks := B.notSynchronized
  have hl := lv_entry ([.ref h0, .int (oI o)]) (n := 2) (Nat.le_of_ble_eq_true rfl)
  rw [lg_entry_eq]
  generalize (lg_sl ([.ref h0, .int (oI o)]) ++ List.replicate (2 - (lg_sl ([.ref h0, .int (oI o)])).length) Slot.unset).toArray = ls at hl ⊢
  have hl : lv_has ls 2 [(0, .ref h0), (1, .int (oI o))] := hl
  refine lv_iload_n hx hb d_Clock_isBetween_0 rfl (lv_at hl 1 rfl) ?_
  rcases o with _ | j_1
  · have hl : lv_has ls 2 [(0, .ref h0), (1, .int (-1))] := hl
    refine lv_if_lt (tgt := 18) hx hb d_Clock_isBetween_1 (by decide) (fun c_2 => ?_) (fun c_2 => absurd (by decide) c_2)
    refine lv_iconst (v := 0) hx hb d_Clock_isBetween_18 (by decide) ?_
    exact W.zret (v := (0 : Int32)) hx hb hr (rfl) (fun t ht hW => ⟨(0 : Int32), rfl, by first | (simp [bI, ck_bt, c_2]; done) | (simp [bI, ck_bt, c_2]; omega), ht⟩) (fun q h => by cases h) d_Clock_isBetween_19
  · have hl : lv_has ls 2 [(0, .ref h0), (1, .int (nI j_1))] := hl
    have hj_1 := ho j_1 rfl
    refine lv_if_lt (tgt := 18) hx hb d_Clock_isBetween_1 (by decide) (fun c_3 => absurd c_3 (nI_pos (by omega))) (fun c_3 => ?_)
    refine lv_iload_n hx hb d_Clock_isBetween_4 rfl (lv_at hl 1 rfl) ?_
    refine lv_aload_n hx hb d_Clock_isBetween_5 rfl (lv_at hl 0 rfl) ?_
    refine va_get (D := G.1) (ci := 2) (v := .int (nI n)) (C := R_Clock) (T := F_Clock) (N := 3) hx hb ht i_Clock hown hK.1 hP 0 rfl rfl 2 (by decide) (ht _ m_152) (fun _ h9 => h9) rfl d_Clock_isBetween_6 ?_
    refine lv_iconst (v := 1) hx hb d_Clock_isBetween_9 (by decide) ?_
    refine lv_isub hx hb d_Clock_isBetween_10 ?_
    refine sy_ti (y := nI (n - 1)) (pk_sub (a := n) (b := 1) (by omega)) ?_
    refine lv_icmp_ge (tgt := 18) hx hb d_Clock_isBetween_11 (by decide) (fun c_4 => ?_) (fun c_4 => ?_)
    · have c_4 : (n - 1) ≤ j_1 := (nI_leI (a := n - 1) (b := j_1) (by omega) (by omega)).mp c_4
      have c_4n : ¬ j_1 < (n - 1) := by omega
      refine lv_iconst (v := 0) hx hb d_Clock_isBetween_18 (by decide) ?_
      exact W.zret (v := (0 : Int32)) hx hb hr (rfl) (fun t ht hW => ⟨(0 : Int32), rfl, by first | (simp [bI, ck_bt, c_3, c_4, c_4n]; done) | (simp [bI, ck_bt, c_3, c_4, c_4n]; omega), ht⟩) (fun q h => by cases h) d_Clock_isBetween_19
    · have c_4 : ¬ (n - 1) ≤ j_1 := fun h9 => c_4 ((nI_leI (a := n - 1) (b := j_1) (by omega) (by omega)).mpr h9)
      have c_4n : j_1 < (n - 1) := by omega
      refine lv_iconst (v := 1) hx hb d_Clock_isBetween_14 (by decide) ?_
      refine lv_goto (tgt := 19) hx hb d_Clock_isBetween_15 (by decide) ?_
      exact W.zret (v := (1 : Int32)) hx hb hr (rfl) (fun t ht hW => ⟨(1 : Int32), rfl, by first | (simp [bI, ck_bt, c_3, c_4, c_4n]; done) | (simp [bI, ck_bt, c_3, c_4, c_4n]; omega), ht⟩) (fun q h => by cases h) d_Clock_isBetween_19
set_option maxHeartbeats 4000000 in
set_option maxRecDepth 100000 in
theorem c_Clock_markBefore (l : Launch) (G : sy_G) (h0 : Nat) (ad : Nat → Nat) (n : Nat) (fL : Nat → Nat → Int64) (x : Int64) (hn : n ≤ 10) : Met l y_Clock_markBefore (sy_w y_Clock_markBefore b_Clock_markBefore 5 (some .int)) { frames := 0, cells := 0, slots := 0, locals := 0 } (va_Pc [.ref h0, .long x] (sy_KP G (va_P G.1 classes (kw G.2 h0 ad n fL)))) (vp_Si (fun r => r = oI (ck_mb fL n x))) 0 0 (fun _ => False) := by
  refine Met.ofW (cc := b_Clock_markBefore) (maxL := 5) (ret := (some .int)) (by decide) rfl ?_
  intro p e s m args below meth c s₁ B hml hv
  obtain ⟨rfl, hP, hK⟩ := hv
  have hx := B.exec
  have hb := B.bytes
  have hr := B.returns
  have hts := atoms_spec (ws := sy_w y_Clock_markBefore b_Clock_markBefore 5 (some .int)) B.pre
  have ht : ∀ wd ∈ sy_T, wd.before ([.ref h0, .long x] : List Value).toArray s = true := fun wd h => hts wd (List.mem_cons_of_mem _ h)
  have hown : s.vm.findClass R_Clock = some m.cls := findClass_of_methodNamed B.named
  have hlocks := B.notSynchronized
  have hl := lv_entry ([.ref h0, .long x]) (n := 5) (Nat.le_of_ble_eq_true rfl)
  rw [lg_entry_eq]
  generalize (lg_sl ([.ref h0, .long x]) ++ List.replicate (5 - (lg_sl ([.ref h0, .long x])).length) Slot.unset).toArray = ls at hl ⊢
  have hl : lv_has ls 5 [(0, .ref h0), (1, .long x)] := hl
  refine lv_iconst (v := (-1)) hx hb d_Clock_markBefore_0 (by decide) ?_
  refine lv_istore_n (lv' := [(3, .int (-1)), (0, .ref h0), (1, .long x)]) hx hb d_Clock_markBefore_1 rfl hl (by decide) rfl (fun ls hl => ?_)
  refine lv_iconst (v := 0) hx hb d_Clock_markBefore_2 (by decide) ?_
  refine lv_istore (lv' := [(4, .int 0), (3, .int (-1)), (0, .ref h0), (1, .long x)]) hx hb d_Clock_markBefore_3 hl (by decide) rfl (fun ls hl => ?_)
  refine sy_loop (σ := Nat × Option Nat) (nL := 5) (fun x5 => match x5 with | (k, o) => n - k) (fun x5 => match x5 with | (k, o) => [(4, .int (nI k)), (3, .int (oI o)), (0, .ref h0), (1, .long x)]) (fun x5 => match x5 with | (k, o) => k ≤ n ∧ o = nn_fl (ck_p fL x) k) ?_ (0, none) ?_ (lv_sub hl [0, 1, 2, 3] rfl)
  · intro x5 ls hI hl ih5
    obtain ⟨k, o⟩ := x5
    have hl : lv_has ls 5 [(4, .int (nI k)), (3, .int (oI o)), (0, .ref h0), (1, .long x)] := hl
    obtain ⟨hk, hI⟩ := hI
    refine lv_iload hx hb d_Clock_markBefore_5 (lv_at hl 0 rfl) ?_
    refine lv_aload_n hx hb d_Clock_markBefore_7 rfl (lv_at hl 2 rfl) ?_
    refine va_get (D := G.1) (ci := 2) (v := .int (nI n)) (C := R_Clock) (T := F_Clock) (N := 3) hx hb ht i_Clock hown hK.1 hP 0 rfl rfl 2 (by decide) (ht _ m_152) (fun _ h9 => h9) rfl d_Clock_markBefore_8 ?_
    refine lv_icmp_ge (tgt := 35) hx hb d_Clock_markBefore_11 (by decide) (fun c_1 => ?_) (fun c_1 => ?_)
    · have c_1 : n ≤ k := (nI_leI (a := n) (b := k) (by omega) (by omega)).mp c_1
      have c_1n : ¬ k < n := by omega
      refine lv_iload_n hx hb d_Clock_markBefore_35 rfl (lv_at hl 1 rfl) ?_
      exact W.iret (v := oI o) hx hb hr (fun t ht hW => ⟨oI o, rfl, by rw [hI, show k = n by omega] <;> rfl, ht⟩) (fun q h => by cases h) d_Clock_markBefore_36
    · have c_1 : ¬ n ≤ k := fun h9 => c_1 ((nI_leI (a := n) (b := k) (by omega) (by omega)).mpr h9)
      have c_1n : k < n := by omega
      refine lv_aload_n hx hb d_Clock_markBefore_14 rfl (lv_at hl 2 rfl) ?_
      refine va_get (D := G.1) (ci := 2) (v := .ref (ad 0)) (C := R_Clock) (T := F_Clock) (N := 3) hx hb ht i_Clock hown hK.1 hP 0 rfl rfl 0 (by decide) (ht _ m_150) (fun _ h9 => h9) rfl d_Clock_markBefore_15 ?_
      refine lv_iload hx hb d_Clock_markBefore_18 (lv_at hl 0 rfl) ?_
      refine sy_lald hx hb hK.1 hP 1 1 rfl rfl (k := k) (by omega) (by decide) d_Clock_markBefore_20 ?_
      refine lv_lload_n hx hb d_Clock_markBefore_21 rfl (lv_at hl 3 rfl) ?_
      refine sy_lc_gt (tgt := 29) hx hb d_Clock_markBefore_22 d_Clock_markBefore_23 (by decide) (fun c_2 => ?_) (fun c_2 => ?_)
      · have c_2n := sy_a64 c_2
        refine lv_iinc (v := nI (k + 1)) (lv' := [(4, .int (nI (k + 1))), (3, .int (oI o)), (0, .ref h0), (1, .long x)]) hx hb d_Clock_markBefore_29 hl (k := 0) rfl (nI_add k 1) (by decide) rfl (fun ls hl => ?_)
        refine lv_goto (tgt := 5) hx hb d_Clock_markBefore_32 (by decide) ?_
        refine ih5 (k + 1, o) ls (show n - (k + 1) < n - k by omega) ?_ (lv_sub hl [0, 1, 2, 3] rfl)
        exact ⟨by omega, by first | (rw [nn_fl, if_pos (by simp [ck_p, c_1, c_1n, c_2, c_2n]; done)]; done) | (rw [nn_fl, if_neg (by simp [ck_p, c_1, c_1n, c_2, c_2n]; done), ← hI])⟩
      · have c_2n := sy_b64 c_2
        refine lv_iload hx hb d_Clock_markBefore_26 (lv_at hl 0 rfl) ?_
        refine lv_istore_n (lv' := [(3, .int (nI k)), (4, .int (nI k)), (0, .ref h0), (1, .long x)]) hx hb d_Clock_markBefore_28 rfl hl (by decide) rfl (fun ls hl => ?_)
        refine lv_iinc (v := nI (k + 1)) (lv' := [(4, .int (nI (k + 1))), (3, .int (nI k)), (0, .ref h0), (1, .long x)]) hx hb d_Clock_markBefore_29 hl (k := 1) rfl (nI_add k 1) (by decide) rfl (fun ls hl => ?_)
        refine lv_goto (tgt := 5) hx hb d_Clock_markBefore_32 (by decide) ?_
        refine ih5 (k + 1, (some k)) ls (show n - (k + 1) < n - k by omega) ?_ (lv_sub hl [0, 1, 2, 3] rfl)
        exact ⟨by omega, by first | (rw [nn_fl, if_pos (by simp [ck_p, c_1, c_1n, c_2, c_2n]; done)]; done) | (rw [nn_fl, if_neg (by simp [ck_p, c_1, c_1n, c_2, c_2n]; done), ← hI])⟩
  · exact ⟨Nat.zero_le _, rfl⟩
set_option maxHeartbeats 4000000 in
set_option maxRecDepth 100000 in
theorem c_Tellings_nextNumber (l : Launch) (G : sy_G) (h0 : Nat) (ad : Nat → Nat) (n : Nat) (fI : Nat → Nat → Int32) (fL : Nat → Nat → Int64) (am : Int64) (af : Int32) (hn : n ≤ 60) : Met l y_Tellings_nextNumber (sy_w y_Tellings_nextNumber b_Tellings_nextNumber 6 (some .int)) { frames := 2, cells := 0, slots := 0, locals := 42 } (va_Pc [.ref h0, .long am, .int af] (sy_KP G (va_P G.1 classes (tw G.2 h0 ad n fI fL)))) (vp_Si (fun r => r = tl_nx fI am af n)) 0 0 (fun _ => False) := by
  refine Met.ofW (cc := b_Tellings_nextNumber) (maxL := 6) (ret := (some .int)) (by decide) rfl ?_
  intro p e s m args below meth c s₁ B hml hv
  obtain ⟨rfl, hP, hK⟩ := hv
  have hx := B.exec
  have hb := B.bytes
  have hr := B.returns
  have hts := atoms_spec (ws := sy_w y_Tellings_nextNumber b_Tellings_nextNumber 6 (some .int)) B.pre
  have ht : ∀ wd ∈ sy_T, wd.before ([.ref h0, .long am, .int af] : List Value).toArray s = true := fun wd h => hts wd (List.mem_cons_of_mem _ h)
  have hown : s.vm.findClass R_Tellings = some m.cls := findClass_of_methodNamed B.named
  have hlocks := B.notSynchronized
  have hl := lv_entry ([.ref h0, .long am, .int af]) (n := 6) (Nat.le_of_ble_eq_true rfl)
  rw [lg_entry_eq]
  generalize (lg_sl ([.ref h0, .long am, .int af]) ++ List.replicate (6 - (lg_sl ([.ref h0, .long am, .int af])).length) Slot.unset).toArray = ls at hl ⊢
  have hl : lv_has ls 6 [(0, .ref h0), (1, .long am), (3, .int af)] := hl
  refine lv_iconst (v := (-1)) hx hb d_Tellings_nextNumber_0 (by decide) ?_
  refine lv_istore (lv' := [(4, .int (-1)), (0, .ref h0), (1, .long am), (3, .int af)]) hx hb d_Tellings_nextNumber_1 hl (by decide) rfl (fun ls hl => ?_)
  refine lv_iconst (v := 0) hx hb d_Tellings_nextNumber_3 (by decide) ?_
  refine lv_istore (lv' := [(5, .int 0), (4, .int (-1)), (0, .ref h0), (1, .long am), (3, .int af)]) hx hb d_Tellings_nextNumber_4 hl (by decide) rfl (fun ls hl => ?_)
  refine sy_loop (σ := Nat × Int32) (nL := 6) (fun x6 => match x6 with | (k, f) => n - k) (fun x6 => match x6 with | (k, f) => [(5, .int (nI k)), (4, .int f), (0, .ref h0), (1, .long am), (3, .int af)]) (fun x6 => match x6 with | (k, f) => k ≤ n ∧ f = tl_nx fI am af k) ?_ (0, (-1 : Int32)) ?_ (lv_sub hl [0, 1, 2, 3, 4] rfl)
  · intro x6 ls hI hl ih6
    obtain ⟨k, f⟩ := x6
    have hl : lv_has ls 6 [(5, .int (nI k)), (4, .int f), (0, .ref h0), (1, .long am), (3, .int af)] := hl
    obtain ⟨hk, hI⟩ := hI
    refine lv_iload hx hb d_Tellings_nextNumber_6 (lv_at hl 0 rfl) ?_
    refine lv_aload_n hx hb d_Tellings_nextNumber_8 rfl (lv_at hl 2 rfl) ?_
    refine va_get (D := G.1) (ci := 5) (v := .int (nI n)) (C := R_Tellings) (T := F_Tellings) (N := 8) hx hb ht i_Tellings hown hK.1 hP 0 rfl rfl 7 (by decide) (ht _ m_67) (fun _ h9 => h9) rfl d_Tellings_nextNumber_9 ?_
    refine lv_icmp_ge (tgt := 68) hx hb d_Tellings_nextNumber_12 (by decide) (fun c_1 => ?_) (fun c_1 => ?_)
    · have c_1 : n ≤ k := (nI_leI (a := n) (b := k) (by omega) (by omega)).mp c_1
      have c_1n : ¬ k < n := by omega
      refine lv_iload hx hb d_Tellings_nextNumber_68 (lv_at hl 1 rfl) ?_
      exact W.iret (v := f) hx hb hr (fun t ht hW => ⟨f, rfl, by rw [hI, show k = n by omega], ht⟩) (fun q h => by cases h) d_Tellings_nextNumber_70
    · have c_1 : ¬ n ≤ k := fun h9 => c_1 ((nI_leI (a := n) (b := k) (by omega) (by omega)).mpr h9)
      have c_1n : k < n := by omega
      refine lv_iload hx hb d_Tellings_nextNumber_15 (lv_at hl 0 rfl) ?_
      refine lv_lload_n hx hb d_Tellings_nextNumber_17 rfl (lv_at hl 3 rfl) ?_
      refine vp_callSi (va_Run.run (sy_runSN (As := [.int (nI k), .long am]) (rest := []) ⟨hx, hb, hml, hown, ht⟩ cl_Tellings_42 (c_DeviceSets_isIn l G k am) hK trivial rfl nm_DeviceSets_isIn rfl rfl ⟨Nat.le_of_ble_eq_true rfl, Nat.le_of_ble_eq_true rfl⟩ hl.1 (Nat.le_of_ble_eq_true rfl) d_Tellings_nextNumber_18 ⟨Nat.zero_le _, Nat.zero_le _⟩)) (fun r_2 hr_2 => ?_)
      subst hr_2
      refine lv_if_eq (tgt := 62) hx hb d_Tellings_nextNumber_21 (by decide) (fun c_3 => ?_) (fun c_3 => ?_)
      · have c_3 := bI_f c_3
        refine lv_iinc (v := nI (k + 1)) (lv' := [(5, .int (nI (k + 1))), (4, .int f), (0, .ref h0), (1, .long am), (3, .int af)]) hx hb d_Tellings_nextNumber_62 hl (k := 0) rfl (nI_add k 1) (by decide) rfl (fun ls hl => ?_)
        refine lv_goto (tgt := 6) hx hb d_Tellings_nextNumber_65 (by decide) ?_
        refine ih6 (k + 1, f) ls (show n - (k + 1) < n - k by omega) ?_ (lv_sub hl [0, 1, 2, 3, 4] rfl)
        exact ⟨by omega, by first | (rw [tl_nx, if_pos (by simp [← hI, c_1, c_1n, c_3]; done)]; done) | (rw [tl_nx, if_neg (by simp [← hI, c_1, c_1n, c_3]; done), ← hI])⟩
      · have c_3 := bI_t c_3
        refine lv_aload_n hx hb d_Tellings_nextNumber_24 rfl (lv_at hl 2 rfl) ?_
        refine va_get (D := G.1) (ci := 5) (v := .ref (ad 2)) (C := R_Tellings) (T := F_Tellings) (N := 8) hx hb ht i_Tellings hown hK.1 hP 0 rfl rfl 2 (by decide) (ht _ m_60) (fun _ h9 => h9) rfl d_Tellings_nextNumber_25 ?_
        refine lv_iload hx hb d_Tellings_nextNumber_28 (lv_at hl 0 rfl) ?_
        refine sy_iald hx hb hK.1 hP 3 0 rfl rfl (k := k) (by omega) (by decide) d_Tellings_nextNumber_30 ?_
        refine lv_iload_n hx hb d_Tellings_nextNumber_31 rfl (lv_at hl 4 rfl) ?_
        refine lv_icmp_le (tgt := 62) hx hb d_Tellings_nextNumber_32 (by decide) (fun c_4 => ?_) (fun c_4 => ?_)
        · have c_4n := sy_c32 c_4
          refine lv_iinc (v := nI (k + 1)) (lv' := [(5, .int (nI (k + 1))), (4, .int f), (0, .ref h0), (1, .long am), (3, .int af)]) hx hb d_Tellings_nextNumber_62 hl (k := 0) rfl (nI_add k 1) (by decide) rfl (fun ls hl => ?_)
          refine lv_goto (tgt := 6) hx hb d_Tellings_nextNumber_65 (by decide) ?_
          refine ih6 (k + 1, f) ls (show n - (k + 1) < n - k by omega) ?_ (lv_sub hl [0, 1, 2, 3, 4] rfl)
          exact ⟨by omega, by first | (rw [tl_nx, if_pos (by simp [← hI, c_1, c_1n, c_3, c_4, c_4n]; done)]; done) | (rw [tl_nx, if_neg (by simp [← hI, c_1, c_1n, c_3, c_4, c_4n]; done), ← hI])⟩
        · have c_4n := sy_d32 c_4
          refine lv_iload hx hb d_Tellings_nextNumber_35 (lv_at hl 1 rfl) ?_
          refine lv_iconst (v := (-1)) hx hb d_Tellings_nextNumber_37 (by decide) ?_
          refine lv_icmp_eq (tgt := 53) hx hb d_Tellings_nextNumber_38 (by decide) (fun c_5 => ?_) (fun c_5 => ?_)
          · refine lv_aload_n hx hb d_Tellings_nextNumber_53 rfl (lv_at hl 2 rfl) ?_
            refine va_get (D := G.1) (ci := 5) (v := .ref (ad 2)) (C := R_Tellings) (T := F_Tellings) (N := 8) hx hb ht i_Tellings hown hK.1 hP 0 rfl rfl 2 (by decide) (ht _ m_60) (fun _ h9 => h9) rfl d_Tellings_nextNumber_54 ?_
            refine lv_iload hx hb d_Tellings_nextNumber_57 (lv_at hl 0 rfl) ?_
            refine sy_iald hx hb hK.1 hP 3 0 rfl rfl (k := k) (by omega) (by decide) d_Tellings_nextNumber_59 ?_
            refine lv_istore (lv' := [(4, .int (fI 2 k)), (5, .int (nI k)), (0, .ref h0), (1, .long am), (3, .int af)]) hx hb d_Tellings_nextNumber_60 hl (by decide) rfl (fun ls hl => ?_)
            refine lv_iinc (v := nI (k + 1)) (lv' := [(5, .int (nI (k + 1))), (4, .int (fI 2 k)), (0, .ref h0), (1, .long am), (3, .int af)]) hx hb d_Tellings_nextNumber_62 hl (k := 1) rfl (nI_add k 1) (by decide) rfl (fun ls hl => ?_)
            refine lv_goto (tgt := 6) hx hb d_Tellings_nextNumber_65 (by decide) ?_
            refine ih6 (k + 1, fI 2 k) ls (show n - (k + 1) < n - k by omega) ?_ (lv_sub hl [0, 1, 2, 3, 4] rfl)
            exact ⟨by omega, by first | (rw [tl_nx, if_pos (by simp [← hI, c_1, c_1n, c_3, c_4, c_4n, c_5]; done)]; done) | (rw [tl_nx, if_neg (by simp [← hI, c_1, c_1n, c_3, c_4, c_4n, c_5]; done), ← hI])⟩
          · refine lv_aload_n hx hb d_Tellings_nextNumber_41 rfl (lv_at hl 2 rfl) ?_
            refine va_get (D := G.1) (ci := 5) (v := .ref (ad 2)) (C := R_Tellings) (T := F_Tellings) (N := 8) hx hb ht i_Tellings hown hK.1 hP 0 rfl rfl 2 (by decide) (ht _ m_60) (fun _ h9 => h9) rfl d_Tellings_nextNumber_42 ?_
            refine lv_iload hx hb d_Tellings_nextNumber_45 (lv_at hl 0 rfl) ?_
            refine sy_iald hx hb hK.1 hP 3 0 rfl rfl (k := k) (by omega) (by decide) d_Tellings_nextNumber_47 ?_
            refine lv_iload hx hb d_Tellings_nextNumber_48 (lv_at hl 1 rfl) ?_
            refine lv_icmp_ge (tgt := 62) hx hb d_Tellings_nextNumber_50 (by decide) (fun c_6 => ?_) (fun c_6 => ?_)
            · have c_6n := sy_c32 c_6
              refine lv_iinc (v := nI (k + 1)) (lv' := [(5, .int (nI (k + 1))), (4, .int f), (0, .ref h0), (1, .long am), (3, .int af)]) hx hb d_Tellings_nextNumber_62 hl (k := 0) rfl (nI_add k 1) (by decide) rfl (fun ls hl => ?_)
              refine lv_goto (tgt := 6) hx hb d_Tellings_nextNumber_65 (by decide) ?_
              refine ih6 (k + 1, f) ls (show n - (k + 1) < n - k by omega) ?_ (lv_sub hl [0, 1, 2, 3, 4] rfl)
              exact ⟨by omega, by first | (rw [tl_nx, if_pos (by simp [← hI, c_1, c_1n, c_3, c_4, c_4n, c_5, c_6, c_6n]; done)]; done) | (rw [tl_nx, if_neg (by simp [← hI, c_1, c_1n, c_3, c_4, c_4n, c_5, c_6, c_6n]; done), ← hI])⟩
            · have c_6n := sy_d32 c_6
              refine lv_aload_n hx hb d_Tellings_nextNumber_53 rfl (lv_at hl 2 rfl) ?_
              refine va_get (D := G.1) (ci := 5) (v := .ref (ad 2)) (C := R_Tellings) (T := F_Tellings) (N := 8) hx hb ht i_Tellings hown hK.1 hP 0 rfl rfl 2 (by decide) (ht _ m_60) (fun _ h9 => h9) rfl d_Tellings_nextNumber_54 ?_
              refine lv_iload hx hb d_Tellings_nextNumber_57 (lv_at hl 0 rfl) ?_
              refine sy_iald hx hb hK.1 hP 3 0 rfl rfl (k := k) (by omega) (by decide) d_Tellings_nextNumber_59 ?_
              refine lv_istore (lv' := [(4, .int (fI 2 k)), (5, .int (nI k)), (0, .ref h0), (1, .long am), (3, .int af)]) hx hb d_Tellings_nextNumber_60 hl (by decide) rfl (fun ls hl => ?_)
              refine lv_iinc (v := nI (k + 1)) (lv' := [(5, .int (nI (k + 1))), (4, .int (fI 2 k)), (0, .ref h0), (1, .long am), (3, .int af)]) hx hb d_Tellings_nextNumber_62 hl (k := 1) rfl (nI_add k 1) (by decide) rfl (fun ls hl => ?_)
              refine lv_goto (tgt := 6) hx hb d_Tellings_nextNumber_65 (by decide) ?_
              refine ih6 (k + 1, fI 2 k) ls (show n - (k + 1) < n - k by omega) ?_ (lv_sub hl [0, 1, 2, 3, 4] rfl)
              exact ⟨by omega, by first | (rw [tl_nx, if_pos (by simp [← hI, c_1, c_1n, c_3, c_4, c_4n, c_5, c_6, c_6n]; done)]; done) | (rw [tl_nx, if_neg (by simp [← hI, c_1, c_1n, c_3, c_4, c_4n, c_5, c_6, c_6n]; done), ← hI])⟩
  · exact ⟨Nat.zero_le _, rfl⟩
set_option maxHeartbeats 4000000 in
set_option maxRecDepth 100000 in
theorem c_Tellings_ofGreatestLife (l : Launch) (G : sy_G) (h0 : Nat) (ad : Nat → Nat) (n : Nat) (fI : Nat → Nat → Int32) (fL : Nat → Nat → Int64) (am : Int64) (hn : n ≤ 60) : Met l y_Tellings_ofGreatestLife (sy_w y_Tellings_ofGreatestLife b_Tellings_ofGreatestLife 7 (some .long)) { frames := 2, cells := 0, slots := 0, locals := 42 } (va_Pc [.ref h0, .long am] (sy_KP G (va_P G.1 classes (tw G.2 h0 ad n fI fL)))) (vp_Sl (fun r => r = (tl_gl fI am n).2)) 0 0 (fun _ => False) := by
  refine Met.ofW (cc := b_Tellings_ofGreatestLife) (maxL := 7) (ret := (some .long)) (by decide) rfl ?_
  intro p e s m args below meth c s₁ B hml hv
  obtain ⟨rfl, hP, hK⟩ := hv
  have hx := B.exec
  have hb := B.bytes
  have hr := B.returns
  have hts := atoms_spec (ws := sy_w y_Tellings_ofGreatestLife b_Tellings_ofGreatestLife 7 (some .long)) B.pre
  have ht : ∀ wd ∈ sy_T, wd.before ([.ref h0, .long am] : List Value).toArray s = true := fun wd h => hts wd (List.mem_cons_of_mem _ h)
  have hown : s.vm.findClass R_Tellings = some m.cls := findClass_of_methodNamed B.named
  have hlocks := B.notSynchronized
  have hl := lv_entry ([.ref h0, .long am]) (n := 7) (Nat.le_of_ble_eq_true rfl)
  rw [lg_entry_eq]
  generalize (lg_sl ([.ref h0, .long am]) ++ List.replicate (7 - (lg_sl ([.ref h0, .long am])).length) Slot.unset).toArray = ls at hl ⊢
  have hl : lv_has ls 7 [(0, .ref h0), (1, .long am)] := hl
  refine lv_iconst (v := (-1)) hx hb d_Tellings_ofGreatestLife_0 (by decide) ?_
  refine lv_istore_n (lv' := [(3, .int (-1)), (0, .ref h0), (1, .long am)]) hx hb d_Tellings_ofGreatestLife_1 rfl hl (by decide) rfl (fun ls hl => ?_)
  refine lv_lconst (v := 0) hx hb d_Tellings_ofGreatestLife_2 (by decide) ?_
  refine lv_lstore (lv' := [(4, .long 0), (3, .int (-1)), (0, .ref h0), (1, .long am)]) hx hb d_Tellings_ofGreatestLife_3 hl (by decide) rfl (fun ls hl => ?_)
  refine lv_iconst (v := 0) hx hb d_Tellings_ofGreatestLife_5 (by decide) ?_
  refine lv_istore (lv' := [(6, .int 0), (4, .long 0), (3, .int (-1)), (0, .ref h0), (1, .long am)]) hx hb d_Tellings_ofGreatestLife_6 hl (by decide) rfl (fun ls hl => ?_)
  refine sy_loop (σ := Nat × Int32 × Int64) (nL := 7) (fun x8 => match x8 with | (k, g, f) => n - k) (fun x8 => match x8 with | (k, g, f) => [(6, .int (nI k)), (3, .int g), (4, .long f), (0, .ref h0), (1, .long am)]) (fun x8 => match x8 with | (k, g, f) => k ≤ n ∧ (g, f) = tl_gl fI am k) ?_ (0, (-1 : Int32), (0 : Int64)) ?_ (lv_sub hl [0, 2, 1, 3, 4] rfl)
  · intro x8 ls hI hl ih8
    obtain ⟨k, g, f⟩ := x8
    have hl : lv_has ls 7 [(6, .int (nI k)), (3, .int g), (4, .long f), (0, .ref h0), (1, .long am)] := hl
    obtain ⟨hk, hI⟩ := hI
    refine lv_iload hx hb d_Tellings_ofGreatestLife_8 (lv_at hl 0 rfl) ?_
    refine lv_aload_n hx hb d_Tellings_ofGreatestLife_10 rfl (lv_at hl 3 rfl) ?_
    refine va_get (D := G.1) (ci := 5) (v := .int (nI n)) (C := R_Tellings) (T := F_Tellings) (N := 8) hx hb ht i_Tellings hown hK.1 hP 0 rfl rfl 7 (by decide) (ht _ m_67) (fun _ h9 => h9) rfl d_Tellings_ofGreatestLife_11 ?_
    refine lv_icmp_ge (tgt := 84) hx hb d_Tellings_ofGreatestLife_14 (by decide) (fun c_1 => ?_) (fun c_1 => ?_)
    · have c_1 : n ≤ k := (nI_leI (a := n) (b := k) (by omega) (by omega)).mp c_1
      have c_1n : ¬ k < n := by omega
      refine lv_lload hx hb d_Tellings_ofGreatestLife_84 (lv_at hl 2 rfl) ?_
      exact W.lret (v := f) hx hb hr (fun t ht hW => ⟨f, rfl, by rw [← show k = n by omega, ← hI], ht⟩) (fun q h => by cases h) d_Tellings_ofGreatestLife_86
    · have c_1 : ¬ n ≤ k := fun h9 => c_1 ((nI_leI (a := n) (b := k) (by omega) (by omega)).mpr h9)
      have c_1n : k < n := by omega
      refine lv_iload hx hb d_Tellings_ofGreatestLife_17 (lv_at hl 0 rfl) ?_
      refine lv_lload_n hx hb d_Tellings_ofGreatestLife_19 rfl (lv_at hl 4 rfl) ?_
      refine vp_callSi (va_Run.run (sy_runSN (As := [.int (nI k), .long am]) (rest := []) ⟨hx, hb, hml, hown, ht⟩ cl_Tellings_42 (c_DeviceSets_isIn l G k am) hK trivial rfl nm_DeviceSets_isIn rfl rfl ⟨Nat.le_of_ble_eq_true rfl, Nat.le_of_ble_eq_true rfl⟩ hl.1 (Nat.le_of_ble_eq_true rfl) d_Tellings_ofGreatestLife_20 ⟨Nat.zero_le _, Nat.zero_le _⟩)) (fun r_2 hr_2 => ?_)
      subst hr_2
      refine lv_if_eq (tgt := 48) hx hb d_Tellings_ofGreatestLife_23 (by decide) (fun c_3 => ?_) (fun c_3 => ?_)
      · have c_3 := bI_f c_3
        refine lv_iload hx hb d_Tellings_ofGreatestLife_48 (lv_at hl 0 rfl) ?_
        refine lv_lload_n hx hb d_Tellings_ofGreatestLife_50 rfl (lv_at hl 4 rfl) ?_
        refine vp_callSi (va_Run.run (sy_runSN (As := [.int (nI k), .long am]) (rest := []) ⟨hx, hb, hml, hown, ht⟩ cl_Tellings_42 (c_DeviceSets_isIn l G k am) hK trivial rfl nm_DeviceSets_isIn rfl rfl ⟨Nat.le_of_ble_eq_true rfl, Nat.le_of_ble_eq_true rfl⟩ hl.1 (Nat.le_of_ble_eq_true rfl) d_Tellings_ofGreatestLife_51 ⟨Nat.zero_le _, Nat.zero_le _⟩)) (fun r_4 hr_4 => ?_)
        subst hr_4
        refine lv_if_eq (tgt := 78) hx hb d_Tellings_ofGreatestLife_54 (by decide) (fun c_5 => ?_) (fun c_5 => absurd (bI_t c_5) (by rw [c_3]; decide))
        refine lv_iinc (v := nI (k + 1)) (lv' := [(6, .int (nI (k + 1))), (3, .int g), (4, .long f), (0, .ref h0), (1, .long am)]) hx hb d_Tellings_ofGreatestLife_78 hl (k := 0) rfl (nI_add k 1) (by decide) rfl (fun ls hl => ?_)
        refine lv_goto (tgt := 8) hx hb d_Tellings_ofGreatestLife_81 (by decide) ?_
        refine ih8 (k + 1, g, f) ls (show n - (k + 1) < n - k by omega) ?_ (lv_sub hl [0, 1, 2, 3, 4] rfl)
        exact ⟨by omega, by rw [tl_gl, ← hI]; simp [c_1, c_1n, c_3, c_5]⟩
      · have c_3 := bI_t c_3
        refine lv_aload_n hx hb d_Tellings_ofGreatestLife_26 rfl (lv_at hl 3 rfl) ?_
        refine va_get (D := G.1) (ci := 5) (v := .ref (ad 1)) (C := R_Tellings) (T := F_Tellings) (N := 8) hx hb ht i_Tellings hown hK.1 hP 0 rfl rfl 1 (by decide) (ht _ m_59) (fun _ h9 => h9) rfl d_Tellings_ofGreatestLife_27 ?_
        refine lv_iload hx hb d_Tellings_ofGreatestLife_30 (lv_at hl 0 rfl) ?_
        refine sy_iald hx hb hK.1 hP 2 0 rfl rfl (k := k) (by omega) (by decide) d_Tellings_ofGreatestLife_32 ?_
        refine lv_iload_n hx hb d_Tellings_ofGreatestLife_33 rfl (lv_at hl 1 rfl) ?_
        refine lv_icmp_le (tgt := 48) hx hb d_Tellings_ofGreatestLife_34 (by decide) (fun c_6 => ?_) (fun c_6 => ?_)
        · have c_6n := sy_c32 c_6
          refine lv_iload hx hb d_Tellings_ofGreatestLife_48 (lv_at hl 0 rfl) ?_
          refine lv_lload_n hx hb d_Tellings_ofGreatestLife_50 rfl (lv_at hl 4 rfl) ?_
          refine vp_callSi (va_Run.run (sy_runSN (As := [.int (nI k), .long am]) (rest := []) ⟨hx, hb, hml, hown, ht⟩ cl_Tellings_42 (c_DeviceSets_isIn l G k am) hK trivial rfl nm_DeviceSets_isIn rfl rfl ⟨Nat.le_of_ble_eq_true rfl, Nat.le_of_ble_eq_true rfl⟩ hl.1 (Nat.le_of_ble_eq_true rfl) d_Tellings_ofGreatestLife_51 ⟨Nat.zero_le _, Nat.zero_le _⟩)) (fun r_7 hr_7 => ?_)
          subst hr_7
          refine lv_if_eq (tgt := 78) hx hb d_Tellings_ofGreatestLife_54 (by decide) (fun c_8 => absurd (bI_f c_8) (by rw [c_3]; decide)) (fun c_8 => ?_)
          refine lv_aload_n hx hb d_Tellings_ofGreatestLife_57 rfl (lv_at hl 3 rfl) ?_
          refine va_get (D := G.1) (ci := 5) (v := .ref (ad 1)) (C := R_Tellings) (T := F_Tellings) (N := 8) hx hb ht i_Tellings hown hK.1 hP 0 rfl rfl 1 (by decide) (ht _ m_59) (fun _ h9 => h9) rfl d_Tellings_ofGreatestLife_58 ?_
          refine lv_iload hx hb d_Tellings_ofGreatestLife_61 (lv_at hl 0 rfl) ?_
          refine sy_iald hx hb hK.1 hP 2 0 rfl rfl (k := k) (by omega) (by decide) d_Tellings_ofGreatestLife_63 ?_
          refine lv_iload_n hx hb d_Tellings_ofGreatestLife_64 rfl (lv_at hl 1 rfl) ?_
          refine lv_icmp_ne (tgt := 78) hx hb d_Tellings_ofGreatestLife_65 (by decide) (fun c_9 => ?_) (fun c_9 => ?_)
          · refine lv_iinc (v := nI (k + 1)) (lv' := [(6, .int (nI (k + 1))), (3, .int g), (4, .long f), (0, .ref h0), (1, .long am)]) hx hb d_Tellings_ofGreatestLife_78 hl (k := 0) rfl (nI_add k 1) (by decide) rfl (fun ls hl => ?_)
            refine lv_goto (tgt := 8) hx hb d_Tellings_ofGreatestLife_81 (by decide) ?_
            refine ih8 (k + 1, g, f) ls (show n - (k + 1) < n - k by omega) ?_ (lv_sub hl [0, 1, 2, 3, 4] rfl)
            exact ⟨by omega, by rw [tl_gl, ← hI]; simp [c_1, c_1n, c_3, c_6, c_6n, c_8, c_9]⟩
          · refine lv_lload hx hb d_Tellings_ofGreatestLife_68 (lv_at hl 2 rfl) ?_
            refine lv_iload hx hb d_Tellings_ofGreatestLife_70 (lv_at hl 0 rfl) ?_
            refine vp_callSl (va_Run.run (sy_runSN (As := [.int (nI k)]) (rest := [.long f]) ⟨hx, hb, hml, hown, ht⟩ cl_Tellings_38 (c_DeviceSets_bit l G k) hK trivial rfl nm_DeviceSets_bit rfl rfl ⟨Nat.le_of_ble_eq_true rfl, Nat.le_of_ble_eq_true rfl⟩ hl.1 (Nat.le_of_ble_eq_true rfl) d_Tellings_ofGreatestLife_72 ⟨Nat.zero_le _, Nat.zero_le _⟩)) (fun r_10 hr_10 => ?_)
            subst hr_10
            refine lv_lor hx hb d_Tellings_ofGreatestLife_75 ?_
            refine lv_lstore (lv' := [(4, .long (f ||| (bs_b k))), (6, .int (nI k)), (3, .int g), (0, .ref h0), (1, .long am)]) hx hb d_Tellings_ofGreatestLife_76 hl (by decide) rfl (fun ls hl => ?_)
            refine lv_iinc (v := nI (k + 1)) (lv' := [(6, .int (nI (k + 1))), (4, .long (f ||| (bs_b k))), (3, .int g), (0, .ref h0), (1, .long am)]) hx hb d_Tellings_ofGreatestLife_78 hl (k := 1) rfl (nI_add k 1) (by decide) rfl (fun ls hl => ?_)
            refine lv_goto (tgt := 8) hx hb d_Tellings_ofGreatestLife_81 (by decide) ?_
            refine ih8 (k + 1, g, f ||| (bs_b k)) ls (show n - (k + 1) < n - k by omega) ?_ (lv_sub hl [0, 2, 1, 3, 4] rfl)
            exact ⟨by omega, by rw [tl_gl, ← hI]; simp [c_1, c_1n, c_3, c_6, c_6n, c_8, c_9]⟩
        · have c_6n := sy_d32 c_6
          refine lv_aload_n hx hb d_Tellings_ofGreatestLife_37 rfl (lv_at hl 3 rfl) ?_
          refine va_get (D := G.1) (ci := 5) (v := .ref (ad 1)) (C := R_Tellings) (T := F_Tellings) (N := 8) hx hb ht i_Tellings hown hK.1 hP 0 rfl rfl 1 (by decide) (ht _ m_59) (fun _ h9 => h9) rfl d_Tellings_ofGreatestLife_38 ?_
          refine lv_iload hx hb d_Tellings_ofGreatestLife_41 (lv_at hl 0 rfl) ?_
          refine sy_iald hx hb hK.1 hP 2 0 rfl rfl (k := k) (by omega) (by decide) d_Tellings_ofGreatestLife_43 ?_
          refine lv_istore_n (lv' := [(3, .int (fI 1 k)), (6, .int (nI k)), (4, .long f), (0, .ref h0), (1, .long am)]) hx hb d_Tellings_ofGreatestLife_44 rfl hl (by decide) rfl (fun ls hl => ?_)
          refine lv_lconst (v := 0) hx hb d_Tellings_ofGreatestLife_45 (by decide) ?_
          refine lv_lstore (lv' := [(4, .long 0), (3, .int (fI 1 k)), (6, .int (nI k)), (0, .ref h0), (1, .long am)]) hx hb d_Tellings_ofGreatestLife_46 hl (by decide) rfl (fun ls hl => ?_)
          refine lv_iload hx hb d_Tellings_ofGreatestLife_48 (lv_at hl 2 rfl) ?_
          refine lv_lload_n hx hb d_Tellings_ofGreatestLife_50 rfl (lv_at hl 4 rfl) ?_
          refine vp_callSi (va_Run.run (sy_runSN (As := [.int (nI k), .long am]) (rest := []) ⟨hx, hb, hml, hown, ht⟩ cl_Tellings_42 (c_DeviceSets_isIn l G k am) hK trivial rfl nm_DeviceSets_isIn rfl rfl ⟨Nat.le_of_ble_eq_true rfl, Nat.le_of_ble_eq_true rfl⟩ hl.1 (Nat.le_of_ble_eq_true rfl) d_Tellings_ofGreatestLife_51 ⟨Nat.zero_le _, Nat.zero_le _⟩)) (fun r_11 hr_11 => ?_)
          subst hr_11
          refine lv_if_eq (tgt := 78) hx hb d_Tellings_ofGreatestLife_54 (by decide) (fun c_12 => absurd (bI_f c_12) (by rw [c_3]; decide)) (fun c_12 => ?_)
          refine lv_aload_n hx hb d_Tellings_ofGreatestLife_57 rfl (lv_at hl 3 rfl) ?_
          refine va_get (D := G.1) (ci := 5) (v := .ref (ad 1)) (C := R_Tellings) (T := F_Tellings) (N := 8) hx hb ht i_Tellings hown hK.1 hP 0 rfl rfl 1 (by decide) (ht _ m_59) (fun _ h9 => h9) rfl d_Tellings_ofGreatestLife_58 ?_
          refine lv_iload hx hb d_Tellings_ofGreatestLife_61 (lv_at hl 2 rfl) ?_
          refine sy_iald hx hb hK.1 hP 2 0 rfl rfl (k := k) (by omega) (by decide) d_Tellings_ofGreatestLife_63 ?_
          refine lv_iload_n hx hb d_Tellings_ofGreatestLife_64 rfl (lv_at hl 1 rfl) ?_
          refine lv_icmp_ne (tgt := 78) hx hb d_Tellings_ofGreatestLife_65 (by decide) (fun c_13 => absurd rfl c_13) (fun c_13 => ?_)
          refine lv_lload hx hb d_Tellings_ofGreatestLife_68 (lv_at hl 0 rfl) ?_
          refine lv_iload hx hb d_Tellings_ofGreatestLife_70 (lv_at hl 2 rfl) ?_
          refine vp_callSl (va_Run.run (sy_runSN (As := [.int (nI k)]) (rest := [.long 0]) ⟨hx, hb, hml, hown, ht⟩ cl_Tellings_38 (c_DeviceSets_bit l G k) hK trivial rfl nm_DeviceSets_bit rfl rfl ⟨Nat.le_of_ble_eq_true rfl, Nat.le_of_ble_eq_true rfl⟩ hl.1 (Nat.le_of_ble_eq_true rfl) d_Tellings_ofGreatestLife_72 ⟨Nat.zero_le _, Nat.zero_le _⟩)) (fun r_14 hr_14 => ?_)
          subst hr_14
          refine lv_lor hx hb d_Tellings_ofGreatestLife_75 ?_
          refine lv_lstore (lv' := [(4, .long (0 ||| (bs_b k))), (3, .int (fI 1 k)), (6, .int (nI k)), (0, .ref h0), (1, .long am)]) hx hb d_Tellings_ofGreatestLife_76 hl (by decide) rfl (fun ls hl => ?_)
          refine lv_iinc (v := nI (k + 1)) (lv' := [(6, .int (nI (k + 1))), (4, .long (0 ||| (bs_b k))), (3, .int (fI 1 k)), (0, .ref h0), (1, .long am)]) hx hb d_Tellings_ofGreatestLife_78 hl (k := 2) rfl (nI_add k 1) (by decide) rfl (fun ls hl => ?_)
          refine lv_goto (tgt := 8) hx hb d_Tellings_ofGreatestLife_81 (by decide) ?_
          refine ih8 (k + 1, fI 1 k, 0 ||| (bs_b k)) ls (show n - (k + 1) < n - k by omega) ?_ (lv_sub hl [0, 2, 1, 3, 4] rfl)
          exact ⟨by omega, by rw [tl_gl, ← hI]; simp [c_1, c_1n, c_3, c_6, c_6n, c_12, c_13]⟩
  · exact ⟨Nat.zero_le _, rfl⟩
end
section
set_option maxHeartbeats 4000000 in
set_option maxRecDepth 100000 in
theorem c_Tellings_add (l : Launch) (G : sy_G) (h0 : Nat) (ad : Nat → Nat) (n : Nat) (fI : Nat → Nat → Int32) (fL : Nat → Nat → Int64) (d : Int32) (lf : Int32) (nu : Int32) (kd : Int32) (se : Int64) (v : Int64) (wh : Int64) (hn : n ≤ 60) : Met l y_Tellings_add (sy_w y_Tellings_add b_Tellings_add 11 (some .boolean)) { frames := 0, cells := 0, slots := 0, locals := 0 } (va_Pc [.ref h0, .int d, .int lf, .int nu, .int kd, .long se, .long v, .long wh] (sy_KP G (fun H => va_P G.1 classes (tw G.2 h0 ad n fI fL) H ∧ va_D (fun _ => True) (tw G.2 h0 ad n fI fL)))) (va_Qi (S := tl_S) (fun r u => r = bI (tl_add n fI fL d lf nu kd se v wh).1 ∧ u = (tl_add n fI fL d lf nu kd se v wh).2) (fun u t => va_P G.1 classes (tw G.2 h0 ad u.1 u.2.1 u.2.2) t.heap) (sy_A (tw G.2 h0 ad n fI fL))) 0 0 (sy_A (tw G.2 h0 ad n fI fL)) := by
  refine Met.ofW (cc := b_Tellings_add) (maxL := 11) (ret := (some .boolean)) (by decide) rfl ?_
  intro p e s m args below meth c s₁ B hml hv
  obtain ⟨rfl, ⟨hP, hD0⟩, hK⟩ := hv
  have hx := B.exec
  have hb := B.bytes
  have hr := B.returns
  have hts := atoms_spec (ws := sy_w y_Tellings_add b_Tellings_add 11 (some .boolean)) B.pre
  have ht : ∀ wd ∈ sy_T, wd.before ([.ref h0, .int d, .int lf, .int nu, .int kd, .long se, .long v, .long wh] : List Value).toArray s = true := fun wd h => hts wd (List.mem_cons_of_mem _ h)
  have hown : s.vm.findClass R_Tellings = some m.cls := findClass_of_methodNamed B.named
  have hlocks := B.notSynchronized
  have hD := sy_self hD0
  generalize hAe : sy_A (tw G.2 h0 ad n fI fL) = A at hD ⊢
  have hS : va_S A s.heap s.heap [] := va_S.rf
  have hl := lv_entry ([.ref h0, .int d, .int lf, .int nu, .int kd, .long se, .long v, .long wh]) (n := 11) (Nat.le_of_ble_eq_true rfl)
  rw [lg_entry_eq]
  generalize (lg_sl ([.ref h0, .int d, .int lf, .int nu, .int kd, .long se, .long v, .long wh]) ++ List.replicate (11 - (lg_sl ([.ref h0, .int d, .int lf, .int nu, .int kd, .long se, .long v, .long wh])).length) Slot.unset).toArray = ls at hl ⊢
  have hl : lv_has ls 11 [(0, .ref h0), (1, .int d), (2, .int lf), (3, .int nu), (4, .int kd), (5, .long se), (7, .long v), (9, .long wh)] := hl
  refine lv_aload_n hx hb d_Tellings_add_0 rfl (lv_at hl 0 rfl) ?_
  refine va_get (D := G.1) (ci := 5) (v := .int (nI n)) (C := R_Tellings) (T := F_Tellings) (N := 8) hx hb ht i_Tellings hown hK.1 hP 0 rfl rfl 7 (by decide) (ht _ m_67) (fun _ h9 => h9) rfl d_Tellings_add_1 ?_
  refine lv_bipush (v := 60) hx hb d_Tellings_add_4 (by decide) ?_
  refine lv_icmp_lt (tgt := 11) hx hb d_Tellings_add_6 (by decide) (fun c_1 => ?_) (fun c_1 => ?_)
  · have c_1 : n < 60 := (nI_ltI (a := n) (b := 60) (by omega) (by omega)).mp c_1
    have c_1n : ¬ 60 ≤ n := by omega
    refine lv_aload_n hx hb d_Tellings_add_11 rfl (lv_at hl 0 rfl) ?_
    refine va_get (D := G.1) (ci := 5) (v := .ref (ad 0)) (C := R_Tellings) (T := F_Tellings) (N := 8) hx hb ht i_Tellings hown hK.1 hP 0 rfl rfl 0 (by decide) (ht _ m_58) (fun _ h9 => h9) rfl d_Tellings_add_12 ?_
    refine lv_aload_n hx hb d_Tellings_add_15 rfl (lv_at hl 0 rfl) ?_
    refine va_get (D := G.1) (ci := 5) (v := .int (nI n)) (C := R_Tellings) (T := F_Tellings) (N := 8) hx hb ht i_Tellings hown hK.1 hP 0 rfl rfl 7 (by decide) (ht _ m_67) (fun _ h9 => h9) rfl d_Tellings_add_16 ?_
    refine lv_iload_n hx hb d_Tellings_add_19 rfl (lv_at hl 1 rfl) ?_
    refine sy_iast hx hb hK.1 hP hD hS 1 0 rfl rfl (k := n) (by omega) (by decide) d_Tellings_add_20 (fun H locs hP hD hS => ?_)
    have hP : va_P G.1 classes (tw G.2 h0 ad n (va_up fI 0 (upd (fI 0) n d)) fL) H := hP
    have hD : va_D A (tw G.2 h0 ad n (va_up fI 0 (upd (fI 0) n d)) fL) := hD
    refine lv_aload_n hx hb d_Tellings_add_21 rfl (lv_at hl 0 rfl) ?_
    refine va_get (D := G.1) (ci := 5) (v := .ref (ad 1)) (C := R_Tellings) (T := F_Tellings) (N := 8) hx hb ht i_Tellings hown hK.1 hP 0 rfl rfl 1 (by decide) (ht _ m_59) (fun _ h9 => h9) rfl d_Tellings_add_22 ?_
    refine lv_aload_n hx hb d_Tellings_add_25 rfl (lv_at hl 0 rfl) ?_
    refine va_get (D := G.1) (ci := 5) (v := .int (nI n)) (C := R_Tellings) (T := F_Tellings) (N := 8) hx hb ht i_Tellings hown hK.1 hP 0 rfl rfl 7 (by decide) (ht _ m_67) (fun _ h9 => h9) rfl d_Tellings_add_26 ?_
    refine lv_iload_n hx hb d_Tellings_add_29 rfl (lv_at hl 2 rfl) ?_
    refine sy_iast hx hb hK.1 hP hD hS 2 0 rfl rfl (k := n) (by omega) (by decide) d_Tellings_add_30 (fun H locs hP hD hS => ?_)
    have hP : va_P G.1 classes (tw G.2 h0 ad n (va_up (va_up fI 0 (upd (fI 0) n d)) 1 (upd (fI 1) n lf)) fL) H := hP
    have hD : va_D A (tw G.2 h0 ad n (va_up (va_up fI 0 (upd (fI 0) n d)) 1 (upd (fI 1) n lf)) fL) := hD
    refine lv_aload_n hx hb d_Tellings_add_31 rfl (lv_at hl 0 rfl) ?_
    refine va_get (D := G.1) (ci := 5) (v := .ref (ad 2)) (C := R_Tellings) (T := F_Tellings) (N := 8) hx hb ht i_Tellings hown hK.1 hP 0 rfl rfl 2 (by decide) (ht _ m_60) (fun _ h9 => h9) rfl d_Tellings_add_32 ?_
    refine lv_aload_n hx hb d_Tellings_add_35 rfl (lv_at hl 0 rfl) ?_
    refine va_get (D := G.1) (ci := 5) (v := .int (nI n)) (C := R_Tellings) (T := F_Tellings) (N := 8) hx hb ht i_Tellings hown hK.1 hP 0 rfl rfl 7 (by decide) (ht _ m_67) (fun _ h9 => h9) rfl d_Tellings_add_36 ?_
    refine lv_iload_n hx hb d_Tellings_add_39 rfl (lv_at hl 3 rfl) ?_
    refine sy_iast hx hb hK.1 hP hD hS 3 0 rfl rfl (k := n) (by omega) (by decide) d_Tellings_add_40 (fun H locs hP hD hS => ?_)
    have hP : va_P G.1 classes (tw G.2 h0 ad n (va_up (va_up (va_up fI 0 (upd (fI 0) n d)) 1 (upd (fI 1) n lf)) 2 (upd (fI 2) n nu)) fL) H := hP
    have hD : va_D A (tw G.2 h0 ad n (va_up (va_up (va_up fI 0 (upd (fI 0) n d)) 1 (upd (fI 1) n lf)) 2 (upd (fI 2) n nu)) fL) := hD
    refine lv_aload_n hx hb d_Tellings_add_41 rfl (lv_at hl 0 rfl) ?_
    refine va_get (D := G.1) (ci := 5) (v := .ref (ad 3)) (C := R_Tellings) (T := F_Tellings) (N := 8) hx hb ht i_Tellings hown hK.1 hP 0 rfl rfl 3 (by decide) (ht _ m_61) (fun _ h9 => h9) rfl d_Tellings_add_42 ?_
    refine lv_aload_n hx hb d_Tellings_add_45 rfl (lv_at hl 0 rfl) ?_
    refine va_get (D := G.1) (ci := 5) (v := .int (nI n)) (C := R_Tellings) (T := F_Tellings) (N := 8) hx hb ht i_Tellings hown hK.1 hP 0 rfl rfl 7 (by decide) (ht _ m_67) (fun _ h9 => h9) rfl d_Tellings_add_46 ?_
    refine lv_iload hx hb d_Tellings_add_49 (lv_at hl 4 rfl) ?_
    refine sy_iast hx hb hK.1 hP hD hS 4 0 rfl rfl (k := n) (by omega) (by decide) d_Tellings_add_51 (fun H locs hP hD hS => ?_)
    have hP : va_P G.1 classes (tw G.2 h0 ad n (va_up (va_up (va_up (va_up fI 0 (upd (fI 0) n d)) 1 (upd (fI 1) n lf)) 2 (upd (fI 2) n nu)) 3 (upd (fI 3) n kd)) fL) H := hP
    have hD : va_D A (tw G.2 h0 ad n (va_up (va_up (va_up (va_up fI 0 (upd (fI 0) n d)) 1 (upd (fI 1) n lf)) 2 (upd (fI 2) n nu)) 3 (upd (fI 3) n kd)) fL) := hD
    refine lv_aload_n hx hb d_Tellings_add_52 rfl (lv_at hl 0 rfl) ?_
    refine va_get (D := G.1) (ci := 5) (v := .ref (ad 4)) (C := R_Tellings) (T := F_Tellings) (N := 8) hx hb ht i_Tellings hown hK.1 hP 0 rfl rfl 4 (by decide) (ht _ m_62) (fun _ h9 => h9) rfl d_Tellings_add_53 ?_
    refine lv_aload_n hx hb d_Tellings_add_56 rfl (lv_at hl 0 rfl) ?_
    refine va_get (D := G.1) (ci := 5) (v := .int (nI n)) (C := R_Tellings) (T := F_Tellings) (N := 8) hx hb ht i_Tellings hown hK.1 hP 0 rfl rfl 7 (by decide) (ht _ m_67) (fun _ h9 => h9) rfl d_Tellings_add_57 ?_
    refine lv_lload hx hb d_Tellings_add_60 (lv_at hl 5 rfl) ?_
    refine sy_last hx hb hK.1 hP hD hS 5 1 rfl rfl (k := n) (by omega) (by decide) d_Tellings_add_62 (fun H locs hP hD hS => ?_)
    have hP : va_P G.1 classes (tw G.2 h0 ad n (va_up (va_up (va_up (va_up fI 0 (upd (fI 0) n d)) 1 (upd (fI 1) n lf)) 2 (upd (fI 2) n nu)) 3 (upd (fI 3) n kd)) (va_up fL 0 (vp_updL (fL 0) n se))) H := hP
    have hD : va_D A (tw G.2 h0 ad n (va_up (va_up (va_up (va_up fI 0 (upd (fI 0) n d)) 1 (upd (fI 1) n lf)) 2 (upd (fI 2) n nu)) 3 (upd (fI 3) n kd)) (va_up fL 0 (vp_updL (fL 0) n se))) := hD
    refine lv_aload_n hx hb d_Tellings_add_63 rfl (lv_at hl 0 rfl) ?_
    refine va_get (D := G.1) (ci := 5) (v := .ref (ad 5)) (C := R_Tellings) (T := F_Tellings) (N := 8) hx hb ht i_Tellings hown hK.1 hP 0 rfl rfl 5 (by decide) (ht _ m_64) (fun _ h9 => h9) rfl d_Tellings_add_64 ?_
    refine lv_aload_n hx hb d_Tellings_add_67 rfl (lv_at hl 0 rfl) ?_
    refine va_get (D := G.1) (ci := 5) (v := .int (nI n)) (C := R_Tellings) (T := F_Tellings) (N := 8) hx hb ht i_Tellings hown hK.1 hP 0 rfl rfl 7 (by decide) (ht _ m_67) (fun _ h9 => h9) rfl d_Tellings_add_68 ?_
    refine lv_lload hx hb d_Tellings_add_71 (lv_at hl 6 rfl) ?_
    refine sy_last hx hb hK.1 hP hD hS 6 1 rfl rfl (k := n) (by omega) (by decide) d_Tellings_add_73 (fun H locs hP hD hS => ?_)
    have hP : va_P G.1 classes (tw G.2 h0 ad n (va_up (va_up (va_up (va_up fI 0 (upd (fI 0) n d)) 1 (upd (fI 1) n lf)) 2 (upd (fI 2) n nu)) 3 (upd (fI 3) n kd)) (va_up (va_up fL 0 (vp_updL (fL 0) n se)) 1 (vp_updL (fL 1) n v))) H := hP
    have hD : va_D A (tw G.2 h0 ad n (va_up (va_up (va_up (va_up fI 0 (upd (fI 0) n d)) 1 (upd (fI 1) n lf)) 2 (upd (fI 2) n nu)) 3 (upd (fI 3) n kd)) (va_up (va_up fL 0 (vp_updL (fL 0) n se)) 1 (vp_updL (fL 1) n v))) := hD
    refine lv_aload_n hx hb d_Tellings_add_74 rfl (lv_at hl 0 rfl) ?_
    refine va_get (D := G.1) (ci := 5) (v := .ref (ad 6)) (C := R_Tellings) (T := F_Tellings) (N := 8) hx hb ht i_Tellings hown hK.1 hP 0 rfl rfl 6 (by decide) (ht _ m_66) (fun _ h9 => h9) rfl d_Tellings_add_75 ?_
    refine lv_aload_n hx hb d_Tellings_add_78 rfl (lv_at hl 0 rfl) ?_
    refine va_get (D := G.1) (ci := 5) (v := .int (nI n)) (C := R_Tellings) (T := F_Tellings) (N := 8) hx hb ht i_Tellings hown hK.1 hP 0 rfl rfl 7 (by decide) (ht _ m_67) (fun _ h9 => h9) rfl d_Tellings_add_79 ?_
    refine lv_lload hx hb d_Tellings_add_82 (lv_at hl 7 rfl) ?_
    refine sy_last hx hb hK.1 hP hD hS 7 1 rfl rfl (k := n) (by omega) (by decide) d_Tellings_add_84 (fun H locs hP hD hS => ?_)
    have hP : va_P G.1 classes (tw G.2 h0 ad n (va_up (va_up (va_up (va_up fI 0 (upd (fI 0) n d)) 1 (upd (fI 1) n lf)) 2 (upd (fI 2) n nu)) 3 (upd (fI 3) n kd)) (va_up (va_up (va_up fL 0 (vp_updL (fL 0) n se)) 1 (vp_updL (fL 1) n v)) 2 (vp_updL (fL 2) n wh))) H := hP
    have hD : va_D A (tw G.2 h0 ad n (va_up (va_up (va_up (va_up fI 0 (upd (fI 0) n d)) 1 (upd (fI 1) n lf)) 2 (upd (fI 2) n nu)) 3 (upd (fI 3) n kd)) (va_up (va_up (va_up fL 0 (vp_updL (fL 0) n se)) 1 (vp_updL (fL 1) n v)) 2 (vp_updL (fL 2) n wh))) := hD
    refine lv_aload_n hx hb d_Tellings_add_85 rfl (lv_at hl 0 rfl) ?_
    refine lv_dup hx hb d_Tellings_add_86 rfl ?_
    refine va_get (D := G.1) (ci := 5) (v := .int (nI n)) (C := R_Tellings) (T := F_Tellings) (N := 8) hx hb ht i_Tellings hown hK.1 hP 0 rfl rfl 7 (by decide) (ht _ m_67) (fun _ h9 => h9) rfl d_Tellings_add_87 ?_
    refine lv_iconst (v := 1) hx hb d_Tellings_add_90 (by decide) ?_
    refine lv_iadd hx hb d_Tellings_add_91 ?_
    refine sy_ti (y := nI (n + 1)) (nI_add n 1) ?_
    refine va_put (D := G.1) (ci := 5) (v := .int (nI (n + 1))) (ty := .int) (C := R_Tellings) (T := F_Tellings) (N := 8) hx hb ht i_Tellings t_Tellings t_Tellings_ok n_Tellings hown hK.1 hP hD hS 0 rfl rfl 7 (by decide) (ht _ m_67) (fun _ h9 => h9) rfl (by decide +kernel) rfl rfl (Nat.le_of_ble_eq_true rfl) d_Tellings_add_92 (fun H locs hP hD hS => ?_)
    have hP : va_P G.1 classes (tw G.2 h0 ad (n + 1) (va_up (va_up (va_up (va_up fI 0 (upd (fI 0) n d)) 1 (upd (fI 1) n lf)) 2 (upd (fI 2) n nu)) 3 (upd (fI 3) n kd)) (va_up (va_up (va_up fL 0 (vp_updL (fL 0) n se)) 1 (vp_updL (fL 1) n v)) 2 (vp_updL (fL 2) n wh))) H := hP
    have hD : va_D A (tw G.2 h0 ad (n + 1) (va_up (va_up (va_up (va_up fI 0 (upd (fI 0) n d)) 1 (upd (fI 1) n lf)) 2 (upd (fI 2) n nu)) 3 (upd (fI 3) n kd)) (va_up (va_up (va_up fL 0 (vp_updL (fL 0) n se)) 1 (vp_updL (fL 1) n v)) 2 (vp_updL (fL 2) n wh))) := hD
    refine lv_iconst (v := 1) hx hb d_Tellings_add_95 (by decide) ?_
    exact W.zret (v := (1 : Int32)) hx hb hr (rfl) (fun t ht hW => ⟨⟨(1 : Int32), (n + 1, va_up (va_up (va_up (va_up fI 0 (upd (fI 0) n d)) 1 (upd (fI 1) n lf)) 2 (upd (fI 2) n nu)) 3 (upd (fI 3) n kd), va_up (va_up (va_up fL 0 (vp_updL (fL 0) n se)) 1 (vp_updL (fL 1) n v)) 2 (vp_updL (fL 2) n wh)), rfl, by constructor <;> simp [tl_add, bI, c_1, c_1n], by show va_P _ _ _ t.heap; rw [ht]; exact hP⟩, hS.F ht⟩) hS.2.2 d_Tellings_add_96
  · have c_1 : ¬ n < 60 := fun h9 => c_1 ((nI_ltI (a := n) (b := 60) (by omega) (by omega)).mpr h9)
    have c_1n : 60 ≤ n := by omega
    refine lv_iconst (v := 0) hx hb d_Tellings_add_9 (by decide) ?_
    exact W.zret (v := (0 : Int32)) hx hb hr (rfl) (fun t ht hW => ⟨⟨(0 : Int32), (n, fI, fL), rfl, by constructor <;> simp [tl_add, bI, c_1, c_1n], by show va_P _ _ _ t.heap; rw [ht]; exact hP⟩, hS.F ht⟩) hS.2.2 d_Tellings_add_10
set_option maxHeartbeats 4000000 in
set_option maxRecDepth 100000 in
theorem c_Corrections_findOrAdd (l : Launch) (G : sy_G) (h0 : Nat) (ad : Nat → Nat) (n : Nat) (fI : Nat → Nat → Int32) (fL : Nat → Nat → Int64) (d : Int32) (kd : Int32) (se : Int64) (v : Int64) (wh : Int64) (hn : n ≤ 20) : Met l y_Corrections_findOrAdd (sy_w y_Corrections_findOrAdd b_Corrections_findOrAdd 10 (some .int)) { frames := 1, cells := 0, slots := 0, locals := 25 } (va_Pc [.ref h0, .int d, .int kd, .long se, .long v, .long wh] (sy_KP G (fun H => va_P G.1 classes (cw G.2 h0 ad n fI fL) H ∧ va_D (fun _ => True) (cw G.2 h0 ad n fI fL)))) (va_Qi (S := tl_S) (fun r u => r = oI (co_add n fI fL d kd se v wh).1 ∧ u = (co_add n fI fL d kd se v wh).2) (fun u t => va_P G.1 classes (cw G.2 h0 ad u.1 u.2.1 u.2.2) t.heap) (sy_A (cw G.2 h0 ad n fI fL))) 0 0 (sy_A (cw G.2 h0 ad n fI fL)) := by
  refine Met.ofW (cc := b_Corrections_findOrAdd) (maxL := 10) (ret := (some .int)) (by decide) rfl ?_
  intro p e s m args below meth c s₁ B hml hv
  obtain ⟨rfl, ⟨hP, hD0⟩, hK⟩ := hv
  have hx := B.exec
  have hb := B.bytes
  have hr := B.returns
  have hts := atoms_spec (ws := sy_w y_Corrections_findOrAdd b_Corrections_findOrAdd 10 (some .int)) B.pre
  have ht : ∀ wd ∈ sy_T, wd.before ([.ref h0, .int d, .int kd, .long se, .long v, .long wh] : List Value).toArray s = true := fun wd h => hts wd (List.mem_cons_of_mem _ h)
  have hown : s.vm.findClass R_Corrections = some m.cls := findClass_of_methodNamed B.named
  have hlocks := B.notSynchronized
  have hD := sy_self hD0
  generalize hAe : sy_A (cw G.2 h0 ad n fI fL) = A at hD ⊢
  have hS : va_S A s.heap s.heap [] := va_S.rf
  have hl := lv_entry ([.ref h0, .int d, .int kd, .long se, .long v, .long wh]) (n := 10) (Nat.le_of_ble_eq_true rfl)
  rw [lg_entry_eq]
  generalize (lg_sl ([.ref h0, .int d, .int kd, .long se, .long v, .long wh]) ++ List.replicate (10 - (lg_sl ([.ref h0, .int d, .int kd, .long se, .long v, .long wh])).length) Slot.unset).toArray = ls at hl ⊢
  have hl : lv_has ls 10 [(0, .ref h0), (1, .int d), (2, .int kd), (3, .long se), (5, .long v), (7, .long wh)] := hl
  refine lv_iconst (v := 0) hx hb d_Corrections_findOrAdd_0 (by decide) ?_
  refine lv_istore (lv' := [(9, .int 0), (0, .ref h0), (1, .int d), (2, .int kd), (3, .long se), (5, .long v), (7, .long wh)]) hx hb d_Corrections_findOrAdd_1 hl (by decide) rfl (fun ls hl => ?_)
  refine sy_loop (σ := Nat) (nL := 10) (fun k => n - k) (fun k => [(9, .int (nI k)), (0, .ref h0), (1, .int d), (2, .int kd), (3, .long se), (5, .long v), (7, .long wh)]) (fun k => k ≤ n ∧ nn_ff (co_eq fI fL d kd se v wh) k = none) ?_ 0 ?_ (lv_sub hl [0, 1, 2, 3, 4, 5, 6] rfl)
  · intro k ls hI hl ih3
    have hl : lv_has ls 10 [(9, .int (nI k)), (0, .ref h0), (1, .int d), (2, .int kd), (3, .long se), (5, .long v), (7, .long wh)] := hl
    obtain ⟨hk, hI⟩ := hI
    refine lv_iload hx hb d_Corrections_findOrAdd_3 (lv_at hl 0 rfl) ?_
    refine lv_aload_n hx hb d_Corrections_findOrAdd_5 rfl (lv_at hl 1 rfl) ?_
    refine va_get (D := G.1) (ci := 6) (v := .int (nI n)) (C := R_Corrections) (T := F_Corrections) (N := 6) hx hb ht i_Corrections hown hK.1 hP 0 rfl rfl 5 (by decide) (ht _ m_99) (fun _ h9 => h9) rfl d_Corrections_findOrAdd_6 ?_
    refine lv_icmp_ge (tgt := 59) hx hb d_Corrections_findOrAdd_9 (by decide) (fun c_1 => ?_) (fun c_1 => ?_)
    · have c_1 : n ≤ k := (nI_leI (a := n) (b := k) (by omega) (by omega)).mp c_1
      have c_1n : ¬ k < n := by omega
      refine lv_aload_n hx hb d_Corrections_findOrAdd_59 rfl (lv_at hl 1 rfl) ?_
      refine va_get (D := G.1) (ci := 6) (v := .int (nI n)) (C := R_Corrections) (T := F_Corrections) (N := 6) hx hb ht i_Corrections hown hK.1 hP 0 rfl rfl 5 (by decide) (ht _ m_99) (fun _ h9 => h9) rfl d_Corrections_findOrAdd_60 ?_
      refine lv_bipush (v := 20) hx hb d_Corrections_findOrAdd_63 (by decide) ?_
      refine lv_icmp_lt (tgt := 70) hx hb d_Corrections_findOrAdd_65 (by decide) (fun c_2 => ?_) (fun c_2 => ?_)
      · have c_2 : n < 20 := (nI_ltI (a := n) (b := 20) (by omega) (by omega)).mp c_2
        have c_2n : ¬ 20 ≤ n := by omega
        refine lv_aload_n hx hb d_Corrections_findOrAdd_70 rfl (lv_at hl 1 rfl) ?_
        refine va_get (D := G.1) (ci := 6) (v := .ref (ad 0)) (C := R_Corrections) (T := F_Corrections) (N := 6) hx hb ht i_Corrections hown hK.1 hP 0 rfl rfl 0 (by decide) (ht _ m_93) (fun _ h9 => h9) rfl d_Corrections_findOrAdd_71 ?_
        refine lv_aload_n hx hb d_Corrections_findOrAdd_74 rfl (lv_at hl 1 rfl) ?_
        refine va_get (D := G.1) (ci := 6) (v := .int (nI n)) (C := R_Corrections) (T := F_Corrections) (N := 6) hx hb ht i_Corrections hown hK.1 hP 0 rfl rfl 5 (by decide) (ht _ m_99) (fun _ h9 => h9) rfl d_Corrections_findOrAdd_75 ?_
        refine lv_iload_n hx hb d_Corrections_findOrAdd_78 rfl (lv_at hl 2 rfl) ?_
        refine sy_iast hx hb hK.1 hP hD hS 1 0 rfl rfl (k := n) (by omega) (by decide) d_Corrections_findOrAdd_79 (fun H locs hP hD hS => ?_)
        have hP : va_P G.1 classes (cw G.2 h0 ad n (va_up fI 0 (upd (fI 0) n d)) fL) H := hP
        have hD : va_D A (cw G.2 h0 ad n (va_up fI 0 (upd (fI 0) n d)) fL) := hD
        refine lv_aload_n hx hb d_Corrections_findOrAdd_80 rfl (lv_at hl 1 rfl) ?_
        refine va_get (D := G.1) (ci := 6) (v := .ref (ad 1)) (C := R_Corrections) (T := F_Corrections) (N := 6) hx hb ht i_Corrections hown hK.1 hP 0 rfl rfl 1 (by decide) (ht _ m_94) (fun _ h9 => h9) rfl d_Corrections_findOrAdd_81 ?_
        refine lv_aload_n hx hb d_Corrections_findOrAdd_84 rfl (lv_at hl 1 rfl) ?_
        refine va_get (D := G.1) (ci := 6) (v := .int (nI n)) (C := R_Corrections) (T := F_Corrections) (N := 6) hx hb ht i_Corrections hown hK.1 hP 0 rfl rfl 5 (by decide) (ht _ m_99) (fun _ h9 => h9) rfl d_Corrections_findOrAdd_85 ?_
        refine lv_iload_n hx hb d_Corrections_findOrAdd_88 rfl (lv_at hl 3 rfl) ?_
        refine sy_iast hx hb hK.1 hP hD hS 2 0 rfl rfl (k := n) (by omega) (by decide) d_Corrections_findOrAdd_89 (fun H locs hP hD hS => ?_)
        have hP : va_P G.1 classes (cw G.2 h0 ad n (va_up (va_up fI 0 (upd (fI 0) n d)) 1 (upd (fI 1) n kd)) fL) H := hP
        have hD : va_D A (cw G.2 h0 ad n (va_up (va_up fI 0 (upd (fI 0) n d)) 1 (upd (fI 1) n kd)) fL) := hD
        refine lv_aload_n hx hb d_Corrections_findOrAdd_90 rfl (lv_at hl 1 rfl) ?_
        refine va_get (D := G.1) (ci := 6) (v := .ref (ad 2)) (C := R_Corrections) (T := F_Corrections) (N := 6) hx hb ht i_Corrections hown hK.1 hP 0 rfl rfl 2 (by decide) (ht _ m_95) (fun _ h9 => h9) rfl d_Corrections_findOrAdd_91 ?_
        refine lv_aload_n hx hb d_Corrections_findOrAdd_94 rfl (lv_at hl 1 rfl) ?_
        refine va_get (D := G.1) (ci := 6) (v := .int (nI n)) (C := R_Corrections) (T := F_Corrections) (N := 6) hx hb ht i_Corrections hown hK.1 hP 0 rfl rfl 5 (by decide) (ht _ m_99) (fun _ h9 => h9) rfl d_Corrections_findOrAdd_95 ?_
        refine lv_lload_n hx hb d_Corrections_findOrAdd_98 rfl (lv_at hl 4 rfl) ?_
        refine sy_last hx hb hK.1 hP hD hS 3 1 rfl rfl (k := n) (by omega) (by decide) d_Corrections_findOrAdd_99 (fun H locs hP hD hS => ?_)
        have hP : va_P G.1 classes (cw G.2 h0 ad n (va_up (va_up fI 0 (upd (fI 0) n d)) 1 (upd (fI 1) n kd)) (va_up fL 0 (vp_updL (fL 0) n se))) H := hP
        have hD : va_D A (cw G.2 h0 ad n (va_up (va_up fI 0 (upd (fI 0) n d)) 1 (upd (fI 1) n kd)) (va_up fL 0 (vp_updL (fL 0) n se))) := hD
        refine lv_aload_n hx hb d_Corrections_findOrAdd_100 rfl (lv_at hl 1 rfl) ?_
        refine va_get (D := G.1) (ci := 6) (v := .ref (ad 3)) (C := R_Corrections) (T := F_Corrections) (N := 6) hx hb ht i_Corrections hown hK.1 hP 0 rfl rfl 3 (by decide) (ht _ m_96) (fun _ h9 => h9) rfl d_Corrections_findOrAdd_101 ?_
        refine lv_aload_n hx hb d_Corrections_findOrAdd_104 rfl (lv_at hl 1 rfl) ?_
        refine va_get (D := G.1) (ci := 6) (v := .int (nI n)) (C := R_Corrections) (T := F_Corrections) (N := 6) hx hb ht i_Corrections hown hK.1 hP 0 rfl rfl 5 (by decide) (ht _ m_99) (fun _ h9 => h9) rfl d_Corrections_findOrAdd_105 ?_
        refine lv_lload hx hb d_Corrections_findOrAdd_108 (lv_at hl 5 rfl) ?_
        refine sy_last hx hb hK.1 hP hD hS 4 1 rfl rfl (k := n) (by omega) (by decide) d_Corrections_findOrAdd_110 (fun H locs hP hD hS => ?_)
        have hP : va_P G.1 classes (cw G.2 h0 ad n (va_up (va_up fI 0 (upd (fI 0) n d)) 1 (upd (fI 1) n kd)) (va_up (va_up fL 0 (vp_updL (fL 0) n se)) 1 (vp_updL (fL 1) n v))) H := hP
        have hD : va_D A (cw G.2 h0 ad n (va_up (va_up fI 0 (upd (fI 0) n d)) 1 (upd (fI 1) n kd)) (va_up (va_up fL 0 (vp_updL (fL 0) n se)) 1 (vp_updL (fL 1) n v))) := hD
        refine lv_aload_n hx hb d_Corrections_findOrAdd_111 rfl (lv_at hl 1 rfl) ?_
        refine va_get (D := G.1) (ci := 6) (v := .ref (ad 4)) (C := R_Corrections) (T := F_Corrections) (N := 6) hx hb ht i_Corrections hown hK.1 hP 0 rfl rfl 4 (by decide) (ht _ m_98) (fun _ h9 => h9) rfl d_Corrections_findOrAdd_112 ?_
        refine lv_aload_n hx hb d_Corrections_findOrAdd_115 rfl (lv_at hl 1 rfl) ?_
        refine va_get (D := G.1) (ci := 6) (v := .int (nI n)) (C := R_Corrections) (T := F_Corrections) (N := 6) hx hb ht i_Corrections hown hK.1 hP 0 rfl rfl 5 (by decide) (ht _ m_99) (fun _ h9 => h9) rfl d_Corrections_findOrAdd_116 ?_
        refine lv_lload hx hb d_Corrections_findOrAdd_119 (lv_at hl 6 rfl) ?_
        refine sy_last hx hb hK.1 hP hD hS 5 1 rfl rfl (k := n) (by omega) (by decide) d_Corrections_findOrAdd_121 (fun H locs hP hD hS => ?_)
        have hP : va_P G.1 classes (cw G.2 h0 ad n (va_up (va_up fI 0 (upd (fI 0) n d)) 1 (upd (fI 1) n kd)) (va_up (va_up (va_up fL 0 (vp_updL (fL 0) n se)) 1 (vp_updL (fL 1) n v)) 2 (vp_updL (fL 2) n wh))) H := hP
        have hD : va_D A (cw G.2 h0 ad n (va_up (va_up fI 0 (upd (fI 0) n d)) 1 (upd (fI 1) n kd)) (va_up (va_up (va_up fL 0 (vp_updL (fL 0) n se)) 1 (vp_updL (fL 1) n v)) 2 (vp_updL (fL 2) n wh))) := hD
        refine lv_aload_n hx hb d_Corrections_findOrAdd_122 rfl (lv_at hl 1 rfl) ?_
        refine lv_dup hx hb d_Corrections_findOrAdd_123 rfl ?_
        refine va_get (D := G.1) (ci := 6) (v := .int (nI n)) (C := R_Corrections) (T := F_Corrections) (N := 6) hx hb ht i_Corrections hown hK.1 hP 0 rfl rfl 5 (by decide) (ht _ m_99) (fun _ h9 => h9) rfl d_Corrections_findOrAdd_124 ?_
        refine lv_iconst (v := 1) hx hb d_Corrections_findOrAdd_127 (by decide) ?_
        refine lv_iadd hx hb d_Corrections_findOrAdd_128 ?_
        refine sy_ti (y := nI (n + 1)) (nI_add n 1) ?_
        refine va_put (D := G.1) (ci := 6) (v := .int (nI (n + 1))) (ty := .int) (C := R_Corrections) (T := F_Corrections) (N := 6) hx hb ht i_Corrections t_Corrections t_Corrections_ok n_Corrections hown hK.1 hP hD hS 0 rfl rfl 5 (by decide) (ht _ m_99) (fun _ h9 => h9) rfl (by decide +kernel) rfl rfl (Nat.le_of_ble_eq_true rfl) d_Corrections_findOrAdd_129 (fun H locs hP hD hS => ?_)
        have hP : va_P G.1 classes (cw G.2 h0 ad (n + 1) (va_up (va_up fI 0 (upd (fI 0) n d)) 1 (upd (fI 1) n kd)) (va_up (va_up (va_up fL 0 (vp_updL (fL 0) n se)) 1 (vp_updL (fL 1) n v)) 2 (vp_updL (fL 2) n wh))) H := hP
        have hD : va_D A (cw G.2 h0 ad (n + 1) (va_up (va_up fI 0 (upd (fI 0) n d)) 1 (upd (fI 1) n kd)) (va_up (va_up (va_up fL 0 (vp_updL (fL 0) n se)) 1 (vp_updL (fL 1) n v)) 2 (vp_updL (fL 2) n wh))) := hD
        refine lv_aload_n hx hb d_Corrections_findOrAdd_132 rfl (lv_at hl 1 rfl) ?_
        refine va_get (D := G.1) (ci := 6) (v := .int (nI (n + 1))) (C := R_Corrections) (T := F_Corrections) (N := 6) hx hb ht i_Corrections hown hK.1 hP 0 rfl rfl 5 (by decide) (ht _ m_99) (fun _ h9 => h9) rfl d_Corrections_findOrAdd_133 ?_
        refine lv_iconst (v := 1) hx hb d_Corrections_findOrAdd_136 (by decide) ?_
        refine lv_isub hx hb d_Corrections_findOrAdd_137 ?_
        refine sy_ti (y := nI ((n + 1) - 1)) (pk_sub (a := n + 1) (b := 1) (by omega)) ?_
        exact W.iret (v := nI ((n + 1) - 1)) hx hb hr (fun t ht hW => ⟨⟨nI ((n + 1) - 1), (n + 1, va_up (va_up fI 0 (upd (fI 0) n d)) 1 (upd (fI 1) n kd), va_up (va_up (va_up fL 0 (vp_updL (fL 0) n se)) 1 (vp_updL (fL 1) n v)) 2 (vp_updL (fL 2) n wh)), rfl, by first | (have e : nn_ff (co_eq fI fL d kd se v wh) n = some k := nn_ff_of (by omega) hI (by simp [co_eq, c_1, c_1n, c_2, c_2n]; done); constructor <;> simp [co_add, e, oI]; done) | (have e : nn_ff (co_eq fI fL d kd se v wh) n = none := (by rw [show n = k by omega]; exact hI); constructor <;> simp [co_add, co_put, e, oI, c_1, c_1n, c_2, c_2n]; done), by show va_P _ _ _ t.heap; rw [ht]; exact hP⟩, hS.F ht⟩) hS.2.2 d_Corrections_findOrAdd_138
      · have c_2 : ¬ n < 20 := fun h9 => c_2 ((nI_ltI (a := n) (b := 20) (by omega) (by omega)).mpr h9)
        have c_2n : 20 ≤ n := by omega
        refine lv_iconst (v := (-1)) hx hb d_Corrections_findOrAdd_68 (by decide) ?_
        exact W.iret (v := (-1 : Int32)) hx hb hr (fun t ht hW => ⟨⟨(-1 : Int32), (n, fI, fL), rfl, by first | (have e : nn_ff (co_eq fI fL d kd se v wh) n = some k := nn_ff_of (by omega) hI (by simp [co_eq, c_1, c_1n, c_2, c_2n]; done); constructor <;> simp [co_add, e, oI]; done) | (have e : nn_ff (co_eq fI fL d kd se v wh) n = none := (by rw [show n = k by omega]; exact hI); constructor <;> simp [co_add, co_put, e, oI, c_1, c_1n, c_2, c_2n]; done), by show va_P _ _ _ t.heap; rw [ht]; exact hP⟩, hS.F ht⟩) hS.2.2 d_Corrections_findOrAdd_69
    · have c_1 : ¬ n ≤ k := fun h9 => c_1 ((nI_leI (a := n) (b := k) (by omega) (by omega)).mpr h9)
      have c_1n : k < n := by omega
      refine lv_aload_n hx hb d_Corrections_findOrAdd_12 rfl (lv_at hl 1 rfl) ?_
      refine lv_iload hx hb d_Corrections_findOrAdd_13 (lv_at hl 0 rfl) ?_
      refine lv_iload_n hx hb d_Corrections_findOrAdd_15 rfl (lv_at hl 2 rfl) ?_
      refine lv_iload_n hx hb d_Corrections_findOrAdd_16 rfl (lv_at hl 3 rfl) ?_
      refine lv_lload_n hx hb d_Corrections_findOrAdd_17 rfl (lv_at hl 4 rfl) ?_
      refine vp_callSi (va_Run.run (sy_runV (As := [.int (nI k), .int d, .int kd, .long se]) (rest := []) (b := h0) ⟨hx, hb, hml, hown, ht⟩ cl_Corrections_32 (c_Corrections_isFor l G h0 ad n fI fL k d kd se (by omega)) hK hP (va_recv hK.1 hP (ci := 6) (q0 := 0) rfl rfl) rfl nm_Corrections_isFor rfl rfl ⟨Nat.le_of_ble_eq_true rfl, Nat.le_of_ble_eq_true rfl⟩ hl.1 (Nat.le_of_ble_eq_true rfl) d_Corrections_findOrAdd_18 ⟨Nat.zero_le _, Nat.zero_le _⟩)) (fun r_3 hr_3 => ?_)
      subst hr_3
      refine lv_if_eq (tgt := 53) hx hb d_Corrections_findOrAdd_21 (by decide) (fun c_4 => ?_) (fun c_4 => ?_)
      · have c_4 := bI_f c_4
        refine lv_iinc (v := nI (k + 1)) (lv' := [(9, .int (nI (k + 1))), (0, .ref h0), (1, .int d), (2, .int kd), (3, .long se), (5, .long v), (7, .long wh)]) hx hb d_Corrections_findOrAdd_53 hl (k := 0) rfl (nI_add k 1) (by decide) rfl (fun ls hl => ?_)
        refine lv_goto (tgt := 3) hx hb d_Corrections_findOrAdd_56 (by decide) ?_
        refine ih3 (k + 1) ls (show n - (k + 1) < n - k by omega) ?_ (lv_sub hl [0, 1, 2, 3, 4, 5, 6] rfl)
        exact ⟨by omega, by simp [nn_ff, hI, co_eq, c_1, c_1n, c_4]⟩
      · have c_4 := bI_t c_4
        refine lv_aload_n hx hb d_Corrections_findOrAdd_24 rfl (lv_at hl 1 rfl) ?_
        refine va_get (D := G.1) (ci := 6) (v := .ref (ad 3)) (C := R_Corrections) (T := F_Corrections) (N := 6) hx hb ht i_Corrections hown hK.1 hP 0 rfl rfl 3 (by decide) (ht _ m_96) (fun _ h9 => h9) rfl d_Corrections_findOrAdd_25 ?_
        refine lv_iload hx hb d_Corrections_findOrAdd_28 (lv_at hl 0 rfl) ?_
        refine sy_lald hx hb hK.1 hP 4 1 rfl rfl (k := k) (by omega) (by decide) d_Corrections_findOrAdd_30 ?_
        refine lv_lload hx hb d_Corrections_findOrAdd_31 (lv_at hl 5 rfl) ?_
        refine sy_lc_ne (tgt := 53) hx hb d_Corrections_findOrAdd_33 d_Corrections_findOrAdd_34 (by decide) (fun c_5 => ?_) (fun c_5 => ?_)
        · refine lv_iinc (v := nI (k + 1)) (lv' := [(9, .int (nI (k + 1))), (0, .ref h0), (1, .int d), (2, .int kd), (3, .long se), (5, .long v), (7, .long wh)]) hx hb d_Corrections_findOrAdd_53 hl (k := 0) rfl (nI_add k 1) (by decide) rfl (fun ls hl => ?_)
          refine lv_goto (tgt := 3) hx hb d_Corrections_findOrAdd_56 (by decide) ?_
          refine ih3 (k + 1) ls (show n - (k + 1) < n - k by omega) ?_ (lv_sub hl [0, 1, 2, 3, 4, 5, 6] rfl)
          exact ⟨by omega, by simp [nn_ff, hI, co_eq, c_1, c_1n, c_4, c_5]⟩
        · refine lv_aload_n hx hb d_Corrections_findOrAdd_37 rfl (lv_at hl 1 rfl) ?_
          refine va_get (D := G.1) (ci := 6) (v := .ref (ad 4)) (C := R_Corrections) (T := F_Corrections) (N := 6) hx hb ht i_Corrections hown hK.1 hP 0 rfl rfl 4 (by decide) (ht _ m_98) (fun _ h9 => h9) rfl d_Corrections_findOrAdd_38 ?_
          refine lv_iload hx hb d_Corrections_findOrAdd_41 (lv_at hl 0 rfl) ?_
          refine sy_lald hx hb hK.1 hP 5 1 rfl rfl (k := k) (by omega) (by decide) d_Corrections_findOrAdd_43 ?_
          refine lv_lload hx hb d_Corrections_findOrAdd_44 (lv_at hl 6 rfl) ?_
          refine sy_lc_ne (tgt := 53) hx hb d_Corrections_findOrAdd_46 d_Corrections_findOrAdd_47 (by decide) (fun c_6 => ?_) (fun c_6 => ?_)
          · refine lv_iinc (v := nI (k + 1)) (lv' := [(9, .int (nI (k + 1))), (0, .ref h0), (1, .int d), (2, .int kd), (3, .long se), (5, .long v), (7, .long wh)]) hx hb d_Corrections_findOrAdd_53 hl (k := 0) rfl (nI_add k 1) (by decide) rfl (fun ls hl => ?_)
            refine lv_goto (tgt := 3) hx hb d_Corrections_findOrAdd_56 (by decide) ?_
            refine ih3 (k + 1) ls (show n - (k + 1) < n - k by omega) ?_ (lv_sub hl [0, 1, 2, 3, 4, 5, 6] rfl)
            exact ⟨by omega, by simp [nn_ff, hI, co_eq, c_1, c_1n, c_4, c_5, c_6]⟩
          · refine lv_iload hx hb d_Corrections_findOrAdd_50 (lv_at hl 0 rfl) ?_
            exact W.iret (v := nI k) hx hb hr (fun t ht hW => ⟨⟨nI k, (n, fI, fL), rfl, by first | (have e : nn_ff (co_eq fI fL d kd se v wh) n = some k := nn_ff_of (by omega) hI (by simp [co_eq, c_1, c_1n, c_4, c_5, c_6]; done); constructor <;> simp [co_add, e, oI]; done) | (have e : nn_ff (co_eq fI fL d kd se v wh) n = none := (by rw [show n = k by omega]; exact hI); constructor <;> simp [co_add, co_put, e, oI, c_1, c_1n, c_4, c_5, c_6]; done), by show va_P _ _ _ t.heap; rw [ht]; exact hP⟩, hS.F ht⟩) hS.2.2 d_Corrections_findOrAdd_52
  · exact ⟨Nat.zero_le _, rfl⟩
set_option maxHeartbeats 4000000 in
set_option maxRecDepth 100000 in
theorem c_Clock_addMark (l : Launch) (G : sy_G) (h0 : Nat) (ad : Nat → Nat) (n : Nat) (fL : Nat → Nat → Int64) (x : Int64) (y : Int64) (hn : n ≤ 10) : Met l y_Clock_addMark (sy_w y_Clock_addMark b_Clock_addMark 5 (some .boolean)) { frames := 0, cells := 0, slots := 0, locals := 0 } (va_Pc [.ref h0, .long x, .long y] (sy_KP G (fun H => va_P G.1 classes (kw G.2 h0 ad n fL) H ∧ va_D (fun _ => True) (kw G.2 h0 ad n fL)))) (va_Qi (S := ck_S) (fun r u => r = bI (ck_add n fL x y).1 ∧ u = (ck_add n fL x y).2) (fun u t => va_P G.1 classes (kw G.2 h0 ad u.1 u.2) t.heap) (sy_A (kw G.2 h0 ad n fL))) 0 0 (sy_A (kw G.2 h0 ad n fL)) := by
  refine Met.ofW (cc := b_Clock_addMark) (maxL := 5) (ret := (some .boolean)) (by decide) rfl ?_
  intro p e s m args below meth c s₁ B hml hv
  obtain ⟨rfl, ⟨hP, hD0⟩, hK⟩ := hv
  have hx := B.exec
  have hb := B.bytes
  have hr := B.returns
  have hts := atoms_spec (ws := sy_w y_Clock_addMark b_Clock_addMark 5 (some .boolean)) B.pre
  have ht : ∀ wd ∈ sy_T, wd.before ([.ref h0, .long x, .long y] : List Value).toArray s = true := fun wd h => hts wd (List.mem_cons_of_mem _ h)
  have hown : s.vm.findClass R_Clock = some m.cls := findClass_of_methodNamed B.named
  have hlocks := B.notSynchronized
  have hD := sy_self hD0
  generalize hAe : sy_A (kw G.2 h0 ad n fL) = A at hD ⊢
  have hS : va_S A s.heap s.heap [] := va_S.rf
  have hl := lv_entry ([.ref h0, .long x, .long y]) (n := 5) (Nat.le_of_ble_eq_true rfl)
  rw [lg_entry_eq]
  generalize (lg_sl ([.ref h0, .long x, .long y]) ++ List.replicate (5 - (lg_sl ([.ref h0, .long x, .long y])).length) Slot.unset).toArray = ls at hl ⊢
  have hl : lv_has ls 5 [(0, .ref h0), (1, .long x), (3, .long y)] := hl
  refine lv_aload_n hx hb d_Clock_addMark_0 rfl (lv_at hl 0 rfl) ?_
  refine va_get (D := G.1) (ci := 2) (v := .int (nI n)) (C := R_Clock) (T := F_Clock) (N := 3) hx hb ht i_Clock hown hK.1 hP 0 rfl rfl 2 (by decide) (ht _ m_152) (fun _ h9 => h9) rfl d_Clock_addMark_1 ?_
  refine lv_bipush (v := 10) hx hb d_Clock_addMark_4 (by decide) ?_
  refine lv_icmp_lt (tgt := 11) hx hb d_Clock_addMark_6 (by decide) (fun c_1 => ?_) (fun c_1 => ?_)
  · have c_1 : n < 10 := (nI_ltI (a := n) (b := 10) (by omega) (by omega)).mp c_1
    have c_1n : ¬ 10 ≤ n := by omega
    refine lv_aload_n hx hb d_Clock_addMark_11 rfl (lv_at hl 0 rfl) ?_
    refine va_get (D := G.1) (ci := 2) (v := .int (nI n)) (C := R_Clock) (T := F_Clock) (N := 3) hx hb ht i_Clock hown hK.1 hP 0 rfl rfl 2 (by decide) (ht _ m_152) (fun _ h9 => h9) rfl d_Clock_addMark_12 ?_
    refine lv_if_le (tgt := 52) hx hb d_Clock_addMark_15 (by decide) (fun c_2 => ?_) (fun c_2 => ?_)
    · have c_2 : n ≤ 0 := (nI_leI (by omega) (by omega)).mp (by rw [nI_0]; exact c_2)
      have c_2n : ¬ 0 < n := by omega
      refine lv_aload_n hx hb d_Clock_addMark_52 rfl (lv_at hl 0 rfl) ?_
      refine va_get (D := G.1) (ci := 2) (v := .ref (ad 0)) (C := R_Clock) (T := F_Clock) (N := 3) hx hb ht i_Clock hown hK.1 hP 0 rfl rfl 0 (by decide) (ht _ m_150) (fun _ h9 => h9) rfl d_Clock_addMark_53 ?_
      refine lv_aload_n hx hb d_Clock_addMark_56 rfl (lv_at hl 0 rfl) ?_
      refine va_get (D := G.1) (ci := 2) (v := .int (nI n)) (C := R_Clock) (T := F_Clock) (N := 3) hx hb ht i_Clock hown hK.1 hP 0 rfl rfl 2 (by decide) (ht _ m_152) (fun _ h9 => h9) rfl d_Clock_addMark_57 ?_
      refine lv_lload_n hx hb d_Clock_addMark_60 rfl (lv_at hl 1 rfl) ?_
      refine sy_last hx hb hK.1 hP hD hS 1 1 rfl rfl (k := n) (by omega) (by decide) d_Clock_addMark_61 (fun H locs hP hD hS => ?_)
      have hP : va_P G.1 classes (kw G.2 h0 ad n (va_up fL 0 (vp_updL (fL 0) n x))) H := hP
      have hD : va_D A (kw G.2 h0 ad n (va_up fL 0 (vp_updL (fL 0) n x))) := hD
      refine lv_aload_n hx hb d_Clock_addMark_62 rfl (lv_at hl 0 rfl) ?_
      refine va_get (D := G.1) (ci := 2) (v := .ref (ad 1)) (C := R_Clock) (T := F_Clock) (N := 3) hx hb ht i_Clock hown hK.1 hP 0 rfl rfl 1 (by decide) (ht _ m_151) (fun _ h9 => h9) rfl d_Clock_addMark_63 ?_
      refine lv_aload_n hx hb d_Clock_addMark_66 rfl (lv_at hl 0 rfl) ?_
      refine va_get (D := G.1) (ci := 2) (v := .int (nI n)) (C := R_Clock) (T := F_Clock) (N := 3) hx hb ht i_Clock hown hK.1 hP 0 rfl rfl 2 (by decide) (ht _ m_152) (fun _ h9 => h9) rfl d_Clock_addMark_67 ?_
      refine lv_lload_n hx hb d_Clock_addMark_70 rfl (lv_at hl 2 rfl) ?_
      refine sy_last hx hb hK.1 hP hD hS 2 1 rfl rfl (k := n) (by omega) (by decide) d_Clock_addMark_71 (fun H locs hP hD hS => ?_)
      have hP : va_P G.1 classes (kw G.2 h0 ad n (va_up (va_up fL 0 (vp_updL (fL 0) n x)) 1 (vp_updL (fL 1) n y))) H := hP
      have hD : va_D A (kw G.2 h0 ad n (va_up (va_up fL 0 (vp_updL (fL 0) n x)) 1 (vp_updL (fL 1) n y))) := hD
      refine lv_aload_n hx hb d_Clock_addMark_72 rfl (lv_at hl 0 rfl) ?_
      refine lv_dup hx hb d_Clock_addMark_73 rfl ?_
      refine va_get (D := G.1) (ci := 2) (v := .int (nI n)) (C := R_Clock) (T := F_Clock) (N := 3) hx hb ht i_Clock hown hK.1 hP 0 rfl rfl 2 (by decide) (ht _ m_152) (fun _ h9 => h9) rfl d_Clock_addMark_74 ?_
      refine lv_iconst (v := 1) hx hb d_Clock_addMark_77 (by decide) ?_
      refine lv_iadd hx hb d_Clock_addMark_78 ?_
      refine sy_ti (y := nI (n + 1)) (nI_add n 1) ?_
      refine va_put (D := G.1) (ci := 2) (v := .int (nI (n + 1))) (ty := .int) (C := R_Clock) (T := F_Clock) (N := 3) hx hb ht i_Clock t_Clock t_Clock_ok n_Clock hown hK.1 hP hD hS 0 rfl rfl 2 (by decide) (ht _ m_152) (fun _ h9 => h9) rfl (by decide +kernel) rfl rfl (Nat.le_of_ble_eq_true rfl) d_Clock_addMark_79 (fun H locs hP hD hS => ?_)
      have hP : va_P G.1 classes (kw G.2 h0 ad (n + 1) (va_up (va_up fL 0 (vp_updL (fL 0) n x)) 1 (vp_updL (fL 1) n y))) H := hP
      have hD : va_D A (kw G.2 h0 ad (n + 1) (va_up (va_up fL 0 (vp_updL (fL 0) n x)) 1 (vp_updL (fL 1) n y))) := hD
      refine lv_iconst (v := 1) hx hb d_Clock_addMark_82 (by decide) ?_
      exact W.zret (v := (1 : Int32)) hx hb hr (rfl) (fun t ht hW => ⟨⟨(1 : Int32), (n + 1, va_up (va_up fL 0 (vp_updL (fL 0) n x)) 1 (vp_updL (fL 1) n y)), rfl, by constructor <;> simp [ck_add, bI, c_1, c_1n, c_2, c_2n], by show va_P _ _ _ t.heap; rw [ht]; exact hP⟩, hS.F ht⟩) hS.2.2 d_Clock_addMark_83
    · have c_2 : ¬ n ≤ 0 := fun h9 => c_2 (by rw [← nI_0]; exact (nI_leI (by omega) (by omega)).mpr h9)
      have c_2n : 0 < n := by omega
      refine lv_lload_n hx hb d_Clock_addMark_18 rfl (lv_at hl 1 rfl) ?_
      refine lv_aload_n hx hb d_Clock_addMark_19 rfl (lv_at hl 0 rfl) ?_
      refine va_get (D := G.1) (ci := 2) (v := .ref (ad 0)) (C := R_Clock) (T := F_Clock) (N := 3) hx hb ht i_Clock hown hK.1 hP 0 rfl rfl 0 (by decide) (ht _ m_150) (fun _ h9 => h9) rfl d_Clock_addMark_20 ?_
      refine lv_aload_n hx hb d_Clock_addMark_23 rfl (lv_at hl 0 rfl) ?_
      refine va_get (D := G.1) (ci := 2) (v := .int (nI n)) (C := R_Clock) (T := F_Clock) (N := 3) hx hb ht i_Clock hown hK.1 hP 0 rfl rfl 2 (by decide) (ht _ m_152) (fun _ h9 => h9) rfl d_Clock_addMark_24 ?_
      refine lv_iconst (v := 1) hx hb d_Clock_addMark_27 (by decide) ?_
      refine lv_isub hx hb d_Clock_addMark_28 ?_
      refine sy_ti (y := nI (n - 1)) (pk_sub (a := n) (b := 1) (by omega)) ?_
      refine sy_lald hx hb hK.1 hP 1 1 rfl rfl (k := n - 1) (by omega) (by decide) d_Clock_addMark_29 ?_
      refine sy_lc_le (tgt := 50) hx hb d_Clock_addMark_30 d_Clock_addMark_31 (by decide) (fun c_3 => ?_) (fun c_3 => ?_)
      · have c_3n := sy_c64 c_3
        refine lv_iconst (v := 0) hx hb d_Clock_addMark_50 (by decide) ?_
        exact W.zret (v := (0 : Int32)) hx hb hr (rfl) (fun t ht hW => ⟨⟨(0 : Int32), (n, fL), rfl, by constructor <;> simp [ck_add, bI, c_1, c_1n, c_2, c_2n, c_3, c_3n], by show va_P _ _ _ t.heap; rw [ht]; exact hP⟩, hS.F ht⟩) hS.2.2 d_Clock_addMark_51
      · have c_3n := sy_d64 c_3
        refine lv_lload_n hx hb d_Clock_addMark_34 rfl (lv_at hl 2 rfl) ?_
        refine lv_aload_n hx hb d_Clock_addMark_35 rfl (lv_at hl 0 rfl) ?_
        refine va_get (D := G.1) (ci := 2) (v := .ref (ad 1)) (C := R_Clock) (T := F_Clock) (N := 3) hx hb ht i_Clock hown hK.1 hP 0 rfl rfl 1 (by decide) (ht _ m_151) (fun _ h9 => h9) rfl d_Clock_addMark_36 ?_
        refine lv_aload_n hx hb d_Clock_addMark_39 rfl (lv_at hl 0 rfl) ?_
        refine va_get (D := G.1) (ci := 2) (v := .int (nI n)) (C := R_Clock) (T := F_Clock) (N := 3) hx hb ht i_Clock hown hK.1 hP 0 rfl rfl 2 (by decide) (ht _ m_152) (fun _ h9 => h9) rfl d_Clock_addMark_40 ?_
        refine lv_iconst (v := 1) hx hb d_Clock_addMark_43 (by decide) ?_
        refine lv_isub hx hb d_Clock_addMark_44 ?_
        refine sy_ti (y := nI (n - 1)) (pk_sub (a := n) (b := 1) (by omega)) ?_
        refine sy_lald hx hb hK.1 hP 2 1 rfl rfl (k := n - 1) (by omega) (by decide) d_Clock_addMark_45 ?_
        refine sy_lc_ge (tgt := 52) hx hb d_Clock_addMark_46 d_Clock_addMark_47 (by decide) (fun c_4 => ?_) (fun c_4 => ?_)
        · have c_4n := sy_c64 c_4
          refine lv_aload_n hx hb d_Clock_addMark_52 rfl (lv_at hl 0 rfl) ?_
          refine va_get (D := G.1) (ci := 2) (v := .ref (ad 0)) (C := R_Clock) (T := F_Clock) (N := 3) hx hb ht i_Clock hown hK.1 hP 0 rfl rfl 0 (by decide) (ht _ m_150) (fun _ h9 => h9) rfl d_Clock_addMark_53 ?_
          refine lv_aload_n hx hb d_Clock_addMark_56 rfl (lv_at hl 0 rfl) ?_
          refine va_get (D := G.1) (ci := 2) (v := .int (nI n)) (C := R_Clock) (T := F_Clock) (N := 3) hx hb ht i_Clock hown hK.1 hP 0 rfl rfl 2 (by decide) (ht _ m_152) (fun _ h9 => h9) rfl d_Clock_addMark_57 ?_
          refine lv_lload_n hx hb d_Clock_addMark_60 rfl (lv_at hl 1 rfl) ?_
          refine sy_last hx hb hK.1 hP hD hS 1 1 rfl rfl (k := n) (by omega) (by decide) d_Clock_addMark_61 (fun H locs hP hD hS => ?_)
          have hP : va_P G.1 classes (kw G.2 h0 ad n (va_up fL 0 (vp_updL (fL 0) n x))) H := hP
          have hD : va_D A (kw G.2 h0 ad n (va_up fL 0 (vp_updL (fL 0) n x))) := hD
          refine lv_aload_n hx hb d_Clock_addMark_62 rfl (lv_at hl 0 rfl) ?_
          refine va_get (D := G.1) (ci := 2) (v := .ref (ad 1)) (C := R_Clock) (T := F_Clock) (N := 3) hx hb ht i_Clock hown hK.1 hP 0 rfl rfl 1 (by decide) (ht _ m_151) (fun _ h9 => h9) rfl d_Clock_addMark_63 ?_
          refine lv_aload_n hx hb d_Clock_addMark_66 rfl (lv_at hl 0 rfl) ?_
          refine va_get (D := G.1) (ci := 2) (v := .int (nI n)) (C := R_Clock) (T := F_Clock) (N := 3) hx hb ht i_Clock hown hK.1 hP 0 rfl rfl 2 (by decide) (ht _ m_152) (fun _ h9 => h9) rfl d_Clock_addMark_67 ?_
          refine lv_lload_n hx hb d_Clock_addMark_70 rfl (lv_at hl 2 rfl) ?_
          refine sy_last hx hb hK.1 hP hD hS 2 1 rfl rfl (k := n) (by omega) (by decide) d_Clock_addMark_71 (fun H locs hP hD hS => ?_)
          have hP : va_P G.1 classes (kw G.2 h0 ad n (va_up (va_up fL 0 (vp_updL (fL 0) n x)) 1 (vp_updL (fL 1) n y))) H := hP
          have hD : va_D A (kw G.2 h0 ad n (va_up (va_up fL 0 (vp_updL (fL 0) n x)) 1 (vp_updL (fL 1) n y))) := hD
          refine lv_aload_n hx hb d_Clock_addMark_72 rfl (lv_at hl 0 rfl) ?_
          refine lv_dup hx hb d_Clock_addMark_73 rfl ?_
          refine va_get (D := G.1) (ci := 2) (v := .int (nI n)) (C := R_Clock) (T := F_Clock) (N := 3) hx hb ht i_Clock hown hK.1 hP 0 rfl rfl 2 (by decide) (ht _ m_152) (fun _ h9 => h9) rfl d_Clock_addMark_74 ?_
          refine lv_iconst (v := 1) hx hb d_Clock_addMark_77 (by decide) ?_
          refine lv_iadd hx hb d_Clock_addMark_78 ?_
          refine sy_ti (y := nI (n + 1)) (nI_add n 1) ?_
          refine va_put (D := G.1) (ci := 2) (v := .int (nI (n + 1))) (ty := .int) (C := R_Clock) (T := F_Clock) (N := 3) hx hb ht i_Clock t_Clock t_Clock_ok n_Clock hown hK.1 hP hD hS 0 rfl rfl 2 (by decide) (ht _ m_152) (fun _ h9 => h9) rfl (by decide +kernel) rfl rfl (Nat.le_of_ble_eq_true rfl) d_Clock_addMark_79 (fun H locs hP hD hS => ?_)
          have hP : va_P G.1 classes (kw G.2 h0 ad (n + 1) (va_up (va_up fL 0 (vp_updL (fL 0) n x)) 1 (vp_updL (fL 1) n y))) H := hP
          have hD : va_D A (kw G.2 h0 ad (n + 1) (va_up (va_up fL 0 (vp_updL (fL 0) n x)) 1 (vp_updL (fL 1) n y))) := hD
          refine lv_iconst (v := 1) hx hb d_Clock_addMark_82 (by decide) ?_
          exact W.zret (v := (1 : Int32)) hx hb hr (rfl) (fun t ht hW => ⟨⟨(1 : Int32), (n + 1, va_up (va_up fL 0 (vp_updL (fL 0) n x)) 1 (vp_updL (fL 1) n y)), rfl, by constructor <;> simp [ck_add, bI, c_1, c_1n, c_2, c_2n, c_3, c_3n, c_4, c_4n], by show va_P _ _ _ t.heap; rw [ht]; exact hP⟩, hS.F ht⟩) hS.2.2 d_Clock_addMark_83
        · have c_4n := sy_d64 c_4
          refine lv_iconst (v := 0) hx hb d_Clock_addMark_50 (by decide) ?_
          exact W.zret (v := (0 : Int32)) hx hb hr (rfl) (fun t ht hW => ⟨⟨(0 : Int32), (n, fL), rfl, by constructor <;> simp [ck_add, bI, c_1, c_1n, c_2, c_2n, c_3, c_3n, c_4, c_4n], by show va_P _ _ _ t.heap; rw [ht]; exact hP⟩, hS.F ht⟩) hS.2.2 d_Clock_addMark_51
  · have c_1 : ¬ n < 10 := fun h9 => c_1 ((nI_ltI (a := n) (b := 10) (by omega) (by omega)).mpr h9)
    have c_1n : 10 ≤ n := by omega
    refine lv_iconst (v := 0) hx hb d_Clock_addMark_9 (by decide) ?_
    exact W.zret (v := (0 : Int32)) hx hb hr (rfl) (fun t ht hW => ⟨⟨(0 : Int32), (n, fL), rfl, by constructor <;> simp [ck_add, bI, c_1, c_1n], by show va_P _ _ _ t.heap; rw [ht]; exact hP⟩, hS.F ht⟩) hS.2.2 d_Clock_addMark_10
end
