def R_M : String := "CapMachine"
def R_K : String := "CapMachine$Capability"
def R_E : String := "CapMachine$Memory"
def R_R : String := "CapMachineModel"
def R_L : String := "CapMachineLaw"
def nm_K : Nat → String := fun k => match k with
  | 0 => "valid"
  | 1 => "base"
  | 2 => "top"
  | 3 => "permissions"
  | 4 => "type"
  | _ => "address"
def ds_K : Nat → String := fun k => match k with
  | 0 => "Z"
  | 1 => "I"
  | 2 => "I"
  | 3 => "I"
  | 4 => "I"
  | _ => "I"
def F_K : u_T := fun k => (R_K, nm_K k, ds_K k, false)
def t_K : Nat → FieldType := fun k => match k with
  | 0 => .boolean
  | 1 => .int
  | 2 => .int
  | 3 => .int
  | 4 => .int
  | _ => .int
theorem n_K : ∀ a, a < 6 → ∀ b, b < 6 → a ≠ b → (F_K a).2.1 ≠ (F_K b).2.1 := by decide +kernel
theorem t_K_ok : ∀ k, k < 6 → parseFieldDescriptor (F_K k).2.2.1 = some (t_K k) := by decide +kernel
def nm_E : Nat → String := fun k => match k with
  | 0 => "bytes"
  | _ => "tags"
def ds_E : Nat → String := fun k => match k with
  | 0 => "[B"
  | _ => "[Z"
def F_E : u_T := fun k => (R_E, nm_E k, ds_E k, true)
def t_E : Nat → FieldType := fun k => match k with
  | 0 => .array .byte
  | _ => .array .boolean
theorem n_E : ∀ a, a < 2 → ∀ b, b < 2 → a ≠ b → (F_E a).2.1 ≠ (F_E b).2.1 := by decide +kernel
theorem t_E_ok : ∀ k, k < 2 → parseFieldDescriptor (F_E k).2.2.1 = some (t_E k) := by decide +kernel
def nm_M : Nat → String := fun k => match k with
  | 0 => "slots"
  | 1 => "pc"
  | 2 => "handler"
  | 3 => "fault"
  | 4 => "link"
  | 5 => "memory"
  | 6 => "state"
  | _ => "cause"
def ds_M : Nat → String := fun k => match k with
  | 0 => "[LCapMachine$Capability;"
  | 1 => "LCapMachine$Capability;"
  | 2 => "LCapMachine$Capability;"
  | 3 => "LCapMachine$Capability;"
  | 4 => "LCapMachine$Capability;"
  | 5 => "LCapMachine$Memory;"
  | 6 => "I"
  | _ => "I"
def fi_M : Nat → Bool := fun k => match k with
  | 0 => true
  | 1 => true
  | 2 => true
  | 3 => true
  | 4 => true
  | 5 => true
  | 6 => false
  | _ => false
def F_M : u_T := fun k => (R_M, nm_M k, ds_M k, fi_M k)
def t_M : Nat → FieldType := fun k => match k with
  | 0 => .array (.object "CapMachine$Capability")
  | 1 => .object "CapMachine$Capability"
  | 2 => .object "CapMachine$Capability"
  | 3 => .object "CapMachine$Capability"
  | 4 => .object "CapMachine$Capability"
  | 5 => .object "CapMachine$Memory"
  | 6 => .int
  | _ => .int
theorem n_M : ∀ a, a < 8 → ∀ b, b < 8 → a ≠ b → (F_M a).2.1 ≠ (F_M b).2.1 := by decide +kernel
theorem t_M_ok : ∀ k, k < 8 → parseFieldDescriptor (F_M k).2.2.1 = some (t_M k) := by decide +kernel
def nm_R : Nat → String := fun k => match k with
  | 0 => "thrown"
  | 1 => "memory"
  | 2 => "tags"
  | 3 => "valid"
  | 4 => "base"
  | 5 => "top"
  | 6 => "address"
  | 7 => "permissions"
  | 8 => "type"
  | 9 => "cause"
  | 10 => "state"
  | 11 => "code"
  | 12 => "a"
  | 13 => "b"
  | 14 => "c"
  | 15 => "imm"
  | 16 => "half"
  | _ => "raised"
def ds_R : Nat → String := fun k => match k with
  | 0 => "I"
  | 1 => "[I"
  | 2 => "[Z"
  | 3 => "[Z"
  | 4 => "[I"
  | 5 => "[I"
  | 6 => "[I"
  | 7 => "[I"
  | 8 => "[I"
  | 9 => "I"
  | 10 => "I"
  | 11 => "I"
  | 12 => "I"
  | 13 => "I"
  | 14 => "I"
  | 15 => "I"
  | 16 => "I"
  | _ => "Z"
def fi_R : Nat → Bool := fun k => match k with
  | 0 => false
  | 1 => true
  | 2 => true
  | 3 => true
  | 4 => true
  | 5 => true
  | 6 => true
  | 7 => true
  | 8 => true
  | 9 => false
  | 10 => false
  | 11 => false
  | 12 => false
  | 13 => false
  | 14 => false
  | 15 => false
  | 16 => false
  | _ => false
def F_R : u_T := fun k => (R_R, nm_R k, ds_R k, fi_R k)
def t_R : Nat → FieldType := fun k => match k with
  | 0 => .int
  | 1 => .array .int
  | 2 => .array .boolean
  | 3 => .array .boolean
  | 4 => .array .int
  | 5 => .array .int
  | 6 => .array .int
  | 7 => .array .int
  | 8 => .array .int
  | 9 => .int
  | 10 => .int
  | 11 => .int
  | 12 => .int
  | 13 => .int
  | 14 => .int
  | 15 => .int
  | 16 => .int
  | _ => .boolean
theorem n_R : ∀ a, a < 18 → ∀ b, b < 18 → a ≠ b → (F_R a).2.1 ≠ (F_R b).2.1 := by decide +kernel
theorem t_R_ok : ∀ k, k < 18 → parseFieldDescriptor (F_R k).2.2.1 = some (t_R k) := by decide +kernel
abbrev cls : List vw_C := [(R_K, F_K, 6), (R_E, F_E, 2), (R_M, F_M, 8), (R_R, F_R, 18)]
def TB : List Cond := lw_tbl.filter goodWord
theorem TB_good : ∀ w ∈ TB, goodWord w = true := fun w h => (List.mem_filter.mp h).2
theorem tbT (i : Nat) {w : Cond} (h : tables_1[i]? = some w) (hg : goodWord w = true) : w ∈ TB := List.mem_filter.mpr ⟨List.mem_append_right _ (List.mem_of_getElem? h), hg⟩
theorem tbS (i : Nat) {q : MethodName × Nat} (h : lw_privs[i]? = some q) : Cond.selects q.1.cls q.1 q.1 ∈ TB := List.mem_filter.mpr ⟨List.mem_append_left _ (List.mem_map.mpr ⟨q, List.mem_of_getElem? h, rfl⟩), rfl⟩
def nw_is : Cond → Bool
  | .fieldLinkNest .. => true
  | .methodLinkNest .. => true
  | _ => false
def NW : List Cond := tables_1.filter nw_is
theorem nwT (i : Nat) {w : Cond} (h : tables_1[i]? = some w) (hg : nw_is w = true) : w ∈ NW := List.mem_filter.mpr ⟨List.mem_of_getElem? h, hg⟩
/-- the links between nest mates, which are no words of a contract: they stand in its start -/
def NL (U : State) : Prop := ∀ w ∈ NW, va_Nw w U
theorem NL_warm {s U : State} (hW : s.WarmedH U.vm) (h : NL s) : NL U := by
  intro w hw
  have h1 : nw_is w = true := (List.mem_filter.mp hw).2
  have h2 := h w hw
  cases w <;> first | exact va_Nw.warmF hW h2 | exact va_Nw.warmM hW h2 | cases h1
theorem NL_same {u U : State} (e : u.vm = U.vm) (h : NL u) : NL U := by
  intro w hw
  have h1 : nw_is w = true := (List.mem_filter.mp hw).2
  have h2 := h w hw
  cases w <;> first | exact va_Nw.same rfl e h2 | cases h1
theorem in_K : ∀ w ∈ u_ws R_K F_K 6, w ∈ TB := by
  intro w hw
  obtain ⟨k, hk, rfl⟩ := List.mem_map.mp hw
  have hk := List.mem_range.mp hk
  match k, hk with
  | 0, _ => exact tbT 39 (by decide +kernel) rfl
  | 1, _ => exact tbT 41 (by decide +kernel) rfl
  | 2, _ => exact tbT 43 (by decide +kernel) rfl
  | 3, _ => exact tbT 45 (by decide +kernel) rfl
  | 4, _ => exact tbT 47 (by decide +kernel) rfl
  | 5, _ => exact tbT 49 (by decide +kernel) rfl
theorem in_E : ∀ w ∈ u_ws R_E F_E 2, w ∈ TB := by
  intro w hw
  obtain ⟨k, hk, rfl⟩ := List.mem_map.mp hw
  have hk := List.mem_range.mp hk
  match k, hk with
  | 0, _ => exact tbT 61 (by decide +kernel) rfl
  | 1, _ => exact tbT 63 (by decide +kernel) rfl
theorem in_M : ∀ w ∈ u_ws R_M F_M 8, w ∈ TB := by
  intro w hw
  obtain ⟨k, hk, rfl⟩ := List.mem_map.mp hw
  have hk := List.mem_range.mp hk
  match k, hk with
  | 0, _ => exact tbT 80 (by decide +kernel) rfl
  | 1, _ => exact tbT 82 (by decide +kernel) rfl
  | 2, _ => exact tbT 84 (by decide +kernel) rfl
  | 3, _ => exact tbT 86 (by decide +kernel) rfl
  | 4, _ => exact tbT 88 (by decide +kernel) rfl
  | 5, _ => exact tbT 90 (by decide +kernel) rfl
  | 6, _ => exact tbT 92 (by decide +kernel) rfl
  | 7, _ => exact tbT 94 (by decide +kernel) rfl
theorem in_R : ∀ w ∈ u_ws R_R F_R 18, w ∈ TB := by
  intro w hw
  obtain ⟨k, hk, rfl⟩ := List.mem_map.mp hw
  have hk := List.mem_range.mp hk
  match k, hk with
  | 0, _ => exact tbT 373 (by decide +kernel) rfl
  | 1, _ => exact tbT 375 (by decide +kernel) rfl
  | 2, _ => exact tbT 377 (by decide +kernel) rfl
  | 3, _ => exact tbT 379 (by decide +kernel) rfl
  | 4, _ => exact tbT 381 (by decide +kernel) rfl
  | 5, _ => exact tbT 383 (by decide +kernel) rfl
  | 6, _ => exact tbT 385 (by decide +kernel) rfl
  | 7, _ => exact tbT 387 (by decide +kernel) rfl
  | 8, _ => exact tbT 389 (by decide +kernel) rfl
  | 9, _ => exact tbT 391 (by decide +kernel) rfl
  | 10, _ => exact tbT 393 (by decide +kernel) rfl
  | 11, _ => exact tbT 395 (by decide +kernel) rfl
  | 12, _ => exact tbT 397 (by decide +kernel) rfl
  | 13, _ => exact tbT 399 (by decide +kernel) rfl
  | 14, _ => exact tbT 401 (by decide +kernel) rfl
  | 15, _ => exact tbT 403 (by decide +kernel) rfl
  | 16, _ => exact tbT 405 (by decide +kernel) rfl
  | 17, _ => exact tbT 407 (by decide +kernel) rfl
  | n + 18, h => exact absurd h (by omega)
abbrev b_E_byteAt : ByteArray := prog_3_method_2_code
def y_E_byteAt : MethodName := ⟨R_E, "byteAt", "(I)I"⟩
abbrev b_E_init : ByteArray := prog_3_method_1_code
def y_E_init : MethodName := ⟨R_E, "<init>", "()V"⟩
abbrev b_E_loadCapability : ByteArray := prog_3_method_5_code
def y_E_loadCapability : MethodName := ⟨R_E, "loadCapability", "(ILCapMachine$Capability;)V"⟩
abbrev b_E_store : ByteArray := prog_3_method_4_code
def y_E_store : MethodName := ⟨R_E, "store", "(III)V"⟩
abbrev b_E_storeCapability : ByteArray := prog_3_method_6_code
def y_E_storeCapability : MethodName := ⟨R_E, "storeCapability", "(ILCapMachine$Capability;)V"⟩
abbrev b_E_wordAt : ByteArray := prog_3_method_3_code
def y_E_wordAt : MethodName := ⟨R_E, "wordAt", "(I)I"⟩
abbrev b_K_become : ByteArray := prog_2_method_4_code
def y_K_become : MethodName := ⟨R_K, "become", "(LCapMachine$Capability;)V"⟩
abbrev b_K_becomeGranted : ByteArray := prog_2_method_3_code
def y_K_becomeGranted : MethodName := ⟨R_K, "becomeGranted", "(IIII)V"⟩
abbrev b_K_becomeNumber : ByteArray := prog_2_method_2_code
def y_K_becomeNumber : MethodName := ⟨R_K, "becomeNumber", "(I)V"⟩
abbrev b_K_becomeUnpacked : ByteArray := prog_2_method_5_code
def y_K_becomeUnpacked : MethodName := ⟨R_K, "becomeUnpacked", "(ZII)V"⟩
abbrev b_K_hasAddressInBounds : ByteArray := prog_2_method_10_code
def y_K_hasAddressInBounds : MethodName := ⟨R_K, "hasAddressInBounds", "()Z"⟩
abbrev b_K_init : ByteArray := prog_2_method_1_code
def y_K_init : MethodName := ⟨R_K, "<init>", "()V"⟩
abbrev b_K_isWithin : ByteArray := prog_2_method_11_code
def y_K_isWithin : MethodName := ⟨R_K, "isWithin", "(LCapMachine$Capability;)Z"⟩
abbrev b_K_moveTo : ByteArray := prog_2_method_7_code
def y_K_moveTo : MethodName := ⟨R_K, "moveTo", "(I)V"⟩
abbrev b_K_packed : ByteArray := prog_2_method_6_code
def y_K_packed : MethodName := ⟨R_K, "packed", "()I"⟩
abbrev b_K_part : ByteArray := prog_2_method_8_code
def y_K_part : MethodName := ⟨R_K, "part", "(I)I"⟩
abbrev b_K_permits : ByteArray := prog_2_method_9_code
def y_K_permits : MethodName := ⟨R_K, "permits", "(I)Z"⟩
abbrev b_K_refusal : ByteArray := prog_2_method_12_code
def y_K_refusal : MethodName := ⟨R_K, "refusal", "(IJI)I"⟩
abbrev b_M_access : ByteArray := prog_1_method_29_code
def y_M_access : MethodName := ⟨R_M, "access", "(ILCapMachine$Capability;LCapMachine$Capability;J)I"⟩
abbrev b_M_advance : ByteArray := prog_1_method_12_code
def y_M_advance : MethodName := ⟨R_M, "advance", "(I)I"⟩
abbrev b_M_areExact : ByteArray := prog_1_method_22_code
def y_M_areExact : MethodName := ⟨R_M, "areExact", "(II)Z"⟩
abbrev b_M_branch : ByteArray := prog_1_method_13_code
def y_M_branch : MethodName := ⟨R_M, "branch", "(ZI)I"⟩
abbrev b_M_bytesOf : ByteArray := prog_1_method_31_code
def y_M_bytesOf : MethodName := ⟨R_M, "bytesOf", "(I)I"⟩
abbrev b_M_cause : ByteArray := prog_1_method_6_code
def y_M_cause : MethodName := ⟨R_M, "cause", "()I"⟩
abbrev b_M_compute : ByteArray := prog_1_method_15_code
def y_M_compute : MethodName := ⟨R_M, "compute", "(ILCapMachine$Capability;LCapMachine$Capability;LCapMachine$Capability;I)I"⟩
abbrev b_M_copy : ByteArray := prog_1_method_17_code
def y_M_copy : MethodName := ⟨R_M, "copy", "(LCapMachine$Capability;LCapMachine$Capability;)I"⟩
abbrev b_M_grant : ByteArray := prog_1_method_2_code
def y_M_grant : MethodName := ⟨R_M, "grant", "(IIIII)V"⟩
abbrev b_M_init : ByteArray := prog_1_method_1_code
def y_M_init : MethodName := ⟨R_M, "<init>", "()V"⟩
abbrev b_M_jump : ByteArray := prog_1_method_14_code
def y_M_jump : MethodName := ⟨R_M, "jump", "(LCapMachine$Capability;LCapMachine$Capability;)I"⟩
abbrev b_M_look : ByteArray := prog_1_method_7_code
def y_M_look : MethodName := ⟨R_M, "look", "(II)I"⟩
abbrev b_M_makeEntry : ByteArray := prog_1_method_27_code
def y_M_makeEntry : MethodName := ⟨R_M, "makeEntry", "(LCapMachine$Capability;LCapMachine$Capability;)I"⟩
abbrev b_M_multipleNotAbove : ByteArray := prog_1_method_23_code
def y_M_multipleNotAbove : MethodName := ⟨R_M, "multipleNotAbove", "(I)I"⟩
abbrev b_M_multipleNotBelow : ByteArray := prog_1_method_24_code
def y_M_multipleNotBelow : MethodName := ⟨R_M, "multipleNotBelow", "(I)I"⟩
abbrev b_M_number : ByteArray := prog_1_method_16_code
def y_M_number : MethodName := ⟨R_M, "number", "(LCapMachine$Capability;I)I"⟩
abbrev b_M_peek : ByteArray := prog_1_method_8_code
def y_M_peek : MethodName := ⟨R_M, "peek", "(I)I"⟩
abbrev b_M_permissionsFor : ByteArray := prog_1_method_30_code
def y_M_permissionsFor : MethodName := ⟨R_M, "permissionsFor", "(ILCapMachine$Capability;)I"⟩
abbrev b_M_poke : ByteArray := prog_1_method_3_code
def y_M_poke : MethodName := ⟨R_M, "poke", "(III)V"⟩
abbrev b_M_run : ByteArray := prog_1_method_4_code
def y_M_run : MethodName := ⟨R_M, "run", "(I)I"⟩
abbrev b_M_seal : ByteArray := prog_1_method_25_code
def y_M_seal : MethodName := ⟨R_M, "seal", "(LCapMachine$Capability;LCapMachine$Capability;LCapMachine$Capability;)I"⟩
abbrev b_M_setHandler : ByteArray := prog_1_method_28_code
def y_M_setHandler : MethodName := ⟨R_M, "setHandler", "(LCapMachine$Capability;)I"⟩
abbrev b_M_state : ByteArray := prog_1_method_5_code
def y_M_state : MethodName := ⟨R_M, "state", "()I"⟩
abbrev b_M_step : ByteArray := prog_1_method_11_code
def y_M_step : MethodName := ⟨R_M, "step", "()I"⟩
abbrev b_M_tagged : ByteArray := prog_1_method_9_code
def y_M_tagged : MethodName := ⟨R_M, "tagged", "(I)Z"⟩
abbrev b_M_takeException : ByteArray := prog_1_method_10_code
def y_M_takeException : MethodName := ⟨R_M, "takeException", "(I)V"⟩
abbrev b_M_unseal : ByteArray := prog_1_method_26_code
def y_M_unseal : MethodName := ⟨R_M, "unseal", "(LCapMachine$Capability;LCapMachine$Capability;LCapMachine$Capability;)I"⟩
abbrev b_M_withAddress : ByteArray := prog_1_method_19_code
def y_M_withAddress : MethodName := ⟨R_M, "withAddress", "(LCapMachine$Capability;LCapMachine$Capability;I)I"⟩
abbrev b_M_withBounds : ByteArray := prog_1_method_21_code
def y_M_withBounds : MethodName := ⟨R_M, "withBounds", "(LCapMachine$Capability;LCapMachine$Capability;IZ)I"⟩
abbrev b_M_withPermissions : ByteArray := prog_1_method_20_code
def y_M_withPermissions : MethodName := ⟨R_M, "withPermissions", "(LCapMachine$Capability;LCapMachine$Capability;I)I"⟩
abbrev b_M_withoutTag : ByteArray := prog_1_method_18_code
def y_M_withoutTag : MethodName := ⟨R_M, "withoutTag", "(LCapMachine$Capability;LCapMachine$Capability;)I"⟩
abbrev b_R_access : ByteArray := prog_5_method_27_code
def y_R_access : MethodName := ⟨R_R, "access", "()V"⟩
abbrev b_R_allow : ByteArray := prog_5_method_12_code
def y_R_allow : MethodName := ⟨R_R, "allow", "(IJII)I"⟩
abbrev b_R_bound : ByteArray := prog_5_method_30_code
def y_R_bound : MethodName := ⟨R_R, "bound", "()V"⟩
abbrev b_R_cause : ByteArray := prog_5_method_41_code
def y_R_cause : MethodName := ⟨R_R, "cause", "()I"⟩
abbrev b_R_copy : ByteArray := prog_5_method_7_code
def y_R_copy : MethodName := ⟨R_R, "copy", "(II)V"⟩
abbrev b_R_derive : ByteArray := prog_5_method_31_code
def y_R_derive : MethodName := ⟨R_R, "derive", "()V"⟩
abbrev b_R_doIt : ByteArray := prog_5_method_34_code
def y_R_doIt : MethodName := ⟨R_R, "doIt", "()V"⟩
abbrev b_R_down : ByteArray := prog_5_method_14_code
def y_R_down : MethodName := ⟨R_R, "down", "(I)I"⟩
abbrev b_R_exact : ByteArray := prog_5_method_13_code
def y_R_exact : MethodName := ⟨R_R, "exact", "(II)Z"⟩
abbrev b_R_exception : ByteArray := prog_5_method_23_code
def y_R_exception : MethodName := ⟨R_R, "exception", "()I"⟩
abbrev b_R_fetch : ByteArray := prog_5_method_35_code
def y_R_fetch : MethodName := ⟨R_R, "fetch", "(I)V"⟩
abbrev b_R_forAccess : ByteArray := prog_5_method_21_code
def y_R_forAccess : MethodName := ⟨R_R, "forAccess", "()I"⟩
abbrev b_R_forBounds : ByteArray := prog_5_method_16_code
def y_R_forBounds : MethodName := ⟨R_R, "forBounds", "()I"⟩
abbrev b_R_forJump : ByteArray := prog_5_method_22_code
def y_R_forJump : MethodName := ⟨R_R, "forJump", "()I"⟩
abbrev b_R_forSeal : ByteArray := prog_5_method_18_code
def y_R_forSeal : MethodName := ⟨R_R, "forSeal", "()I"⟩
abbrev b_R_forUnseal : ByteArray := prog_5_method_19_code
def y_R_forUnseal : MethodName := ⟨R_R, "forUnseal", "()I"⟩
abbrev b_R_goes : ByteArray := prog_5_method_33_code
def y_R_goes : MethodName := ⟨R_R, "goes", "()Z"⟩
abbrev b_R_grant : ByteArray := prog_5_method_37_code
def y_R_grant : MethodName := ⟨R_R, "grant", "(IIIII)V"⟩
abbrev b_R_init : ByteArray := prog_5_method_1_code
def y_R_init : MethodName := ⟨R_R, "<init>", "()V"⟩
abbrev b_R_jump : ByteArray := prog_5_method_32_code
def y_R_jump : MethodName := ⟨R_R, "jump", "()V"⟩
abbrev b_R_load : ByteArray := prog_5_method_26_code
def y_R_load : MethodName := ⟨R_R, "load", "(I)V"⟩
abbrev b_R_look : ByteArray := prog_5_method_42_code
def y_R_look : MethodName := ⟨R_R, "look", "(II)I"⟩
abbrev b_R_loose : ByteArray := prog_5_method_11_code
def y_R_loose : MethodName := ⟨R_R, "loose", "(I)I"⟩
abbrev b_R_may : ByteArray := prog_5_method_9_code
def y_R_may : MethodName := ⟨R_R, "may", "(II)Z"⟩
abbrev b_R_move : ByteArray := prog_5_method_8_code
def y_R_move : MethodName := ⟨R_R, "move", "(II)V"⟩
abbrev b_R_number : ByteArray := prog_5_method_6_code
def y_R_number : MethodName := ⟨R_R, "number", "(II)V"⟩
abbrev b_R_outside : ByteArray := prog_5_method_4_code
def y_R_outside : MethodName := ⟨R_R, "outside", "(III)Z"⟩
abbrev b_R_peek : ByteArray := prog_5_method_43_code
def y_R_peek : MethodName := ⟨R_R, "peek", "(I)I"⟩
abbrev b_R_points : ByteArray := prog_5_method_17_code
def y_R_points : MethodName := ⟨R_R, "points", "(I)Z"⟩
abbrev b_R_poke : ByteArray := prog_5_method_38_code
def y_R_poke : MethodName := ⟨R_R, "poke", "(III)V"⟩
abbrev b_R_reckon : ByteArray := prog_5_method_29_code
def y_R_reckon : MethodName := ⟨R_R, "reckon", "()I"⟩
abbrev b_R_refuse : ByteArray := prog_5_method_3_code
def y_R_refuse : MethodName := ⟨R_R, "refuse", "(I)I"⟩
abbrev b_R_run : ByteArray := prog_5_method_39_code
def y_R_run : MethodName := ⟨R_R, "run", "(I)I"⟩
abbrev b_R_set : ByteArray := prog_5_method_5_code
def y_R_set : MethodName := ⟨R_R, "set", "(IIIII)V"⟩
abbrev b_R_size : ByteArray := prog_5_method_20_code
def y_R_size : MethodName := ⟨R_R, "size", "()I"⟩
abbrev b_R_state : ByteArray := prog_5_method_40_code
def y_R_state : MethodName := ⟨R_R, "state", "()I"⟩
abbrev b_R_step : ByteArray := prog_5_method_36_code
def y_R_step : MethodName := ⟨R_R, "step", "()V"⟩
abbrev b_R_store : ByteArray := prog_5_method_25_code
def y_R_store : MethodName := ⟨R_R, "store", "(III)V"⟩
abbrev b_R_tagged : ByteArray := prog_5_method_44_code
def y_R_tagged : MethodName := ⟨R_R, "tagged", "(I)Z"⟩
abbrev b_R_thrown : ByteArray := prog_5_method_2_code
def y_R_thrown : MethodName := ⟨R_R, "thrown", "()I"⟩
abbrev b_R_up : ByteArray := prog_5_method_15_code
def y_R_up : MethodName := ⟨R_R, "up", "(I)I"⟩
abbrev b_R_usable : ByteArray := prog_5_method_10_code
def y_R_usable : MethodName := ⟨R_R, "usable", "(I)I"⟩
abbrev b_R_within : ByteArray := prog_5_method_28_code
def y_R_within : MethodName := ⟨R_R, "within", "()Z"⟩
abbrev b_R_word : ByteArray := prog_5_method_24_code
def y_R_word : MethodName := ⟨R_R, "word", "(I)I"⟩
