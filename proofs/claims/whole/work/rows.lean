section
-- PART A: goes FIRST, ahead of the names: the tables' words, and 'selects' of the private methods out of them =====
/-- a private method of a class that the tables say can be made, by its rows of tables_1 -/
def lw_okq (q : MethodName × Nat) : Prop := (q.1.cls ≠ "java/lang/invoke/MethodHandle" ∧ q.1.cls ≠ "java/lang/invoke/VarHandle") ∧ Cond.instantiable q.1.cls q.2 ∈ tables_1 ∧ Cond.privateMethod q.1 ∈ tables_1 ∧ Cond.instanceMethod q.1 ∈ tables_1
theorem lw_p0 : lw_okq (⟨"CapMachine$Capability", "becomeGranted", "(IIII)V"⟩, 6) := ⟨⟨by decide +kernel, by decide +kernel⟩, List.mem_of_getElem? (i := 20) (by decide +kernel), List.mem_of_getElem? (i := 69) (by decide +kernel), List.mem_of_getElem? (i := 70) (by decide +kernel)⟩
theorem lw_p1 : lw_okq (⟨"CapMachine", "step", "()I"⟩, 8) := ⟨⟨by decide +kernel, by decide +kernel⟩, List.mem_of_getElem? (i := 11) (by decide +kernel), List.mem_of_getElem? (i := 105) (by decide +kernel), List.mem_of_getElem? (i := 106) (by decide +kernel)⟩
theorem lw_p2 : lw_okq (⟨"CapMachine$Capability", "refusal", "(IJI)I"⟩, 6) := ⟨⟨by decide +kernel, by decide +kernel⟩, List.mem_of_getElem? (i := 20) (by decide +kernel), List.mem_of_getElem? (i := 109) (by decide +kernel), List.mem_of_getElem? (i := 110) (by decide +kernel)⟩
theorem lw_p3 : lw_okq (⟨"CapMachine$Capability", "permits", "(I)Z"⟩, 6) := ⟨⟨by decide +kernel, by decide +kernel⟩, List.mem_of_getElem? (i := 20) (by decide +kernel), List.mem_of_getElem? (i := 113) (by decide +kernel), List.mem_of_getElem? (i := 114) (by decide +kernel)⟩
theorem lw_p4 : lw_okq (⟨"CapMachine$Memory", "byteAt", "(I)I"⟩, 2) := ⟨⟨by decide +kernel, by decide +kernel⟩, List.mem_of_getElem? (i := 53) (by decide +kernel), List.mem_of_getElem? (i := 118) (by decide +kernel), List.mem_of_getElem? (i := 119) (by decide +kernel)⟩
theorem lw_p5 : lw_okq (⟨"CapMachine", "branch", "(ZI)I"⟩, 8) := ⟨⟨by decide +kernel, by decide +kernel⟩, List.mem_of_getElem? (i := 11) (by decide +kernel), List.mem_of_getElem? (i := 122) (by decide +kernel), List.mem_of_getElem? (i := 123) (by decide +kernel)⟩
theorem lw_p6 : lw_okq (⟨"CapMachine$Capability", "moveTo", "(I)V"⟩, 6) := ⟨⟨by decide +kernel, by decide +kernel⟩, List.mem_of_getElem? (i := 20) (by decide +kernel), List.mem_of_getElem? (i := 126) (by decide +kernel), List.mem_of_getElem? (i := 127) (by decide +kernel)⟩
theorem lw_p7 : lw_okq (⟨"CapMachine", "jump", "(LCapMachine$Capability;LCapMachine$Capability;)I"⟩, 8) := ⟨⟨by decide +kernel, by decide +kernel⟩, List.mem_of_getElem? (i := 11) (by decide +kernel), List.mem_of_getElem? (i := 130) (by decide +kernel), List.mem_of_getElem? (i := 131) (by decide +kernel)⟩
theorem lw_p8 : lw_okq (⟨"CapMachine$Capability", "become", "(LCapMachine$Capability;)V"⟩, 6) := ⟨⟨by decide +kernel, by decide +kernel⟩, List.mem_of_getElem? (i := 20) (by decide +kernel), List.mem_of_getElem? (i := 135) (by decide +kernel), List.mem_of_getElem? (i := 136) (by decide +kernel)⟩
theorem lw_p9 : lw_okq (⟨"CapMachine$Capability", "becomeNumber", "(I)V"⟩, 6) := ⟨⟨by decide +kernel, by decide +kernel⟩, List.mem_of_getElem? (i := 20) (by decide +kernel), List.mem_of_getElem? (i := 139) (by decide +kernel), List.mem_of_getElem? (i := 140) (by decide +kernel)⟩
theorem lw_p10 : lw_okq (⟨"CapMachine", "advance", "(I)I"⟩, 8) := ⟨⟨by decide +kernel, by decide +kernel⟩, List.mem_of_getElem? (i := 11) (by decide +kernel), List.mem_of_getElem? (i := 143) (by decide +kernel), List.mem_of_getElem? (i := 144) (by decide +kernel)⟩
theorem lw_p11 : lw_okq (⟨"CapMachine", "compute", "(ILCapMachine$Capability;LCapMachine$Capability;LCapMachine$Capability;I)I"⟩, 8) := ⟨⟨by decide +kernel, by decide +kernel⟩, List.mem_of_getElem? (i := 11) (by decide +kernel), List.mem_of_getElem? (i := 147) (by decide +kernel), List.mem_of_getElem? (i := 148) (by decide +kernel)⟩
theorem lw_p12 : lw_okq (⟨"CapMachine", "access", "(ILCapMachine$Capability;LCapMachine$Capability;J)I"⟩, 8) := ⟨⟨by decide +kernel, by decide +kernel⟩, List.mem_of_getElem? (i := 11) (by decide +kernel), List.mem_of_getElem? (i := 151) (by decide +kernel), List.mem_of_getElem? (i := 152) (by decide +kernel)⟩
theorem lw_p13 : lw_okq (⟨"CapMachine$Memory", "wordAt", "(I)I"⟩, 2) := ⟨⟨by decide +kernel, by decide +kernel⟩, List.mem_of_getElem? (i := 53) (by decide +kernel), List.mem_of_getElem? (i := 161) (by decide +kernel), List.mem_of_getElem? (i := 162) (by decide +kernel)⟩
theorem lw_p14 : lw_okq (⟨"CapMachine$Memory", "loadCapability", "(ILCapMachine$Capability;)V"⟩, 2) := ⟨⟨by decide +kernel, by decide +kernel⟩, List.mem_of_getElem? (i := 53) (by decide +kernel), List.mem_of_getElem? (i := 166) (by decide +kernel), List.mem_of_getElem? (i := 167) (by decide +kernel)⟩
theorem lw_p15 : lw_okq (⟨"CapMachine$Capability", "becomeUnpacked", "(ZII)V"⟩, 6) := ⟨⟨by decide +kernel, by decide +kernel⟩, List.mem_of_getElem? (i := 20) (by decide +kernel), List.mem_of_getElem? (i := 171) (by decide +kernel), List.mem_of_getElem? (i := 172) (by decide +kernel)⟩
def lw_privs_1 : List (MethodName × Nat) := [(⟨"CapMachine$Capability", "becomeGranted", "(IIII)V"⟩, 6), (⟨"CapMachine", "step", "()I"⟩, 8), (⟨"CapMachine$Capability", "refusal", "(IJI)I"⟩, 6), (⟨"CapMachine$Capability", "permits", "(I)Z"⟩, 6), (⟨"CapMachine$Memory", "byteAt", "(I)I"⟩, 2), (⟨"CapMachine", "branch", "(ZI)I"⟩, 8), (⟨"CapMachine$Capability", "moveTo", "(I)V"⟩, 6), (⟨"CapMachine", "jump", "(LCapMachine$Capability;LCapMachine$Capability;)I"⟩, 8), (⟨"CapMachine$Capability", "become", "(LCapMachine$Capability;)V"⟩, 6), (⟨"CapMachine$Capability", "becomeNumber", "(I)V"⟩, 6), (⟨"CapMachine", "advance", "(I)I"⟩, 8), (⟨"CapMachine", "compute", "(ILCapMachine$Capability;LCapMachine$Capability;LCapMachine$Capability;I)I"⟩, 8), (⟨"CapMachine", "access", "(ILCapMachine$Capability;LCapMachine$Capability;J)I"⟩, 8), (⟨"CapMachine$Memory", "wordAt", "(I)I"⟩, 2), (⟨"CapMachine$Memory", "loadCapability", "(ILCapMachine$Capability;)V"⟩, 2), (⟨"CapMachine$Capability", "becomeUnpacked", "(ZII)V"⟩, 6)]
theorem lw_r1 : ∀ q ∈ lw_privs_1, lw_okq q := List.forall_mem_cons.mpr ⟨lw_p0, List.forall_mem_cons.mpr ⟨lw_p1, List.forall_mem_cons.mpr ⟨lw_p2, List.forall_mem_cons.mpr ⟨lw_p3, List.forall_mem_cons.mpr ⟨lw_p4, List.forall_mem_cons.mpr ⟨lw_p5, List.forall_mem_cons.mpr ⟨lw_p6, List.forall_mem_cons.mpr ⟨lw_p7, List.forall_mem_cons.mpr ⟨lw_p8, List.forall_mem_cons.mpr ⟨lw_p9, List.forall_mem_cons.mpr ⟨lw_p10, List.forall_mem_cons.mpr ⟨lw_p11, List.forall_mem_cons.mpr ⟨lw_p12, List.forall_mem_cons.mpr ⟨lw_p13, List.forall_mem_cons.mpr ⟨lw_p14, List.forall_mem_cons.mpr ⟨lw_p15, fun _ h => absurd h List.not_mem_nil⟩⟩⟩⟩⟩⟩⟩⟩⟩⟩⟩⟩⟩⟩⟩⟩
theorem lw_p16 : lw_okq (⟨"CapMachine$Memory", "storeCapability", "(ILCapMachine$Capability;)V"⟩, 2) := ⟨⟨by decide +kernel, by decide +kernel⟩, List.mem_of_getElem? (i := 53) (by decide +kernel), List.mem_of_getElem? (i := 175) (by decide +kernel), List.mem_of_getElem? (i := 176) (by decide +kernel)⟩
theorem lw_p17 : lw_okq (⟨"CapMachine$Memory", "store", "(III)V"⟩, 2) := ⟨⟨by decide +kernel, by decide +kernel⟩, List.mem_of_getElem? (i := 53) (by decide +kernel), List.mem_of_getElem? (i := 179) (by decide +kernel), List.mem_of_getElem? (i := 180) (by decide +kernel)⟩
theorem lw_p18 : lw_okq (⟨"CapMachine$Capability", "packed", "()I"⟩, 6) := ⟨⟨by decide +kernel, by decide +kernel⟩, List.mem_of_getElem? (i := 20) (by decide +kernel), List.mem_of_getElem? (i := 183) (by decide +kernel), List.mem_of_getElem? (i := 184) (by decide +kernel)⟩
theorem lw_p19 : lw_okq (⟨"CapMachine$Capability", "part", "(I)I"⟩, 6) := ⟨⟨by decide +kernel, by decide +kernel⟩, List.mem_of_getElem? (i := 20) (by decide +kernel), List.mem_of_getElem? (i := 188) (by decide +kernel), List.mem_of_getElem? (i := 189) (by decide +kernel)⟩
theorem lw_p20 : lw_okq (⟨"CapMachine$Capability", "hasAddressInBounds", "()Z"⟩, 6) := ⟨⟨by decide +kernel, by decide +kernel⟩, List.mem_of_getElem? (i := 20) (by decide +kernel), List.mem_of_getElem? (i := 219) (by decide +kernel), List.mem_of_getElem? (i := 220) (by decide +kernel)⟩
theorem lw_p21 : lw_okq (⟨"CapMachine$Capability", "isWithin", "(LCapMachine$Capability;)Z"⟩, 6) := ⟨⟨by decide +kernel, by decide +kernel⟩, List.mem_of_getElem? (i := 20) (by decide +kernel), List.mem_of_getElem? (i := 232) (by decide +kernel), List.mem_of_getElem? (i := 233) (by decide +kernel)⟩
theorem lw_p22 : lw_okq (⟨"CapMachine", "setHandler", "(LCapMachine$Capability;)I"⟩, 8) := ⟨⟨by decide +kernel, by decide +kernel⟩, List.mem_of_getElem? (i := 11) (by decide +kernel), List.mem_of_getElem? (i := 236) (by decide +kernel), List.mem_of_getElem? (i := 237) (by decide +kernel)⟩
theorem lw_p23 : lw_okq (⟨"CapMachine", "takeException", "(I)V"⟩, 8) := ⟨⟨by decide +kernel, by decide +kernel⟩, List.mem_of_getElem? (i := 11) (by decide +kernel), List.mem_of_getElem? (i := 240) (by decide +kernel), List.mem_of_getElem? (i := 241) (by decide +kernel)⟩
theorem lw_p24 : lw_okq (⟨"java/lang/Throwable", "fillInStackTrace", "(I)Ljava/lang/Throwable;"⟩, 6) := ⟨⟨by decide +kernel, by decide +kernel⟩, List.mem_of_getElem? (i := 300) (by decide +kernel), List.mem_of_getElem? (i := 298) (by decide +kernel), List.mem_of_getElem? (i := 299) (by decide +kernel)⟩
theorem lw_p25 : lw_okq (⟨"CapMachineModel", "set", "(IIIII)V"⟩, 18) := ⟨⟨by decide +kernel, by decide +kernel⟩, List.mem_of_getElem? (i := 346) (by decide +kernel), List.mem_of_getElem? (i := 352) (by decide +kernel), List.mem_of_getElem? (i := 353) (by decide +kernel)⟩
theorem lw_p26 : lw_okq (⟨"CapMachineModel", "store", "(III)V"⟩, 18) := ⟨⟨by decide +kernel, by decide +kernel⟩, List.mem_of_getElem? (i := 346) (by decide +kernel), List.mem_of_getElem? (i := 427) (by decide +kernel), List.mem_of_getElem? (i := 428) (by decide +kernel)⟩
theorem lw_p27 : lw_okq (⟨"CapMachineModel", "step", "()V"⟩, 18) := ⟨⟨by decide +kernel, by decide +kernel⟩, List.mem_of_getElem? (i := 346) (by decide +kernel), List.mem_of_getElem? (i := 435) (by decide +kernel), List.mem_of_getElem? (i := 436) (by decide +kernel)⟩
theorem lw_p28 : lw_okq (⟨"CapMachineModel", "allow", "(IJII)I"⟩, 18) := ⟨⟨by decide +kernel, by decide +kernel⟩, List.mem_of_getElem? (i := 346) (by decide +kernel), List.mem_of_getElem? (i := 439) (by decide +kernel), List.mem_of_getElem? (i := 440) (by decide +kernel)⟩
theorem lw_p29 : lw_okq (⟨"CapMachineModel", "usable", "(I)I"⟩, 18) := ⟨⟨by decide +kernel, by decide +kernel⟩, List.mem_of_getElem? (i := 346) (by decide +kernel), List.mem_of_getElem? (i := 443) (by decide +kernel), List.mem_of_getElem? (i := 444) (by decide +kernel)⟩
theorem lw_p30 : lw_okq (⟨"CapMachineModel", "may", "(II)Z"⟩, 18) := ⟨⟨by decide +kernel, by decide +kernel⟩, List.mem_of_getElem? (i := 346) (by decide +kernel), List.mem_of_getElem? (i := 447) (by decide +kernel), List.mem_of_getElem? (i := 448) (by decide +kernel)⟩
theorem lw_p31 : lw_okq (⟨"CapMachineModel", "fetch", "(I)V"⟩, 18) := ⟨⟨by decide +kernel, by decide +kernel⟩, List.mem_of_getElem? (i := 346) (by decide +kernel), List.mem_of_getElem? (i := 452) (by decide +kernel), List.mem_of_getElem? (i := 453) (by decide +kernel)⟩
def lw_privs_2 : List (MethodName × Nat) := [(⟨"CapMachine$Memory", "storeCapability", "(ILCapMachine$Capability;)V"⟩, 2), (⟨"CapMachine$Memory", "store", "(III)V"⟩, 2), (⟨"CapMachine$Capability", "packed", "()I"⟩, 6), (⟨"CapMachine$Capability", "part", "(I)I"⟩, 6), (⟨"CapMachine$Capability", "hasAddressInBounds", "()Z"⟩, 6), (⟨"CapMachine$Capability", "isWithin", "(LCapMachine$Capability;)Z"⟩, 6), (⟨"CapMachine", "setHandler", "(LCapMachine$Capability;)I"⟩, 8), (⟨"CapMachine", "takeException", "(I)V"⟩, 8), (⟨"java/lang/Throwable", "fillInStackTrace", "(I)Ljava/lang/Throwable;"⟩, 6), (⟨"CapMachineModel", "set", "(IIIII)V"⟩, 18), (⟨"CapMachineModel", "store", "(III)V"⟩, 18), (⟨"CapMachineModel", "step", "()V"⟩, 18), (⟨"CapMachineModel", "allow", "(IJII)I"⟩, 18), (⟨"CapMachineModel", "usable", "(I)I"⟩, 18), (⟨"CapMachineModel", "may", "(II)Z"⟩, 18), (⟨"CapMachineModel", "fetch", "(I)V"⟩, 18)]
theorem lw_r2 : ∀ q ∈ lw_privs_2, lw_okq q := List.forall_mem_cons.mpr ⟨lw_p16, List.forall_mem_cons.mpr ⟨lw_p17, List.forall_mem_cons.mpr ⟨lw_p18, List.forall_mem_cons.mpr ⟨lw_p19, List.forall_mem_cons.mpr ⟨lw_p20, List.forall_mem_cons.mpr ⟨lw_p21, List.forall_mem_cons.mpr ⟨lw_p22, List.forall_mem_cons.mpr ⟨lw_p23, List.forall_mem_cons.mpr ⟨lw_p24, List.forall_mem_cons.mpr ⟨lw_p25, List.forall_mem_cons.mpr ⟨lw_p26, List.forall_mem_cons.mpr ⟨lw_p27, List.forall_mem_cons.mpr ⟨lw_p28, List.forall_mem_cons.mpr ⟨lw_p29, List.forall_mem_cons.mpr ⟨lw_p30, List.forall_mem_cons.mpr ⟨lw_p31, fun _ h => absurd h List.not_mem_nil⟩⟩⟩⟩⟩⟩⟩⟩⟩⟩⟩⟩⟩⟩⟩⟩
theorem lw_p32 : lw_okq (⟨"CapMachineModel", "exception", "()I"⟩, 18) := ⟨⟨by decide +kernel, by decide +kernel⟩, List.mem_of_getElem? (i := 346) (by decide +kernel), List.mem_of_getElem? (i := 456) (by decide +kernel), List.mem_of_getElem? (i := 457) (by decide +kernel)⟩
theorem lw_p33 : lw_okq (⟨"CapMachineModel", "loose", "(I)I"⟩, 18) := ⟨⟨by decide +kernel, by decide +kernel⟩, List.mem_of_getElem? (i := 346) (by decide +kernel), List.mem_of_getElem? (i := 460) (by decide +kernel), List.mem_of_getElem? (i := 461) (by decide +kernel)⟩
theorem lw_p34 : lw_okq (⟨"CapMachineModel", "forBounds", "()I"⟩, 18) := ⟨⟨by decide +kernel, by decide +kernel⟩, List.mem_of_getElem? (i := 346) (by decide +kernel), List.mem_of_getElem? (i := 464) (by decide +kernel), List.mem_of_getElem? (i := 465) (by decide +kernel)⟩
theorem lw_p35 : lw_okq (⟨"CapMachineModel", "exact", "(II)Z"⟩, 18) := ⟨⟨by decide +kernel, by decide +kernel⟩, List.mem_of_getElem? (i := 346) (by decide +kernel), List.mem_of_getElem? (i := 468) (by decide +kernel), List.mem_of_getElem? (i := 469) (by decide +kernel)⟩
theorem lw_p36 : lw_okq (⟨"CapMachineModel", "down", "(I)I"⟩, 18) := ⟨⟨by decide +kernel, by decide +kernel⟩, List.mem_of_getElem? (i := 346) (by decide +kernel), List.mem_of_getElem? (i := 472) (by decide +kernel), List.mem_of_getElem? (i := 473) (by decide +kernel)⟩
theorem lw_p37 : lw_okq (⟨"CapMachineModel", "up", "(I)I"⟩, 18) := ⟨⟨by decide +kernel, by decide +kernel⟩, List.mem_of_getElem? (i := 346) (by decide +kernel), List.mem_of_getElem? (i := 476) (by decide +kernel), List.mem_of_getElem? (i := 477) (by decide +kernel)⟩
theorem lw_p38 : lw_okq (⟨"CapMachineModel", "forSeal", "()I"⟩, 18) := ⟨⟨by decide +kernel, by decide +kernel⟩, List.mem_of_getElem? (i := 346) (by decide +kernel), List.mem_of_getElem? (i := 480) (by decide +kernel), List.mem_of_getElem? (i := 481) (by decide +kernel)⟩
theorem lw_p39 : lw_okq (⟨"CapMachineModel", "points", "(I)Z"⟩, 18) := ⟨⟨by decide +kernel, by decide +kernel⟩, List.mem_of_getElem? (i := 346) (by decide +kernel), List.mem_of_getElem? (i := 484) (by decide +kernel), List.mem_of_getElem? (i := 485) (by decide +kernel)⟩
theorem lw_p40 : lw_okq (⟨"CapMachineModel", "forUnseal", "()I"⟩, 18) := ⟨⟨by decide +kernel, by decide +kernel⟩, List.mem_of_getElem? (i := 346) (by decide +kernel), List.mem_of_getElem? (i := 488) (by decide +kernel), List.mem_of_getElem? (i := 489) (by decide +kernel)⟩
theorem lw_p41 : lw_okq (⟨"CapMachineModel", "forJump", "()I"⟩, 18) := ⟨⟨by decide +kernel, by decide +kernel⟩, List.mem_of_getElem? (i := 346) (by decide +kernel), List.mem_of_getElem? (i := 492) (by decide +kernel), List.mem_of_getElem? (i := 493) (by decide +kernel)⟩
theorem lw_p42 : lw_okq (⟨"CapMachineModel", "forAccess", "()I"⟩, 18) := ⟨⟨by decide +kernel, by decide +kernel⟩, List.mem_of_getElem? (i := 346) (by decide +kernel), List.mem_of_getElem? (i := 496) (by decide +kernel), List.mem_of_getElem? (i := 497) (by decide +kernel)⟩
theorem lw_p43 : lw_okq (⟨"CapMachineModel", "size", "()I"⟩, 18) := ⟨⟨by decide +kernel, by decide +kernel⟩, List.mem_of_getElem? (i := 346) (by decide +kernel), List.mem_of_getElem? (i := 500) (by decide +kernel), List.mem_of_getElem? (i := 501) (by decide +kernel)⟩
theorem lw_p44 : lw_okq (⟨"CapMachineModel", "copy", "(II)V"⟩, 18) := ⟨⟨by decide +kernel, by decide +kernel⟩, List.mem_of_getElem? (i := 346) (by decide +kernel), List.mem_of_getElem? (i := 504) (by decide +kernel), List.mem_of_getElem? (i := 505) (by decide +kernel)⟩
theorem lw_p45 : lw_okq (⟨"CapMachineModel", "jump", "()V"⟩, 18) := ⟨⟨by decide +kernel, by decide +kernel⟩, List.mem_of_getElem? (i := 346) (by decide +kernel), List.mem_of_getElem? (i := 508) (by decide +kernel), List.mem_of_getElem? (i := 509) (by decide +kernel)⟩
theorem lw_p46 : lw_okq (⟨"CapMachineModel", "move", "(II)V"⟩, 18) := ⟨⟨by decide +kernel, by decide +kernel⟩, List.mem_of_getElem? (i := 346) (by decide +kernel), List.mem_of_getElem? (i := 512) (by decide +kernel), List.mem_of_getElem? (i := 513) (by decide +kernel)⟩
theorem lw_p47 : lw_okq (⟨"CapMachineModel", "doIt", "()V"⟩, 18) := ⟨⟨by decide +kernel, by decide +kernel⟩, List.mem_of_getElem? (i := 346) (by decide +kernel), List.mem_of_getElem? (i := 516) (by decide +kernel), List.mem_of_getElem? (i := 517) (by decide +kernel)⟩
def lw_privs_3 : List (MethodName × Nat) := [(⟨"CapMachineModel", "exception", "()I"⟩, 18), (⟨"CapMachineModel", "loose", "(I)I"⟩, 18), (⟨"CapMachineModel", "forBounds", "()I"⟩, 18), (⟨"CapMachineModel", "exact", "(II)Z"⟩, 18), (⟨"CapMachineModel", "down", "(I)I"⟩, 18), (⟨"CapMachineModel", "up", "(I)I"⟩, 18), (⟨"CapMachineModel", "forSeal", "()I"⟩, 18), (⟨"CapMachineModel", "points", "(I)Z"⟩, 18), (⟨"CapMachineModel", "forUnseal", "()I"⟩, 18), (⟨"CapMachineModel", "forJump", "()I"⟩, 18), (⟨"CapMachineModel", "forAccess", "()I"⟩, 18), (⟨"CapMachineModel", "size", "()I"⟩, 18), (⟨"CapMachineModel", "copy", "(II)V"⟩, 18), (⟨"CapMachineModel", "jump", "()V"⟩, 18), (⟨"CapMachineModel", "move", "(II)V"⟩, 18), (⟨"CapMachineModel", "doIt", "()V"⟩, 18)]
theorem lw_r3 : ∀ q ∈ lw_privs_3, lw_okq q := List.forall_mem_cons.mpr ⟨lw_p32, List.forall_mem_cons.mpr ⟨lw_p33, List.forall_mem_cons.mpr ⟨lw_p34, List.forall_mem_cons.mpr ⟨lw_p35, List.forall_mem_cons.mpr ⟨lw_p36, List.forall_mem_cons.mpr ⟨lw_p37, List.forall_mem_cons.mpr ⟨lw_p38, List.forall_mem_cons.mpr ⟨lw_p39, List.forall_mem_cons.mpr ⟨lw_p40, List.forall_mem_cons.mpr ⟨lw_p41, List.forall_mem_cons.mpr ⟨lw_p42, List.forall_mem_cons.mpr ⟨lw_p43, List.forall_mem_cons.mpr ⟨lw_p44, List.forall_mem_cons.mpr ⟨lw_p45, List.forall_mem_cons.mpr ⟨lw_p46, List.forall_mem_cons.mpr ⟨lw_p47, fun _ h => absurd h List.not_mem_nil⟩⟩⟩⟩⟩⟩⟩⟩⟩⟩⟩⟩⟩⟩⟩⟩
theorem lw_p48 : lw_okq (⟨"CapMachineModel", "goes", "()Z"⟩, 18) := ⟨⟨by decide +kernel, by decide +kernel⟩, List.mem_of_getElem? (i := 346) (by decide +kernel), List.mem_of_getElem? (i := 520) (by decide +kernel), List.mem_of_getElem? (i := 521) (by decide +kernel)⟩
theorem lw_p49 : lw_okq (⟨"CapMachineModel", "reckon", "()I"⟩, 18) := ⟨⟨by decide +kernel, by decide +kernel⟩, List.mem_of_getElem? (i := 346) (by decide +kernel), List.mem_of_getElem? (i := 524) (by decide +kernel), List.mem_of_getElem? (i := 525) (by decide +kernel)⟩
theorem lw_p50 : lw_okq (⟨"CapMachineModel", "within", "()Z"⟩, 18) := ⟨⟨by decide +kernel, by decide +kernel⟩, List.mem_of_getElem? (i := 346) (by decide +kernel), List.mem_of_getElem? (i := 528) (by decide +kernel), List.mem_of_getElem? (i := 529) (by decide +kernel)⟩
theorem lw_p51 : lw_okq (⟨"CapMachineModel", "number", "(II)V"⟩, 18) := ⟨⟨by decide +kernel, by decide +kernel⟩, List.mem_of_getElem? (i := 346) (by decide +kernel), List.mem_of_getElem? (i := 532) (by decide +kernel), List.mem_of_getElem? (i := 533) (by decide +kernel)⟩
theorem lw_p52 : lw_okq (⟨"CapMachineModel", "access", "()V"⟩, 18) := ⟨⟨by decide +kernel, by decide +kernel⟩, List.mem_of_getElem? (i := 346) (by decide +kernel), List.mem_of_getElem? (i := 536) (by decide +kernel), List.mem_of_getElem? (i := 537) (by decide +kernel)⟩
theorem lw_p53 : lw_okq (⟨"CapMachineModel", "word", "(I)I"⟩, 18) := ⟨⟨by decide +kernel, by decide +kernel⟩, List.mem_of_getElem? (i := 346) (by decide +kernel), List.mem_of_getElem? (i := 540) (by decide +kernel), List.mem_of_getElem? (i := 541) (by decide +kernel)⟩
theorem lw_p54 : lw_okq (⟨"CapMachineModel", "load", "(I)V"⟩, 18) := ⟨⟨by decide +kernel, by decide +kernel⟩, List.mem_of_getElem? (i := 346) (by decide +kernel), List.mem_of_getElem? (i := 544) (by decide +kernel), List.mem_of_getElem? (i := 545) (by decide +kernel)⟩
theorem lw_p55 : lw_okq (⟨"CapMachineModel", "derive", "()V"⟩, 18) := ⟨⟨by decide +kernel, by decide +kernel⟩, List.mem_of_getElem? (i := 346) (by decide +kernel), List.mem_of_getElem? (i := 549) (by decide +kernel), List.mem_of_getElem? (i := 550) (by decide +kernel)⟩
theorem lw_p56 : lw_okq (⟨"CapMachineModel", "bound", "()V"⟩, 18) := ⟨⟨by decide +kernel, by decide +kernel⟩, List.mem_of_getElem? (i := 346) (by decide +kernel), List.mem_of_getElem? (i := 553) (by decide +kernel), List.mem_of_getElem? (i := 554) (by decide +kernel)⟩
theorem lw_p57 : lw_okq (⟨"CapMachineModel", "refuse", "(I)I"⟩, 18) := ⟨⟨by decide +kernel, by decide +kernel⟩, List.mem_of_getElem? (i := 346) (by decide +kernel), List.mem_of_getElem? (i := 569) (by decide +kernel), List.mem_of_getElem? (i := 570) (by decide +kernel)⟩
def lw_privs_4 : List (MethodName × Nat) := [(⟨"CapMachineModel", "goes", "()Z"⟩, 18), (⟨"CapMachineModel", "reckon", "()I"⟩, 18), (⟨"CapMachineModel", "within", "()Z"⟩, 18), (⟨"CapMachineModel", "number", "(II)V"⟩, 18), (⟨"CapMachineModel", "access", "()V"⟩, 18), (⟨"CapMachineModel", "word", "(I)I"⟩, 18), (⟨"CapMachineModel", "load", "(I)V"⟩, 18), (⟨"CapMachineModel", "derive", "()V"⟩, 18), (⟨"CapMachineModel", "bound", "()V"⟩, 18), (⟨"CapMachineModel", "refuse", "(I)I"⟩, 18)]
theorem lw_r4 : ∀ q ∈ lw_privs_4, lw_okq q := List.forall_mem_cons.mpr ⟨lw_p48, List.forall_mem_cons.mpr ⟨lw_p49, List.forall_mem_cons.mpr ⟨lw_p50, List.forall_mem_cons.mpr ⟨lw_p51, List.forall_mem_cons.mpr ⟨lw_p52, List.forall_mem_cons.mpr ⟨lw_p53, List.forall_mem_cons.mpr ⟨lw_p54, List.forall_mem_cons.mpr ⟨lw_p55, List.forall_mem_cons.mpr ⟨lw_p56, List.forall_mem_cons.mpr ⟨lw_p57, fun _ h => absurd h List.not_mem_nil⟩⟩⟩⟩⟩⟩⟩⟩⟩⟩
def lw_privs : List (MethodName × Nat) := lw_privs_1 ++ (lw_privs_2 ++ (lw_privs_3 ++ (lw_privs_4)))
def lw_tbl : List Cond := k2_sels lw_privs ++ tables_1
theorem lw_privs_ok : ∀ q ∈ lw_privs, lw_okq q := by
  show ∀ q ∈ lw_privs_1 ++ (lw_privs_2 ++ (lw_privs_3 ++ (lw_privs_4))), lw_okq q
  exact List.forall_mem_append.mpr ⟨lw_r1, List.forall_mem_append.mpr ⟨lw_r2, List.forall_mem_append.mpr ⟨lw_r3, lw_r4⟩⟩⟩
end
section
def R_M : String := "CapMachine"
def R_K : String := "CapMachine$Capability"
def R_E : String := "CapMachine$Memory"
def R_R : String := "CapMachineModel"
def R_L : String := "CapMachineLaw"
def nm_K : Nat → String := fun k => match k with
  | 0 => "valid"
  | 1 => "base"
  | 2 => "top"
  | 3 => "permissions"
  | 4 => "type"
  | _ => "address"
def ds_K : Nat → String := fun k => match k with
  | 0 => "Z"
  | 1 => "I"
  | 2 => "I"
  | 3 => "I"
  | 4 => "I"
  | _ => "I"
def F_K : u_T := fun k => (R_K, nm_K k, ds_K k, false)
def t_K : Nat → FieldType := fun k => match k with
  | 0 => .boolean
  | 1 => .int
  | 2 => .int
  | 3 => .int
  | 4 => .int
  | _ => .int
theorem n_K : ∀ a, a < 6 → ∀ b, b < 6 → a ≠ b → (F_K a).2.1 ≠ (F_K b).2.1 := by decide +kernel
theorem t_K_ok : ∀ k, k < 6 → parseFieldDescriptor (F_K k).2.2.1 = some (t_K k) := by decide +kernel
def nm_E : Nat → String := fun k => match k with
  | 0 => "bytes"
  | _ => "tags"
def ds_E : Nat → String := fun k => match k with
  | 0 => "[B"
  | _ => "[Z"
def F_E : u_T := fun k => (R_E, nm_E k, ds_E k, true)
def t_E : Nat → FieldType := fun k => match k with
  | 0 => .array .byte
  | _ => .array .boolean
theorem n_E : ∀ a, a < 2 → ∀ b, b < 2 → a ≠ b → (F_E a).2.1 ≠ (F_E b).2.1 := by decide +kernel
theorem t_E_ok : ∀ k, k < 2 → parseFieldDescriptor (F_E k).2.2.1 = some (t_E k) := by decide +kernel
def nm_M : Nat → String := fun k => match k with
  | 0 => "slots"
  | 1 => "pc"
  | 2 => "handler"
  | 3 => "fault"
  | 4 => "link"
  | 5 => "memory"
  | 6 => "state"
  | _ => "cause"
def ds_M : Nat → String := fun k => match k with
  | 0 => "[LCapMachine$Capability;"
  | 1 => "LCapMachine$Capability;"
  | 2 => "LCapMachine$Capability;"
  | 3 => "LCapMachine$Capability;"
  | 4 => "LCapMachine$Capability;"
  | 5 => "LCapMachine$Memory;"
  | 6 => "I"
  | _ => "I"
def fi_M : Nat → Bool := fun k => match k with
  | 0 => true
  | 1 => true
  | 2 => true
  | 3 => true
  | 4 => true
  | 5 => true
  | 6 => false
  | _ => false
def F_M : u_T := fun k => (R_M, nm_M k, ds_M k, fi_M k)
def t_M : Nat → FieldType := fun k => match k with
  | 0 => .array (.object "CapMachine$Capability")
  | 1 => .object "CapMachine$Capability"
  | 2 => .object "CapMachine$Capability"
  | 3 => .object "CapMachine$Capability"
  | 4 => .object "CapMachine$Capability"
  | 5 => .object "CapMachine$Memory"
  | 6 => .int
  | _ => .int
theorem n_M : ∀ a, a < 8 → ∀ b, b < 8 → a ≠ b → (F_M a).2.1 ≠ (F_M b).2.1 := by decide +kernel
theorem t_M_ok : ∀ k, k < 8 → parseFieldDescriptor (F_M k).2.2.1 = some (t_M k) := by decide +kernel
def nm_R : Nat → String := fun k => match k with
  | 0 => "thrown"
  | 1 => "memory"
  | 2 => "tags"
  | 3 => "valid"
  | 4 => "base"
  | 5 => "top"
  | 6 => "address"
  | 7 => "permissions"
  | 8 => "type"
  | 9 => "cause"
  | 10 => "state"
  | 11 => "code"
  | 12 => "a"
  | 13 => "b"
  | 14 => "c"
  | 15 => "imm"
  | 16 => "half"
  | _ => "raised"
def ds_R : Nat → String := fun k => match k with
  | 0 => "I"
  | 1 => "[I"
  | 2 => "[Z"
  | 3 => "[Z"
  | 4 => "[I"
  | 5 => "[I"
  | 6 => "[I"
  | 7 => "[I"
  | 8 => "[I"
  | 9 => "I"
  | 10 => "I"
  | 11 => "I"
  | 12 => "I"
  | 13 => "I"
  | 14 => "I"
  | 15 => "I"
  | 16 => "I"
  | _ => "Z"
def fi_R : Nat → Bool := fun k => match k with
  | 0 => false
  | 1 => true
  | 2 => true
  | 3 => true
  | 4 => true
  | 5 => true
  | 6 => true
  | 7 => true
  | 8 => true
  | 9 => false
  | 10 => false
  | 11 => false
  | 12 => false
  | 13 => false
  | 14 => false
  | 15 => false
  | 16 => false
  | _ => false
def F_R : u_T := fun k => (R_R, nm_R k, ds_R k, fi_R k)
def t_R : Nat → FieldType := fun k => match k with
  | 0 => .int
  | 1 => .array .int
  | 2 => .array .boolean
  | 3 => .array .boolean
  | 4 => .array .int
  | 5 => .array .int
  | 6 => .array .int
  | 7 => .array .int
  | 8 => .array .int
  | 9 => .int
  | 10 => .int
  | 11 => .int
  | 12 => .int
  | 13 => .int
  | 14 => .int
  | 15 => .int
  | 16 => .int
  | _ => .boolean
theorem n_R : ∀ a, a < 18 → ∀ b, b < 18 → a ≠ b → (F_R a).2.1 ≠ (F_R b).2.1 := by decide +kernel
theorem t_R_ok : ∀ k, k < 18 → parseFieldDescriptor (F_R k).2.2.1 = some (t_R k) := by decide +kernel
abbrev cls : List vw_C := [(R_K, F_K, 6), (R_E, F_E, 2), (R_M, F_M, 8), (R_R, F_R, 18)]
def TB : List Cond := lw_tbl.filter goodWord
theorem TB_good : ∀ w ∈ TB, goodWord w = true := fun w h => (List.mem_filter.mp h).2
theorem tbT (i : Nat) {w : Cond} (h : tables_1[i]? = some w) (hg : goodWord w = true) : w ∈ TB := List.mem_filter.mpr ⟨List.mem_append_right _ (List.mem_of_getElem? h), hg⟩
theorem tbS (i : Nat) {q : MethodName × Nat} (h : lw_privs[i]? = some q) : Cond.selects q.1.cls q.1 q.1 ∈ TB := List.mem_filter.mpr ⟨List.mem_append_left _ (List.mem_map.mpr ⟨q, List.mem_of_getElem? h, rfl⟩), rfl⟩
def nw_is : Cond → Bool
  | .fieldLinkNest .. => true
  | .methodLinkNest .. => true
  | _ => false
def NW : List Cond := tables_1.filter nw_is
theorem nwT (i : Nat) {w : Cond} (h : tables_1[i]? = some w) (hg : nw_is w = true) : w ∈ NW := List.mem_filter.mpr ⟨List.mem_of_getElem? h, hg⟩
/-- the links between nest mates, which are no words of a contract: they stand in its start -/
def NL (U : State) : Prop := ∀ w ∈ NW, va_Nw w U
theorem NL_warm {s U : State} (hW : s.WarmedH U.vm) (h : NL s) : NL U := by
  intro w hw
  have h1 : nw_is w = true := (List.mem_filter.mp hw).2
  have h2 := h w hw
  cases w <;> first | exact va_Nw.warmF hW h2 | exact va_Nw.warmM hW h2 | cases h1
theorem NL_same {u U : State} (e : u.vm = U.vm) (h : NL u) : NL U := by
  intro w hw
  have h1 : nw_is w = true := (List.mem_filter.mp hw).2
  have h2 := h w hw
  cases w <;> first | exact va_Nw.same rfl e h2 | cases h1
theorem in_K : ∀ w ∈ u_ws R_K F_K 6, w ∈ TB := by
  intro w hw
  obtain ⟨k, hk, rfl⟩ := List.mem_map.mp hw
  have hk := List.mem_range.mp hk
  match k, hk with
  | 0, _ => exact tbT 39 (by decide +kernel) rfl
  | 1, _ => exact tbT 41 (by decide +kernel) rfl
  | 2, _ => exact tbT 43 (by decide +kernel) rfl
  | 3, _ => exact tbT 45 (by decide +kernel) rfl
  | 4, _ => exact tbT 47 (by decide +kernel) rfl
  | 5, _ => exact tbT 49 (by decide +kernel) rfl
theorem in_E : ∀ w ∈ u_ws R_E F_E 2, w ∈ TB := by
  intro w hw
  obtain ⟨k, hk, rfl⟩ := List.mem_map.mp hw
  have hk := List.mem_range.mp hk
  match k, hk with
  | 0, _ => exact tbT 61 (by decide +kernel) rfl
  | 1, _ => exact tbT 63 (by decide +kernel) rfl
theorem in_M : ∀ w ∈ u_ws R_M F_M 8, w ∈ TB := by
  intro w hw
  obtain ⟨k, hk, rfl⟩ := List.mem_map.mp hw
  have hk := List.mem_range.mp hk
  match k, hk with
  | 0, _ => exact tbT 80 (by decide +kernel) rfl
  | 1, _ => exact tbT 82 (by decide +kernel) rfl
  | 2, _ => exact tbT 84 (by decide +kernel) rfl
  | 3, _ => exact tbT 86 (by decide +kernel) rfl
  | 4, _ => exact tbT 88 (by decide +kernel) rfl
  | 5, _ => exact tbT 90 (by decide +kernel) rfl
  | 6, _ => exact tbT 92 (by decide +kernel) rfl
  | 7, _ => exact tbT 94 (by decide +kernel) rfl
theorem in_R : ∀ w ∈ u_ws R_R F_R 18, w ∈ TB := by
  intro w hw
  obtain ⟨k, hk, rfl⟩ := List.mem_map.mp hw
  have hk := List.mem_range.mp hk
  match k, hk with
  | 0, _ => exact tbT 373 (by decide +kernel) rfl
  | 1, _ => exact tbT 375 (by decide +kernel) rfl
  | 2, _ => exact tbT 377 (by decide +kernel) rfl
  | 3, _ => exact tbT 379 (by decide +kernel) rfl
  | 4, _ => exact tbT 381 (by decide +kernel) rfl
  | 5, _ => exact tbT 383 (by decide +kernel) rfl
  | 6, _ => exact tbT 385 (by decide +kernel) rfl
  | 7, _ => exact tbT 387 (by decide +kernel) rfl
  | 8, _ => exact tbT 389 (by decide +kernel) rfl
  | 9, _ => exact tbT 391 (by decide +kernel) rfl
  | 10, _ => exact tbT 393 (by decide +kernel) rfl
  | 11, _ => exact tbT 395 (by decide +kernel) rfl
  | 12, _ => exact tbT 397 (by decide +kernel) rfl
  | 13, _ => exact tbT 399 (by decide +kernel) rfl
  | 14, _ => exact tbT 401 (by decide +kernel) rfl
  | 15, _ => exact tbT 403 (by decide +kernel) rfl
  | 16, _ => exact tbT 405 (by decide +kernel) rfl
  | 17, _ => exact tbT 407 (by decide +kernel) rfl
  | n + 18, h => exact absurd h (by omega)
abbrev b_E_byteAt : ByteArray := prog_3_method_2_code
def y_E_byteAt : MethodName := ⟨R_E, "byteAt", "(I)I"⟩
abbrev b_E_init : ByteArray := prog_3_method_1_code
def y_E_init : MethodName := ⟨R_E, "<init>", "()V"⟩
abbrev b_E_loadCapability : ByteArray := prog_3_method_5_code
def y_E_loadCapability : MethodName := ⟨R_E, "loadCapability", "(ILCapMachine$Capability;)V"⟩
abbrev b_E_store : ByteArray := prog_3_method_4_code
def y_E_store : MethodName := ⟨R_E, "store", "(III)V"⟩
abbrev b_E_storeCapability : ByteArray := prog_3_method_6_code
def y_E_storeCapability : MethodName := ⟨R_E, "storeCapability", "(ILCapMachine$Capability;)V"⟩
abbrev b_E_wordAt : ByteArray := prog_3_method_3_code
def y_E_wordAt : MethodName := ⟨R_E, "wordAt", "(I)I"⟩
abbrev b_K_become : ByteArray := prog_2_method_4_code
def y_K_become : MethodName := ⟨R_K, "become", "(LCapMachine$Capability;)V"⟩
abbrev b_K_becomeGranted : ByteArray := prog_2_method_3_code
def y_K_becomeGranted : MethodName := ⟨R_K, "becomeGranted", "(IIII)V"⟩
abbrev b_K_becomeNumber : ByteArray := prog_2_method_2_code
def y_K_becomeNumber : MethodName := ⟨R_K, "becomeNumber", "(I)V"⟩
abbrev b_K_becomeUnpacked : ByteArray := prog_2_method_5_code
def y_K_becomeUnpacked : MethodName := ⟨R_K, "becomeUnpacked", "(ZII)V"⟩
abbrev b_K_hasAddressInBounds : ByteArray := prog_2_method_10_code
def y_K_hasAddressInBounds : MethodName := ⟨R_K, "hasAddressInBounds", "()Z"⟩
abbrev b_K_init : ByteArray := prog_2_method_1_code
def y_K_init : MethodName := ⟨R_K, "<init>", "()V"⟩
abbrev b_K_isWithin : ByteArray := prog_2_method_11_code
def y_K_isWithin : MethodName := ⟨R_K, "isWithin", "(LCapMachine$Capability;)Z"⟩
abbrev b_K_moveTo : ByteArray := prog_2_method_7_code
def y_K_moveTo : MethodName := ⟨R_K, "moveTo", "(I)V"⟩
abbrev b_K_packed : ByteArray := prog_2_method_6_code
def y_K_packed : MethodName := ⟨R_K, "packed", "()I"⟩
abbrev b_K_part : ByteArray := prog_2_method_8_code
def y_K_part : MethodName := ⟨R_K, "part", "(I)I"⟩
abbrev b_K_permits : ByteArray := prog_2_method_9_code
def y_K_permits : MethodName := ⟨R_K, "permits", "(I)Z"⟩
abbrev b_K_refusal : ByteArray := prog_2_method_12_code
def y_K_refusal : MethodName := ⟨R_K, "refusal", "(IJI)I"⟩
abbrev b_M_access : ByteArray := prog_1_method_29_code
def y_M_access : MethodName := ⟨R_M, "access", "(ILCapMachine$Capability;LCapMachine$Capability;J)I"⟩
abbrev b_M_advance : ByteArray := prog_1_method_12_code
def y_M_advance : MethodName := ⟨R_M, "advance", "(I)I"⟩
abbrev b_M_areExact : ByteArray := prog_1_method_22_code
def y_M_areExact : MethodName := ⟨R_M, "areExact", "(II)Z"⟩
abbrev b_M_branch : ByteArray := prog_1_method_13_code
def y_M_branch : MethodName := ⟨R_M, "branch", "(ZI)I"⟩
abbrev b_M_bytesOf : ByteArray := prog_1_method_31_code
def y_M_bytesOf : MethodName := ⟨R_M, "bytesOf", "(I)I"⟩
abbrev b_M_cause : ByteArray := prog_1_method_6_code
def y_M_cause : MethodName := ⟨R_M, "cause", "()I"⟩
abbrev b_M_compute : ByteArray := prog_1_method_15_code
def y_M_compute : MethodName := ⟨R_M, "compute", "(ILCapMachine$Capability;LCapMachine$Capability;LCapMachine$Capability;I)I"⟩
abbrev b_M_copy : ByteArray := prog_1_method_17_code
def y_M_copy : MethodName := ⟨R_M, "copy", "(LCapMachine$Capability;LCapMachine$Capability;)I"⟩
abbrev b_M_grant : ByteArray := prog_1_method_2_code
def y_M_grant : MethodName := ⟨R_M, "grant", "(IIIII)V"⟩
abbrev b_M_init : ByteArray := prog_1_method_1_code
def y_M_init : MethodName := ⟨R_M, "<init>", "()V"⟩
abbrev b_M_jump : ByteArray := prog_1_method_14_code
def y_M_jump : MethodName := ⟨R_M, "jump", "(LCapMachine$Capability;LCapMachine$Capability;)I"⟩
abbrev b_M_look : ByteArray := prog_1_method_7_code
def y_M_look : MethodName := ⟨R_M, "look", "(II)I"⟩
abbrev b_M_makeEntry : ByteArray := prog_1_method_27_code
def y_M_makeEntry : MethodName := ⟨R_M, "makeEntry", "(LCapMachine$Capability;LCapMachine$Capability;)I"⟩
abbrev b_M_multipleNotAbove : ByteArray := prog_1_method_23_code
def y_M_multipleNotAbove : MethodName := ⟨R_M, "multipleNotAbove", "(I)I"⟩
abbrev b_M_multipleNotBelow : ByteArray := prog_1_method_24_code
def y_M_multipleNotBelow : MethodName := ⟨R_M, "multipleNotBelow", "(I)I"⟩
abbrev b_M_number : ByteArray := prog_1_method_16_code
def y_M_number : MethodName := ⟨R_M, "number", "(LCapMachine$Capability;I)I"⟩
abbrev b_M_peek : ByteArray := prog_1_method_8_code
def y_M_peek : MethodName := ⟨R_M, "peek", "(I)I"⟩
abbrev b_M_permissionsFor : ByteArray := prog_1_method_30_code
def y_M_permissionsFor : MethodName := ⟨R_M, "permissionsFor", "(ILCapMachine$Capability;)I"⟩
abbrev b_M_poke : ByteArray := prog_1_method_3_code
def y_M_poke : MethodName := ⟨R_M, "poke", "(III)V"⟩
abbrev b_M_run : ByteArray := prog_1_method_4_code
def y_M_run : MethodName := ⟨R_M, "run", "(I)I"⟩
abbrev b_M_seal : ByteArray := prog_1_method_25_code
def y_M_seal : MethodName := ⟨R_M, "seal", "(LCapMachine$Capability;LCapMachine$Capability;LCapMachine$Capability;)I"⟩
abbrev b_M_setHandler : ByteArray := prog_1_method_28_code
def y_M_setHandler : MethodName := ⟨R_M, "setHandler", "(LCapMachine$Capability;)I"⟩
abbrev b_M_state : ByteArray := prog_1_method_5_code
def y_M_state : MethodName := ⟨R_M, "state", "()I"⟩
abbrev b_M_step : ByteArray := prog_1_method_11_code
def y_M_step : MethodName := ⟨R_M, "step", "()I"⟩
abbrev b_M_tagged : ByteArray := prog_1_method_9_code
def y_M_tagged : MethodName := ⟨R_M, "tagged", "(I)Z"⟩
abbrev b_M_takeException : ByteArray := prog_1_method_10_code
def y_M_takeException : MethodName := ⟨R_M, "takeException", "(I)V"⟩
abbrev b_M_unseal : ByteArray := prog_1_method_26_code
def y_M_unseal : MethodName := ⟨R_M, "unseal", "(LCapMachine$Capability;LCapMachine$Capability;LCapMachine$Capability;)I"⟩
abbrev b_M_withAddress : ByteArray := prog_1_method_19_code
def y_M_withAddress : MethodName := ⟨R_M, "withAddress", "(LCapMachine$Capability;LCapMachine$Capability;I)I"⟩
abbrev b_M_withBounds : ByteArray := prog_1_method_21_code
def y_M_withBounds : MethodName := ⟨R_M, "withBounds", "(LCapMachine$Capability;LCapMachine$Capability;IZ)I"⟩
abbrev b_M_withPermissions : ByteArray := prog_1_method_20_code
def y_M_withPermissions : MethodName := ⟨R_M, "withPermissions", "(LCapMachine$Capability;LCapMachine$Capability;I)I"⟩
abbrev b_M_withoutTag : ByteArray := prog_1_method_18_code
def y_M_withoutTag : MethodName := ⟨R_M, "withoutTag", "(LCapMachine$Capability;LCapMachine$Capability;)I"⟩
abbrev b_R_access : ByteArray := prog_5_method_27_code
def y_R_access : MethodName := ⟨R_R, "access", "()V"⟩
abbrev b_R_allow : ByteArray := prog_5_method_12_code
def y_R_allow : MethodName := ⟨R_R, "allow", "(IJII)I"⟩
abbrev b_R_bound : ByteArray := prog_5_method_30_code
def y_R_bound : MethodName := ⟨R_R, "bound", "()V"⟩
abbrev b_R_cause : ByteArray := prog_5_method_41_code
def y_R_cause : MethodName := ⟨R_R, "cause", "()I"⟩
abbrev b_R_copy : ByteArray := prog_5_method_7_code
def y_R_copy : MethodName := ⟨R_R, "copy", "(II)V"⟩
abbrev b_R_derive : ByteArray := prog_5_method_31_code
def y_R_derive : MethodName := ⟨R_R, "derive", "()V"⟩
abbrev b_R_doIt : ByteArray := prog_5_method_34_code
def y_R_doIt : MethodName := ⟨R_R, "doIt", "()V"⟩
abbrev b_R_down : ByteArray := prog_5_method_14_code
def y_R_down : MethodName := ⟨R_R, "down", "(I)I"⟩
abbrev b_R_exact : ByteArray := prog_5_method_13_code
def y_R_exact : MethodName := ⟨R_R, "exact", "(II)Z"⟩
abbrev b_R_exception : ByteArray := prog_5_method_23_code
def y_R_exception : MethodName := ⟨R_R, "exception", "()I"⟩
abbrev b_R_fetch : ByteArray := prog_5_method_35_code
def y_R_fetch : MethodName := ⟨R_R, "fetch", "(I)V"⟩
abbrev b_R_forAccess : ByteArray := prog_5_method_21_code
def y_R_forAccess : MethodName := ⟨R_R, "forAccess", "()I"⟩
abbrev b_R_forBounds : ByteArray := prog_5_method_16_code
def y_R_forBounds : MethodName := ⟨R_R, "forBounds", "()I"⟩
abbrev b_R_forJump : ByteArray := prog_5_method_22_code
def y_R_forJump : MethodName := ⟨R_R, "forJump", "()I"⟩
abbrev b_R_forSeal : ByteArray := prog_5_method_18_code
def y_R_forSeal : MethodName := ⟨R_R, "forSeal", "()I"⟩
abbrev b_R_forUnseal : ByteArray := prog_5_method_19_code
def y_R_forUnseal : MethodName := ⟨R_R, "forUnseal", "()I"⟩
abbrev b_R_goes : ByteArray := prog_5_method_33_code
def y_R_goes : MethodName := ⟨R_R, "goes", "()Z"⟩
abbrev b_R_grant : ByteArray := prog_5_method_37_code
def y_R_grant : MethodName := ⟨R_R, "grant", "(IIIII)V"⟩
abbrev b_R_init : ByteArray := prog_5_method_1_code
def y_R_init : MethodName := ⟨R_R, "<init>", "()V"⟩
abbrev b_R_jump : ByteArray := prog_5_method_32_code
def y_R_jump : MethodName := ⟨R_R, "jump", "()V"⟩
abbrev b_R_load : ByteArray := prog_5_method_26_code
def y_R_load : MethodName := ⟨R_R, "load", "(I)V"⟩
abbrev b_R_look : ByteArray := prog_5_method_42_code
def y_R_look : MethodName := ⟨R_R, "look", "(II)I"⟩
abbrev b_R_loose : ByteArray := prog_5_method_11_code
def y_R_loose : MethodName := ⟨R_R, "loose", "(I)I"⟩
abbrev b_R_may : ByteArray := prog_5_method_9_code
def y_R_may : MethodName := ⟨R_R, "may", "(II)Z"⟩
abbrev b_R_move : ByteArray := prog_5_method_8_code
def y_R_move : MethodName := ⟨R_R, "move", "(II)V"⟩
abbrev b_R_number : ByteArray := prog_5_method_6_code
def y_R_number : MethodName := ⟨R_R, "number", "(II)V"⟩
abbrev b_R_outside : ByteArray := prog_5_method_4_code
def y_R_outside : MethodName := ⟨R_R, "outside", "(III)Z"⟩
abbrev b_R_peek : ByteArray := prog_5_method_43_code
def y_R_peek : MethodName := ⟨R_R, "peek", "(I)I"⟩
abbrev b_R_points : ByteArray := prog_5_method_17_code
def y_R_points : MethodName := ⟨R_R, "points", "(I)Z"⟩
abbrev b_R_poke : ByteArray := prog_5_method_38_code
def y_R_poke : MethodName := ⟨R_R, "poke", "(III)V"⟩
abbrev b_R_reckon : ByteArray := prog_5_method_29_code
def y_R_reckon : MethodName := ⟨R_R, "reckon", "()I"⟩
abbrev b_R_refuse : ByteArray := prog_5_method_3_code
def y_R_refuse : MethodName := ⟨R_R, "refuse", "(I)I"⟩
abbrev b_R_run : ByteArray := prog_5_method_39_code
def y_R_run : MethodName := ⟨R_R, "run", "(I)I"⟩
abbrev b_R_set : ByteArray := prog_5_method_5_code
def y_R_set : MethodName := ⟨R_R, "set", "(IIIII)V"⟩
abbrev b_R_size : ByteArray := prog_5_method_20_code
def y_R_size : MethodName := ⟨R_R, "size", "()I"⟩
abbrev b_R_state : ByteArray := prog_5_method_40_code
def y_R_state : MethodName := ⟨R_R, "state", "()I"⟩
abbrev b_R_step : ByteArray := prog_5_method_36_code
def y_R_step : MethodName := ⟨R_R, "step", "()V"⟩
abbrev b_R_store : ByteArray := prog_5_method_25_code
def y_R_store : MethodName := ⟨R_R, "store", "(III)V"⟩
abbrev b_R_tagged : ByteArray := prog_5_method_44_code
def y_R_tagged : MethodName := ⟨R_R, "tagged", "(I)Z"⟩
abbrev b_R_thrown : ByteArray := prog_5_method_2_code
def y_R_thrown : MethodName := ⟨R_R, "thrown", "()I"⟩
abbrev b_R_up : ByteArray := prog_5_method_15_code
def y_R_up : MethodName := ⟨R_R, "up", "(I)I"⟩
abbrev b_R_usable : ByteArray := prog_5_method_10_code
def y_R_usable : MethodName := ⟨R_R, "usable", "(I)I"⟩
abbrev b_R_within : ByteArray := prog_5_method_28_code
def y_R_within : MethodName := ⟨R_R, "within", "()Z"⟩
abbrev b_R_word : ByteArray := prog_5_method_24_code
def y_R_word : MethodName := ⟨R_R, "word", "(I)I"⟩
end
section
-- booleans as the machine holds them
def b2i (b : Bool) : Int32 := match b with
  | true => 1
  | false => 0
theorem b2i_nar (b : Bool) : narrow .boolean (.int (b2i b)) = .int (b2i b) := by cases b <;> rfl
theorem b2i_fit (b : Bool) : fits .boolean (.int (b2i b)) = true := by cases b <;> rfl
theorem b2i_vp (b : Bool) : vp_nar .boolean (b2i b) = b2i b := by cases b <;> rfl
theorem b2i_0 (b : Bool) : b2i b = 0 ↔ b = false := by cases b <;> decide
theorem b2i_e (a b : Bool) : b2i a = b2i b ↔ a = b := by cases a <;> cases b <;> decide
theorem bn_f {b : Bool} (h : b = false) : ¬ b = true := by rw [h]; exact Bool.false_ne_true
theorem bn_n {b : Bool} (h : ¬ b = true) : b = false := by cases b with
  | true => exact absurd rfl h
  | false => rfl
-- what a capability is: valid, base, top, permissions, type, address (the order of the class's fields)
abbrev Cp : Type := Bool × Int32 × Int32 × Int32 × Int32 × Int32
def k_v (x : Cp) : Bool := x.1
def k_b (x : Cp) : Int32 := x.2.1
def k_t (x : Cp) : Int32 := x.2.2.1
def k_p (x : Cp) : Int32 := x.2.2.2.1
def k_y (x : Cp) : Int32 := x.2.2.2.2.1
def k_a (x : Cp) : Int32 := x.2.2.2.2.2
def s_v (x : Cp) (v : Bool) : Cp := (v, x.2)
def s_b (x : Cp) (v : Int32) : Cp := (x.1, v, x.2.2)
def s_t (x : Cp) (v : Int32) : Cp := (x.1, x.2.1, v, x.2.2.2)
def s_p (x : Cp) (v : Int32) : Cp := (x.1, x.2.1, x.2.2.1, v, x.2.2.2.2)
def s_y (x : Cp) (v : Int32) : Cp := (x.1, x.2.1, x.2.2.1, x.2.2.2.1, v, x.2.2.2.2.2)
def s_a (x : Cp) (v : Int32) : Cp := (x.1, x.2.1, x.2.2.1, x.2.2.2.1, x.2.2.2.2.1, v)
def capL (x : Cp) : List Value := [.int (b2i (k_v x)), .int (k_b x), .int (k_t x), .int (k_p x), .int (k_y x), .int (k_a x)]
def bank (ad : Nat → Nat) (c : Nat → Cp) : va_W := (List.range 12).map (fun i => (ad i, .inr (0, capL (c i))))
def mF (xa ad : Nat → Nat) (sS sC : Int32) : List Value := [.ref (xa 1), .ref (ad 8), .ref (ad 9), .ref (ad 10), .ref (ad 11), .ref (xa 2), .int sS, .int sC]
def mX (q : Nat → ClassId) (xa ad : Nat → Nat) (sS sC : Int32) (fB : Nat → Int32) (gT : Nat → Bool) : va_W :=
  [(xa 0, .inr (2, mF xa ad sS sC)), (xa 1, .inl (q 0, 11, .inr (.inr (.inr (.inr (fun i => some (ad i))))))), (xa 2, .inr (1, [.ref (xa 3), .ref (xa 4)])), (xa 3, .inl (q 1, 512, .inl fB)), (xa 4, .inl (q 2, 64, .inl (fun k => b2i (gT k))))]
/-- the machine's world: its object, the array of slots, the memory's object and its two arrays, twelve capabilities -/
def mW (q : Nat → ClassId) (xa ad : Nat → Nat) (sS sC : Int32) (fB : Nat → Int32) (gT : Nat → Bool) (cK : Nat → Cp) : va_W := mX q xa ad sS sC fB gT ++ bank ad cK
def tyM (q : Nat → ClassId) : List (ClassId × FieldType) := [(q 0, .object R_K), (q 1, .byte), (q 2, .boolean)]
theorem bank_len {ad : Nat → Nat} {c : Nat → Cp} : (bank ad c).length = 12 := by simp [bank]
theorem bank_get {X : va_W} {ad : Nat → Nat} {c : Nat → Cp} {i : Nat} (hi : i < 12) : (X ++ bank ad c)[X.length + i]? = some (ad i, .inr (0, capL (c i))) := by
  rw [List.getElem?_append_right (by omega), Nat.add_sub_cancel_left]
  simp [bank, hi]
theorem bank_set {X : va_W} {ad : Nat → Nat} {c : Nat → Cp} {i : Nat} (x : Cp) (hi : i < 12) : (X ++ bank ad c).set (X.length + i) (ad i, .inr (0, capL x)) = X ++ bank ad (va_up c i x) := by
  apply List.ext_getElem?
  intro j
  by_cases hj : j = X.length + i
  · subst hj
    rw [List.getElem?_set_self (by rw [List.length_append, bank_len]; omega), bank_get hi, va_up_self]
  · rw [List.getElem?_set_ne (Ne.symm hj)]
    by_cases h1 : j < X.length
    · rw [List.getElem?_append_left h1, List.getElem?_append_left h1]
    · rw [List.getElem?_append_right (by omega), List.getElem?_append_right (by omega)]
      have h2 : j - X.length ≠ i := by omega
      simp only [bank, List.getElem?_map]
      cases hb : (List.range 12)[j - X.length]? with
      | none => rfl
      | some b =>
        have hb2 : b = j - X.length := by
          obtain ⟨h4, h5⟩ := List.getElem?_eq_some_iff.mp hb
          simpa using h5.symm
        subst hb2
        simp [va_up, h2]
section MW
variable {q : Nat → ClassId} {xa ad : Nat → Nat} {sS sC sS' sC' : Int32} {fB fB' : Nat → Int32} {gT gT' : Nat → Bool} {cK cK' : Nat → Cp} {A : Nat → Prop}
theorem mW_get {i : Nat} (hi : i < 12) : (mW q xa ad sS sC fB gT cK)[5 + i]? = some (ad i, .inr (0, capL (cK i))) := bank_get (X := mX q xa ad sS sC fB gT) hi
theorem mW_set {i : Nat} (x : Cp) (hi : i < 12) : (mW q xa ad sS sC fB gT cK).set (5 + i) (ad i, .inr (0, capL x)) = mW q xa ad sS sC fB gT (va_up cK i x) := bank_set (X := mX q xa ad sS sC fB gT) x hi
theorem D_map {ws ws' : va_W} (h : va_D A ws) (e : ws.map (fun z => z.1) = ws'.map (fun z => z.1)) : va_D A ws' := by
  have key : ∀ (i : Nat) (p : Nat × va_E), ws'[i]? = some p → ∃ p' : Nat × va_E, ws[i]? = some p' ∧ p'.1 = p.1 := by
    intro i p hp
    have h1 : (ws'.map (fun z => z.1))[i]? = some p.1 := by rw [List.getElem?_map, hp]; rfl
    rw [← e, List.getElem?_map] at h1
    cases hq : ws[i]? with
    | none => rw [hq] at h1; cases h1
    | some p' => rw [hq] at h1; exact ⟨p', rfl, Option.some.inj h1⟩
  refine ⟨fun i j p q hi hj hpq => ?_, fun k q hq => ?_⟩
  · obtain ⟨p', a1, a2⟩ := key i p hi
    obtain ⟨q', b1, b2⟩ := key j q hj
    exact h.1 i j p' q' a1 b1 (by rw [a2, b2, hpq])
  · obtain ⟨q', a1, a2⟩ := key k q hq
    rw [← a2]
    exact h.2 k q' a1
theorem mW_D (h : va_D A (mW q xa ad sS sC fB gT cK)) : va_D A (mW q xa ad sS' sC' fB' gT' cK') := D_map h rfl
end MW
-- the reference's world
def rF (xa : Nat → Nat) (th ca st co ra rb rc im hf : Int32) (rz : Bool) : List Value := [.int th, .ref (xa 1), .ref (xa 2), .ref (xa 3), .ref (xa 4), .ref (xa 5), .ref (xa 6), .ref (xa 7), .ref (xa 8), .int ca, .int st, .int co, .int ra, .int rb, .int rc, .int im, .int hf, .int (b2i rz)]
def rW (q : Nat → ClassId) (xa : Nat → Nat) (th ca st co ra rb rc im hf : Int32) (rz : Bool) (fM : Nat → Int32) (gT : Nat → Bool) (cK : Nat → Cp) : va_W :=
  [(xa 0, .inr (3, rF xa th ca st co ra rb rc im hf rz)), (xa 1, .inl (q 0, 512, .inl fM)), (xa 2, .inl (q 1, 64, .inl (fun k => b2i (gT k)))), (xa 3, .inl (q 2, 12, .inl (fun i => b2i (k_v (cK i))))), (xa 4, .inl (q 3, 12, .inl (fun i => k_b (cK i)))), (xa 5, .inl (q 4, 12, .inl (fun i => k_t (cK i)))), (xa 6, .inl (q 5, 12, .inl (fun i => k_a (cK i)))), (xa 7, .inl (q 6, 12, .inl (fun i => k_p (cK i)))), (xa 8, .inl (q 7, 12, .inl (fun i => k_y (cK i))))]
def tyR (q : Nat → ClassId) : List (ClassId × FieldType) := [(q 0, .int), (q 1, .boolean), (q 2, .boolean), (q 3, .int), (q 4, .int), (q 5, .int), (q 6, .int), (q 7, .int)]
section RW
variable {q : Nat → ClassId} {xa : Nat → Nat} {th ca st co ra rb rc im hf th' ca' st' co' ra' rb' rc' im' hf' : Int32} {rz rz' : Bool} {fM fM' : Nat → Int32} {gT gT' : Nat → Bool} {cK cK' : Nat → Cp} {A : Nat → Prop}
theorem rW_D (h : va_D A (rW q xa th ca st co ra rb rc im hf rz fM gT cK)) : va_D A (rW q xa th' ca' st' co' ra' rb' rc' im' hf' rz' fM' gT' cK') := D_map h rfl
theorem up_v (i : Nat) (z : Cp) (f : Nat → Cp) : (fun j => b2i (k_v (va_up f i z j))) = upd (fun j => b2i (k_v (f j))) i (b2i (k_v z)) := by funext j; by_cases h : j = i <;> simp [va_up, upd, h]
theorem up_b (i : Nat) (z : Cp) (f : Nat → Cp) : (fun j => k_b (va_up f i z j)) = upd (fun j => k_b (f j)) i (k_b z) := by funext j; by_cases h : j = i <;> simp [va_up, upd, h]
theorem up_t (i : Nat) (z : Cp) (f : Nat → Cp) : (fun j => k_t (va_up f i z j)) = upd (fun j => k_t (f j)) i (k_t z) := by funext j; by_cases h : j = i <;> simp [va_up, upd, h]
theorem up_p (i : Nat) (z : Cp) (f : Nat → Cp) : (fun j => k_p (va_up f i z j)) = upd (fun j => k_p (f j)) i (k_p z) := by funext j; by_cases h : j = i <;> simp [va_up, upd, h]
theorem up_y (i : Nat) (z : Cp) (f : Nat → Cp) : (fun j => k_y (va_up f i z j)) = upd (fun j => k_y (f j)) i (k_y z) := by funext j; by_cases h : j = i <;> simp [va_up, upd, h]
theorem up_a (i : Nat) (z : Cp) (f : Nat → Cp) : (fun j => k_a (va_up f i z j)) = upd (fun j => k_a (f j)) i (k_a z) := by funext j; by_cases h : j = i <;> simp [va_up, upd, h]
theorem up_T (i : Nat) (z : Bool) (f : Nat → Bool) : (fun j => b2i (va_up f i z j)) = upd (fun j => b2i (f j)) i (b2i z) := by funext j; by_cases h : j = i <;> simp [va_up, upd, h]
theorem upd_id (f : Nat → Int32) (i : Nat) : upd f i (f i) = f := by funext j; by_cases h : j = i <;> simp [upd, h]
end RW
end
section
section OwnRows
variable {p : Program} {l : Launch} {e : Env} {R : Room} {s : State} {m : MethodId} {args : Array Value} {below : List Frame} {meth : Method} {c : Code} {H : Heap} {locs : List Loc} {cells slots : Nat} {Q : State → Prop}
variable {cc : ByteArray} {pc : Nat} {ls : Array Slot} {rest : List Value} {D : va_G} {A : Nat → Prop} {tys : List (ClassId × FieldType)} {H0 : Heap} {own : String} {nL index : Nat}
variable {q : Nat → ClassId} {xa ad : Nat → Nat} {sS sC : Int32} {fB : Nat → Int32} {gT : Nat → Bool} {cK : Nat → Cp}
/-- a join: what goes on is said once; the branches come to it -/
theorem jn (pcj : Nat) (lsj : Array Slot) (restj : List Value) (E : Int32) {g : JFrame} (k : W p l e R s m args below meth c H locs cells slots Q (F0 m pcj lsj (.int E :: restj)))
    (h : (∀ z : Int32, z = E → W p l e R s m args below meth c H locs cells slots Q (F0 m pcj lsj (.int z :: restj))) → W p l e R s m args below meth c H locs cells slots Q g) : W p l e R s m args below meth c H locs cells slots Q g := h (fun z hz => by rw [hz]; exact k)
theorem jl (pcj : Nat) (lsj : Array Slot) (restj : List Value) (E : Int64) {g : JFrame} (k : W p l e R s m args below meth c H locs cells slots Q (F0 m pcj lsj (.long E :: restj)))
    (h : (∀ z : Int64, z = E → W p l e R s m args below meth c H locs cells slots Q (F0 m pcj lsj (.long z :: restj))) → W p l e R s m args below meth c H locs cells slots Q g) : W p l e R s m args below meth c H locs cells slots Q g := h (fun z hz => by rw [hz]; exact k)
/-- the same place told otherwise -/
theorem cv {x y : Int32} (h : x = y) (k : W p l e R s m args below meth c H locs cells slots Q (F0 m pc ls (.int y :: rest))) : W p l e R s m args below meth c H locs cells slots Q (F0 m pc ls (.int x :: rest)) := by rw [h]; exact k
/-- branches over a boolean -/
theorem zb_eq {X : Bool} (hexec : p.tables.exec = Jvm.exec) (hb : c.code = cc) {off : Int} {tgt : Nat} (hdg : decode cc pc = .ok (.ifCond .eq off, 3)) (ht : (pc : Int) + off = (tgt : Int))
    (kt : X = false → W p l e R s m args below meth c H locs cells slots Q (F0 m tgt ls rest)) (kf : X = true → W p l e R s m args below meth c H locs cells slots Q (F0 m (pc + 3) ls rest)) : W p l e R s m args below meth c H locs cells slots Q (F0 m pc ls (.int (b2i X) :: rest)) :=
  lv_if_eq hexec hb hdg ht (fun h => kt ((b2i_0 X).mp h)) (fun h => kf (by cases X with
    | true => rfl
    | false => exact absurd rfl h))
theorem zb_ne {X : Bool} (hexec : p.tables.exec = Jvm.exec) (hb : c.code = cc) {off : Int} {tgt : Nat} (hdg : decode cc pc = .ok (.ifCond .ne off, 3)) (ht : (pc : Int) + off = (tgt : Int))
    (kt : X = true → W p l e R s m args below meth c H locs cells slots Q (F0 m tgt ls rest)) (kf : X = false → W p l e R s m args below meth c H locs cells slots Q (F0 m (pc + 3) ls rest)) : W p l e R s m args below meth c H locs cells slots Q (F0 m pc ls (.int (b2i X) :: rest)) :=
  lv_if_ne hexec hb hdg ht (fun h => kt (by cases X with
    | true => rfl
    | false => exact absurd rfl h)) (fun h => kf ((b2i_0 X).mp h))
theorem zc_ne {X Y : Bool} (hexec : p.tables.exec = Jvm.exec) (hb : c.code = cc) {off : Int} {tgt : Nat} (hdg : decode cc pc = .ok (.if_icmp .ne off, 3)) (ht : (pc : Int) + off = (tgt : Int))
    (kt : ¬ X = Y → W p l e R s m args below meth c H locs cells slots Q (F0 m tgt ls rest)) (kf : X = Y → W p l e R s m args below meth c H locs cells slots Q (F0 m (pc + 3) ls rest)) : W p l e R s m args below meth c H locs cells slots Q (F0 m pc ls (.int (b2i Y) :: .int (b2i X) :: rest)) :=
  lv_icmp_ne hexec hb hdg ht (fun h => kt (fun z => h ((b2i_e X Y).mpr z))) (fun h => kf ((b2i_e X Y).mp h))
/-- switches by their keys -/
theorem t_in (key : Int32) {off : Int} {tgt : Nat} (hexec : p.tables.exec = Jvm.exec) (hb : c.code = cc) {dflt lo hi : Int} {offs : Array Int} {len : Nat} {x : Int32} (hdg : decode cc pc = .ok (.tableswitch dflt lo hi offs, len)) (hx : x = key) (h1 : ¬ key.toInt < lo) (h2 : ¬ hi < key.toInt) (ho : offs[(key.toInt - lo).toNat]? = some off) (ht : (pc : Int) + off = (tgt : Int))
    (k : W p l e R s m args below meth c H locs cells slots Q (F0 m tgt ls rest)) : W p l e R s m args below meth c H locs cells slots Q (F0 m pc ls (.int x :: rest)) := by
  subst hx
  exact lv_tableIn hexec hb hdg h1 h2 ho ht k
theorem t_no (ks : List Int) {tgt : Nat} (hexec : p.tables.exec = Jvm.exec) (hb : c.code = cc) {dflt lo hi : Int} {offs : Array Int} {len : Nat} {x : Int32} (hdg : decode cc pc = .ok (.tableswitch dflt lo hi offs, len)) (hx : ∀ k ∈ ks, ¬ x.toInt = k) (ha : (List.range (hi + 1 - lo).toNat).all (fun j => decide (offs[j]? = some dflt) || decide ((lo + (j : Int)) ∈ ks)) = true) (ht : (pc : Int) + dflt = (tgt : Int))
    (k : W p l e R s m args below meth c H locs cells slots Q (F0 m tgt ls rest)) : W p l e R s m args below meth c H locs cells slots Q (F0 m pc ls (.int x :: rest)) := by
  by_cases h1 : x.toInt < lo
  · exact lv_tableOut hexec hb hdg (Or.inl h1) ht k
  · by_cases h2 : hi < x.toInt
    · exact lv_tableOut hexec hb hdg (Or.inr h2) ht k
    · have h3 := List.all_eq_true.mp ha (x.toInt - lo).toNat (List.mem_range.mpr (by omega))
      have h4 : lo + (((x.toInt - lo).toNat : Nat) : Int) = x.toInt := by omega
      rw [h4] at h3
      simp only [Bool.or_eq_true, decide_eq_true_eq] at h3
      rcases h3 with h3 | h3
      · exact lv_tableIn hexec hb hdg h1 h2 h3 ht k
      · exact absurd rfl (hx _ h3)

theorem k_get (S : CallFix p m c cc nL s args TB own) (hK : va_K D cls tys s) (hP : va_P D cls (mW q xa ad sS sC fB gT cK) H) {i : Nat} (hi : i < 12) (k : Nat) (hk : k < 6) (hl : Cond.fieldLink own index R_K (F_K k).2.1 (F_K k).2.2.1 ∈ TB) {v : Value} (hv : (capL (cK i))[k]? = some v) (hdg : decode cc pc = .ok (.getfield index, 3))
    (kk : W p l e R s m args below meth c H locs cells slots Q (F0 m (pc + 3) ls (v :: rest))) : W p l e R s m args below meth c H locs cells slots Q (F0 m pc ls (.ref (ad i) :: rest)) :=
  va_get (D := D) (ci := 0) (C := R_K) (T := F_K) (N := 6) S.1 S.2.1 S.2.2.2.2 in_K S.2.2.2.1 hK hP (5 + i) (mW_get hi) rfl k hk (S.2.2.2.2 _ hl) (fun _ h => h) hv hdg kk
theorem k_put (S : CallFix p m c cc nL s args TB own) (hK : va_K D cls tys s) (hP : va_P D cls (mW q xa ad sS sC fB gT cK) H) (hD : va_D A (mW q xa ad sS sC fB gT cK)) (hS : va_S A H0 H locs) {i : Nat} (hi : i < 12) (k : Nat) (hk : k < 6) (hl : Cond.fieldLink own index R_K (F_K k).2.1 (F_K k).2.2.1 ∈ TB) {v : Value} (z : Cp) (hz : (capL (cK i)).set k v = capL z) (hn : narrow (t_K k) v = v) (hf : fits (t_K k) v = true) (hdg : decode cc pc = .ok (.putfield index, 3))
    (kk : ∀ (H1 : Heap) (locs1 : List Loc), va_P D cls (mW q xa ad sS sC fB gT (va_up cK i z)) H1 → va_S A H0 H1 locs1 → W p l e R s m args below meth c H1 locs1 cells slots Q (F0 m (pc + 3) ls rest)) : W p l e R s m args below meth c H locs cells slots Q (F0 m pc ls (v :: .ref (ad i) :: rest)) := by
  refine va_put (D := D) (ci := 0) (C := R_K) (T := F_K) (N := 6) (ty := t_K k) S.1 S.2.1 S.2.2.2.2 in_K t_K t_K_ok n_K S.2.2.2.1 hK hP hD hS (5 + i) (mW_get hi) rfl k hk (S.2.2.2.2 _ hl) (fun _ h => h) rfl (t_K_ok k hk) hn hf hk hdg (fun H1 locs1 hP1 _ hS1 => ?_)
  rw [hz, mW_set z hi] at hP1
  exact kk H1 locs1 hP1 hS1
theorem k_getN (S : CallFix p m c cc nL s args TB own) (hK : va_K D cls tys s) (hP : va_P D cls (mW q xa ad sS sC fB gT cK) H) {i : Nat} (hi : i < 12) (k : Nat) (hk : k < 6) (hN : NL s) (hl : Cond.fieldLinkNest own index R_K (F_K k).2.1 (F_K k).2.2.1 R_M ∈ NW) {v : Value} (hv : (capL (cK i))[k]? = some v) (hdg : decode cc pc = .ok (.getfield index, 3))
    (kk : W p l e R s m args below meth c H locs cells slots Q (F0 m (pc + 3) ls (v :: rest))) : W p l e R s m args below meth c H locs cells slots Q (F0 m pc ls (.ref (ad i) :: rest)) :=
  va_getN (D := D) (ci := 0) (C := R_K) (T := F_K) (N := 6) S.1 S.2.1 S.2.2.2.2 in_K S.2.2.2.1 hK hP (5 + i) (mW_get hi) rfl k hk (va_Nw.use rfl (hN _ hl)) (fun _ h => h) hv hdg kk
theorem k_putN (S : CallFix p m c cc nL s args TB own) (hK : va_K D cls tys s) (hP : va_P D cls (mW q xa ad sS sC fB gT cK) H) (hD : va_D A (mW q xa ad sS sC fB gT cK)) (hS : va_S A H0 H locs) {i : Nat} (hi : i < 12) (k : Nat) (hk : k < 6) (hN : NL s) (hl : Cond.fieldLinkNest own index R_K (F_K k).2.1 (F_K k).2.2.1 R_M ∈ NW) {v : Value} (z : Cp) (hz : (capL (cK i)).set k v = capL z) (hn : narrow (t_K k) v = v) (hf : fits (t_K k) v = true) (hdg : decode cc pc = .ok (.putfield index, 3))
    (kk : ∀ (H1 : Heap) (locs1 : List Loc), va_P D cls (mW q xa ad sS sC fB gT (va_up cK i z)) H1 → va_S A H0 H1 locs1 → W p l e R s m args below meth c H1 locs1 cells slots Q (F0 m (pc + 3) ls rest)) : W p l e R s m args below meth c H locs cells slots Q (F0 m pc ls (v :: .ref (ad i) :: rest)) := by
  refine va_putN (D := D) (ci := 0) (C := R_K) (T := F_K) (N := 6) (ty := t_K k) S.1 S.2.1 S.2.2.2.2 in_K t_K t_K_ok n_K S.2.2.2.1 hK hP hD hS (5 + i) (mW_get hi) rfl k hk (va_Nw.use rfl (hN _ hl)) (fun _ h => h) rfl (t_K_ok k hk) hn hf hk hdg (fun H1 locs1 hP1 _ hS1 => ?_)
  rw [hz, mW_set z hi] at hP1
  exact kk H1 locs1 hP1 hS1
theorem k_getO (S : CallFix p m c cc nL s args TB own) (hK : va_K D cls tys s) {i : Nat} {z : Cp} (hP : va_P D cls (mW q xa ad sS sC fB gT (va_up cK i z)) H) (hi : i < 12) (k : Nat) (hk : k < 6) (hl : Cond.fieldLink own index R_K (F_K k).2.1 (F_K k).2.2.1 ∈ TB) {v : Value} (hv : (capL z)[k]? = some v) (hdg : decode cc pc = .ok (.getfield index, 3))
    (kk : W p l e R s m args below meth c H locs cells slots Q (F0 m (pc + 3) ls (v :: rest))) : W p l e R s m args below meth c H locs cells slots Q (F0 m pc ls (.ref (ad i) :: rest)) :=
  k_get S hK hP hi k hk hl (by rw [va_up_self]; exact hv) hdg kk
theorem k_getX (S : CallFix p m c cc nL s args TB own) (hK : va_K D cls tys s) {i j : Nat} {z : Cp} (hP : va_P D cls (mW q xa ad sS sC fB gT (va_up cK i z)) H) (hj : j < 12) (k : Nat) (hk : k < 6) (hl : Cond.fieldLink own index R_K (F_K k).2.1 (F_K k).2.2.1 ∈ TB) {v : Value} (hv : (capL (cK j))[k]? = some v) (hz : (capL z)[k]? = (capL (cK i))[k]?) (hdg : decode cc pc = .ok (.getfield index, 3))
    (kk : W p l e R s m args below meth c H locs cells slots Q (F0 m (pc + 3) ls (v :: rest))) : W p l e R s m args below meth c H locs cells slots Q (F0 m pc ls (.ref (ad j) :: rest)) :=
  k_get S hK hP hj k hk hl (by
    by_cases h : j = i
    · subst h
      rw [va_up_self, hz]
      exact hv
    · rw [va_up_ne _ _ h]
      exact hv) hdg kk
theorem k_putO (S : CallFix p m c cc nL s args TB own) (hK : va_K D cls tys s) {i : Nat} {z : Cp} (hP : va_P D cls (mW q xa ad sS sC fB gT (va_up cK i z)) H) (hD : va_D A (mW q xa ad sS sC fB gT (va_up cK i z))) (hS : va_S A H0 H locs) (hi : i < 12) (k : Nat) (hk : k < 6) (hl : Cond.fieldLink own index R_K (F_K k).2.1 (F_K k).2.2.1 ∈ TB) {v : Value} (y : Cp) (hz : (capL z).set k v = capL y) (hn : narrow (t_K k) v = v) (hf : fits (t_K k) v = true) (hdg : decode cc pc = .ok (.putfield index, 3))
    (kk : ∀ (H1 : Heap) (locs1 : List Loc), va_P D cls (mW q xa ad sS sC fB gT (va_up cK i y)) H1 → va_S A H0 H1 locs1 → W p l e R s m args below meth c H1 locs1 cells slots Q (F0 m (pc + 3) ls rest)) : W p l e R s m args below meth c H locs cells slots Q (F0 m pc ls (v :: .ref (ad i) :: rest)) :=
  k_put S hK hP hD hS hi k hk hl y (by rw [va_up_self]; exact hz) hn hf hdg (fun H1 locs1 hP1 hS1 => kk H1 locs1 (by rw [bx_uu] at hP1; exact hP1) hS1)
theorem k_getON (S : CallFix p m c cc nL s args TB own) (hK : va_K D cls tys s) {i : Nat} {z : Cp} (hP : va_P D cls (mW q xa ad sS sC fB gT (va_up cK i z)) H) (hi : i < 12) (k : Nat) (hk : k < 6) (hN : NL s) (hl : Cond.fieldLinkNest own index R_K (F_K k).2.1 (F_K k).2.2.1 R_M ∈ NW) {v : Value} (hv : (capL z)[k]? = some v) (hdg : decode cc pc = .ok (.getfield index, 3))
    (kk : W p l e R s m args below meth c H locs cells slots Q (F0 m (pc + 3) ls (v :: rest))) : W p l e R s m args below meth c H locs cells slots Q (F0 m pc ls (.ref (ad i) :: rest)) :=
  k_getN S hK hP hi k hk hN hl (by rw [va_up_self]; exact hv) hdg kk
theorem k_getXN (S : CallFix p m c cc nL s args TB own) (hK : va_K D cls tys s) {i j : Nat} {z : Cp} (hP : va_P D cls (mW q xa ad sS sC fB gT (va_up cK i z)) H) (hj : j < 12) (k : Nat) (hk : k < 6) (hN : NL s) (hl : Cond.fieldLinkNest own index R_K (F_K k).2.1 (F_K k).2.2.1 R_M ∈ NW) {v : Value} (hv : (capL (cK j))[k]? = some v) (hz : (capL z)[k]? = (capL (cK i))[k]?) (hdg : decode cc pc = .ok (.getfield index, 3))
    (kk : W p l e R s m args below meth c H locs cells slots Q (F0 m (pc + 3) ls (v :: rest))) : W p l e R s m args below meth c H locs cells slots Q (F0 m pc ls (.ref (ad j) :: rest)) :=
  k_getN S hK hP hj k hk hN hl (by
    by_cases h : j = i
    · subst h
      rw [va_up_self, hz]
      exact hv
    · rw [va_up_ne _ _ h]
      exact hv) hdg kk
theorem k_putON (S : CallFix p m c cc nL s args TB own) (hK : va_K D cls tys s) {i : Nat} {z : Cp} (hP : va_P D cls (mW q xa ad sS sC fB gT (va_up cK i z)) H) (hD : va_D A (mW q xa ad sS sC fB gT (va_up cK i z))) (hS : va_S A H0 H locs) (hi : i < 12) (k : Nat) (hk : k < 6) (hN : NL s) (hl : Cond.fieldLinkNest own index R_K (F_K k).2.1 (F_K k).2.2.1 R_M ∈ NW) {v : Value} (y : Cp) (hz : (capL z).set k v = capL y) (hn : narrow (t_K k) v = v) (hf : fits (t_K k) v = true) (hdg : decode cc pc = .ok (.putfield index, 3))
    (kk : ∀ (H1 : Heap) (locs1 : List Loc), va_P D cls (mW q xa ad sS sC fB gT (va_up cK i y)) H1 → va_S A H0 H1 locs1 → W p l e R s m args below meth c H1 locs1 cells slots Q (F0 m (pc + 3) ls rest)) : W p l e R s m args below meth c H locs cells slots Q (F0 m pc ls (v :: .ref (ad i) :: rest)) :=
  k_putN S hK hP hD hS hi k hk hN hl y (by rw [va_up_self]; exact hz) hn hf hdg (fun H1 locs1 hP1 hS1 => kk H1 locs1 (by rw [bx_uu] at hP1; exact hP1) hS1)
theorem m_get (S : CallFix p m c cc nL s args TB own) (hK : va_K D cls tys s) (hP : va_P D cls (mW q xa ad sS sC fB gT cK) H) (k : Nat) (hk : k < 8) (hl : Cond.fieldLink own index R_M (F_M k).2.1 (F_M k).2.2.1 ∈ TB) {v : Value} (hv : (mF xa ad sS sC)[k]? = some v) (hdg : decode cc pc = .ok (.getfield index, 3))
    (kk : W p l e R s m args below meth c H locs cells slots Q (F0 m (pc + 3) ls (v :: rest))) : W p l e R s m args below meth c H locs cells slots Q (F0 m pc ls (.ref (xa 0) :: rest)) :=
  va_get (D := D) (ci := 2) (C := R_M) (T := F_M) (N := 8) S.1 S.2.1 S.2.2.2.2 in_M S.2.2.2.1 hK hP 0 rfl rfl k hk (S.2.2.2.2 _ hl) (fun _ h => h) hv hdg kk
theorem m_putS (S : CallFix p m c cc nL s args TB own) (hK : va_K D cls tys s) (hP : va_P D cls (mW q xa ad sS sC fB gT cK) H) (hD : va_D A (mW q xa ad sS sC fB gT cK)) (hS : va_S A H0 H locs) {x : Int32} (hl : Cond.fieldLink own index R_M (F_M 6).2.1 (F_M 6).2.2.1 ∈ TB) (hdg : decode cc pc = .ok (.putfield index, 3))
    (kk : ∀ (H1 : Heap) (locs1 : List Loc), va_P D cls (mW q xa ad x sC fB gT cK) H1 → va_S A H0 H1 locs1 → W p l e R s m args below meth c H1 locs1 cells slots Q (F0 m (pc + 3) ls rest)) : W p l e R s m args below meth c H locs cells slots Q (F0 m pc ls (.int x :: .ref (xa 0) :: rest)) :=
  va_put (D := D) (ci := 2) (C := R_M) (T := F_M) (N := 8) (ty := .int) S.1 S.2.1 S.2.2.2.2 in_M t_M t_M_ok n_M S.2.2.2.1 hK hP hD hS 0 rfl rfl 6 (by decide) (S.2.2.2.2 _ hl) (fun _ h => h) rfl (t_M_ok 6 (by decide)) rfl rfl (Nat.le_of_ble_eq_true rfl) hdg (fun H1 locs1 hP1 _ hS1 => kk H1 locs1 hP1 hS1)
theorem m_putC (S : CallFix p m c cc nL s args TB own) (hK : va_K D cls tys s) (hP : va_P D cls (mW q xa ad sS sC fB gT cK) H) (hD : va_D A (mW q xa ad sS sC fB gT cK)) (hS : va_S A H0 H locs) {x : Int32} (hl : Cond.fieldLink own index R_M (F_M 7).2.1 (F_M 7).2.2.1 ∈ TB) (hdg : decode cc pc = .ok (.putfield index, 3))
    (kk : ∀ (H1 : Heap) (locs1 : List Loc), va_P D cls (mW q xa ad sS x fB gT cK) H1 → va_S A H0 H1 locs1 → W p l e R s m args below meth c H1 locs1 cells slots Q (F0 m (pc + 3) ls rest)) : W p l e R s m args below meth c H locs cells slots Q (F0 m pc ls (.int x :: .ref (xa 0) :: rest)) :=
  va_put (D := D) (ci := 2) (C := R_M) (T := F_M) (N := 8) (ty := .int) S.1 S.2.1 S.2.2.2.2 in_M t_M t_M_ok n_M S.2.2.2.1 hK hP hD hS 0 rfl rfl 7 (by decide) (S.2.2.2.2 _ hl) (fun _ h => h) rfl (t_M_ok 7 (by decide)) rfl rfl (Nat.le_of_ble_eq_true rfl) hdg (fun H1 locs1 hP1 _ hS1 => kk H1 locs1 hP1 hS1)
theorem e_get (S : CallFix p m c cc nL s args TB own) (hK : va_K D cls tys s) (hP : va_P D cls (mW q xa ad sS sC fB gT cK) H) (k : Nat) (hk : k < 2) (hl : Cond.fieldLink own index R_E (F_E k).2.1 (F_E k).2.2.1 ∈ TB) {v : Value} (hv : ([.ref (xa 3), .ref (xa 4)] : List Value)[k]? = some v) (hdg : decode cc pc = .ok (.getfield index, 3))
    (kk : W p l e R s m args below meth c H locs cells slots Q (F0 m (pc + 3) ls (v :: rest))) : W p l e R s m args below meth c H locs cells slots Q (F0 m pc ls (.ref (xa 2) :: rest)) :=
  va_get (D := D) (ci := 1) (C := R_E) (T := F_E) (N := 2) S.1 S.2.1 S.2.2.2.2 in_E S.2.2.2.1 hK hP 2 rfl rfl k hk (S.2.2.2.2 _ hl) (fun _ h => h) hv hdg kk
theorem e_getN (S : CallFix p m c cc nL s args TB own) (hK : va_K D cls tys s) (hP : va_P D cls (mW q xa ad sS sC fB gT cK) H) (k : Nat) (hk : k < 2) (hN : NL s) (hl : Cond.fieldLinkNest own index R_E (F_E k).2.1 (F_E k).2.2.1 R_M ∈ NW) {v : Value} (hv : ([.ref (xa 3), .ref (xa 4)] : List Value)[k]? = some v) (hdg : decode cc pc = .ok (.getfield index, 3))
    (kk : W p l e R s m args below meth c H locs cells slots Q (F0 m (pc + 3) ls (v :: rest))) : W p l e R s m args below meth c H locs cells slots Q (F0 m pc ls (.ref (xa 2) :: rest)) :=
  va_getN (D := D) (ci := 1) (C := R_E) (T := F_E) (N := 2) S.1 S.2.1 S.2.2.2.2 in_E S.2.2.2.1 hK hP 2 rfl rfl k hk (va_Nw.use rfl (hN _ hl)) (fun _ h => h) hv hdg kk
theorem s_ald (S : CallFix p m c cc nL s args TB own) (hK : va_K D cls (tyM q) s) (hP : va_P D cls (mW q xa ad sS sC fB gT cK) H) {i : Int32} (hin : vp_in i 11) (hdg : decode cc pc = .ok (.aaload, 1))
    (kk : W p l e R s m args below meth c H locs cells slots Q (F0 m (pc + 1) ls (.ref (ad i.toNatClampNeg) :: rest))) : W p l e R s m args below meth c H locs cells slots Q (F0 m pc ls (.int i :: .ref (xa 1) :: rest)) :=
  va_aldq (D := D) (C := R_K) S.1 S.2.1 hK hP 1 0 rfl rfl hin hdg kk
theorem b_ald (S : CallFix p m c cc nL s args TB own) (hK : va_K D cls (tyM q) s) (hP : va_P D cls (mW q xa ad sS sC fB gT cK) H) {i : Int32} (hin : vp_in i 512) (hdg : decode cc pc = .ok (.baload, 1))
    (kk : W p l e R s m args below meth c H locs cells slots Q (F0 m (pc + 1) ls (.int (fB i.toNatClampNeg) :: rest))) : W p l e R s m args below meth c H locs cells slots Q (F0 m pc ls (.int i :: .ref (xa 3) :: rest)) :=
  va_bald (D := D) S.1 S.2.1 hK hP 3 1 rfl rfl hin hdg kk
theorem t_ald (S : CallFix p m c cc nL s args TB own) (hK : va_K D cls (tyM q) s) (hP : va_P D cls (mW q xa ad sS sC fB gT cK) H) {i : Int32} (hin : vp_in i 64) (hdg : decode cc pc = .ok (.baload, 1))
    (kk : W p l e R s m args below meth c H locs cells slots Q (F0 m (pc + 1) ls (.int (b2i (gT i.toNatClampNeg)) :: rest))) : W p l e R s m args below meth c H locs cells slots Q (F0 m pc ls (.int i :: .ref (xa 4) :: rest)) :=
  va_zald (D := D) S.1 S.2.1 hK hP 4 2 rfl rfl hin hdg kk
theorem b_ast (S : CallFix p m c cc nL s args TB own) (hK : va_K D cls (tyM q) s) (hP : va_P D cls (mW q xa ad sS sC fB gT cK) H) (hD : va_D A (mW q xa ad sS sC fB gT cK)) (hS : va_S A H0 H locs) {i x : Int32} (hin : vp_in i 512) (hdg : decode cc pc = .ok (.bastore, 1))
    (kk : ∀ (H1 : Heap) (locs1 : List Loc), va_P D cls (mW q xa ad sS sC (upd fB i.toNatClampNeg x.toInt8.toInt32) gT cK) H1 → va_S A H0 H1 locs1 → W p l e R s m args below meth c H1 locs1 cells slots Q (F0 m (pc + 1) ls rest)) : W p l e R s m args below meth c H locs cells slots Q (F0 m pc ls (.int x.toInt8.toInt32 :: .int i :: .ref (xa 3) :: rest)) := by
  refine va_bast (D := D) S.1 S.2.1 hK hP hD hS 3 1 rfl rfl hin hdg (fun H1 locs1 hP1 _ hS1 => ?_)
  rw [pk_vb] at hP1
  exact kk H1 locs1 hP1 hS1
theorem t_ast (S : CallFix p m c cc nL s args TB own) (hK : va_K D cls (tyM q) s) (hP : va_P D cls (mW q xa ad sS sC fB gT cK) H) (hD : va_D A (mW q xa ad sS sC fB gT cK)) (hS : va_S A H0 H locs) {i : Int32} {z : Bool} (hin : vp_in i 64) (hdg : decode cc pc = .ok (.bastore, 1))
    (kk : ∀ (H1 : Heap) (locs1 : List Loc), va_P D cls (mW q xa ad sS sC fB (va_up gT i.toNatClampNeg z) cK) H1 → va_S A H0 H1 locs1 → W p l e R s m args below meth c H1 locs1 cells slots Q (F0 m (pc + 1) ls rest)) : W p l e R s m args below meth c H locs cells slots Q (F0 m pc ls (.int (b2i z) :: .int i :: .ref (xa 4) :: rest)) := by
  refine va_zast (D := D) S.1 S.2.1 hK hP hD hS 4 2 rfl rfl hin hdg (fun H1 locs1 hP1 _ hS1 => ?_)
  rw [b2i_vp, ← up_T] at hP1
  exact kk H1 locs1 hP1 hS1
end OwnRows
section OwnRef
variable {p : Program} {l : Launch} {e : Env} {R : Room} {s : State} {m : MethodId} {args : Array Value} {below : List Frame} {meth : Method} {c : Code} {H : Heap} {locs : List Loc} {cells slots : Nat} {Q : State → Prop}
variable {cc : ByteArray} {pc : Nat} {ls : Array Slot} {rest : List Value} {D : va_G} {A : Nat → Prop} {H0 : Heap} {own : String} {nL index : Nat}
variable {q : Nat → ClassId} {xa : Nat → Nat} {th ca st co ra rb rc im hf : Int32} {rz : Bool} {fM : Nat → Int32} {gT : Nat → Bool} {cK : Nat → Cp}
theorem r_get (S : CallFix p m c cc nL s args TB own) (hK : va_K D cls (tyR q) s) (hP : va_P D cls (rW q xa th ca st co ra rb rc im hf rz fM gT cK) H) (k : Nat) (hk : k < 18) (hl : Cond.fieldLink own index R_R (F_R k).2.1 (F_R k).2.2.1 ∈ TB) {v : Value} (hv : (rF xa th ca st co ra rb rc im hf rz)[k]? = some v) (hdg : decode cc pc = .ok (.getfield index, 3))
    (kk : W p l e R s m args below meth c H locs cells slots Q (F0 m (pc + 3) ls (v :: rest))) : W p l e R s m args below meth c H locs cells slots Q (F0 m pc ls (.ref (xa 0) :: rest)) :=
  va_get (D := D) (ci := 3) (C := R_R) (T := F_R) (N := 18) S.1 S.2.1 S.2.2.2.2 in_R S.2.2.2.1 hK hP 0 rfl rfl k hk (S.2.2.2.2 _ hl) (fun _ h => h) hv hdg kk
theorem r_put_th (S : CallFix p m c cc nL s args TB own) (hK : va_K D cls (tyR q) s) (hP : va_P D cls (rW q xa th ca st co ra rb rc im hf rz fM gT cK) H) (hD : va_D A (rW q xa th ca st co ra rb rc im hf rz fM gT cK)) (hS : va_S A H0 H locs) {x : Int32} (hl : Cond.fieldLink own index R_R (F_R 0).2.1 (F_R 0).2.2.1 ∈ TB) (hdg : decode cc pc = .ok (.putfield index, 3))
    (kk : ∀ (H1 : Heap) (locs1 : List Loc), va_P D cls (rW q xa x ca st co ra rb rc im hf rz fM gT cK) H1 → va_S A H0 H1 locs1 → W p l e R s m args below meth c H1 locs1 cells slots Q (F0 m (pc + 3) ls rest)) : W p l e R s m args below meth c H locs cells slots Q (F0 m pc ls (.int x :: .ref (xa 0) :: rest)) :=
  va_put (D := D) (ci := 3) (C := R_R) (T := F_R) (N := 18) (ty := .int) S.1 S.2.1 S.2.2.2.2 in_R t_R t_R_ok n_R S.2.2.2.1 hK hP hD hS 0 rfl rfl 0 (by decide) (S.2.2.2.2 _ hl) (fun _ h => h) rfl (t_R_ok 0 (by decide)) rfl rfl (Nat.le_of_ble_eq_true rfl) hdg (fun H1 locs1 hP1 _ hS1 => kk H1 locs1 hP1 hS1)
theorem r_put_ca (S : CallFix p m c cc nL s args TB own) (hK : va_K D cls (tyR q) s) (hP : va_P D cls (rW q xa th ca st co ra rb rc im hf rz fM gT cK) H) (hD : va_D A (rW q xa th ca st co ra rb rc im hf rz fM gT cK)) (hS : va_S A H0 H locs) {x : Int32} (hl : Cond.fieldLink own index R_R (F_R 9).2.1 (F_R 9).2.2.1 ∈ TB) (hdg : decode cc pc = .ok (.putfield index, 3))
    (kk : ∀ (H1 : Heap) (locs1 : List Loc), va_P D cls (rW q xa th x st co ra rb rc im hf rz fM gT cK) H1 → va_S A H0 H1 locs1 → W p l e R s m args below meth c H1 locs1 cells slots Q (F0 m (pc + 3) ls rest)) : W p l e R s m args below meth c H locs cells slots Q (F0 m pc ls (.int x :: .ref (xa 0) :: rest)) :=
  va_put (D := D) (ci := 3) (C := R_R) (T := F_R) (N := 18) (ty := .int) S.1 S.2.1 S.2.2.2.2 in_R t_R t_R_ok n_R S.2.2.2.1 hK hP hD hS 0 rfl rfl 9 (by decide) (S.2.2.2.2 _ hl) (fun _ h => h) rfl (t_R_ok 9 (by decide)) rfl rfl (Nat.le_of_ble_eq_true rfl) hdg (fun H1 locs1 hP1 _ hS1 => kk H1 locs1 hP1 hS1)
theorem r_put_st (S : CallFix p m c cc nL s args TB own) (hK : va_K D cls (tyR q) s) (hP : va_P D cls (rW q xa th ca st co ra rb rc im hf rz fM gT cK) H) (hD : va_D A (rW q xa th ca st co ra rb rc im hf rz fM gT cK)) (hS : va_S A H0 H locs) {x : Int32} (hl : Cond.fieldLink own index R_R (F_R 10).2.1 (F_R 10).2.2.1 ∈ TB) (hdg : decode cc pc = .ok (.putfield index, 3))
    (kk : ∀ (H1 : Heap) (locs1 : List Loc), va_P D cls (rW q xa th ca x co ra rb rc im hf rz fM gT cK) H1 → va_S A H0 H1 locs1 → W p l e R s m args below meth c H1 locs1 cells slots Q (F0 m (pc + 3) ls rest)) : W p l e R s m args below meth c H locs cells slots Q (F0 m pc ls (.int x :: .ref (xa 0) :: rest)) :=
  va_put (D := D) (ci := 3) (C := R_R) (T := F_R) (N := 18) (ty := .int) S.1 S.2.1 S.2.2.2.2 in_R t_R t_R_ok n_R S.2.2.2.1 hK hP hD hS 0 rfl rfl 10 (by decide) (S.2.2.2.2 _ hl) (fun _ h => h) rfl (t_R_ok 10 (by decide)) rfl rfl (Nat.le_of_ble_eq_true rfl) hdg (fun H1 locs1 hP1 _ hS1 => kk H1 locs1 hP1 hS1)
theorem r_put_co (S : CallFix p m c cc nL s args TB own) (hK : va_K D cls (tyR q) s) (hP : va_P D cls (rW q xa th ca st co ra rb rc im hf rz fM gT cK) H) (hD : va_D A (rW q xa th ca st co ra rb rc im hf rz fM gT cK)) (hS : va_S A H0 H locs) {x : Int32} (hl : Cond.fieldLink own index R_R (F_R 11).2.1 (F_R 11).2.2.1 ∈ TB) (hdg : decode cc pc = .ok (.putfield index, 3))
    (kk : ∀ (H1 : Heap) (locs1 : List Loc), va_P D cls (rW q xa th ca st x ra rb rc im hf rz fM gT cK) H1 → va_S A H0 H1 locs1 → W p l e R s m args below meth c H1 locs1 cells slots Q (F0 m (pc + 3) ls rest)) : W p l e R s m args below meth c H locs cells slots Q (F0 m pc ls (.int x :: .ref (xa 0) :: rest)) :=
  va_put (D := D) (ci := 3) (C := R_R) (T := F_R) (N := 18) (ty := .int) S.1 S.2.1 S.2.2.2.2 in_R t_R t_R_ok n_R S.2.2.2.1 hK hP hD hS 0 rfl rfl 11 (by decide) (S.2.2.2.2 _ hl) (fun _ h => h) rfl (t_R_ok 11 (by decide)) rfl rfl (Nat.le_of_ble_eq_true rfl) hdg (fun H1 locs1 hP1 _ hS1 => kk H1 locs1 hP1 hS1)
theorem r_put_ra (S : CallFix p m c cc nL s args TB own) (hK : va_K D cls (tyR q) s) (hP : va_P D cls (rW q xa th ca st co ra rb rc im hf rz fM gT cK) H) (hD : va_D A (rW q xa th ca st co ra rb rc im hf rz fM gT cK)) (hS : va_S A H0 H locs) {x : Int32} (hl : Cond.fieldLink own index R_R (F_R 12).2.1 (F_R 12).2.2.1 ∈ TB) (hdg : decode cc pc = .ok (.putfield index, 3))
    (kk : ∀ (H1 : Heap) (locs1 : List Loc), va_P D cls (rW q xa th ca st co x rb rc im hf rz fM gT cK) H1 → va_S A H0 H1 locs1 → W p l e R s m args below meth c H1 locs1 cells slots Q (F0 m (pc + 3) ls rest)) : W p l e R s m args below meth c H locs cells slots Q (F0 m pc ls (.int x :: .ref (xa 0) :: rest)) :=
  va_put (D := D) (ci := 3) (C := R_R) (T := F_R) (N := 18) (ty := .int) S.1 S.2.1 S.2.2.2.2 in_R t_R t_R_ok n_R S.2.2.2.1 hK hP hD hS 0 rfl rfl 12 (by decide) (S.2.2.2.2 _ hl) (fun _ h => h) rfl (t_R_ok 12 (by decide)) rfl rfl (Nat.le_of_ble_eq_true rfl) hdg (fun H1 locs1 hP1 _ hS1 => kk H1 locs1 hP1 hS1)
theorem r_put_rb (S : CallFix p m c cc nL s args TB own) (hK : va_K D cls (tyR q) s) (hP : va_P D cls (rW q xa th ca st co ra rb rc im hf rz fM gT cK) H) (hD : va_D A (rW q xa th ca st co ra rb rc im hf rz fM gT cK)) (hS : va_S A H0 H locs) {x : Int32} (hl : Cond.fieldLink own index R_R (F_R 13).2.1 (F_R 13).2.2.1 ∈ TB) (hdg : decode cc pc = .ok (.putfield index, 3))
    (kk : ∀ (H1 : Heap) (locs1 : List Loc), va_P D cls (rW q xa th ca st co ra x rc im hf rz fM gT cK) H1 → va_S A H0 H1 locs1 → W p l e R s m args below meth c H1 locs1 cells slots Q (F0 m (pc + 3) ls rest)) : W p l e R s m args below meth c H locs cells slots Q (F0 m pc ls (.int x :: .ref (xa 0) :: rest)) :=
  va_put (D := D) (ci := 3) (C := R_R) (T := F_R) (N := 18) (ty := .int) S.1 S.2.1 S.2.2.2.2 in_R t_R t_R_ok n_R S.2.2.2.1 hK hP hD hS 0 rfl rfl 13 (by decide) (S.2.2.2.2 _ hl) (fun _ h => h) rfl (t_R_ok 13 (by decide)) rfl rfl (Nat.le_of_ble_eq_true rfl) hdg (fun H1 locs1 hP1 _ hS1 => kk H1 locs1 hP1 hS1)
theorem r_put_rc (S : CallFix p m c cc nL s args TB own) (hK : va_K D cls (tyR q) s) (hP : va_P D cls (rW q xa th ca st co ra rb rc im hf rz fM gT cK) H) (hD : va_D A (rW q xa th ca st co ra rb rc im hf rz fM gT cK)) (hS : va_S A H0 H locs) {x : Int32} (hl : Cond.fieldLink own index R_R (F_R 14).2.1 (F_R 14).2.2.1 ∈ TB) (hdg : decode cc pc = .ok (.putfield index, 3))
    (kk : ∀ (H1 : Heap) (locs1 : List Loc), va_P D cls (rW q xa th ca st co ra rb x im hf rz fM gT cK) H1 → va_S A H0 H1 locs1 → W p l e R s m args below meth c H1 locs1 cells slots Q (F0 m (pc + 3) ls rest)) : W p l e R s m args below meth c H locs cells slots Q (F0 m pc ls (.int x :: .ref (xa 0) :: rest)) :=
  va_put (D := D) (ci := 3) (C := R_R) (T := F_R) (N := 18) (ty := .int) S.1 S.2.1 S.2.2.2.2 in_R t_R t_R_ok n_R S.2.2.2.1 hK hP hD hS 0 rfl rfl 14 (by decide) (S.2.2.2.2 _ hl) (fun _ h => h) rfl (t_R_ok 14 (by decide)) rfl rfl (Nat.le_of_ble_eq_true rfl) hdg (fun H1 locs1 hP1 _ hS1 => kk H1 locs1 hP1 hS1)
theorem r_put_im (S : CallFix p m c cc nL s args TB own) (hK : va_K D cls (tyR q) s) (hP : va_P D cls (rW q xa th ca st co ra rb rc im hf rz fM gT cK) H) (hD : va_D A (rW q xa th ca st co ra rb rc im hf rz fM gT cK)) (hS : va_S A H0 H locs) {x : Int32} (hl : Cond.fieldLink own index R_R (F_R 15).2.1 (F_R 15).2.2.1 ∈ TB) (hdg : decode cc pc = .ok (.putfield index, 3))
    (kk : ∀ (H1 : Heap) (locs1 : List Loc), va_P D cls (rW q xa th ca st co ra rb rc x hf rz fM gT cK) H1 → va_S A H0 H1 locs1 → W p l e R s m args below meth c H1 locs1 cells slots Q (F0 m (pc + 3) ls rest)) : W p l e R s m args below meth c H locs cells slots Q (F0 m pc ls (.int x :: .ref (xa 0) :: rest)) :=
  va_put (D := D) (ci := 3) (C := R_R) (T := F_R) (N := 18) (ty := .int) S.1 S.2.1 S.2.2.2.2 in_R t_R t_R_ok n_R S.2.2.2.1 hK hP hD hS 0 rfl rfl 15 (by decide) (S.2.2.2.2 _ hl) (fun _ h => h) rfl (t_R_ok 15 (by decide)) rfl rfl (Nat.le_of_ble_eq_true rfl) hdg (fun H1 locs1 hP1 _ hS1 => kk H1 locs1 hP1 hS1)
theorem r_put_hf (S : CallFix p m c cc nL s args TB own) (hK : va_K D cls (tyR q) s) (hP : va_P D cls (rW q xa th ca st co ra rb rc im hf rz fM gT cK) H) (hD : va_D A (rW q xa th ca st co ra rb rc im hf rz fM gT cK)) (hS : va_S A H0 H locs) {x : Int32} (hl : Cond.fieldLink own index R_R (F_R 16).2.1 (F_R 16).2.2.1 ∈ TB) (hdg : decode cc pc = .ok (.putfield index, 3))
    (kk : ∀ (H1 : Heap) (locs1 : List Loc), va_P D cls (rW q xa th ca st co ra rb rc im x rz fM gT cK) H1 → va_S A H0 H1 locs1 → W p l e R s m args below meth c H1 locs1 cells slots Q (F0 m (pc + 3) ls rest)) : W p l e R s m args below meth c H locs cells slots Q (F0 m pc ls (.int x :: .ref (xa 0) :: rest)) :=
  va_put (D := D) (ci := 3) (C := R_R) (T := F_R) (N := 18) (ty := .int) S.1 S.2.1 S.2.2.2.2 in_R t_R t_R_ok n_R S.2.2.2.1 hK hP hD hS 0 rfl rfl 16 (by decide) (S.2.2.2.2 _ hl) (fun _ h => h) rfl (t_R_ok 16 (by decide)) rfl rfl (Nat.le_of_ble_eq_true rfl) hdg (fun H1 locs1 hP1 _ hS1 => kk H1 locs1 hP1 hS1)
theorem r_put_rz (S : CallFix p m c cc nL s args TB own) (hK : va_K D cls (tyR q) s) (hP : va_P D cls (rW q xa th ca st co ra rb rc im hf rz fM gT cK) H) (hD : va_D A (rW q xa th ca st co ra rb rc im hf rz fM gT cK)) (hS : va_S A H0 H locs) {z : Bool} (hl : Cond.fieldLink own index R_R (F_R 17).2.1 (F_R 17).2.2.1 ∈ TB) (hdg : decode cc pc = .ok (.putfield index, 3))
    (kk : ∀ (H1 : Heap) (locs1 : List Loc), va_P D cls (rW q xa th ca st co ra rb rc im hf z fM gT cK) H1 → va_S A H0 H1 locs1 → W p l e R s m args below meth c H1 locs1 cells slots Q (F0 m (pc + 3) ls rest)) : W p l e R s m args below meth c H locs cells slots Q (F0 m pc ls (.int (b2i z) :: .ref (xa 0) :: rest)) :=
  va_put (D := D) (ci := 3) (C := R_R) (T := F_R) (N := 18) (ty := .boolean) S.1 S.2.1 S.2.2.2.2 in_R t_R t_R_ok n_R S.2.2.2.1 hK hP hD hS 0 rfl rfl 17 (by decide) (S.2.2.2.2 _ hl) (fun _ h => h) rfl (t_R_ok 17 (by decide)) (b2i_nar z) (b2i_fit z) (Nat.le_of_ble_eq_true rfl) hdg (fun H1 locs1 hP1 _ hS1 => kk H1 locs1 hP1 hS1)
theorem r_ald_mem (S : CallFix p m c cc nL s args TB own) (hK : va_K D cls (tyR q) s) (hP : va_P D cls (rW q xa th ca st co ra rb rc im hf rz fM gT cK) H) {i : Int32} (hin : vp_in i 512) (hdg : decode cc pc = .ok (.iaload, 1))
    (kk : W p l e R s m args below meth c H locs cells slots Q (F0 m (pc + 1) ls (.int (fM i.toNatClampNeg) :: rest))) : W p l e R s m args below meth c H locs cells slots Q (F0 m pc ls (.int i :: .ref (xa 1) :: rest)) :=
  va_iald (D := D) S.1 S.2.1 hK hP 1 0 rfl rfl hin hdg kk
theorem r_ast_mem (S : CallFix p m c cc nL s args TB own) (hK : va_K D cls (tyR q) s) (hP : va_P D cls (rW q xa th ca st co ra rb rc im hf rz fM gT cK) H) (hD : va_D A (rW q xa th ca st co ra rb rc im hf rz fM gT cK)) (hS : va_S A H0 H locs) {i x : Int32} (hin : vp_in i 512) (hdg : decode cc pc = .ok (.iastore, 1))
    (kk : ∀ (H1 : Heap) (locs1 : List Loc), va_P D cls (rW q xa th ca st co ra rb rc im hf rz (upd fM i.toNatClampNeg x) gT cK) H1 → va_S A H0 H1 locs1 → W p l e R s m args below meth c H1 locs1 cells slots Q (F0 m (pc + 1) ls rest)) : W p l e R s m args below meth c H locs cells slots Q (F0 m pc ls (.int x :: .int i :: .ref (xa 1) :: rest)) :=
  va_iast (D := D) S.1 S.2.1 hK hP hD hS 1 0 rfl rfl hin hdg (fun H1 locs1 hP1 _ hS1 => kk H1 locs1 hP1 hS1)
theorem r_ald_tag (S : CallFix p m c cc nL s args TB own) (hK : va_K D cls (tyR q) s) (hP : va_P D cls (rW q xa th ca st co ra rb rc im hf rz fM gT cK) H) {i : Int32} (hin : vp_in i 64) (hdg : decode cc pc = .ok (.baload, 1))
    (kk : W p l e R s m args below meth c H locs cells slots Q (F0 m (pc + 1) ls (.int (b2i (gT i.toNatClampNeg)) :: rest))) : W p l e R s m args below meth c H locs cells slots Q (F0 m pc ls (.int i :: .ref (xa 2) :: rest)) :=
  va_zald (D := D) S.1 S.2.1 hK hP 2 1 rfl rfl hin hdg kk
theorem r_ast_tag (S : CallFix p m c cc nL s args TB own) (hK : va_K D cls (tyR q) s) (hP : va_P D cls (rW q xa th ca st co ra rb rc im hf rz fM gT cK) H) (hD : va_D A (rW q xa th ca st co ra rb rc im hf rz fM gT cK)) (hS : va_S A H0 H locs) {i : Int32} {z : Bool} (hin : vp_in i 64) (hdg : decode cc pc = .ok (.bastore, 1))
    (kk : ∀ (H1 : Heap) (locs1 : List Loc), va_P D cls (rW q xa th ca st co ra rb rc im hf rz fM (va_up gT i.toNatClampNeg z) cK) H1 → va_S A H0 H1 locs1 → W p l e R s m args below meth c H1 locs1 cells slots Q (F0 m (pc + 1) ls rest)) : W p l e R s m args below meth c H locs cells slots Q (F0 m pc ls (.int (b2i z) :: .int i :: .ref (xa 2) :: rest)) := by
  refine va_zast (D := D) S.1 S.2.1 hK hP hD hS 2 1 rfl rfl hin hdg (fun H1 locs1 hP1 _ hS1 => ?_)
  rw [b2i_vp, ← up_T] at hP1
  exact kk H1 locs1 hP1 hS1
theorem r_ald_v (S : CallFix p m c cc nL s args TB own) (hK : va_K D cls (tyR q) s) (hP : va_P D cls (rW q xa th ca st co ra rb rc im hf rz fM gT cK) H) {i : Int32} (hin : vp_in i 12) (hdg : decode cc pc = .ok (.baload, 1))
    (kk : W p l e R s m args below meth c H locs cells slots Q (F0 m (pc + 1) ls (.int (b2i (k_v (cK i.toNatClampNeg))) :: rest))) : W p l e R s m args below meth c H locs cells slots Q (F0 m pc ls (.int i :: .ref (xa 3) :: rest)) :=
  va_zald (D := D) S.1 S.2.1 hK hP 3 2 rfl rfl hin hdg kk
theorem r_ast_v (S : CallFix p m c cc nL s args TB own) (hK : va_K D cls (tyR q) s) (hP : va_P D cls (rW q xa th ca st co ra rb rc im hf rz fM gT cK) H) (hD : va_D A (rW q xa th ca st co ra rb rc im hf rz fM gT cK)) (hS : va_S A H0 H locs) {i : Int32} {z : Bool} (hin : vp_in i 12) (hdg : decode cc pc = .ok (.bastore, 1))
    (kk : ∀ (H1 : Heap) (locs1 : List Loc), va_P D cls (rW q xa th ca st co ra rb rc im hf rz fM gT (va_up cK i.toNatClampNeg (s_v (cK i.toNatClampNeg) z))) H1 → va_S A H0 H1 locs1 → W p l e R s m args below meth c H1 locs1 cells slots Q (F0 m (pc + 1) ls rest)) : W p l e R s m args below meth c H locs cells slots Q (F0 m pc ls (.int (b2i z) :: .int i :: .ref (xa 3) :: rest)) := by
  have e_v : (fun j => b2i (k_v (va_up cK i.toNatClampNeg (s_v (cK i.toNatClampNeg) z) j))) = upd (fun j => b2i (k_v (cK j))) i.toNatClampNeg (b2i z) := by
    funext j
    by_cases h : j = i.toNatClampNeg
    · rw [h]; simp [va_up, upd, k_v, s_v]
    · simp [va_up, upd, h]
  have e_b : (fun j => k_b (va_up cK i.toNatClampNeg (s_v (cK i.toNatClampNeg) z) j)) = fun j => k_b (cK j) := by
    funext j
    by_cases h : j = i.toNatClampNeg
    · rw [h]; simp [va_up, k_b, s_v]
    · simp [va_up, h]
  have e_t : (fun j => k_t (va_up cK i.toNatClampNeg (s_v (cK i.toNatClampNeg) z) j)) = fun j => k_t (cK j) := by
    funext j
    by_cases h : j = i.toNatClampNeg
    · rw [h]; simp [va_up, k_t, s_v]
    · simp [va_up, h]
  have e_a : (fun j => k_a (va_up cK i.toNatClampNeg (s_v (cK i.toNatClampNeg) z) j)) = fun j => k_a (cK j) := by
    funext j
    by_cases h : j = i.toNatClampNeg
    · rw [h]; simp [va_up, k_a, s_v]
    · simp [va_up, h]
  have e_p : (fun j => k_p (va_up cK i.toNatClampNeg (s_v (cK i.toNatClampNeg) z) j)) = fun j => k_p (cK j) := by
    funext j
    by_cases h : j = i.toNatClampNeg
    · rw [h]; simp [va_up, k_p, s_v]
    · simp [va_up, h]
  have e_y : (fun j => k_y (va_up cK i.toNatClampNeg (s_v (cK i.toNatClampNeg) z) j)) = fun j => k_y (cK j) := by
    funext j
    by_cases h : j = i.toNatClampNeg
    · rw [h]; simp [va_up, k_y, s_v]
    · simp [va_up, h]
  refine va_zast (D := D) S.1 S.2.1 hK hP hD hS 3 2 rfl rfl hin hdg (fun H1 locs1 hP1 _ hS1 => kk H1 locs1 ?_ hS1)
  rw [b2i_vp] at hP1
  unfold rW
  rw [e_v, e_b, e_t, e_a, e_p, e_y]
  exact hP1
theorem r_ald_b (S : CallFix p m c cc nL s args TB own) (hK : va_K D cls (tyR q) s) (hP : va_P D cls (rW q xa th ca st co ra rb rc im hf rz fM gT cK) H) {i : Int32} (hin : vp_in i 12) (hdg : decode cc pc = .ok (.iaload, 1))
    (kk : W p l e R s m args below meth c H locs cells slots Q (F0 m (pc + 1) ls (.int (k_b (cK i.toNatClampNeg)) :: rest))) : W p l e R s m args below meth c H locs cells slots Q (F0 m pc ls (.int i :: .ref (xa 4) :: rest)) :=
  va_iald (D := D) S.1 S.2.1 hK hP 4 3 rfl rfl hin hdg kk
theorem r_ast_b (S : CallFix p m c cc nL s args TB own) (hK : va_K D cls (tyR q) s) (hP : va_P D cls (rW q xa th ca st co ra rb rc im hf rz fM gT cK) H) (hD : va_D A (rW q xa th ca st co ra rb rc im hf rz fM gT cK)) (hS : va_S A H0 H locs) {i x : Int32} (hin : vp_in i 12) (hdg : decode cc pc = .ok (.iastore, 1))
    (kk : ∀ (H1 : Heap) (locs1 : List Loc), va_P D cls (rW q xa th ca st co ra rb rc im hf rz fM gT (va_up cK i.toNatClampNeg (s_b (cK i.toNatClampNeg) x))) H1 → va_S A H0 H1 locs1 → W p l e R s m args below meth c H1 locs1 cells slots Q (F0 m (pc + 1) ls rest)) : W p l e R s m args below meth c H locs cells slots Q (F0 m pc ls (.int x :: .int i :: .ref (xa 4) :: rest)) := by
  have e_v : (fun j => b2i (k_v (va_up cK i.toNatClampNeg (s_b (cK i.toNatClampNeg) x) j))) = fun j => b2i (k_v (cK j)) := by
    funext j
    by_cases h : j = i.toNatClampNeg
    · rw [h]; simp [va_up, k_v, s_b]
    · simp [va_up, h]
  have e_b : (fun j => k_b (va_up cK i.toNatClampNeg (s_b (cK i.toNatClampNeg) x) j)) = upd (fun j => k_b (cK j)) i.toNatClampNeg (x) := by
    funext j
    by_cases h : j = i.toNatClampNeg
    · rw [h]; simp [va_up, upd, k_b, s_b]
    · simp [va_up, upd, h]
  have e_t : (fun j => k_t (va_up cK i.toNatClampNeg (s_b (cK i.toNatClampNeg) x) j)) = fun j => k_t (cK j) := by
    funext j
    by_cases h : j = i.toNatClampNeg
    · rw [h]; simp [va_up, k_t, s_b]
    · simp [va_up, h]
  have e_a : (fun j => k_a (va_up cK i.toNatClampNeg (s_b (cK i.toNatClampNeg) x) j)) = fun j => k_a (cK j) := by
    funext j
    by_cases h : j = i.toNatClampNeg
    · rw [h]; simp [va_up, k_a, s_b]
    · simp [va_up, h]
  have e_p : (fun j => k_p (va_up cK i.toNatClampNeg (s_b (cK i.toNatClampNeg) x) j)) = fun j => k_p (cK j) := by
    funext j
    by_cases h : j = i.toNatClampNeg
    · rw [h]; simp [va_up, k_p, s_b]
    · simp [va_up, h]
  have e_y : (fun j => k_y (va_up cK i.toNatClampNeg (s_b (cK i.toNatClampNeg) x) j)) = fun j => k_y (cK j) := by
    funext j
    by_cases h : j = i.toNatClampNeg
    · rw [h]; simp [va_up, k_y, s_b]
    · simp [va_up, h]
  refine va_iast (D := D) S.1 S.2.1 hK hP hD hS 4 3 rfl rfl hin hdg (fun H1 locs1 hP1 _ hS1 => kk H1 locs1 ?_ hS1)
  unfold rW
  rw [e_v, e_b, e_t, e_a, e_p, e_y]
  exact hP1
theorem r_ald_t (S : CallFix p m c cc nL s args TB own) (hK : va_K D cls (tyR q) s) (hP : va_P D cls (rW q xa th ca st co ra rb rc im hf rz fM gT cK) H) {i : Int32} (hin : vp_in i 12) (hdg : decode cc pc = .ok (.iaload, 1))
    (kk : W p l e R s m args below meth c H locs cells slots Q (F0 m (pc + 1) ls (.int (k_t (cK i.toNatClampNeg)) :: rest))) : W p l e R s m args below meth c H locs cells slots Q (F0 m pc ls (.int i :: .ref (xa 5) :: rest)) :=
  va_iald (D := D) S.1 S.2.1 hK hP 5 4 rfl rfl hin hdg kk
theorem r_ast_t (S : CallFix p m c cc nL s args TB own) (hK : va_K D cls (tyR q) s) (hP : va_P D cls (rW q xa th ca st co ra rb rc im hf rz fM gT cK) H) (hD : va_D A (rW q xa th ca st co ra rb rc im hf rz fM gT cK)) (hS : va_S A H0 H locs) {i x : Int32} (hin : vp_in i 12) (hdg : decode cc pc = .ok (.iastore, 1))
    (kk : ∀ (H1 : Heap) (locs1 : List Loc), va_P D cls (rW q xa th ca st co ra rb rc im hf rz fM gT (va_up cK i.toNatClampNeg (s_t (cK i.toNatClampNeg) x))) H1 → va_S A H0 H1 locs1 → W p l e R s m args below meth c H1 locs1 cells slots Q (F0 m (pc + 1) ls rest)) : W p l e R s m args below meth c H locs cells slots Q (F0 m pc ls (.int x :: .int i :: .ref (xa 5) :: rest)) := by
  have e_v : (fun j => b2i (k_v (va_up cK i.toNatClampNeg (s_t (cK i.toNatClampNeg) x) j))) = fun j => b2i (k_v (cK j)) := by
    funext j
    by_cases h : j = i.toNatClampNeg
    · rw [h]; simp [va_up, k_v, s_t]
    · simp [va_up, h]
  have e_b : (fun j => k_b (va_up cK i.toNatClampNeg (s_t (cK i.toNatClampNeg) x) j)) = fun j => k_b (cK j) := by
    funext j
    by_cases h : j = i.toNatClampNeg
    · rw [h]; simp [va_up, k_b, s_t]
    · simp [va_up, h]
  have e_t : (fun j => k_t (va_up cK i.toNatClampNeg (s_t (cK i.toNatClampNeg) x) j)) = upd (fun j => k_t (cK j)) i.toNatClampNeg (x) := by
    funext j
    by_cases h : j = i.toNatClampNeg
    · rw [h]; simp [va_up, upd, k_t, s_t]
    · simp [va_up, upd, h]
  have e_a : (fun j => k_a (va_up cK i.toNatClampNeg (s_t (cK i.toNatClampNeg) x) j)) = fun j => k_a (cK j) := by
    funext j
    by_cases h : j = i.toNatClampNeg
    · rw [h]; simp [va_up, k_a, s_t]
    · simp [va_up, h]
  have e_p : (fun j => k_p (va_up cK i.toNatClampNeg (s_t (cK i.toNatClampNeg) x) j)) = fun j => k_p (cK j) := by
    funext j
    by_cases h : j = i.toNatClampNeg
    · rw [h]; simp [va_up, k_p, s_t]
    · simp [va_up, h]
  have e_y : (fun j => k_y (va_up cK i.toNatClampNeg (s_t (cK i.toNatClampNeg) x) j)) = fun j => k_y (cK j) := by
    funext j
    by_cases h : j = i.toNatClampNeg
    · rw [h]; simp [va_up, k_y, s_t]
    · simp [va_up, h]
  refine va_iast (D := D) S.1 S.2.1 hK hP hD hS 5 4 rfl rfl hin hdg (fun H1 locs1 hP1 _ hS1 => kk H1 locs1 ?_ hS1)
  unfold rW
  rw [e_v, e_b, e_t, e_a, e_p, e_y]
  exact hP1
theorem r_ald_a (S : CallFix p m c cc nL s args TB own) (hK : va_K D cls (tyR q) s) (hP : va_P D cls (rW q xa th ca st co ra rb rc im hf rz fM gT cK) H) {i : Int32} (hin : vp_in i 12) (hdg : decode cc pc = .ok (.iaload, 1))
    (kk : W p l e R s m args below meth c H locs cells slots Q (F0 m (pc + 1) ls (.int (k_a (cK i.toNatClampNeg)) :: rest))) : W p l e R s m args below meth c H locs cells slots Q (F0 m pc ls (.int i :: .ref (xa 6) :: rest)) :=
  va_iald (D := D) S.1 S.2.1 hK hP 6 5 rfl rfl hin hdg kk
theorem r_ast_a (S : CallFix p m c cc nL s args TB own) (hK : va_K D cls (tyR q) s) (hP : va_P D cls (rW q xa th ca st co ra rb rc im hf rz fM gT cK) H) (hD : va_D A (rW q xa th ca st co ra rb rc im hf rz fM gT cK)) (hS : va_S A H0 H locs) {i x : Int32} (hin : vp_in i 12) (hdg : decode cc pc = .ok (.iastore, 1))
    (kk : ∀ (H1 : Heap) (locs1 : List Loc), va_P D cls (rW q xa th ca st co ra rb rc im hf rz fM gT (va_up cK i.toNatClampNeg (s_a (cK i.toNatClampNeg) x))) H1 → va_S A H0 H1 locs1 → W p l e R s m args below meth c H1 locs1 cells slots Q (F0 m (pc + 1) ls rest)) : W p l e R s m args below meth c H locs cells slots Q (F0 m pc ls (.int x :: .int i :: .ref (xa 6) :: rest)) := by
  have e_v : (fun j => b2i (k_v (va_up cK i.toNatClampNeg (s_a (cK i.toNatClampNeg) x) j))) = fun j => b2i (k_v (cK j)) := by
    funext j
    by_cases h : j = i.toNatClampNeg
    · rw [h]; simp [va_up, k_v, s_a]
    · simp [va_up, h]
  have e_b : (fun j => k_b (va_up cK i.toNatClampNeg (s_a (cK i.toNatClampNeg) x) j)) = fun j => k_b (cK j) := by
    funext j
    by_cases h : j = i.toNatClampNeg
    · rw [h]; simp [va_up, k_b, s_a]
    · simp [va_up, h]
  have e_t : (fun j => k_t (va_up cK i.toNatClampNeg (s_a (cK i.toNatClampNeg) x) j)) = fun j => k_t (cK j) := by
    funext j
    by_cases h : j = i.toNatClampNeg
    · rw [h]; simp [va_up, k_t, s_a]
    · simp [va_up, h]
  have e_a : (fun j => k_a (va_up cK i.toNatClampNeg (s_a (cK i.toNatClampNeg) x) j)) = upd (fun j => k_a (cK j)) i.toNatClampNeg (x) := by
    funext j
    by_cases h : j = i.toNatClampNeg
    · rw [h]; simp [va_up, upd, k_a, s_a]
    · simp [va_up, upd, h]
  have e_p : (fun j => k_p (va_up cK i.toNatClampNeg (s_a (cK i.toNatClampNeg) x) j)) = fun j => k_p (cK j) := by
    funext j
    by_cases h : j = i.toNatClampNeg
    · rw [h]; simp [va_up, k_p, s_a]
    · simp [va_up, h]
  have e_y : (fun j => k_y (va_up cK i.toNatClampNeg (s_a (cK i.toNatClampNeg) x) j)) = fun j => k_y (cK j) := by
    funext j
    by_cases h : j = i.toNatClampNeg
    · rw [h]; simp [va_up, k_y, s_a]
    · simp [va_up, h]
  refine va_iast (D := D) S.1 S.2.1 hK hP hD hS 6 5 rfl rfl hin hdg (fun H1 locs1 hP1 _ hS1 => kk H1 locs1 ?_ hS1)
  unfold rW
  rw [e_v, e_b, e_t, e_a, e_p, e_y]
  exact hP1
theorem r_ald_p (S : CallFix p m c cc nL s args TB own) (hK : va_K D cls (tyR q) s) (hP : va_P D cls (rW q xa th ca st co ra rb rc im hf rz fM gT cK) H) {i : Int32} (hin : vp_in i 12) (hdg : decode cc pc = .ok (.iaload, 1))
    (kk : W p l e R s m args below meth c H locs cells slots Q (F0 m (pc + 1) ls (.int (k_p (cK i.toNatClampNeg)) :: rest))) : W p l e R s m args below meth c H locs cells slots Q (F0 m pc ls (.int i :: .ref (xa 7) :: rest)) :=
  va_iald (D := D) S.1 S.2.1 hK hP 7 6 rfl rfl hin hdg kk
theorem r_ast_p (S : CallFix p m c cc nL s args TB own) (hK : va_K D cls (tyR q) s) (hP : va_P D cls (rW q xa th ca st co ra rb rc im hf rz fM gT cK) H) (hD : va_D A (rW q xa th ca st co ra rb rc im hf rz fM gT cK)) (hS : va_S A H0 H locs) {i x : Int32} (hin : vp_in i 12) (hdg : decode cc pc = .ok (.iastore, 1))
    (kk : ∀ (H1 : Heap) (locs1 : List Loc), va_P D cls (rW q xa th ca st co ra rb rc im hf rz fM gT (va_up cK i.toNatClampNeg (s_p (cK i.toNatClampNeg) x))) H1 → va_S A H0 H1 locs1 → W p l e R s m args below meth c H1 locs1 cells slots Q (F0 m (pc + 1) ls rest)) : W p l e R s m args below meth c H locs cells slots Q (F0 m pc ls (.int x :: .int i :: .ref (xa 7) :: rest)) := by
  have e_v : (fun j => b2i (k_v (va_up cK i.toNatClampNeg (s_p (cK i.toNatClampNeg) x) j))) = fun j => b2i (k_v (cK j)) := by
    funext j
    by_cases h : j = i.toNatClampNeg
    · rw [h]; simp [va_up, k_v, s_p]
    · simp [va_up, h]
  have e_b : (fun j => k_b (va_up cK i.toNatClampNeg (s_p (cK i.toNatClampNeg) x) j)) = fun j => k_b (cK j) := by
    funext j
    by_cases h : j = i.toNatClampNeg
    · rw [h]; simp [va_up, k_b, s_p]
    · simp [va_up, h]
  have e_t : (fun j => k_t (va_up cK i.toNatClampNeg (s_p (cK i.toNatClampNeg) x) j)) = fun j => k_t (cK j) := by
    funext j
    by_cases h : j = i.toNatClampNeg
    · rw [h]; simp [va_up, k_t, s_p]
    · simp [va_up, h]
  have e_a : (fun j => k_a (va_up cK i.toNatClampNeg (s_p (cK i.toNatClampNeg) x) j)) = fun j => k_a (cK j) := by
    funext j
    by_cases h : j = i.toNatClampNeg
    · rw [h]; simp [va_up, k_a, s_p]
    · simp [va_up, h]
  have e_p : (fun j => k_p (va_up cK i.toNatClampNeg (s_p (cK i.toNatClampNeg) x) j)) = upd (fun j => k_p (cK j)) i.toNatClampNeg (x) := by
    funext j
    by_cases h : j = i.toNatClampNeg
    · rw [h]; simp [va_up, upd, k_p, s_p]
    · simp [va_up, upd, h]
  have e_y : (fun j => k_y (va_up cK i.toNatClampNeg (s_p (cK i.toNatClampNeg) x) j)) = fun j => k_y (cK j) := by
    funext j
    by_cases h : j = i.toNatClampNeg
    · rw [h]; simp [va_up, k_y, s_p]
    · simp [va_up, h]
  refine va_iast (D := D) S.1 S.2.1 hK hP hD hS 7 6 rfl rfl hin hdg (fun H1 locs1 hP1 _ hS1 => kk H1 locs1 ?_ hS1)
  unfold rW
  rw [e_v, e_b, e_t, e_a, e_p, e_y]
  exact hP1
theorem r_ald_y (S : CallFix p m c cc nL s args TB own) (hK : va_K D cls (tyR q) s) (hP : va_P D cls (rW q xa th ca st co ra rb rc im hf rz fM gT cK) H) {i : Int32} (hin : vp_in i 12) (hdg : decode cc pc = .ok (.iaload, 1))
    (kk : W p l e R s m args below meth c H locs cells slots Q (F0 m (pc + 1) ls (.int (k_y (cK i.toNatClampNeg)) :: rest))) : W p l e R s m args below meth c H locs cells slots Q (F0 m pc ls (.int i :: .ref (xa 8) :: rest)) :=
  va_iald (D := D) S.1 S.2.1 hK hP 8 7 rfl rfl hin hdg kk
theorem r_ast_y (S : CallFix p m c cc nL s args TB own) (hK : va_K D cls (tyR q) s) (hP : va_P D cls (rW q xa th ca st co ra rb rc im hf rz fM gT cK) H) (hD : va_D A (rW q xa th ca st co ra rb rc im hf rz fM gT cK)) (hS : va_S A H0 H locs) {i x : Int32} (hin : vp_in i 12) (hdg : decode cc pc = .ok (.iastore, 1))
    (kk : ∀ (H1 : Heap) (locs1 : List Loc), va_P D cls (rW q xa th ca st co ra rb rc im hf rz fM gT (va_up cK i.toNatClampNeg (s_y (cK i.toNatClampNeg) x))) H1 → va_S A H0 H1 locs1 → W p l e R s m args below meth c H1 locs1 cells slots Q (F0 m (pc + 1) ls rest)) : W p l e R s m args below meth c H locs cells slots Q (F0 m pc ls (.int x :: .int i :: .ref (xa 8) :: rest)) := by
  have e_v : (fun j => b2i (k_v (va_up cK i.toNatClampNeg (s_y (cK i.toNatClampNeg) x) j))) = fun j => b2i (k_v (cK j)) := by
    funext j
    by_cases h : j = i.toNatClampNeg
    · rw [h]; simp [va_up, k_v, s_y]
    · simp [va_up, h]
  have e_b : (fun j => k_b (va_up cK i.toNatClampNeg (s_y (cK i.toNatClampNeg) x) j)) = fun j => k_b (cK j) := by
    funext j
    by_cases h : j = i.toNatClampNeg
    · rw [h]; simp [va_up, k_b, s_y]
    · simp [va_up, h]
  have e_t : (fun j => k_t (va_up cK i.toNatClampNeg (s_y (cK i.toNatClampNeg) x) j)) = fun j => k_t (cK j) := by
    funext j
    by_cases h : j = i.toNatClampNeg
    · rw [h]; simp [va_up, k_t, s_y]
    · simp [va_up, h]
  have e_a : (fun j => k_a (va_up cK i.toNatClampNeg (s_y (cK i.toNatClampNeg) x) j)) = fun j => k_a (cK j) := by
    funext j
    by_cases h : j = i.toNatClampNeg
    · rw [h]; simp [va_up, k_a, s_y]
    · simp [va_up, h]
  have e_p : (fun j => k_p (va_up cK i.toNatClampNeg (s_y (cK i.toNatClampNeg) x) j)) = fun j => k_p (cK j) := by
    funext j
    by_cases h : j = i.toNatClampNeg
    · rw [h]; simp [va_up, k_p, s_y]
    · simp [va_up, h]
  have e_y : (fun j => k_y (va_up cK i.toNatClampNeg (s_y (cK i.toNatClampNeg) x) j)) = upd (fun j => k_y (cK j)) i.toNatClampNeg (x) := by
    funext j
    by_cases h : j = i.toNatClampNeg
    · rw [h]; simp [va_up, upd, k_y, s_y]
    · simp [va_up, upd, h]
  refine va_iast (D := D) S.1 S.2.1 hK hP hD hS 8 7 rfl rfl hin hdg (fun H1 locs1 hP1 _ hS1 => kk H1 locs1 ?_ hS1)
  unfold rW
  rw [e_v, e_b, e_t, e_a, e_p, e_y]
  exact hP1
theorem r_ald_vO (S : CallFix p m c cc nL s args TB own) (hK : va_K D cls (tyR q) s) {i : Int32} {y : Cp} (hP : va_P D cls (rW q xa th ca st co ra rb rc im hf rz fM gT (va_up cK i.toNatClampNeg y)) H) (hin : vp_in i 12) {v : Int32} (hv : b2i (k_v y) = v) (hdg : decode cc pc = .ok (.baload, 1))
    (kk : W p l e R s m args below meth c H locs cells slots Q (F0 m (pc + 1) ls (.int v :: rest))) : W p l e R s m args below meth c H locs cells slots Q (F0 m pc ls (.int i :: .ref (xa 3) :: rest)) := by
  refine r_ald_v S hK hP hin hdg ?_
  rw [va_up_self, hv]
  exact kk
theorem r_ast_vO (S : CallFix p m c cc nL s args TB own) (hK : va_K D cls (tyR q) s) {i : Int32} {y : Cp} (hP : va_P D cls (rW q xa th ca st co ra rb rc im hf rz fM gT (va_up cK i.toNatClampNeg y)) H) (hD : va_D A (rW q xa th ca st co ra rb rc im hf rz fM gT (va_up cK i.toNatClampNeg y))) (hS : va_S A H0 H locs) {z : Bool} (hin : vp_in i 12) (hdg : decode cc pc = .ok (.bastore, 1))
    (kk : ∀ (H1 : Heap) (locs1 : List Loc), va_P D cls (rW q xa th ca st co ra rb rc im hf rz fM gT (va_up cK i.toNatClampNeg (s_v y z))) H1 → va_S A H0 H1 locs1 → W p l e R s m args below meth c H1 locs1 cells slots Q (F0 m (pc + 1) ls rest)) : W p l e R s m args below meth c H locs cells slots Q (F0 m pc ls (.int (b2i z) :: .int i :: .ref (xa 3) :: rest)) :=
  r_ast_v S hK hP hD hS hin hdg (fun H1 locs1 hP1 hS1 => kk H1 locs1 (by rw [va_up_self, bx_uu] at hP1; exact hP1) hS1)
theorem r_ald_bO (S : CallFix p m c cc nL s args TB own) (hK : va_K D cls (tyR q) s) {i : Int32} {y : Cp} (hP : va_P D cls (rW q xa th ca st co ra rb rc im hf rz fM gT (va_up cK i.toNatClampNeg y)) H) (hin : vp_in i 12) {v : Int32} (hv : k_b y = v) (hdg : decode cc pc = .ok (.iaload, 1))
    (kk : W p l e R s m args below meth c H locs cells slots Q (F0 m (pc + 1) ls (.int v :: rest))) : W p l e R s m args below meth c H locs cells slots Q (F0 m pc ls (.int i :: .ref (xa 4) :: rest)) := by
  refine r_ald_b S hK hP hin hdg ?_
  rw [va_up_self, hv]
  exact kk
theorem r_ast_bO (S : CallFix p m c cc nL s args TB own) (hK : va_K D cls (tyR q) s) {i : Int32} {y : Cp} (hP : va_P D cls (rW q xa th ca st co ra rb rc im hf rz fM gT (va_up cK i.toNatClampNeg y)) H) (hD : va_D A (rW q xa th ca st co ra rb rc im hf rz fM gT (va_up cK i.toNatClampNeg y))) (hS : va_S A H0 H locs) {x : Int32} (hin : vp_in i 12) (hdg : decode cc pc = .ok (.iastore, 1))
    (kk : ∀ (H1 : Heap) (locs1 : List Loc), va_P D cls (rW q xa th ca st co ra rb rc im hf rz fM gT (va_up cK i.toNatClampNeg (s_b y x))) H1 → va_S A H0 H1 locs1 → W p l e R s m args below meth c H1 locs1 cells slots Q (F0 m (pc + 1) ls rest)) : W p l e R s m args below meth c H locs cells slots Q (F0 m pc ls (.int x :: .int i :: .ref (xa 4) :: rest)) :=
  r_ast_b S hK hP hD hS hin hdg (fun H1 locs1 hP1 hS1 => kk H1 locs1 (by rw [va_up_self, bx_uu] at hP1; exact hP1) hS1)
theorem r_ald_tO (S : CallFix p m c cc nL s args TB own) (hK : va_K D cls (tyR q) s) {i : Int32} {y : Cp} (hP : va_P D cls (rW q xa th ca st co ra rb rc im hf rz fM gT (va_up cK i.toNatClampNeg y)) H) (hin : vp_in i 12) {v : Int32} (hv : k_t y = v) (hdg : decode cc pc = .ok (.iaload, 1))
    (kk : W p l e R s m args below meth c H locs cells slots Q (F0 m (pc + 1) ls (.int v :: rest))) : W p l e R s m args below meth c H locs cells slots Q (F0 m pc ls (.int i :: .ref (xa 5) :: rest)) := by
  refine r_ald_t S hK hP hin hdg ?_
  rw [va_up_self, hv]
  exact kk
theorem r_ast_tO (S : CallFix p m c cc nL s args TB own) (hK : va_K D cls (tyR q) s) {i : Int32} {y : Cp} (hP : va_P D cls (rW q xa th ca st co ra rb rc im hf rz fM gT (va_up cK i.toNatClampNeg y)) H) (hD : va_D A (rW q xa th ca st co ra rb rc im hf rz fM gT (va_up cK i.toNatClampNeg y))) (hS : va_S A H0 H locs) {x : Int32} (hin : vp_in i 12) (hdg : decode cc pc = .ok (.iastore, 1))
    (kk : ∀ (H1 : Heap) (locs1 : List Loc), va_P D cls (rW q xa th ca st co ra rb rc im hf rz fM gT (va_up cK i.toNatClampNeg (s_t y x))) H1 → va_S A H0 H1 locs1 → W p l e R s m args below meth c H1 locs1 cells slots Q (F0 m (pc + 1) ls rest)) : W p l e R s m args below meth c H locs cells slots Q (F0 m pc ls (.int x :: .int i :: .ref (xa 5) :: rest)) :=
  r_ast_t S hK hP hD hS hin hdg (fun H1 locs1 hP1 hS1 => kk H1 locs1 (by rw [va_up_self, bx_uu] at hP1; exact hP1) hS1)
theorem r_ald_aO (S : CallFix p m c cc nL s args TB own) (hK : va_K D cls (tyR q) s) {i : Int32} {y : Cp} (hP : va_P D cls (rW q xa th ca st co ra rb rc im hf rz fM gT (va_up cK i.toNatClampNeg y)) H) (hin : vp_in i 12) {v : Int32} (hv : k_a y = v) (hdg : decode cc pc = .ok (.iaload, 1))
    (kk : W p l e R s m args below meth c H locs cells slots Q (F0 m (pc + 1) ls (.int v :: rest))) : W p l e R s m args below meth c H locs cells slots Q (F0 m pc ls (.int i :: .ref (xa 6) :: rest)) := by
  refine r_ald_a S hK hP hin hdg ?_
  rw [va_up_self, hv]
  exact kk
theorem r_ast_aO (S : CallFix p m c cc nL s args TB own) (hK : va_K D cls (tyR q) s) {i : Int32} {y : Cp} (hP : va_P D cls (rW q xa th ca st co ra rb rc im hf rz fM gT (va_up cK i.toNatClampNeg y)) H) (hD : va_D A (rW q xa th ca st co ra rb rc im hf rz fM gT (va_up cK i.toNatClampNeg y))) (hS : va_S A H0 H locs) {x : Int32} (hin : vp_in i 12) (hdg : decode cc pc = .ok (.iastore, 1))
    (kk : ∀ (H1 : Heap) (locs1 : List Loc), va_P D cls (rW q xa th ca st co ra rb rc im hf rz fM gT (va_up cK i.toNatClampNeg (s_a y x))) H1 → va_S A H0 H1 locs1 → W p l e R s m args below meth c H1 locs1 cells slots Q (F0 m (pc + 1) ls rest)) : W p l e R s m args below meth c H locs cells slots Q (F0 m pc ls (.int x :: .int i :: .ref (xa 6) :: rest)) :=
  r_ast_a S hK hP hD hS hin hdg (fun H1 locs1 hP1 hS1 => kk H1 locs1 (by rw [va_up_self, bx_uu] at hP1; exact hP1) hS1)
theorem r_ald_pO (S : CallFix p m c cc nL s args TB own) (hK : va_K D cls (tyR q) s) {i : Int32} {y : Cp} (hP : va_P D cls (rW q xa th ca st co ra rb rc im hf rz fM gT (va_up cK i.toNatClampNeg y)) H) (hin : vp_in i 12) {v : Int32} (hv : k_p y = v) (hdg : decode cc pc = .ok (.iaload, 1))
    (kk : W p l e R s m args below meth c H locs cells slots Q (F0 m (pc + 1) ls (.int v :: rest))) : W p l e R s m args below meth c H locs cells slots Q (F0 m pc ls (.int i :: .ref (xa 7) :: rest)) := by
  refine r_ald_p S hK hP hin hdg ?_
  rw [va_up_self, hv]
  exact kk
theorem r_ast_pO (S : CallFix p m c cc nL s args TB own) (hK : va_K D cls (tyR q) s) {i : Int32} {y : Cp} (hP : va_P D cls (rW q xa th ca st co ra rb rc im hf rz fM gT (va_up cK i.toNatClampNeg y)) H) (hD : va_D A (rW q xa th ca st co ra rb rc im hf rz fM gT (va_up cK i.toNatClampNeg y))) (hS : va_S A H0 H locs) {x : Int32} (hin : vp_in i 12) (hdg : decode cc pc = .ok (.iastore, 1))
    (kk : ∀ (H1 : Heap) (locs1 : List Loc), va_P D cls (rW q xa th ca st co ra rb rc im hf rz fM gT (va_up cK i.toNatClampNeg (s_p y x))) H1 → va_S A H0 H1 locs1 → W p l e R s m args below meth c H1 locs1 cells slots Q (F0 m (pc + 1) ls rest)) : W p l e R s m args below meth c H locs cells slots Q (F0 m pc ls (.int x :: .int i :: .ref (xa 7) :: rest)) :=
  r_ast_p S hK hP hD hS hin hdg (fun H1 locs1 hP1 hS1 => kk H1 locs1 (by rw [va_up_self, bx_uu] at hP1; exact hP1) hS1)
theorem r_ald_yO (S : CallFix p m c cc nL s args TB own) (hK : va_K D cls (tyR q) s) {i : Int32} {y : Cp} (hP : va_P D cls (rW q xa th ca st co ra rb rc im hf rz fM gT (va_up cK i.toNatClampNeg y)) H) (hin : vp_in i 12) {v : Int32} (hv : k_y y = v) (hdg : decode cc pc = .ok (.iaload, 1))
    (kk : W p l e R s m args below meth c H locs cells slots Q (F0 m (pc + 1) ls (.int v :: rest))) : W p l e R s m args below meth c H locs cells slots Q (F0 m pc ls (.int i :: .ref (xa 8) :: rest)) := by
  refine r_ald_y S hK hP hin hdg ?_
  rw [va_up_self, hv]
  exact kk
theorem r_ast_yO (S : CallFix p m c cc nL s args TB own) (hK : va_K D cls (tyR q) s) {i : Int32} {y : Cp} (hP : va_P D cls (rW q xa th ca st co ra rb rc im hf rz fM gT (va_up cK i.toNatClampNeg y)) H) (hD : va_D A (rW q xa th ca st co ra rb rc im hf rz fM gT (va_up cK i.toNatClampNeg y))) (hS : va_S A H0 H locs) {x : Int32} (hin : vp_in i 12) (hdg : decode cc pc = .ok (.iastore, 1))
    (kk : ∀ (H1 : Heap) (locs1 : List Loc), va_P D cls (rW q xa th ca st co ra rb rc im hf rz fM gT (va_up cK i.toNatClampNeg (s_y y x))) H1 → va_S A H0 H1 locs1 → W p l e R s m args below meth c H1 locs1 cells slots Q (F0 m (pc + 1) ls rest)) : W p l e R s m args below meth c H locs cells slots Q (F0 m pc ls (.int x :: .int i :: .ref (xa 8) :: rest)) :=
  r_ast_y S hK hP hD hS hin hdg (fun H1 locs1 hP1 hS1 => kk H1 locs1 (by rw [va_up_self, bx_uu] at hP1; exact hP1) hS1)
end OwnRef
end
section
-- contracts: pure int (or boolean) methods, writers without and with an answer; what a method is to the tables
abbrev PreW (D : va_G) (tys : List (ClassId × FieldType)) (ws : va_W) : State → Prop := fun U => va_K D cls tys U ∧ NL U ∧ va_P D cls ws U.heap
abbrev PMi (l : Launch) (y : MethodName) (b : ByteArray) (n : Nat) (r : Option FieldType) (rm : Room) (as : List Value) (D : va_G) (tys : List (ClassId × FieldType)) (ws : va_W) (v : Int32) : Prop :=
  Met l y (.code y b n r :: TB) rm (va_Pc as (PreW D tys ws)) (vp_Si (fun z => z = v)) 0 0 (fun _ => False)
abbrev WMv (l : Launch) (y : MethodName) (b : ByteArray) (n : Nat) (r : Option FieldType) (rm : Room) (as : List Value) (D : va_G) (tys : List (ClassId × FieldType)) (ws ws' : va_W) (A : Nat → Prop) : Prop :=
  Met l y (.code y b n r :: TB) rm (va_Pc as (PreW D tys ws)) (va_Qv (fun _ : Unit => True) (fun _ t => va_P D cls ws' t.heap) A) 0 0 A
abbrev WMi (l : Launch) (y : MethodName) (b : ByteArray) (n : Nat) (r : Option FieldType) (rm : Room) (as : List Value) (D : va_G) (tys : List (ClassId × FieldType)) (ws ws' : va_W) (A : Nat → Prop) (v : Int32) : Prop :=
  Met l y (.code y b n r :: TB) rm (va_Pc as (PreW D tys ws)) (va_Qi (fun (z : Int32) (_ : Unit) => z = v) (fun _ t => va_P D cls ws' t.heap) A) 0 0 A
abbrev MFd (y : MethodName) (k : Nat) : Prop := y.cls ≠ "java/lang/invoke/MethodHandle" ∧ y.cls ≠ "java/lang/invoke/VarHandle" ∧ (parseMethodDescriptor y.desc).map (fun d => d.parameters.length) = some k
abbrev MFv (y : MethodName) (b : ByteArray) (n : Nat) (r : Option FieldType) (k : Nat) : Prop :=
  Cond.code y b n r ∈ TB ∧ Cond.initialized y.cls ∈ TB ∧ Cond.instanceMethod y ∈ TB ∧ Cond.selects y.cls y y ∈ TB ∧ MFd y k
abbrev MFs (y : MethodName) (b : ByteArray) (n : Nat) (r : Option FieldType) (k : Nat) : Prop :=
  Cond.code y b n r ∈ TB ∧ Cond.initialized y.cls ∈ TB ∧ Cond.static y ∈ TB ∧ MFd y k
abbrev Rok (rm R : Room) (n : Nat) : Prop := rm.cells = 0 ∧ rm.slots = 0 ∧ rm.frames + 1 ≤ R.frames ∧ 8 + (n + 11) + rm.locals ≤ R.locals
theorem gi {y : MethodName} {b : ByteArray} {n : Nat} {r : Option FieldType} (h : Cond.code y b n r ∈ TB) : GoodIn TB (Cond.code y b n r :: TB) := by
  intro w hw
  rcases List.mem_cons.mp hw with hw | hw
  · rw [hw]; exact ⟨h, good_of_word (TB_good _ h)⟩
  · exact ⟨hw, good_of_word (TB_good _ hw)⟩
theorem bl_W {as : List Value} {D : va_G} {tys : List (ClassId × FieldType)} {ws : va_W} : FrameBlind (va_Pc as (PreW D tys ws)) :=
  fun a U g mk h => ⟨h.1, va_K.moved (u := U) (U := U.calling g mk a) (Vm.Alike.refl U.vm) h.2.1, NL_same (u := U) (U := U.calling g mk a) rfl h.2.2.1, h.2.2.2⟩
section OwnCalls
variable {p : Program} {l : Launch} {e : Env} {R : Room} {s : State} {m : MethodId} {args : Array Value} {below : List Frame} {meth : Method} {c : Code} {H : Heap} {locs : List Loc} {cells slots : Nat} {Q : State → Prop}
variable {cc : ByteArray} {pc : Nat} {ls : Array Slot} {D : va_G} {A : Nat → Prop} {tys : List (ClassId × FieldType)} {ws ws' : va_W} {H0 : Heap} {own : String} {nL index n k o : Nat}
variable {y : MethodName} {b : ByteArray} {r : Option FieldType} {rm : Room} {As st0 : List Value} {v : Int32}
theorem pw_U {as : List Value} (hK : va_K D cls tys s) (hN : NL s) (hP : va_P D cls ws H) : ∀ U : State, U.heap = H → s.WarmedH U.vm → va_Pc as (PreW D tys ws) as.toArray U :=
  fun U hU hW => ⟨rfl, va_K.moved hW.alike hK, NL_warm hW hN, by rw [hU]; exact hP⟩
-- pure: a virtual call by a link, by a nest link; a static call
theorem c_pV (rest : List Value) (S : CallFix p m c cc nL s args TB own) (hM : PMi l y b n r rm (.ref o :: As) D tys ws v) (mf : MFv y b n r k) (hl : Cond.methodLink own index y ∈ TB) (hK : va_K D cls tys s) (hN : NL s) (hP : va_P D cls ws H) (q0 ci : Nat) {fs : List Value} {T : u_T} {N : Nat} (he : ws[q0]? = some (o, .inr (ci, fs))) (hc : cls[ci]? = some (y.cls, T, N)) (hR : Rok rm R n) (hk : As.length = k) (hsz : ls.size = nL) (hst : st0 = As.reverse ++ .ref o :: rest) (hw : (rest.map fun v => v.category).sum ≤ 8) (hdg : decode cc pc = .ok (.invokevirtual index, 3)) (hcs : cells ≤ R.cells ∧ slots ≤ R.slots)
    (kk : W p l e R s m args below meth c H locs cells slots Q (F0 m (pc + 3) ls (.int v :: rest))) : W p l e R s m args below meth c H locs cells slots Q (F0 m pc ls st0) := by
  refine vp_callSi (post := fun z => z = v) (W.runV (C := y.cls) S hM ⟨callB_of k S.2.2.2.2 (gi mf.1) rfl hR.1 hR.2.1 (S.2.2.2.2 _ mf.2.1) (S.2.2.2.2 _ hl) mf.2.2.2.2 hR.2.2, S.2.2.2.2 _ mf.2.2.1, S.2.2.2.2 _ mf.2.2.2.1⟩ ⟨bl_W, va_recv hK hP hc he, pw_U hK hN hP⟩ rfl hk hsz hst (lv_room hw) hdg hcs) (fun z hz => ?_)
  rw [hz]; exact kk
theorem c_pN (rest : List Value) (S : CallFix p m c cc nL s args TB own) (hM : PMi l y b n r rm (.ref o :: As) D tys ws v) (mf : MFv y b n r k) (hl : Cond.methodLinkNest own index y R_M ∈ NW) (hK : va_K D cls tys s) (hN : NL s) (hP : va_P D cls ws H) (q0 ci : Nat) {fs : List Value} {T : u_T} {N : Nat} (he : ws[q0]? = some (o, .inr (ci, fs))) (hc : cls[ci]? = some (y.cls, T, N)) (hR : Rok rm R n) (hk : As.length = k) (hsz : ls.size = nL) (hst : st0 = As.reverse ++ .ref o :: rest) (hw : (rest.map fun v => v.category).sum ≤ 8) (hdg : decode cc pc = .ok (.invokevirtual index, 3)) (hcs : cells ≤ R.cells ∧ slots ≤ R.slots)
    (kk : W p l e R s m args below meth c H locs cells slots Q (F0 m (pc + 3) ls (.int v :: rest))) : W p l e R s m args below meth c H locs cells slots Q (F0 m pc ls st0) := by
  refine vp_callSi (post := fun z => z = v) (va_Run.run (va_runVN (C := y.cls) S hM ⟨va_cnB k S.2.2.2.2 (gi mf.1) rfl hR.1 hR.2.1 (hN _ hl) (S.2.2.2.2 _ mf.2.1) mf.2.2.2.2 hR.2.2, S.2.2.2.2 _ mf.2.2.1, S.2.2.2.2 _ mf.2.2.2.1⟩ ⟨bl_W, va_recv hK hP hc he, pw_U hK hN hP⟩ rfl hk hsz hst (lv_room hw) hdg hcs)) (fun z hz => ?_)
  rw [hz]; exact kk
theorem c_pS (rest : List Value) (S : CallFix p m c cc nL s args TB own) (hM : PMi l y b n r rm As D tys ws v) (mf : MFs y b n r k) (hl : Cond.methodLink own index y ∈ TB) (hK : va_K D cls tys s) (hN : NL s) (hP : va_P D cls ws H) (hR : Rok rm R n) (hk : As.length = k) (hsz : ls.size = nL) (hst : st0 = As.reverse ++ rest) (hw : (rest.map fun v => v.category).sum ≤ 8) (hdg : decode cc pc = .ok (.invokestatic index, 3)) (hcs : cells ≤ R.cells ∧ slots ≤ R.slots)
    (kk : W p l e R s m args below meth c H locs cells slots Q (F0 m (pc + 3) ls (.int v :: rest))) : W p l e R s m args below meth c H locs cells slots Q (F0 m pc ls st0) := by
  refine vp_callSi (post := fun z => z = v) (W.runS S hM ⟨callB_of k S.2.2.2.2 (gi mf.1) rfl hR.1 hR.2.1 (S.2.2.2.2 _ mf.2.1) (S.2.2.2.2 _ hl) mf.2.2.2 hR.2.2, S.2.2.2.2 _ mf.2.2.1⟩ ⟨bl_W, pw_U hK hN hP⟩ rfl hk hsz hst (lv_room hw) hdg hcs) (fun z hz => ?_)
  rw [hz]; exact kk
-- writers without an answer
theorem c_vV (rest : List Value) (S : CallFix p m c cc nL s args TB own) (hM : WMv l y b n r rm (.ref o :: As) D tys ws ws' A) (mf : MFv y b n r k) (hl : Cond.methodLink own index y ∈ TB) (hK : va_K D cls tys s) (hN : NL s) (hP : va_P D cls ws H) (hS : va_S A H0 H locs) (q0 ci : Nat) {fs : List Value} {T : u_T} {N : Nat} (he : ws[q0]? = some (o, .inr (ci, fs))) (hc : cls[ci]? = some (y.cls, T, N)) (hR : Rok rm R n) (hk : As.length = k) (hsz : ls.size = nL) (hst : st0 = As.reverse ++ .ref o :: rest) (hw : (rest.map fun v => v.category).sum ≤ 8) (hdg : decode cc pc = .ok (.invokevirtual index, 3)) (hcs : cells ≤ R.cells ∧ slots ≤ R.slots)
    (kk : ∀ (H1 : Heap) (locs1 : List Loc), va_P D cls ws' H1 → va_S A H0 H1 locs1 → W p l e R s m args below meth c H1 locs1 cells slots Q (F0 m (pc + 3) ls rest)) : W p l e R s m args below meth c H locs cells slots Q (F0 m pc ls st0) :=
  va_callv (va_runV (C := y.cls) S hM ⟨callB_of k S.2.2.2.2 (gi mf.1) rfl hR.1 hR.2.1 (S.2.2.2.2 _ mf.2.1) (S.2.2.2.2 _ hl) mf.2.2.2.2 hR.2.2, S.2.2.2.2 _ mf.2.2.1, S.2.2.2.2 _ mf.2.2.2.1⟩ ⟨bl_W, va_recv hK hP hc he, pw_U hK hN hP⟩ rfl hk hsz hst (lv_room hw) hdg hcs) hS (fun _ _ h => h) (fun _ h => h) (fun _ t H1 locs1 ht _ _ hB _ _ hS1 => kk H1 locs1 (by rw [← ht]; exact hB) hS1)
theorem c_vN (rest : List Value) (S : CallFix p m c cc nL s args TB own) (hM : WMv l y b n r rm (.ref o :: As) D tys ws ws' A) (mf : MFv y b n r k) (hl : Cond.methodLinkNest own index y R_M ∈ NW) (hK : va_K D cls tys s) (hN : NL s) (hP : va_P D cls ws H) (hS : va_S A H0 H locs) (q0 ci : Nat) {fs : List Value} {T : u_T} {N : Nat} (he : ws[q0]? = some (o, .inr (ci, fs))) (hc : cls[ci]? = some (y.cls, T, N)) (hR : Rok rm R n) (hk : As.length = k) (hsz : ls.size = nL) (hst : st0 = As.reverse ++ .ref o :: rest) (hw : (rest.map fun v => v.category).sum ≤ 8) (hdg : decode cc pc = .ok (.invokevirtual index, 3)) (hcs : cells ≤ R.cells ∧ slots ≤ R.slots)
    (kk : ∀ (H1 : Heap) (locs1 : List Loc), va_P D cls ws' H1 → va_S A H0 H1 locs1 → W p l e R s m args below meth c H1 locs1 cells slots Q (F0 m (pc + 3) ls rest)) : W p l e R s m args below meth c H locs cells slots Q (F0 m pc ls st0) :=
  va_callv (va_runVN (C := y.cls) S hM ⟨va_cnB k S.2.2.2.2 (gi mf.1) rfl hR.1 hR.2.1 (hN _ hl) (S.2.2.2.2 _ mf.2.1) mf.2.2.2.2 hR.2.2, S.2.2.2.2 _ mf.2.2.1, S.2.2.2.2 _ mf.2.2.2.1⟩ ⟨bl_W, va_recv hK hP hc he, pw_U hK hN hP⟩ rfl hk hsz hst (lv_room hw) hdg hcs) hS (fun _ _ h => h) (fun _ h => h) (fun _ t H1 locs1 ht _ _ hB _ _ hS1 => kk H1 locs1 (by rw [← ht]; exact hB) hS1)
-- writers with an answer
theorem c_iV (rest : List Value) (S : CallFix p m c cc nL s args TB own) (hM : WMi l y b n r rm (.ref o :: As) D tys ws ws' A v) (mf : MFv y b n r k) (hl : Cond.methodLink own index y ∈ TB) (hK : va_K D cls tys s) (hN : NL s) (hP : va_P D cls ws H) (hS : va_S A H0 H locs) (q0 ci : Nat) {fs : List Value} {T : u_T} {N : Nat} (he : ws[q0]? = some (o, .inr (ci, fs))) (hc : cls[ci]? = some (y.cls, T, N)) (hR : Rok rm R n) (hk : As.length = k) (hsz : ls.size = nL) (hst : st0 = As.reverse ++ .ref o :: rest) (hw : (rest.map fun v => v.category).sum ≤ 8) (hdg : decode cc pc = .ok (.invokevirtual index, 3)) (hcs : cells ≤ R.cells ∧ slots ≤ R.slots)
    (kk : ∀ (H1 : Heap) (locs1 : List Loc), va_P D cls ws' H1 → va_S A H0 H1 locs1 → W p l e R s m args below meth c H1 locs1 cells slots Q (F0 m (pc + 3) ls (.int v :: rest))) : W p l e R s m args below meth c H locs cells slots Q (F0 m pc ls st0) :=
  va_calli (va_runV (C := y.cls) S hM ⟨callB_of k S.2.2.2.2 (gi mf.1) rfl hR.1 hR.2.1 (S.2.2.2.2 _ mf.2.1) (S.2.2.2.2 _ hl) mf.2.2.2.2 hR.2.2, S.2.2.2.2 _ mf.2.2.1, S.2.2.2.2 _ mf.2.2.2.1⟩ ⟨bl_W, va_recv hK hP hc he, pw_U hK hN hP⟩ rfl hk hsz hst (lv_room hw) hdg hcs) hS (fun _ _ h => h) (fun _ h => h) (fun z _ t H1 locs1 ht _ hz hB _ _ hS1 => by rw [hz]; exact kk H1 locs1 (by rw [← ht]; exact hB) hS1)
theorem c_iS (rest : List Value) (S : CallFix p m c cc nL s args TB own) (hM : WMi l y b n r rm As D tys ws ws' A v) (mf : MFs y b n r k) (hl : Cond.methodLink own index y ∈ TB) (hK : va_K D cls tys s) (hN : NL s) (hP : va_P D cls ws H) (hS : va_S A H0 H locs) (hR : Rok rm R n) (hk : As.length = k) (hsz : ls.size = nL) (hst : st0 = As.reverse ++ rest) (hw : (rest.map fun v => v.category).sum ≤ 8) (hdg : decode cc pc = .ok (.invokestatic index, 3)) (hcs : cells ≤ R.cells ∧ slots ≤ R.slots)
    (kk : ∀ (H1 : Heap) (locs1 : List Loc), va_P D cls ws' H1 → va_S A H0 H1 locs1 → W p l e R s m args below meth c H1 locs1 cells slots Q (F0 m (pc + 3) ls (.int v :: rest))) : W p l e R s m args below meth c H locs cells slots Q (F0 m pc ls st0) :=
  va_calli (va_runS S hM ⟨callB_of k S.2.2.2.2 (gi mf.1) rfl hR.1 hR.2.1 (S.2.2.2.2 _ mf.2.1) (S.2.2.2.2 _ hl) mf.2.2.2 hR.2.2, S.2.2.2.2 _ mf.2.2.1⟩ ⟨bl_W, pw_U hK hN hP⟩ rfl hk hsz hst (lv_room hw) hdg hcs) hS (fun _ _ h => h) (fun _ h => h) (fun z _ t H1 locs1 ht _ hz hB _ _ hS1 => by rw [hz]; exact kk H1 locs1 (by rw [← ht]; exact hB) hS1)
end OwnCalls
section OwnEntry
variable {l : Launch} {y : MethodName} {b : ByteArray} {n : Nat} {r : Option FieldType} {rm : Room} {as : List Value} {D : va_G} {tys : List (ClassId × FieldType)} {ws ws' : va_W} {v : Int32} {A : Nat → Prop}
theorem ofP (hy : plainName y.cls = true) (hn : (lg_sl as).length ≤ n)
    (body : ∀ (p : Program) (e : Env) (s : State) (m : MethodId) (below : List Frame) (meth : Method) (c : Code) (ls : Array Slot), CallFix p m c b n s as.toArray TB y.cls → meth.sig.returnType = r → meth.locks = false → va_K D cls tys s → NL s → va_P D cls ws s.heap → lv_has ls n (lv_args 0 as) →
      W p l e rm s m as.toArray below meth c s.heap [] 0 0 (MQ below (vp_Si (fun z => z = v)) as.toArray s 0 0 (fun _ => False)) (F0 m 0 ls [])) : PMi l y b n r rm as D tys ws v := by
  refine Met.ofW (cc := b) (maxL := n) (ret := r) hy rfl ?_
  intro p e s m args below meth c s₁ B hml hv
  obtain ⟨rfl, hK, hN, hP⟩ := hv
  have hts := atoms_spec (ws := Cond.code y b n r :: TB) B.pre
  rw [lg_entry_eq]
  exact body p e s m below meth c _ ⟨B.exec, B.bytes, hml, findClass_of_methodNamed B.named, fun w hw => hts w (List.mem_cons_of_mem _ hw)⟩ B.returns B.notSynchronized hK hN hP (lv_entry as hn)
theorem ofV (hy : plainName y.cls = true) (hn : (lg_sl as).length ≤ n)
    (body : ∀ (p : Program) (e : Env) (s : State) (m : MethodId) (below : List Frame) (meth : Method) (c : Code) (ls : Array Slot), CallFix p m c b n s as.toArray TB y.cls → meth.sig.returnType = r → meth.locks = false → va_K D cls tys s → NL s → va_P D cls ws s.heap → lv_has ls n (lv_args 0 as) →
      W p l e rm s m as.toArray below meth c s.heap [] 0 0 (MQ below (va_Qv (fun _ : Unit => True) (fun _ t => va_P D cls ws' t.heap) A) as.toArray s 0 0 A) (F0 m 0 ls [])) : WMv l y b n r rm as D tys ws ws' A := by
  refine Met.ofW (cc := b) (maxL := n) (ret := r) hy rfl ?_
  intro p e s m args below meth c s₁ B hml hv
  obtain ⟨rfl, hK, hN, hP⟩ := hv
  have hts := atoms_spec (ws := Cond.code y b n r :: TB) B.pre
  rw [lg_entry_eq]
  exact body p e s m below meth c _ ⟨B.exec, B.bytes, hml, findClass_of_methodNamed B.named, fun w hw => hts w (List.mem_cons_of_mem _ hw)⟩ B.returns B.notSynchronized hK hN hP (lv_entry as hn)
theorem ofI (hy : plainName y.cls = true) (hn : (lg_sl as).length ≤ n)
    (body : ∀ (p : Program) (e : Env) (s : State) (m : MethodId) (below : List Frame) (meth : Method) (c : Code) (ls : Array Slot), CallFix p m c b n s as.toArray TB y.cls → meth.sig.returnType = r → meth.locks = false → va_K D cls tys s → NL s → va_P D cls ws s.heap → lv_has ls n (lv_args 0 as) →
      W p l e rm s m as.toArray below meth c s.heap [] 0 0 (MQ below (va_Qi (fun (z : Int32) (_ : Unit) => z = v) (fun _ t => va_P D cls ws' t.heap) A) as.toArray s 0 0 A) (F0 m 0 ls [])) : WMi l y b n r rm as D tys ws ws' A v := by
  refine Met.ofW (cc := b) (maxL := n) (ret := r) hy rfl ?_
  intro p e s m args below meth c s₁ B hml hv
  obtain ⟨rfl, hK, hN, hP⟩ := hv
  have hts := atoms_spec (ws := Cond.code y b n r :: TB) B.pre
  rw [lg_entry_eq]
  exact body p e s m below meth c _ ⟨B.exec, B.bytes, hml, findClass_of_methodNamed B.named, fun w hw => hts w (List.mem_cons_of_mem _ hw)⟩ B.returns B.notSynchronized hK hN hP (lv_entry as hn)
end OwnEntry
section OwnEnds
variable {p : Program} {l : Launch} {e : Env} {R : Room} {s : State} {m : MethodId} {args : Array Value} {below : List Frame} {meth : Method} {c : Code} {H : Heap} {locs : List Loc} {cc : ByteArray} {pc : Nat} {ls : Array Slot} {D : va_G} {A : Nat → Prop} {ws ws' : va_W} {v x : Int32} {own : String} {nL : Nat}
theorem e_pi (S : CallFix p m c cc nL s args TB own) (hr : meth.sig.returnType = some .int) (hlocks : meth.locks = false) (hv : x = v) (hdg : decode cc pc = .ok (.ireturn, 1)) :
    W p l e R s m args below meth c s.heap [] 0 0 (MQ below (vp_Si (fun z => z = v)) args s 0 0 (fun _ => False)) (F0 m pc ls [.int x]) :=
  W.iret S.1 S.2.1 hr (fun t ht _ => ⟨x, rfl, hv, ht⟩) t_nil hdg hlocks
theorem e_pz {z : Bool} (S : CallFix p m c cc nL s args TB own) (hr : meth.sig.returnType = some .boolean) (hlocks : meth.locks = false) (hv : b2i z = v) (hdg : decode cc pc = .ok (.ireturn, 1)) :
    W p l e R s m args below meth c s.heap [] 0 0 (MQ below (vp_Si (fun z => z = v)) args s 0 0 (fun _ => False)) (F0 m pc ls [.int (b2i z)]) :=
  W.zret S.1 S.2.1 hr (b2i_nar z) (fun t ht _ => ⟨b2i z, rfl, hv, ht⟩) t_nil hdg hlocks
theorem e_wv (S : CallFix p m c cc nL s args TB own) (hr : meth.sig.returnType = none) (hlocks : meth.locks = false) (hP : va_P D cls ws H) (hS : va_S A s.heap H locs) (hw : ws = ws') (hdg : decode cc pc = .ok (.return_, 1)) :
    W p l e R s m args below meth c H locs 0 0 (MQ below (va_Qv (fun _ : Unit => True) (fun _ t => va_P D cls ws' t.heap) A) args s 0 0 A) (F0 m pc ls []) :=
  W.vret S.1 S.2.1 hr (fun t ht _ => ⟨⟨(), rfl, trivial, by rw [ht, ← hw]; exact hP⟩, hS.F ht⟩) hS.2.2 hdg hlocks
theorem e_wi (S : CallFix p m c cc nL s args TB own) (hr : meth.sig.returnType = some .int) (hlocks : meth.locks = false) (hP : va_P D cls ws H) (hS : va_S A s.heap H locs) (hv : x = v) (hw : ws = ws') (hdg : decode cc pc = .ok (.ireturn, 1)) :
    W p l e R s m args below meth c H locs 0 0 (MQ below (va_Qi (fun (z : Int32) (_ : Unit) => z = v) (fun _ t => va_P D cls ws' t.heap) A) args s 0 0 A) (F0 m pc ls [.int x]) :=
  W.iret S.1 S.2.1 hr (fun t ht _ => ⟨⟨x, (), rfl, hv, by rw [ht, ← hw]; exact hP⟩, hS.F ht⟩) hS.2.2 hdg hlocks
theorem e_wz {z : Bool} (S : CallFix p m c cc nL s args TB own) (hr : meth.sig.returnType = some .boolean) (hlocks : meth.locks = false) (hP : va_P D cls ws H) (hS : va_S A s.heap H locs) (hv : b2i z = v) (hw : ws = ws') (hdg : decode cc pc = .ok (.ireturn, 1)) :
    W p l e R s m args below meth c H locs 0 0 (MQ below (va_Qi (fun (z : Int32) (_ : Unit) => z = v) (fun _ t => va_P D cls ws' t.heap) A) args s 0 0 A) (F0 m pc ls [.int (b2i z)]) :=
  W.zret S.1 S.2.1 hr (b2i_nar z) (fun t ht _ => ⟨⟨b2i z, (), rfl, hv, by rw [ht, ← hw]; exact hP⟩, hS.F ht⟩) hS.2.2 hdg hlocks
end OwnEnds
end
section
-- ranges of addresses
def Ar (x : Int32) (n : Nat) : Prop := 0 ≤ x.toInt ∧ x.toInt + (n : Int) ≤ 512
def As (x ct : Int32) : Prop := 0 ≤ x.toInt ∧ 0 ≤ ct.toInt ∧ x.toInt + ct.toInt ≤ 512
theorem in_k {x : Int32} {n : Nat} (h : decide (¬ (x < 0 ∨ n ≤ x.toNatClampNeg)) = true) : vp_in x n := of_decide_eq_true h
theorem ad_s {x y : Int32} (h1 : -2147483648 ≤ x.toInt + y.toInt) (h2 : x.toInt + y.toInt ≤ 2147483647) : (x + y).toInt = x.toInt + y.toInt := by
  rw [Int32.toInt_add]
  exact Int.bmod_eq_of_le (by omega) (by omega)
theorem sb_s {x y : Int32} (h1 : -2147483648 ≤ x.toInt - y.toInt) (h2 : x.toInt - y.toInt ≤ 2147483647) : (x - y).toInt = x.toInt - y.toInt := by
  rw [Int32.toInt_sub]
  exact Int.bmod_eq_of_le (by omega) (by omega)
theorem ml_s {x y : Int32} (h1 : -2147483648 ≤ x.toInt * y.toInt) (h2 : x.toInt * y.toInt ≤ 2147483647) : (x * y).toInt = x.toInt * y.toInt := by
  rw [Int32.toInt_mul]
  exact Int.bmod_eq_of_le (by omega) (by omega)
theorem dv_s {x y : Int32} (h0 : 0 ≤ x.toInt) (h1 : 0 < y.toInt) : (x / y).toInt = x.toInt / y.toInt := by
  have a := Int32.toInt_lt x
  rw [Int32.toInt_div, Int.tdiv_eq_ediv_of_nonneg h0]
  have h2 : 0 ≤ x.toInt / y.toInt := Int.ediv_nonneg h0 (by omega)
  have h3 : x.toInt / y.toInt ≤ x.toInt := Int.ediv_le_self _ h0
  exact Int.bmod_eq_of_le (by omega) (by omega)
theorem Ar.i0 {x : Int32} {n : Nat} (h : Ar x n) (hn : 1 ≤ n) : vp_in x 512 := vp_in_iff.mpr ⟨h.1, by have := h.2; omega⟩
theorem Ar.ik {x k : Int32} {n : Nat} (h : Ar x n) (hk0 : 0 ≤ k.toInt) (hk : k.toInt < n) : vp_in (x + k) 512 := by
  have h1 := h.1
  have h2 := h.2
  have e := ad_s (x := x) (y := k) (by omega) (by omega)
  exact vp_in_iff.mpr ⟨by omega, by omega⟩
theorem Ar.i1 {x : Int32} {n : Nat} (h : Ar x n) (hn : 2 ≤ n) : vp_in (x + 1) 512 := h.ik (by decide) (by have : (1 : Int32).toInt = 1 := by decide; omega)
theorem Ar.i2 {x : Int32} {n : Nat} (h : Ar x n) (hn : 3 ≤ n) : vp_in (x + 2) 512 := h.ik (by decide) (by have : (2 : Int32).toInt = 2 := by decide; omega)
theorem Ar.i3 {x : Int32} {n : Nat} (h : Ar x n) (hn : 4 ≤ n) : vp_in (x + 3) 512 := h.ik (by decide) (by have : (3 : Int32).toInt = 3 := by decide; omega)
theorem Ar.lo {x : Int32} (h : Ar x 8) : Ar x 4 := ⟨h.1, by have := h.2; omega⟩
theorem Ar.hi {x : Int32} (h : Ar x 8) : Ar (x + 4) 4 := by
  have h1 := h.1
  have h2 := h.2
  have e4 : (4 : Int32).toInt = 4 := by decide
  have e := ad_s (x := x) (y := 4) (by omega) (by omega)
  exact ⟨by omega, by omega⟩
theorem dv_in {x : Int32} (h : vp_in x 512) : vp_in (x / 8) 64 := by
  obtain ⟨h1, h2⟩ := vp_in_iff.mp h
  have e8 : (8 : Int32).toInt = 8 := by decide
  have e := dv_s (x := x) (y := 8) h1 (by omega)
  exact vp_in_iff.mpr ⟨by omega, by omega⟩
theorem Ar.dv {x : Int32} {n : Nat} (h : Ar x n) (hn : 1 ≤ n) : vp_in (x / 8) 64 := dv_in (h.i0 hn)
theorem Ar.a4 {x : Int32} (h : Ar x 4) : As x 4 := ⟨h.1, by decide, by have e4 : (4 : Int32).toInt = 4 := by decide; have := h.2; omega⟩
theorem and7_in (x : Int32) : vp_in (x &&& 7) 11 := by
  obtain ⟨h1, h2⟩ := vp_in_iff.mp (pk_andIn x (m := 7) 3 (by decide) (by decide))
  exact vp_in_iff.mpr ⟨h1, by omega⟩
theorem and7_lt (x : Int32) : (x &&& 7).toNatClampNeg < 12 := by
  obtain ⟨j, hj, e⟩ := pk_andE x (m := 7) 3 (by decide)
  rw [e, nI_clamp (by omega)]
  omega
theorem in_lt {x : Int32} {n : Nat} (h : vp_in x n) : x.toNatClampNeg < n := Nat.not_le.mp fun z => h (Or.inr z)
theorem in_of {x n : Int32} {N : Nat} (h1 : ¬ x < 0) (h2 : ¬ n ≤ x) (hn : n.toInt = (N : Int)) : vp_in x N := by
  rw [Int32.lt_iff_toInt_lt] at h1
  rw [Int32.le_iff_toInt_le] at h2
  have e0 : (0 : Int32).toInt = 0 := by decide
  exact vp_in_iff.mpr ⟨by omega, by omega⟩
end
