section
-- PART A: goes FIRST, ahead of the names: the tables' words, and 'selects' of the private methods out of them =====
/-- a private method of a class that the tables say can be made, by its rows of tables_1 -/
def lw_okq (q : MethodName × Nat) : Prop := (q.1.cls ≠ "java/lang/invoke/MethodHandle" ∧ q.1.cls ≠ "java/lang/invoke/VarHandle") ∧ Cond.instantiable q.1.cls q.2 ∈ tables_1 ∧ Cond.privateMethod q.1 ∈ tables_1 ∧ Cond.instanceMethod q.1 ∈ tables_1
theorem lw_p0 : lw_okq (⟨"CapMachine$Capability", "becomeGranted", "(IIII)V"⟩, 6) := ⟨⟨by decide +kernel, by decide +kernel⟩, List.mem_of_getElem? (i := 20) (by decide +kernel), List.mem_of_getElem? (i := 69) (by decide +kernel), List.mem_of_getElem? (i := 70) (by decide +kernel)⟩
theorem lw_p1 : lw_okq (⟨"CapMachine", "step", "()I"⟩, 8) := ⟨⟨by decide +kernel, by decide +kernel⟩, List.mem_of_getElem? (i := 11) (by decide +kernel), List.mem_of_getElem? (i := 105) (by decide +kernel), List.mem_of_getElem? (i := 106) (by decide +kernel)⟩
theorem lw_p2 : lw_okq (⟨"CapMachine$Capability", "refusal", "(IJI)I"⟩, 6) := ⟨⟨by decide +kernel, by decide +kernel⟩, List.mem_of_getElem? (i := 20) (by decide +kernel), List.mem_of_getElem? (i := 109) (by decide +kernel), List.mem_of_getElem? (i := 110) (by decide +kernel)⟩
theorem lw_p3 : lw_okq (⟨"CapMachine$Capability", "permits", "(I)Z"⟩, 6) := ⟨⟨by decide +kernel, by decide +kernel⟩, List.mem_of_getElem? (i := 20) (by decide +kernel), List.mem_of_getElem? (i := 113) (by decide +kernel), List.mem_of_getElem? (i := 114) (by decide +kernel)⟩
theorem lw_p4 : lw_okq (⟨"CapMachine$Memory", "byteAt", "(I)I"⟩, 2) := ⟨⟨by decide +kernel, by decide +kernel⟩, List.mem_of_getElem? (i := 53) (by decide +kernel), List.mem_of_getElem? (i := 118) (by decide +kernel), List.mem_of_getElem? (i := 119) (by decide +kernel)⟩
theorem lw_p5 : lw_okq (⟨"CapMachine", "branch", "(ZI)I"⟩, 8) := ⟨⟨by decide +kernel, by decide +kernel⟩, List.mem_of_getElem? (i := 11) (by decide +kernel), List.mem_of_getElem? (i := 122) (by decide +kernel), List.mem_of_getElem? (i := 123) (by decide +kernel)⟩
theorem lw_p6 : lw_okq (⟨"CapMachine$Capability", "moveTo", "(I)V"⟩, 6) := ⟨⟨by decide +kernel, by decide +kernel⟩, List.mem_of_getElem? (i := 20) (by decide +kernel), List.mem_of_getElem? (i := 126) (by decide +kernel), List.mem_of_getElem? (i := 127) (by decide +kernel)⟩
theorem lw_p7 : lw_okq (⟨"CapMachine", "jump", "(LCapMachine$Capability;LCapMachine$Capability;)I"⟩, 8) := ⟨⟨by decide +kernel, by decide +kernel⟩, List.mem_of_getElem? (i := 11) (by decide +kernel), List.mem_of_getElem? (i := 130) (by decide +kernel), List.mem_of_getElem? (i := 131) (by decide +kernel)⟩
theorem lw_p8 : lw_okq (⟨"CapMachine$Capability", "become", "(LCapMachine$Capability;)V"⟩, 6) := ⟨⟨by decide +kernel, by decide +kernel⟩, List.mem_of_getElem? (i := 20) (by decide +kernel), List.mem_of_getElem? (i := 135) (by decide +kernel), List.mem_of_getElem? (i := 136) (by decide +kernel)⟩
theorem lw_p9 : lw_okq (⟨"CapMachine$Capability", "becomeNumber", "(I)V"⟩, 6) := ⟨⟨by decide +kernel, by decide +kernel⟩, List.mem_of_getElem? (i := 20) (by decide +kernel), List.mem_of_getElem? (i := 139) (by decide +kernel), List.mem_of_getElem? (i := 140) (by decide +kernel)⟩
theorem lw_p10 : lw_okq (⟨"CapMachine", "advance", "(I)I"⟩, 8) := ⟨⟨by decide +kernel, by decide +kernel⟩, List.mem_of_getElem? (i := 11) (by decide +kernel), List.mem_of_getElem? (i := 143) (by decide +kernel), List.mem_of_getElem? (i := 144) (by decide +kernel)⟩
theorem lw_p11 : lw_okq (⟨"CapMachine", "compute", "(ILCapMachine$Capability;LCapMachine$Capability;LCapMachine$Capability;I)I"⟩, 8) := ⟨⟨by decide +kernel, by decide +kernel⟩, List.mem_of_getElem? (i := 11) (by decide +kernel), List.mem_of_getElem? (i := 147) (by decide +kernel), List.mem_of_getElem? (i := 148) (by decide +kernel)⟩
theorem lw_p12 : lw_okq (⟨"CapMachine", "access", "(ILCapMachine$Capability;LCapMachine$Capability;J)I"⟩, 8) := ⟨⟨by decide +kernel, by decide +kernel⟩, List.mem_of_getElem? (i := 11) (by decide +kernel), List.mem_of_getElem? (i := 151) (by decide +kernel), List.mem_of_getElem? (i := 152) (by decide +kernel)⟩
theorem lw_p13 : lw_okq (⟨"CapMachine$Memory", "wordAt", "(I)I"⟩, 2) := ⟨⟨by decide +kernel, by decide +kernel⟩, List.mem_of_getElem? (i := 53) (by decide +kernel), List.mem_of_getElem? (i := 161) (by decide +kernel), List.mem_of_getElem? (i := 162) (by decide +kernel)⟩
theorem lw_p14 : lw_okq (⟨"CapMachine$Memory", "loadCapability", "(ILCapMachine$Capability;)V"⟩, 2) := ⟨⟨by decide +kernel, by decide +kernel⟩, List.mem_of_getElem? (i := 53) (by decide +kernel), List.mem_of_getElem? (i := 166) (by decide +kernel), List.mem_of_getElem? (i := 167) (by decide +kernel)⟩
theorem lw_p15 : lw_okq (⟨"CapMachine$Capability", "becomeUnpacked", "(ZII)V"⟩, 6) := ⟨⟨by decide +kernel, by decide +kernel⟩, List.mem_of_getElem? (i := 20) (by decide +kernel), List.mem_of_getElem? (i := 171) (by decide +kernel), List.mem_of_getElem? (i := 172) (by decide +kernel)⟩
def lw_privs_1 : List (MethodName × Nat) := [(⟨"CapMachine$Capability", "becomeGranted", "(IIII)V"⟩, 6), (⟨"CapMachine", "step", "()I"⟩, 8), (⟨"CapMachine$Capability", "refusal", "(IJI)I"⟩, 6), (⟨"CapMachine$Capability", "permits", "(I)Z"⟩, 6), (⟨"CapMachine$Memory", "byteAt", "(I)I"⟩, 2), (⟨"CapMachine", "branch", "(ZI)I"⟩, 8), (⟨"CapMachine$Capability", "moveTo", "(I)V"⟩, 6), (⟨"CapMachine", "jump", "(LCapMachine$Capability;LCapMachine$Capability;)I"⟩, 8), (⟨"CapMachine$Capability", "become", "(LCapMachine$Capability;)V"⟩, 6), (⟨"CapMachine$Capability", "becomeNumber", "(I)V"⟩, 6), (⟨"CapMachine", "advance", "(I)I"⟩, 8), (⟨"CapMachine", "compute", "(ILCapMachine$Capability;LCapMachine$Capability;LCapMachine$Capability;I)I"⟩, 8), (⟨"CapMachine", "access", "(ILCapMachine$Capability;LCapMachine$Capability;J)I"⟩, 8), (⟨"CapMachine$Memory", "wordAt", "(I)I"⟩, 2), (⟨"CapMachine$Memory", "loadCapability", "(ILCapMachine$Capability;)V"⟩, 2), (⟨"CapMachine$Capability", "becomeUnpacked", "(ZII)V"⟩, 6)]
theorem lw_r1 : ∀ q ∈ lw_privs_1, lw_okq q := List.forall_mem_cons.mpr ⟨lw_p0, List.forall_mem_cons.mpr ⟨lw_p1, List.forall_mem_cons.mpr ⟨lw_p2, List.forall_mem_cons.mpr ⟨lw_p3, List.forall_mem_cons.mpr ⟨lw_p4, List.forall_mem_cons.mpr ⟨lw_p5, List.forall_mem_cons.mpr ⟨lw_p6, List.forall_mem_cons.mpr ⟨lw_p7, List.forall_mem_cons.mpr ⟨lw_p8, List.forall_mem_cons.mpr ⟨lw_p9, List.forall_mem_cons.mpr ⟨lw_p10, List.forall_mem_cons.mpr ⟨lw_p11, List.forall_mem_cons.mpr ⟨lw_p12, List.forall_mem_cons.mpr ⟨lw_p13, List.forall_mem_cons.mpr ⟨lw_p14, List.forall_mem_cons.mpr ⟨lw_p15, fun _ h => absurd h List.not_mem_nil⟩⟩⟩⟩⟩⟩⟩⟩⟩⟩⟩⟩⟩⟩⟩⟩
theorem lw_p16 : lw_okq (⟨"CapMachine$Memory", "storeCapability", "(ILCapMachine$Capability;)V"⟩, 2) := ⟨⟨by decide +kernel, by decide +kernel⟩, List.mem_of_getElem? (i := 53) (by decide +kernel), List.mem_of_getElem? (i := 175) (by decide +kernel), List.mem_of_getElem? (i := 176) (by decide +kernel)⟩
theorem lw_p17 : lw_okq (⟨"CapMachine$Memory", "store", "(III)V"⟩, 2) := ⟨⟨by decide +kernel, by decide +kernel⟩, List.mem_of_getElem? (i := 53) (by decide +kernel), List.mem_of_getElem? (i := 179) (by decide +kernel), List.mem_of_getElem? (i := 180) (by decide +kernel)⟩
theorem lw_p18 : lw_okq (⟨"CapMachine$Capability", "packed", "()I"⟩, 6) := ⟨⟨by decide +kernel, by decide +kernel⟩, List.mem_of_getElem? (i := 20) (by decide +kernel), List.mem_of_getElem? (i := 183) (by decide +kernel), List.mem_of_getElem? (i := 184) (by decide +kernel)⟩
theorem lw_p19 : lw_okq (⟨"CapMachine$Capability", "part", "(I)I"⟩, 6) := ⟨⟨by decide +kernel, by decide +kernel⟩, List.mem_of_getElem? (i := 20) (by decide +kernel), List.mem_of_getElem? (i := 188) (by decide +kernel), List.mem_of_getElem? (i := 189) (by decide +kernel)⟩
theorem lw_p20 : lw_okq (⟨"CapMachine$Capability", "hasAddressInBounds", "()Z"⟩, 6) := ⟨⟨by decide +kernel, by decide +kernel⟩, List.mem_of_getElem? (i := 20) (by decide +kernel), List.mem_of_getElem? (i := 219) (by decide +kernel), List.mem_of_getElem? (i := 220) (by decide +kernel)⟩
theorem lw_p21 : lw_okq (⟨"CapMachine$Capability", "isWithin", "(LCapMachine$Capability;)Z"⟩, 6) := ⟨⟨by decide +kernel, by decide +kernel⟩, List.mem_of_getElem? (i := 20) (by decide +kernel), List.mem_of_getElem? (i := 232) (by decide +kernel), List.mem_of_getElem? (i := 233) (by decide +kernel)⟩
theorem lw_p22 : lw_okq (⟨"CapMachine", "setHandler", "(LCapMachine$Capability;)I"⟩, 8) := ⟨⟨by decide +kernel, by decide +kernel⟩, List.mem_of_getElem? (i := 11) (by decide +kernel), List.mem_of_getElem? (i := 236) (by decide +kernel), List.mem_of_getElem? (i := 237) (by decide +kernel)⟩
theorem lw_p23 : lw_okq (⟨"CapMachine", "takeException", "(I)V"⟩, 8) := ⟨⟨by decide +kernel, by decide +kernel⟩, List.mem_of_getElem? (i := 11) (by decide +kernel), List.mem_of_getElem? (i := 240) (by decide +kernel), List.mem_of_getElem? (i := 241) (by decide +kernel)⟩
theorem lw_p24 : lw_okq (⟨"java/lang/Throwable", "fillInStackTrace", "(I)Ljava/lang/Throwable;"⟩, 6) := ⟨⟨by decide +kernel, by decide +kernel⟩, List.mem_of_getElem? (i := 300) (by decide +kernel), List.mem_of_getElem? (i := 298) (by decide +kernel), List.mem_of_getElem? (i := 299) (by decide +kernel)⟩
theorem lw_p25 : lw_okq (⟨"CapMachineModel", "set", "(IIIII)V"⟩, 18) := ⟨⟨by decide +kernel, by decide +kernel⟩, List.mem_of_getElem? (i := 346) (by decide +kernel), List.mem_of_getElem? (i := 352) (by decide +kernel), List.mem_of_getElem? (i := 353) (by decide +kernel)⟩
theorem lw_p26 : lw_okq (⟨"CapMachineModel", "store", "(III)V"⟩, 18) := ⟨⟨by decide +kernel, by decide +kernel⟩, List.mem_of_getElem? (i := 346) (by decide +kernel), List.mem_of_getElem? (i := 427) (by decide +kernel), List.mem_of_getElem? (i := 428) (by decide +kernel)⟩
theorem lw_p27 : lw_okq (⟨"CapMachineModel", "step", "()V"⟩, 18) := ⟨⟨by decide +kernel, by decide +kernel⟩, List.mem_of_getElem? (i := 346) (by decide +kernel), List.mem_of_getElem? (i := 435) (by decide +kernel), List.mem_of_getElem? (i := 436) (by decide +kernel)⟩
theorem lw_p28 : lw_okq (⟨"CapMachineModel", "allow", "(IJII)I"⟩, 18) := ⟨⟨by decide +kernel, by decide +kernel⟩, List.mem_of_getElem? (i := 346) (by decide +kernel), List.mem_of_getElem? (i := 439) (by decide +kernel), List.mem_of_getElem? (i := 440) (by decide +kernel)⟩
theorem lw_p29 : lw_okq (⟨"CapMachineModel", "usable", "(I)I"⟩, 18) := ⟨⟨by decide +kernel, by decide +kernel⟩, List.mem_of_getElem? (i := 346) (by decide +kernel), List.mem_of_getElem? (i := 443) (by decide +kernel), List.mem_of_getElem? (i := 444) (by decide +kernel)⟩
theorem lw_p30 : lw_okq (⟨"CapMachineModel", "may", "(II)Z"⟩, 18) := ⟨⟨by decide +kernel, by decide +kernel⟩, List.mem_of_getElem? (i := 346) (by decide +kernel), List.mem_of_getElem? (i := 447) (by decide +kernel), List.mem_of_getElem? (i := 448) (by decide +kernel)⟩
theorem lw_p31 : lw_okq (⟨"CapMachineModel", "fetch", "(I)V"⟩, 18) := ⟨⟨by decide +kernel, by decide +kernel⟩, List.mem_of_getElem? (i := 346) (by decide +kernel), List.mem_of_getElem? (i := 452) (by decide +kernel), List.mem_of_getElem? (i := 453) (by decide +kernel)⟩
def lw_privs_2 : List (MethodName × Nat) := [(⟨"CapMachine$Memory", "storeCapability", "(ILCapMachine$Capability;)V"⟩, 2), (⟨"CapMachine$Memory", "store", "(III)V"⟩, 2), (⟨"CapMachine$Capability", "packed", "()I"⟩, 6), (⟨"CapMachine$Capability", "part", "(I)I"⟩, 6), (⟨"CapMachine$Capability", "hasAddressInBounds", "()Z"⟩, 6), (⟨"CapMachine$Capability", "isWithin", "(LCapMachine$Capability;)Z"⟩, 6), (⟨"CapMachine", "setHandler", "(LCapMachine$Capability;)I"⟩, 8), (⟨"CapMachine", "takeException", "(I)V"⟩, 8), (⟨"java/lang/Throwable", "fillInStackTrace", "(I)Ljava/lang/Throwable;"⟩, 6), (⟨"CapMachineModel", "set", "(IIIII)V"⟩, 18), (⟨"CapMachineModel", "store", "(III)V"⟩, 18), (⟨"CapMachineModel", "step", "()V"⟩, 18), (⟨"CapMachineModel", "allow", "(IJII)I"⟩, 18), (⟨"CapMachineModel", "usable", "(I)I"⟩, 18), (⟨"CapMachineModel", "may", "(II)Z"⟩, 18), (⟨"CapMachineModel", "fetch", "(I)V"⟩, 18)]
theorem lw_r2 : ∀ q ∈ lw_privs_2, lw_okq q := List.forall_mem_cons.mpr ⟨lw_p16, List.forall_mem_cons.mpr ⟨lw_p17, List.forall_mem_cons.mpr ⟨lw_p18, List.forall_mem_cons.mpr ⟨lw_p19, List.forall_mem_cons.mpr ⟨lw_p20, List.forall_mem_cons.mpr ⟨lw_p21, List.forall_mem_cons.mpr ⟨lw_p22, List.forall_mem_cons.mpr ⟨lw_p23, List.forall_mem_cons.mpr ⟨lw_p24, List.forall_mem_cons.mpr ⟨lw_p25, List.forall_mem_cons.mpr ⟨lw_p26, List.forall_mem_cons.mpr ⟨lw_p27, List.forall_mem_cons.mpr ⟨lw_p28, List.forall_mem_cons.mpr ⟨lw_p29, List.forall_mem_cons.mpr ⟨lw_p30, List.forall_mem_cons.mpr ⟨lw_p31, fun _ h => absurd h List.not_mem_nil⟩⟩⟩⟩⟩⟩⟩⟩⟩⟩⟩⟩⟩⟩⟩⟩
theorem lw_p32 : lw_okq (⟨"CapMachineModel", "exception", "()I"⟩, 18) := ⟨⟨by decide +kernel, by decide +kernel⟩, List.mem_of_getElem? (i := 346) (by decide +kernel), List.mem_of_getElem? (i := 456) (by decide +kernel), List.mem_of_getElem? (i := 457) (by decide +kernel)⟩
theorem lw_p33 : lw_okq (⟨"CapMachineModel", "loose", "(I)I"⟩, 18) := ⟨⟨by decide +kernel, by decide +kernel⟩, List.mem_of_getElem? (i := 346) (by decide +kernel), List.mem_of_getElem? (i := 460) (by decide +kernel), List.mem_of_getElem? (i := 461) (by decide +kernel)⟩
theorem lw_p34 : lw_okq (⟨"CapMachineModel", "forBounds", "()I"⟩, 18) := ⟨⟨by decide +kernel, by decide +kernel⟩, List.mem_of_getElem? (i := 346) (by decide +kernel), List.mem_of_getElem? (i := 464) (by decide +kernel), List.mem_of_getElem? (i := 465) (by decide +kernel)⟩
theorem lw_p35 : lw_okq (⟨"CapMachineModel", "exact", "(II)Z"⟩, 18) := ⟨⟨by decide +kernel, by decide +kernel⟩, List.mem_of_getElem? (i := 346) (by decide +kernel), List.mem_of_getElem? (i := 468) (by decide +kernel), List.mem_of_getElem? (i := 469) (by decide +kernel)⟩
theorem lw_p36 : lw_okq (⟨"CapMachineModel", "down", "(I)I"⟩, 18) := ⟨⟨by decide +kernel, by decide +kernel⟩, List.mem_of_getElem? (i := 346) (by decide +kernel), List.mem_of_getElem? (i := 472) (by decide +kernel), List.mem_of_getElem? (i := 473) (by decide +kernel)⟩
theorem lw_p37 : lw_okq (⟨"CapMachineModel", "up", "(I)I"⟩, 18) := ⟨⟨by decide +kernel, by decide +kernel⟩, List.mem_of_getElem? (i := 346) (by decide +kernel), List.mem_of_getElem? (i := 476) (by decide +kernel), List.mem_of_getElem? (i := 477) (by decide +kernel)⟩
theorem lw_p38 : lw_okq (⟨"CapMachineModel", "forSeal", "()I"⟩, 18) := ⟨⟨by decide +kernel, by decide +kernel⟩, List.mem_of_getElem? (i := 346) (by decide +kernel), List.mem_of_getElem? (i := 480) (by decide +kernel), List.mem_of_getElem? (i := 481) (by decide +kernel)⟩
theorem lw_p39 : lw_okq (⟨"CapMachineModel", "points", "(I)Z"⟩, 18) := ⟨⟨by decide +kernel, by decide +kernel⟩, List.mem_of_getElem? (i := 346) (by decide +kernel), List.mem_of_getElem? (i := 484) (by decide +kernel), List.mem_of_getElem? (i := 485) (by decide +kernel)⟩
theorem lw_p40 : lw_okq (⟨"CapMachineModel", "forUnseal", "()I"⟩, 18) := ⟨⟨by decide +kernel, by decide +kernel⟩, List.mem_of_getElem? (i := 346) (by decide +kernel), List.mem_of_getElem? (i := 488) (by decide +kernel), List.mem_of_getElem? (i := 489) (by decide +kernel)⟩
theorem lw_p41 : lw_okq (⟨"CapMachineModel", "forJump", "()I"⟩, 18) := ⟨⟨by decide +kernel, by decide +kernel⟩, List.mem_of_getElem? (i := 346) (by decide +kernel), List.mem_of_getElem? (i := 492) (by decide +kernel), List.mem_of_getElem? (i := 493) (by decide +kernel)⟩
theorem lw_p42 : lw_okq (⟨"CapMachineModel", "forAccess", "()I"⟩, 18) := ⟨⟨by decide +kernel, by decide +kernel⟩, List.mem_of_getElem? (i := 346) (by decide +kernel), List.mem_of_getElem? (i := 496) (by decide +kernel), List.mem_of_getElem? (i := 497) (by decide +kernel)⟩
theorem lw_p43 : lw_okq (⟨"CapMachineModel", "size", "()I"⟩, 18) := ⟨⟨by decide +kernel, by decide +kernel⟩, List.mem_of_getElem? (i := 346) (by decide +kernel), List.mem_of_getElem? (i := 500) (by decide +kernel), List.mem_of_getElem? (i := 501) (by decide +kernel)⟩
theorem lw_p44 : lw_okq (⟨"CapMachineModel", "copy", "(II)V"⟩, 18) := ⟨⟨by decide +kernel, by decide +kernel⟩, List.mem_of_getElem? (i := 346) (by decide +kernel), List.mem_of_getElem? (i := 504) (by decide +kernel), List.mem_of_getElem? (i := 505) (by decide +kernel)⟩
theorem lw_p45 : lw_okq (⟨"CapMachineModel", "jump", "()V"⟩, 18) := ⟨⟨by decide +kernel, by decide +kernel⟩, List.mem_of_getElem? (i := 346) (by decide +kernel), List.mem_of_getElem? (i := 508) (by decide +kernel), List.mem_of_getElem? (i := 509) (by decide +kernel)⟩
theorem lw_p46 : lw_okq (⟨"CapMachineModel", "move", "(II)V"⟩, 18) := ⟨⟨by decide +kernel, by decide +kernel⟩, List.mem_of_getElem? (i := 346) (by decide +kernel), List.mem_of_getElem? (i := 512) (by decide +kernel), List.mem_of_getElem? (i := 513) (by decide +kernel)⟩
theorem lw_p47 : lw_okq (⟨"CapMachineModel", "doIt", "()V"⟩, 18) := ⟨⟨by decide +kernel, by decide +kernel⟩, List.mem_of_getElem? (i := 346) (by decide +kernel), List.mem_of_getElem? (i := 516) (by decide +kernel), List.mem_of_getElem? (i := 517) (by decide +kernel)⟩
def lw_privs_3 : List (MethodName × Nat) := [(⟨"CapMachineModel", "exception", "()I"⟩, 18), (⟨"CapMachineModel", "loose", "(I)I"⟩, 18), (⟨"CapMachineModel", "forBounds", "()I"⟩, 18), (⟨"CapMachineModel", "exact", "(II)Z"⟩, 18), (⟨"CapMachineModel", "down", "(I)I"⟩, 18), (⟨"CapMachineModel", "up", "(I)I"⟩, 18), (⟨"CapMachineModel", "forSeal", "()I"⟩, 18), (⟨"CapMachineModel", "points", "(I)Z"⟩, 18), (⟨"CapMachineModel", "forUnseal", "()I"⟩, 18), (⟨"CapMachineModel", "forJump", "()I"⟩, 18), (⟨"CapMachineModel", "forAccess", "()I"⟩, 18), (⟨"CapMachineModel", "size", "()I"⟩, 18), (⟨"CapMachineModel", "copy", "(II)V"⟩, 18), (⟨"CapMachineModel", "jump", "()V"⟩, 18), (⟨"CapMachineModel", "move", "(II)V"⟩, 18), (⟨"CapMachineModel", "doIt", "()V"⟩, 18)]
theorem lw_r3 : ∀ q ∈ lw_privs_3, lw_okq q := List.forall_mem_cons.mpr ⟨lw_p32, List.forall_mem_cons.mpr ⟨lw_p33, List.forall_mem_cons.mpr ⟨lw_p34, List.forall_mem_cons.mpr ⟨lw_p35, List.forall_mem_cons.mpr ⟨lw_p36, List.forall_mem_cons.mpr ⟨lw_p37, List.forall_mem_cons.mpr ⟨lw_p38, List.forall_mem_cons.mpr ⟨lw_p39, List.forall_mem_cons.mpr ⟨lw_p40, List.forall_mem_cons.mpr ⟨lw_p41, List.forall_mem_cons.mpr ⟨lw_p42, List.forall_mem_cons.mpr ⟨lw_p43, List.forall_mem_cons.mpr ⟨lw_p44, List.forall_mem_cons.mpr ⟨lw_p45, List.forall_mem_cons.mpr ⟨lw_p46, List.forall_mem_cons.mpr ⟨lw_p47, fun _ h => absurd h List.not_mem_nil⟩⟩⟩⟩⟩⟩⟩⟩⟩⟩⟩⟩⟩⟩⟩⟩
theorem lw_p48 : lw_okq (⟨"CapMachineModel", "goes", "()Z"⟩, 18) := ⟨⟨by decide +kernel, by decide +kernel⟩, List.mem_of_getElem? (i := 346) (by decide +kernel), List.mem_of_getElem? (i := 520) (by decide +kernel), List.mem_of_getElem? (i := 521) (by decide +kernel)⟩
theorem lw_p49 : lw_okq (⟨"CapMachineModel", "reckon", "()I"⟩, 18) := ⟨⟨by decide +kernel, by decide +kernel⟩, List.mem_of_getElem? (i := 346) (by decide +kernel), List.mem_of_getElem? (i := 524) (by decide +kernel), List.mem_of_getElem? (i := 525) (by decide +kernel)⟩
theorem lw_p50 : lw_okq (⟨"CapMachineModel", "within", "()Z"⟩, 18) := ⟨⟨by decide +kernel, by decide +kernel⟩, List.mem_of_getElem? (i := 346) (by decide +kernel), List.mem_of_getElem? (i := 528) (by decide +kernel), List.mem_of_getElem? (i := 529) (by decide +kernel)⟩
theorem lw_p51 : lw_okq (⟨"CapMachineModel", "number", "(II)V"⟩, 18) := ⟨⟨by decide +kernel, by decide +kernel⟩, List.mem_of_getElem? (i := 346) (by decide +kernel), List.mem_of_getElem? (i := 532) (by decide +kernel), List.mem_of_getElem? (i := 533) (by decide +kernel)⟩
theorem lw_p52 : lw_okq (⟨"CapMachineModel", "access", "()V"⟩, 18) := ⟨⟨by decide +kernel, by decide +kernel⟩, List.mem_of_getElem? (i := 346) (by decide +kernel), List.mem_of_getElem? (i := 536) (by decide +kernel), List.mem_of_getElem? (i := 537) (by decide +kernel)⟩
theorem lw_p53 : lw_okq (⟨"CapMachineModel", "word", "(I)I"⟩, 18) := ⟨⟨by decide +kernel, by decide +kernel⟩, List.mem_of_getElem? (i := 346) (by decide +kernel), List.mem_of_getElem? (i := 540) (by decide +kernel), List.mem_of_getElem? (i := 541) (by decide +kernel)⟩
theorem lw_p54 : lw_okq (⟨"CapMachineModel", "load", "(I)V"⟩, 18) := ⟨⟨by decide +kernel, by decide +kernel⟩, List.mem_of_getElem? (i := 346) (by decide +kernel), List.mem_of_getElem? (i := 544) (by decide +kernel), List.mem_of_getElem? (i := 545) (by decide +kernel)⟩
theorem lw_p55 : lw_okq (⟨"CapMachineModel", "derive", "()V"⟩, 18) := ⟨⟨by decide +kernel, by decide +kernel⟩, List.mem_of_getElem? (i := 346) (by decide +kernel), List.mem_of_getElem? (i := 549) (by decide +kernel), List.mem_of_getElem? (i := 550) (by decide +kernel)⟩
theorem lw_p56 : lw_okq (⟨"CapMachineModel", "bound", "()V"⟩, 18) := ⟨⟨by decide +kernel, by decide +kernel⟩, List.mem_of_getElem? (i := 346) (by decide +kernel), List.mem_of_getElem? (i := 553) (by decide +kernel), List.mem_of_getElem? (i := 554) (by decide +kernel)⟩
theorem lw_p57 : lw_okq (⟨"CapMachineModel", "refuse", "(I)I"⟩, 18) := ⟨⟨by decide +kernel, by decide +kernel⟩, List.mem_of_getElem? (i := 346) (by decide +kernel), List.mem_of_getElem? (i := 569) (by decide +kernel), List.mem_of_getElem? (i := 570) (by decide +kernel)⟩
def lw_privs_4 : List (MethodName × Nat) := [(⟨"CapMachineModel", "goes", "()Z"⟩, 18), (⟨"CapMachineModel", "reckon", "()I"⟩, 18), (⟨"CapMachineModel", "within", "()Z"⟩, 18), (⟨"CapMachineModel", "number", "(II)V"⟩, 18), (⟨"CapMachineModel", "access", "()V"⟩, 18), (⟨"CapMachineModel", "word", "(I)I"⟩, 18), (⟨"CapMachineModel", "load", "(I)V"⟩, 18), (⟨"CapMachineModel", "derive", "()V"⟩, 18), (⟨"CapMachineModel", "bound", "()V"⟩, 18), (⟨"CapMachineModel", "refuse", "(I)I"⟩, 18)]
theorem lw_r4 : ∀ q ∈ lw_privs_4, lw_okq q := List.forall_mem_cons.mpr ⟨lw_p48, List.forall_mem_cons.mpr ⟨lw_p49, List.forall_mem_cons.mpr ⟨lw_p50, List.forall_mem_cons.mpr ⟨lw_p51, List.forall_mem_cons.mpr ⟨lw_p52, List.forall_mem_cons.mpr ⟨lw_p53, List.forall_mem_cons.mpr ⟨lw_p54, List.forall_mem_cons.mpr ⟨lw_p55, List.forall_mem_cons.mpr ⟨lw_p56, List.forall_mem_cons.mpr ⟨lw_p57, fun _ h => absurd h List.not_mem_nil⟩⟩⟩⟩⟩⟩⟩⟩⟩⟩
def lw_privs : List (MethodName × Nat) := lw_privs_1 ++ (lw_privs_2 ++ (lw_privs_3 ++ (lw_privs_4)))
def lw_tbl : List Cond := k2_sels lw_privs ++ tables_1
theorem lw_privs_ok : ∀ q ∈ lw_privs, lw_okq q := by
  show ∀ q ∈ lw_privs_1 ++ (lw_privs_2 ++ (lw_privs_3 ++ (lw_privs_4))), lw_okq q
  exact List.forall_mem_append.mpr ⟨lw_r1, List.forall_mem_append.mpr ⟨lw_r2, List.forall_mem_append.mpr ⟨lw_r3, lw_r4⟩⟩⟩
end
section
def R_M : String := "CapMachine"
def R_K : String := "CapMachine$Capability"
def R_E : String := "CapMachine$Memory"
def R_R : String := "CapMachineModel"
def R_L : String := "CapMachineLaw"
def nm_K : Nat → String := fun k => match k with
  | 0 => "valid"
  | 1 => "base"
  | 2 => "top"
  | 3 => "permissions"
  | 4 => "type"
  | _ => "address"
def ds_K : Nat → String := fun k => match k with
  | 0 => "Z"
  | 1 => "I"
  | 2 => "I"
  | 3 => "I"
  | 4 => "I"
  | _ => "I"
def F_K : u_T := fun k => (R_K, nm_K k, ds_K k, false)
def t_K : Nat → FieldType := fun k => match k with
  | 0 => .boolean
  | 1 => .int
  | 2 => .int
  | 3 => .int
  | 4 => .int
  | _ => .int
theorem n_K : ∀ a, a < 6 → ∀ b, b < 6 → a ≠ b → (F_K a).2.1 ≠ (F_K b).2.1 := by decide +kernel
theorem t_K_ok : ∀ k, k < 6 → parseFieldDescriptor (F_K k).2.2.1 = some (t_K k) := by decide +kernel
def nm_E : Nat → String := fun k => match k with
  | 0 => "bytes"
  | _ => "tags"
def ds_E : Nat → String := fun k => match k with
  | 0 => "[B"
  | _ => "[Z"
def F_E : u_T := fun k => (R_E, nm_E k, ds_E k, true)
def t_E : Nat → FieldType := fun k => match k with
  | 0 => .array .byte
  | _ => .array .boolean
theorem n_E : ∀ a, a < 2 → ∀ b, b < 2 → a ≠ b → (F_E a).2.1 ≠ (F_E b).2.1 := by decide +kernel
theorem t_E_ok : ∀ k, k < 2 → parseFieldDescriptor (F_E k).2.2.1 = some (t_E k) := by decide +kernel
def nm_M : Nat → String := fun k => match k with
  | 0 => "slots"
  | 1 => "pc"
  | 2 => "handler"
  | 3 => "fault"
  | 4 => "link"
  | 5 => "memory"
  | 6 => "state"
  | _ => "cause"
def ds_M : Nat → String := fun k => match k with
  | 0 => "[LCapMachine$Capability;"
  | 1 => "LCapMachine$Capability;"
  | 2 => "LCapMachine$Capability;"
  | 3 => "LCapMachine$Capability;"
  | 4 => "LCapMachine$Capability;"
  | 5 => "LCapMachine$Memory;"
  | 6 => "I"
  | _ => "I"
def fi_M : Nat → Bool := fun k => match k with
  | 0 => true
  | 1 => true
  | 2 => true
  | 3 => true
  | 4 => true
  | 5 => true
  | 6 => false
  | _ => false
def F_M : u_T := fun k => (R_M, nm_M k, ds_M k, fi_M k)
def t_M : Nat → FieldType := fun k => match k with
  | 0 => .array (.object "CapMachine$Capability")
  | 1 => .object "CapMachine$Capability"
  | 2 => .object "CapMachine$Capability"
  | 3 => .object "CapMachine$Capability"
  | 4 => .object "CapMachine$Capability"
  | 5 => .object "CapMachine$Memory"
  | 6 => .int
  | _ => .int
theorem n_M : ∀ a, a < 8 → ∀ b, b < 8 → a ≠ b → (F_M a).2.1 ≠ (F_M b).2.1 := by decide +kernel
theorem t_M_ok : ∀ k, k < 8 → parseFieldDescriptor (F_M k).2.2.1 = some (t_M k) := by decide +kernel
def nm_R : Nat → String := fun k => match k with
  | 0 => "thrown"
  | 1 => "memory"
  | 2 => "tags"
  | 3 => "valid"
  | 4 => "base"
  | 5 => "top"
  | 6 => "address"
  | 7 => "permissions"
  | 8 => "type"
  | 9 => "cause"
  | 10 => "state"
  | 11 => "code"
  | 12 => "a"
  | 13 => "b"
  | 14 => "c"
  | 15 => "imm"
  | 16 => "half"
  | _ => "raised"
def ds_R : Nat → String := fun k => match k with
  | 0 => "I"
  | 1 => "[I"
  | 2 => "[Z"
  | 3 => "[Z"
  | 4 => "[I"
  | 5 => "[I"
  | 6 => "[I"
  | 7 => "[I"
  | 8 => "[I"
  | 9 => "I"
  | 10 => "I"
  | 11 => "I"
  | 12 => "I"
  | 13 => "I"
  | 14 => "I"
  | 15 => "I"
  | 16 => "I"
  | _ => "Z"
def fi_R : Nat → Bool := fun k => match k with
  | 0 => false
  | 1 => true
  | 2 => true
  | 3 => true
  | 4 => true
  | 5 => true
  | 6 => true
  | 7 => true
  | 8 => true
  | 9 => false
  | 10 => false
  | 11 => false
  | 12 => false
  | 13 => false
  | 14 => false
  | 15 => false
  | 16 => false
  | _ => false
def F_R : u_T := fun k => (R_R, nm_R k, ds_R k, fi_R k)
def t_R : Nat → FieldType := fun k => match k with
  | 0 => .int
  | 1 => .array .int
  | 2 => .array .boolean
  | 3 => .array .boolean
  | 4 => .array .int
  | 5 => .array .int
  | 6 => .array .int
  | 7 => .array .int
  | 8 => .array .int
  | 9 => .int
  | 10 => .int
  | 11 => .int
  | 12 => .int
  | 13 => .int
  | 14 => .int
  | 15 => .int
  | 16 => .int
  | _ => .boolean
theorem n_R : ∀ a, a < 18 → ∀ b, b < 18 → a ≠ b → (F_R a).2.1 ≠ (F_R b).2.1 := by decide +kernel
theorem t_R_ok : ∀ k, k < 18 → parseFieldDescriptor (F_R k).2.2.1 = some (t_R k) := by decide +kernel
abbrev cls : List vw_C := [(R_K, F_K, 6), (R_E, F_E, 2), (R_M, F_M, 8), (R_R, F_R, 18)]
def TB : List Cond := lw_tbl.filter goodWord
theorem TB_good : ∀ w ∈ TB, goodWord w = true := fun w h => (List.mem_filter.mp h).2
theorem tbT (i : Nat) {w : Cond} (h : tables_1[i]? = some w) (hg : goodWord w = true) : w ∈ TB := List.mem_filter.mpr ⟨List.mem_append_right _ (List.mem_of_getElem? h), hg⟩
theorem tbS (i : Nat) {q : MethodName × Nat} (h : lw_privs[i]? = some q) : Cond.selects q.1.cls q.1 q.1 ∈ TB := List.mem_filter.mpr ⟨List.mem_append_left _ (List.mem_map.mpr ⟨q, List.mem_of_getElem? h, rfl⟩), rfl⟩
def nw_is : Cond → Bool
  | .fieldLinkNest .. => true
  | .methodLinkNest .. => true
  | _ => false
def NW : List Cond := tables_1.filter nw_is
theorem nwT (i : Nat) {w : Cond} (h : tables_1[i]? = some w) (hg : nw_is w = true) : w ∈ NW := List.mem_filter.mpr ⟨List.mem_of_getElem? h, hg⟩
/-- the links between nest mates, which are no words of a contract: they stand in its start -/
def NL (U : State) : Prop := ∀ w ∈ NW, va_Nw w U
theorem NL_warm {s U : State} (hW : s.WarmedH U.vm) (h : NL s) : NL U := by
  intro w hw
  have h1 : nw_is w = true := (List.mem_filter.mp hw).2
  have h2 := h w hw
  cases w <;> first | exact va_Nw.warmF hW h2 | exact va_Nw.warmM hW h2 | cases h1
theorem NL_same {u U : State} (e : u.vm = U.vm) (h : NL u) : NL U := by
  intro w hw
  have h1 : nw_is w = true := (List.mem_filter.mp hw).2
  have h2 := h w hw
  cases w <;> first | exact va_Nw.same rfl e h2 | cases h1
theorem in_K : ∀ w ∈ u_ws R_K F_K 6, w ∈ TB := by
  intro w hw
  obtain ⟨k, hk, rfl⟩ := List.mem_map.mp hw
  have hk := List.mem_range.mp hk
  match k, hk with
  | 0, _ => exact tbT 39 (by decide +kernel) rfl
  | 1, _ => exact tbT 41 (by decide +kernel) rfl
  | 2, _ => exact tbT 43 (by decide +kernel) rfl
  | 3, _ => exact tbT 45 (by decide +kernel) rfl
  | 4, _ => exact tbT 47 (by decide +kernel) rfl
  | 5, _ => exact tbT 49 (by decide +kernel) rfl
theorem in_E : ∀ w ∈ u_ws R_E F_E 2, w ∈ TB := by
  intro w hw
  obtain ⟨k, hk, rfl⟩ := List.mem_map.mp hw
  have hk := List.mem_range.mp hk
  match k, hk with
  | 0, _ => exact tbT 61 (by decide +kernel) rfl
  | 1, _ => exact tbT 63 (by decide +kernel) rfl
theorem in_M : ∀ w ∈ u_ws R_M F_M 8, w ∈ TB := by
  intro w hw
  obtain ⟨k, hk, rfl⟩ := List.mem_map.mp hw
  have hk := List.mem_range.mp hk
  match k, hk with
  | 0, _ => exact tbT 80 (by decide +kernel) rfl
  | 1, _ => exact tbT 82 (by decide +kernel) rfl
  | 2, _ => exact tbT 84 (by decide +kernel) rfl
  | 3, _ => exact tbT 86 (by decide +kernel) rfl
  | 4, _ => exact tbT 88 (by decide +kernel) rfl
  | 5, _ => exact tbT 90 (by decide +kernel) rfl
  | 6, _ => exact tbT 92 (by decide +kernel) rfl
  | 7, _ => exact tbT 94 (by decide +kernel) rfl
theorem in_R : ∀ w ∈ u_ws R_R F_R 18, w ∈ TB := by
  intro w hw
  obtain ⟨k, hk, rfl⟩ := List.mem_map.mp hw
  have hk := List.mem_range.mp hk
  match k, hk with
  | 0, _ => exact tbT 373 (by decide +kernel) rfl
  | 1, _ => exact tbT 375 (by decide +kernel) rfl
  | 2, _ => exact tbT 377 (by decide +kernel) rfl
  | 3, _ => exact tbT 379 (by decide +kernel) rfl
  | 4, _ => exact tbT 381 (by decide +kernel) rfl
  | 5, _ => exact tbT 383 (by decide +kernel) rfl
  | 6, _ => exact tbT 385 (by decide +kernel) rfl
  | 7, _ => exact tbT 387 (by decide +kernel) rfl
  | 8, _ => exact tbT 389 (by decide +kernel) rfl
  | 9, _ => exact tbT 391 (by decide +kernel) rfl
  | 10, _ => exact tbT 393 (by decide +kernel) rfl
  | 11, _ => exact tbT 395 (by decide +kernel) rfl
  | 12, _ => exact tbT 397 (by decide +kernel) rfl
  | 13, _ => exact tbT 399 (by decide +kernel) rfl
  | 14, _ => exact tbT 401 (by decide +kernel) rfl
  | 15, _ => exact tbT 403 (by decide +kernel) rfl
  | 16, _ => exact tbT 405 (by decide +kernel) rfl
  | 17, _ => exact tbT 407 (by decide +kernel) rfl
  | n + 18, h => exact absurd h (by omega)
abbrev b_E_byteAt : ByteArray := prog_3_method_2_code
def y_E_byteAt : MethodName := ⟨R_E, "byteAt", "(I)I"⟩
abbrev b_E_init : ByteArray := prog_3_method_1_code
def y_E_init : MethodName := ⟨R_E, "<init>", "()V"⟩
abbrev b_E_loadCapability : ByteArray := prog_3_method_5_code
def y_E_loadCapability : MethodName := ⟨R_E, "loadCapability", "(ILCapMachine$Capability;)V"⟩
abbrev b_E_store : ByteArray := prog_3_method_4_code
def y_E_store : MethodName := ⟨R_E, "store", "(III)V"⟩
abbrev b_E_storeCapability : ByteArray := prog_3_method_6_code
def y_E_storeCapability : MethodName := ⟨R_E, "storeCapability", "(ILCapMachine$Capability;)V"⟩
abbrev b_E_wordAt : ByteArray := prog_3_method_3_code
def y_E_wordAt : MethodName := ⟨R_E, "wordAt", "(I)I"⟩
abbrev b_K_become : ByteArray := prog_2_method_4_code
def y_K_become : MethodName := ⟨R_K, "become", "(LCapMachine$Capability;)V"⟩
abbrev b_K_becomeGranted : ByteArray := prog_2_method_3_code
def y_K_becomeGranted : MethodName := ⟨R_K, "becomeGranted", "(IIII)V"⟩
abbrev b_K_becomeNumber : ByteArray := prog_2_method_2_code
def y_K_becomeNumber : MethodName := ⟨R_K, "becomeNumber", "(I)V"⟩
abbrev b_K_becomeUnpacked : ByteArray := prog_2_method_5_code
def y_K_becomeUnpacked : MethodName := ⟨R_K, "becomeUnpacked", "(ZII)V"⟩
abbrev b_K_hasAddressInBounds : ByteArray := prog_2_method_10_code
def y_K_hasAddressInBounds : MethodName := ⟨R_K, "hasAddressInBounds", "()Z"⟩
abbrev b_K_init : ByteArray := prog_2_method_1_code
def y_K_init : MethodName := ⟨R_K, "<init>", "()V"⟩
abbrev b_K_isWithin : ByteArray := prog_2_method_11_code
def y_K_isWithin : MethodName := ⟨R_K, "isWithin", "(LCapMachine$Capability;)Z"⟩
abbrev b_K_moveTo : ByteArray := prog_2_method_7_code
def y_K_moveTo : MethodName := ⟨R_K, "moveTo", "(I)V"⟩
abbrev b_K_packed : ByteArray := prog_2_method_6_code
def y_K_packed : MethodName := ⟨R_K, "packed", "()I"⟩
abbrev b_K_part : ByteArray := prog_2_method_8_code
def y_K_part : MethodName := ⟨R_K, "part", "(I)I"⟩
abbrev b_K_permits : ByteArray := prog_2_method_9_code
def y_K_permits : MethodName := ⟨R_K, "permits", "(I)Z"⟩
abbrev b_K_refusal : ByteArray := prog_2_method_12_code
def y_K_refusal : MethodName := ⟨R_K, "refusal", "(IJI)I"⟩
abbrev b_M_access : ByteArray := prog_1_method_29_code
def y_M_access : MethodName := ⟨R_M, "access", "(ILCapMachine$Capability;LCapMachine$Capability;J)I"⟩
abbrev b_M_advance : ByteArray := prog_1_method_12_code
def y_M_advance : MethodName := ⟨R_M, "advance", "(I)I"⟩
abbrev b_M_areExact : ByteArray := prog_1_method_22_code
def y_M_areExact : MethodName := ⟨R_M, "areExact", "(II)Z"⟩
abbrev b_M_branch : ByteArray := prog_1_method_13_code
def y_M_branch : MethodName := ⟨R_M, "branch", "(ZI)I"⟩
abbrev b_M_bytesOf : ByteArray := prog_1_method_31_code
def y_M_bytesOf : MethodName := ⟨R_M, "bytesOf", "(I)I"⟩
abbrev b_M_cause : ByteArray := prog_1_method_6_code
def y_M_cause : MethodName := ⟨R_M, "cause", "()I"⟩
abbrev b_M_compute : ByteArray := prog_1_method_15_code
def y_M_compute : MethodName := ⟨R_M, "compute", "(ILCapMachine$Capability;LCapMachine$Capability;LCapMachine$Capability;I)I"⟩
abbrev b_M_copy : ByteArray := prog_1_method_17_code
def y_M_copy : MethodName := ⟨R_M, "copy", "(LCapMachine$Capability;LCapMachine$Capability;)I"⟩
abbrev b_M_grant : ByteArray := prog_1_method_2_code
def y_M_grant : MethodName := ⟨R_M, "grant", "(IIIII)V"⟩
abbrev b_M_init : ByteArray := prog_1_method_1_code
def y_M_init : MethodName := ⟨R_M, "<init>", "()V"⟩
abbrev b_M_jump : ByteArray := prog_1_method_14_code
def y_M_jump : MethodName := ⟨R_M, "jump", "(LCapMachine$Capability;LCapMachine$Capability;)I"⟩
abbrev b_M_look : ByteArray := prog_1_method_7_code
def y_M_look : MethodName := ⟨R_M, "look", "(II)I"⟩
abbrev b_M_makeEntry : ByteArray := prog_1_method_27_code
def y_M_makeEntry : MethodName := ⟨R_M, "makeEntry", "(LCapMachine$Capability;LCapMachine$Capability;)I"⟩
abbrev b_M_multipleNotAbove : ByteArray := prog_1_method_23_code
def y_M_multipleNotAbove : MethodName := ⟨R_M, "multipleNotAbove", "(I)I"⟩
abbrev b_M_multipleNotBelow : ByteArray := prog_1_method_24_code
def y_M_multipleNotBelow : MethodName := ⟨R_M, "multipleNotBelow", "(I)I"⟩
abbrev b_M_number : ByteArray := prog_1_method_16_code
def y_M_number : MethodName := ⟨R_M, "number", "(LCapMachine$Capability;I)I"⟩
abbrev b_M_peek : ByteArray := prog_1_method_8_code
def y_M_peek : MethodName := ⟨R_M, "peek", "(I)I"⟩
abbrev b_M_permissionsFor : ByteArray := prog_1_method_30_code
def y_M_permissionsFor : MethodName := ⟨R_M, "permissionsFor", "(ILCapMachine$Capability;)I"⟩
abbrev b_M_poke : ByteArray := prog_1_method_3_code
def y_M_poke : MethodName := ⟨R_M, "poke", "(III)V"⟩
abbrev b_M_run : ByteArray := prog_1_method_4_code
def y_M_run : MethodName := ⟨R_M, "run", "(I)I"⟩
abbrev b_M_seal : ByteArray := prog_1_method_25_code
def y_M_seal : MethodName := ⟨R_M, "seal", "(LCapMachine$Capability;LCapMachine$Capability;LCapMachine$Capability;)I"⟩
abbrev b_M_setHandler : ByteArray := prog_1_method_28_code
def y_M_setHandler : MethodName := ⟨R_M, "setHandler", "(LCapMachine$Capability;)I"⟩
abbrev b_M_state : ByteArray := prog_1_method_5_code
def y_M_state : MethodName := ⟨R_M, "state", "()I"⟩
abbrev b_M_step : ByteArray := prog_1_method_11_code
def y_M_step : MethodName := ⟨R_M, "step", "()I"⟩
abbrev b_M_tagged : ByteArray := prog_1_method_9_code
def y_M_tagged : MethodName := ⟨R_M, "tagged", "(I)Z"⟩
abbrev b_M_takeException : ByteArray := prog_1_method_10_code
def y_M_takeException : MethodName := ⟨R_M, "takeException", "(I)V"⟩
abbrev b_M_unseal : ByteArray := prog_1_method_26_code
def y_M_unseal : MethodName := ⟨R_M, "unseal", "(LCapMachine$Capability;LCapMachine$Capability;LCapMachine$Capability;)I"⟩
abbrev b_M_withAddress : ByteArray := prog_1_method_19_code
def y_M_withAddress : MethodName := ⟨R_M, "withAddress", "(LCapMachine$Capability;LCapMachine$Capability;I)I"⟩
abbrev b_M_withBounds : ByteArray := prog_1_method_21_code
def y_M_withBounds : MethodName := ⟨R_M, "withBounds", "(LCapMachine$Capability;LCapMachine$Capability;IZ)I"⟩
abbrev b_M_withPermissions : ByteArray := prog_1_method_20_code
def y_M_withPermissions : MethodName := ⟨R_M, "withPermissions", "(LCapMachine$Capability;LCapMachine$Capability;I)I"⟩
abbrev b_M_withoutTag : ByteArray := prog_1_method_18_code
def y_M_withoutTag : MethodName := ⟨R_M, "withoutTag", "(LCapMachine$Capability;LCapMachine$Capability;)I"⟩
abbrev b_R_access : ByteArray := prog_5_method_27_code
def y_R_access : MethodName := ⟨R_R, "access", "()V"⟩
abbrev b_R_allow : ByteArray := prog_5_method_12_code
def y_R_allow : MethodName := ⟨R_R, "allow", "(IJII)I"⟩
abbrev b_R_bound : ByteArray := prog_5_method_30_code
def y_R_bound : MethodName := ⟨R_R, "bound", "()V"⟩
abbrev b_R_cause : ByteArray := prog_5_method_41_code
def y_R_cause : MethodName := ⟨R_R, "cause", "()I"⟩
abbrev b_R_copy : ByteArray := prog_5_method_7_code
def y_R_copy : MethodName := ⟨R_R, "copy", "(II)V"⟩
abbrev b_R_derive : ByteArray := prog_5_method_31_code
def y_R_derive : MethodName := ⟨R_R, "derive", "()V"⟩
abbrev b_R_doIt : ByteArray := prog_5_method_34_code
def y_R_doIt : MethodName := ⟨R_R, "doIt", "()V"⟩
abbrev b_R_down : ByteArray := prog_5_method_14_code
def y_R_down : MethodName := ⟨R_R, "down", "(I)I"⟩
abbrev b_R_exact : ByteArray := prog_5_method_13_code
def y_R_exact : MethodName := ⟨R_R, "exact", "(II)Z"⟩
abbrev b_R_exception : ByteArray := prog_5_method_23_code
def y_R_exception : MethodName := ⟨R_R, "exception", "()I"⟩
abbrev b_R_fetch : ByteArray := prog_5_method_35_code
def y_R_fetch : MethodName := ⟨R_R, "fetch", "(I)V"⟩
abbrev b_R_forAccess : ByteArray := prog_5_method_21_code
def y_R_forAccess : MethodName := ⟨R_R, "forAccess", "()I"⟩
abbrev b_R_forBounds : ByteArray := prog_5_method_16_code
def y_R_forBounds : MethodName := ⟨R_R, "forBounds", "()I"⟩
abbrev b_R_forJump : ByteArray := prog_5_method_22_code
def y_R_forJump : MethodName := ⟨R_R, "forJump", "()I"⟩
abbrev b_R_forSeal : ByteArray := prog_5_method_18_code
def y_R_forSeal : MethodName := ⟨R_R, "forSeal", "()I"⟩
abbrev b_R_forUnseal : ByteArray := prog_5_method_19_code
def y_R_forUnseal : MethodName := ⟨R_R, "forUnseal", "()I"⟩
abbrev b_R_goes : ByteArray := prog_5_method_33_code
def y_R_goes : MethodName := ⟨R_R, "goes", "()Z"⟩
abbrev b_R_grant : ByteArray := prog_5_method_37_code
def y_R_grant : MethodName := ⟨R_R, "grant", "(IIIII)V"⟩
abbrev b_R_init : ByteArray := prog_5_method_1_code
def y_R_init : MethodName := ⟨R_R, "<init>", "()V"⟩
abbrev b_R_jump : ByteArray := prog_5_method_32_code
def y_R_jump : MethodName := ⟨R_R, "jump", "()V"⟩
abbrev b_R_load : ByteArray := prog_5_method_26_code
def y_R_load : MethodName := ⟨R_R, "load", "(I)V"⟩
abbrev b_R_look : ByteArray := prog_5_method_42_code
def y_R_look : MethodName := ⟨R_R, "look", "(II)I"⟩
abbrev b_R_loose : ByteArray := prog_5_method_11_code
def y_R_loose : MethodName := ⟨R_R, "loose", "(I)I"⟩
abbrev b_R_may : ByteArray := prog_5_method_9_code
def y_R_may : MethodName := ⟨R_R, "may", "(II)Z"⟩
abbrev b_R_move : ByteArray := prog_5_method_8_code
def y_R_move : MethodName := ⟨R_R, "move", "(II)V"⟩
abbrev b_R_number : ByteArray := prog_5_method_6_code
def y_R_number : MethodName := ⟨R_R, "number", "(II)V"⟩
abbrev b_R_outside : ByteArray := prog_5_method_4_code
def y_R_outside : MethodName := ⟨R_R, "outside", "(III)Z"⟩
abbrev b_R_peek : ByteArray := prog_5_method_43_code
def y_R_peek : MethodName := ⟨R_R, "peek", "(I)I"⟩
abbrev b_R_points : ByteArray := prog_5_method_17_code
def y_R_points : MethodName := ⟨R_R, "points", "(I)Z"⟩
abbrev b_R_poke : ByteArray := prog_5_method_38_code
def y_R_poke : MethodName := ⟨R_R, "poke", "(III)V"⟩
abbrev b_R_reckon : ByteArray := prog_5_method_29_code
def y_R_reckon : MethodName := ⟨R_R, "reckon", "()I"⟩
abbrev b_R_refuse : ByteArray := prog_5_method_3_code
def y_R_refuse : MethodName := ⟨R_R, "refuse", "(I)I"⟩
abbrev b_R_run : ByteArray := prog_5_method_39_code
def y_R_run : MethodName := ⟨R_R, "run", "(I)I"⟩
abbrev b_R_set : ByteArray := prog_5_method_5_code
def y_R_set : MethodName := ⟨R_R, "set", "(IIIII)V"⟩
abbrev b_R_size : ByteArray := prog_5_method_20_code
def y_R_size : MethodName := ⟨R_R, "size", "()I"⟩
abbrev b_R_state : ByteArray := prog_5_method_40_code
def y_R_state : MethodName := ⟨R_R, "state", "()I"⟩
abbrev b_R_step : ByteArray := prog_5_method_36_code
def y_R_step : MethodName := ⟨R_R, "step", "()V"⟩
abbrev b_R_store : ByteArray := prog_5_method_25_code
def y_R_store : MethodName := ⟨R_R, "store", "(III)V"⟩
abbrev b_R_tagged : ByteArray := prog_5_method_44_code
def y_R_tagged : MethodName := ⟨R_R, "tagged", "(I)Z"⟩
abbrev b_R_thrown : ByteArray := prog_5_method_2_code
def y_R_thrown : MethodName := ⟨R_R, "thrown", "()I"⟩
abbrev b_R_up : ByteArray := prog_5_method_15_code
def y_R_up : MethodName := ⟨R_R, "up", "(I)I"⟩
abbrev b_R_usable : ByteArray := prog_5_method_10_code
def y_R_usable : MethodName := ⟨R_R, "usable", "(I)I"⟩
abbrev b_R_within : ByteArray := prog_5_method_28_code
def y_R_within : MethodName := ⟨R_R, "within", "()Z"⟩
abbrev b_R_word : ByteArray := prog_5_method_24_code
def y_R_word : MethodName := ⟨R_R, "word", "(I)I"⟩
end
section
-- booleans as the machine holds them
def b2i (b : Bool) : Int32 := match b with
  | true => 1
  | false => 0
theorem b2i_nar (b : Bool) : narrow .boolean (.int (b2i b)) = .int (b2i b) := by cases b <;> rfl
theorem b2i_fit (b : Bool) : fits .boolean (.int (b2i b)) = true := by cases b <;> rfl
theorem b2i_vp (b : Bool) : vp_nar .boolean (b2i b) = b2i b := by cases b <;> rfl
theorem b2i_0 (b : Bool) : b2i b = 0 ↔ b = false := by cases b <;> decide
theorem b2i_e (a b : Bool) : b2i a = b2i b ↔ a = b := by cases a <;> cases b <;> decide
theorem bn_f {b : Bool} (h : b = false) : ¬ b = true := by rw [h]; exact Bool.false_ne_true
theorem bn_n {b : Bool} (h : ¬ b = true) : b = false := by cases b with
  | true => exact absurd rfl h
  | false => rfl
-- what a capability is: valid, base, top, permissions, type, address (the order of the class's fields)
abbrev Cp : Type := Bool × Int32 × Int32 × Int32 × Int32 × Int32
def k_v (x : Cp) : Bool := x.1
def k_b (x : Cp) : Int32 := x.2.1
def k_t (x : Cp) : Int32 := x.2.2.1
def k_p (x : Cp) : Int32 := x.2.2.2.1
def k_y (x : Cp) : Int32 := x.2.2.2.2.1
def k_a (x : Cp) : Int32 := x.2.2.2.2.2
def s_v (x : Cp) (v : Bool) : Cp := (v, x.2)
def s_b (x : Cp) (v : Int32) : Cp := (x.1, v, x.2.2)
def s_t (x : Cp) (v : Int32) : Cp := (x.1, x.2.1, v, x.2.2.2)
def s_p (x : Cp) (v : Int32) : Cp := (x.1, x.2.1, x.2.2.1, v, x.2.2.2.2)
def s_y (x : Cp) (v : Int32) : Cp := (x.1, x.2.1, x.2.2.1, x.2.2.2.1, v, x.2.2.2.2.2)
def s_a (x : Cp) (v : Int32) : Cp := (x.1, x.2.1, x.2.2.1, x.2.2.2.1, x.2.2.2.2.1, v)
def capL (x : Cp) : List Value := [.int (b2i (k_v x)), .int (k_b x), .int (k_t x), .int (k_p x), .int (k_y x), .int (k_a x)]
def bank (ad : Nat → Nat) (c : Nat → Cp) : va_W := (List.range 12).map (fun i => (ad i, .inr (0, capL (c i))))
def mF (xa ad : Nat → Nat) (sS sC : Int32) : List Value := [.ref (xa 1), .ref (ad 8), .ref (ad 9), .ref (ad 10), .ref (ad 11), .ref (xa 2), .int sS, .int sC]
def mX (q : Nat → ClassId) (xa ad : Nat → Nat) (sS sC : Int32) (fB : Nat → Int32) (gT : Nat → Bool) : va_W :=
  [(xa 0, .inr (2, mF xa ad sS sC)), (xa 1, .inl (q 0, 11, .inr (.inr (.inr (.inr (fun i => some (ad i))))))), (xa 2, .inr (1, [.ref (xa 3), .ref (xa 4)])), (xa 3, .inl (q 1, 512, .inl fB)), (xa 4, .inl (q 2, 64, .inl (fun k => b2i (gT k))))]
/-- the machine's world: its object, the array of slots, the memory's object and its two arrays, twelve capabilities -/
def mW (q : Nat → ClassId) (xa ad : Nat → Nat) (sS sC : Int32) (fB : Nat → Int32) (gT : Nat → Bool) (cK : Nat → Cp) : va_W := mX q xa ad sS sC fB gT ++ bank ad cK
def tyM (q : Nat → ClassId) : List (ClassId × FieldType) := [(q 0, .object R_K), (q 1, .byte), (q 2, .boolean)]
theorem bank_len {ad : Nat → Nat} {c : Nat → Cp} : (bank ad c).length = 12 := by simp [bank]
theorem bank_get {X : va_W} {ad : Nat → Nat} {c : Nat → Cp} {i : Nat} (hi : i < 12) : (X ++ bank ad c)[X.length + i]? = some (ad i, .inr (0, capL (c i))) := by
  rw [List.getElem?_append_right (by omega), Nat.add_sub_cancel_left]
  simp [bank, hi]
theorem bank_set {X : va_W} {ad : Nat → Nat} {c : Nat → Cp} {i : Nat} (x : Cp) (hi : i < 12) : (X ++ bank ad c).set (X.length + i) (ad i, .inr (0, capL x)) = X ++ bank ad (va_up c i x) := by
  apply List.ext_getElem?
  intro j
  by_cases hj : j = X.length + i
  · subst hj
    rw [List.getElem?_set_self (by rw [List.length_append, bank_len]; omega), bank_get hi, va_up_self]
  · rw [List.getElem?_set_ne (Ne.symm hj)]
    by_cases h1 : j < X.length
    · rw [List.getElem?_append_left h1, List.getElem?_append_left h1]
    · rw [List.getElem?_append_right (by omega), List.getElem?_append_right (by omega)]
      have h2 : j - X.length ≠ i := by omega
      simp only [bank, List.getElem?_map]
      cases hb : (List.range 12)[j - X.length]? with
      | none => rfl
      | some b =>
        have hb2 : b = j - X.length := by
          obtain ⟨h4, h5⟩ := List.getElem?_eq_some_iff.mp hb
          simpa using h5.symm
        subst hb2
        simp [va_up, h2]
section MW
variable {q : Nat → ClassId} {xa ad : Nat → Nat} {sS sC sS' sC' : Int32} {fB fB' : Nat → Int32} {gT gT' : Nat → Bool} {cK cK' : Nat → Cp} {A : Nat → Prop}
theorem mW_get {i : Nat} (hi : i < 12) : (mW q xa ad sS sC fB gT cK)[5 + i]? = some (ad i, .inr (0, capL (cK i))) := bank_get (X := mX q xa ad sS sC fB gT) hi
theorem mW_set {i : Nat} (x : Cp) (hi : i < 12) : (mW q xa ad sS sC fB gT cK).set (5 + i) (ad i, .inr (0, capL x)) = mW q xa ad sS sC fB gT (va_up cK i x) := bank_set (X := mX q xa ad sS sC fB gT) x hi
theorem D_map {ws ws' : va_W} (h : va_D A ws) (e : ws.map (fun z => z.1) = ws'.map (fun z => z.1)) : va_D A ws' := by
  have key : ∀ (i : Nat) (p : Nat × va_E), ws'[i]? = some p → ∃ p' : Nat × va_E, ws[i]? = some p' ∧ p'.1 = p.1 := by
    intro i p hp
    have h1 : (ws'.map (fun z => z.1))[i]? = some p.1 := by rw [List.getElem?_map, hp]; rfl
    rw [← e, List.getElem?_map] at h1
    cases hq : ws[i]? with
    | none => rw [hq] at h1; cases h1
    | some p' => rw [hq] at h1; exact ⟨p', rfl, Option.some.inj h1⟩
  refine ⟨fun i j p q hi hj hpq => ?_, fun k q hq => ?_⟩
  · obtain ⟨p', a1, a2⟩ := key i p hi
    obtain ⟨q', b1, b2⟩ := key j q hj
    exact h.1 i j p' q' a1 b1 (by rw [a2, b2, hpq])
  · obtain ⟨q', a1, a2⟩ := key k q hq
    rw [← a2]
    exact h.2 k q' a1
theorem mW_D (h : va_D A (mW q xa ad sS sC fB gT cK)) : va_D A (mW q xa ad sS' sC' fB' gT' cK') := D_map h rfl
end MW
-- the reference's world
def rF (xa : Nat → Nat) (th ca st co ra rb rc im hf : Int32) (rz : Bool) : List Value := [.int th, .ref (xa 1), .ref (xa 2), .ref (xa 3), .ref (xa 4), .ref (xa 5), .ref (xa 6), .ref (xa 7), .ref (xa 8), .int ca, .int st, .int co, .int ra, .int rb, .int rc, .int im, .int hf, .int (b2i rz)]
def rW (q : Nat → ClassId) (xa : Nat → Nat) (th ca st co ra rb rc im hf : Int32) (rz : Bool) (fM : Nat → Int32) (gT : Nat → Bool) (cK : Nat → Cp) : va_W :=
  [(xa 0, .inr (3, rF xa th ca st co ra rb rc im hf rz)), (xa 1, .inl (q 0, 512, .inl fM)), (xa 2, .inl (q 1, 64, .inl (fun k => b2i (gT k)))), (xa 3, .inl (q 2, 12, .inl (fun i => b2i (k_v (cK i))))), (xa 4, .inl (q 3, 12, .inl (fun i => k_b (cK i)))), (xa 5, .inl (q 4, 12, .inl (fun i => k_t (cK i)))), (xa 6, .inl (q 5, 12, .inl (fun i => k_a (cK i)))), (xa 7, .inl (q 6, 12, .inl (fun i => k_p (cK i)))), (xa 8, .inl (q 7, 12, .inl (fun i => k_y (cK i))))]
def tyR (q : Nat → ClassId) : List (ClassId × FieldType) := [(q 0, .int), (q 1, .boolean), (q 2, .boolean), (q 3, .int), (q 4, .int), (q 5, .int), (q 6, .int), (q 7, .int)]
section RW
variable {q : Nat → ClassId} {xa : Nat → Nat} {th ca st co ra rb rc im hf th' ca' st' co' ra' rb' rc' im' hf' : Int32} {rz rz' : Bool} {fM fM' : Nat → Int32} {gT gT' : Nat → Bool} {cK cK' : Nat → Cp} {A : Nat → Prop}
theorem rW_D (h : va_D A (rW q xa th ca st co ra rb rc im hf rz fM gT cK)) : va_D A (rW q xa th' ca' st' co' ra' rb' rc' im' hf' rz' fM' gT' cK') := D_map h rfl
theorem up_v (i : Nat) (z : Cp) (f : Nat → Cp) : (fun j => b2i (k_v (va_up f i z j))) = upd (fun j => b2i (k_v (f j))) i (b2i (k_v z)) := by funext j; by_cases h : j = i <;> simp [va_up, upd, h]
theorem up_b (i : Nat) (z : Cp) (f : Nat → Cp) : (fun j => k_b (va_up f i z j)) = upd (fun j => k_b (f j)) i (k_b z) := by funext j; by_cases h : j = i <;> simp [va_up, upd, h]
theorem up_t (i : Nat) (z : Cp) (f : Nat → Cp) : (fun j => k_t (va_up f i z j)) = upd (fun j => k_t (f j)) i (k_t z) := by funext j; by_cases h : j = i <;> simp [va_up, upd, h]
theorem up_p (i : Nat) (z : Cp) (f : Nat → Cp) : (fun j => k_p (va_up f i z j)) = upd (fun j => k_p (f j)) i (k_p z) := by funext j; by_cases h : j = i <;> simp [va_up, upd, h]
theorem up_y (i : Nat) (z : Cp) (f : Nat → Cp) : (fun j => k_y (va_up f i z j)) = upd (fun j => k_y (f j)) i (k_y z) := by funext j; by_cases h : j = i <;> simp [va_up, upd, h]
theorem up_a (i : Nat) (z : Cp) (f : Nat → Cp) : (fun j => k_a (va_up f i z j)) = upd (fun j => k_a (f j)) i (k_a z) := by funext j; by_cases h : j = i <;> simp [va_up, upd, h]
theorem up_T (i : Nat) (z : Bool) (f : Nat → Bool) : (fun j => b2i (va_up f i z j)) = upd (fun j => b2i (f j)) i (b2i z) := by funext j; by_cases h : j = i <;> simp [va_up, upd, h]
theorem upd_id (f : Nat → Int32) (i : Nat) : upd f i (f i) = f := by funext j; by_cases h : j = i <;> simp [upd, h]
end RW
end
section
section OwnRows
variable {p : Program} {l : Launch} {e : Env} {R : Room} {s : State} {m : MethodId} {args : Array Value} {below : List Frame} {meth : Method} {c : Code} {H : Heap} {locs : List Loc} {cells slots : Nat} {Q : State → Prop}
variable {cc : ByteArray} {pc : Nat} {ls : Array Slot} {rest : List Value} {D : va_G} {A : Nat → Prop} {tys : List (ClassId × FieldType)} {H0 : Heap} {own : String} {nL index : Nat}
variable {q : Nat → ClassId} {xa ad : Nat → Nat} {sS sC : Int32} {fB : Nat → Int32} {gT : Nat → Bool} {cK : Nat → Cp}
/-- a join: what goes on is said once; the branches come to it -/
theorem jn (pcj : Nat) (lsj : Array Slot) (restj : List Value) (E : Int32) {g : JFrame} (k : W p l e R s m args below meth c H locs cells slots Q (F0 m pcj lsj (.int E :: restj)))
    (h : (∀ z : Int32, z = E → W p l e R s m args below meth c H locs cells slots Q (F0 m pcj lsj (.int z :: restj))) → W p l e R s m args below meth c H locs cells slots Q g) : W p l e R s m args below meth c H locs cells slots Q g := h (fun z hz => by rw [hz]; exact k)
theorem jl (pcj : Nat) (lsj : Array Slot) (restj : List Value) (E : Int64) {g : JFrame} (k : W p l e R s m args below meth c H locs cells slots Q (F0 m pcj lsj (.long E :: restj)))
    (h : (∀ z : Int64, z = E → W p l e R s m args below meth c H locs cells slots Q (F0 m pcj lsj (.long z :: restj))) → W p l e R s m args below meth c H locs cells slots Q g) : W p l e R s m args below meth c H locs cells slots Q g := h (fun z hz => by rw [hz]; exact k)
/-- the same place told otherwise -/
theorem cv {x y : Int32} (h : x = y) (k : W p l e R s m args below meth c H locs cells slots Q (F0 m pc ls (.int y :: rest))) : W p l e R s m args below meth c H locs cells slots Q (F0 m pc ls (.int x :: rest)) := by rw [h]; exact k
/-- branches over a boolean -/
theorem zb_eq {X : Bool} (hexec : p.tables.exec = Jvm.exec) (hb : c.code = cc) {off : Int} {tgt : Nat} (hdg : decode cc pc = .ok (.ifCond .eq off, 3)) (ht : (pc : Int) + off = (tgt : Int))
    (kt : X = false → W p l e R s m args below meth c H locs cells slots Q (F0 m tgt ls rest)) (kf : X = true → W p l e R s m args below meth c H locs cells slots Q (F0 m (pc + 3) ls rest)) : W p l e R s m args below meth c H locs cells slots Q (F0 m pc ls (.int (b2i X) :: rest)) :=
  lv_if_eq hexec hb hdg ht (fun h => kt ((b2i_0 X).mp h)) (fun h => kf (by cases X with
    | true => rfl
    | false => exact absurd rfl h))
theorem zb_ne {X : Bool} (hexec : p.tables.exec = Jvm.exec) (hb : c.code = cc) {off : Int} {tgt : Nat} (hdg : decode cc pc = .ok (.ifCond .ne off, 3)) (ht : (pc : Int) + off = (tgt : Int))
    (kt : X = true → W p l e R s m args below meth c H locs cells slots Q (F0 m tgt ls rest)) (kf : X = false → W p l e R s m args below meth c H locs cells slots Q (F0 m (pc + 3) ls rest)) : W p l e R s m args below meth c H locs cells slots Q (F0 m pc ls (.int (b2i X) :: rest)) :=
  lv_if_ne hexec hb hdg ht (fun h => kt (by cases X with
    | true => rfl
    | false => exact absurd rfl h)) (fun h => kf ((b2i_0 X).mp h))
theorem zc_ne {X Y : Bool} (hexec : p.tables.exec = Jvm.exec) (hb : c.code = cc) {off : Int} {tgt : Nat} (hdg : decode cc pc = .ok (.if_icmp .ne off, 3)) (ht : (pc : Int) + off = (tgt : Int))
    (kt : ¬ X = Y → W p l e R s m args below meth c H locs cells slots Q (F0 m tgt ls rest)) (kf : X = Y → W p l e R s m args below meth c H locs cells slots Q (F0 m (pc + 3) ls rest)) : W p l e R s m args below meth c H locs cells slots Q (F0 m pc ls (.int (b2i Y) :: .int (b2i X) :: rest)) :=
  lv_icmp_ne hexec hb hdg ht (fun h => kt (fun z => h ((b2i_e X Y).mpr z))) (fun h => kf ((b2i_e X Y).mp h))
/-- switches by their keys -/
theorem t_in (key : Int32) {off : Int} {tgt : Nat} (hexec : p.tables.exec = Jvm.exec) (hb : c.code = cc) {dflt lo hi : Int} {offs : Array Int} {len : Nat} {x : Int32} (hdg : decode cc pc = .ok (.tableswitch dflt lo hi offs, len)) (hx : x = key) (h1 : ¬ key.toInt < lo) (h2 : ¬ hi < key.toInt) (ho : offs[(key.toInt - lo).toNat]? = some off) (ht : (pc : Int) + off = (tgt : Int))
    (k : W p l e R s m args below meth c H locs cells slots Q (F0 m tgt ls rest)) : W p l e R s m args below meth c H locs cells slots Q (F0 m pc ls (.int x :: rest)) := by
  subst hx
  exact lv_tableIn hexec hb hdg h1 h2 ho ht k
theorem t_no (ks : List Int) {tgt : Nat} (hexec : p.tables.exec = Jvm.exec) (hb : c.code = cc) {dflt lo hi : Int} {offs : Array Int} {len : Nat} {x : Int32} (hdg : decode cc pc = .ok (.tableswitch dflt lo hi offs, len)) (hx : ∀ k ∈ ks, ¬ x.toInt = k) (ha : (List.range (hi + 1 - lo).toNat).all (fun j => decide (offs[j]? = some dflt) || decide ((lo + (j : Int)) ∈ ks)) = true) (ht : (pc : Int) + dflt = (tgt : Int))
    (k : W p l e R s m args below meth c H locs cells slots Q (F0 m tgt ls rest)) : W p l e R s m args below meth c H locs cells slots Q (F0 m pc ls (.int x :: rest)) := by
  by_cases h1 : x.toInt < lo
  · exact lv_tableOut hexec hb hdg (Or.inl h1) ht k
  · by_cases h2 : hi < x.toInt
    · exact lv_tableOut hexec hb hdg (Or.inr h2) ht k
    · have h3 := List.all_eq_true.mp ha (x.toInt - lo).toNat (List.mem_range.mpr (by omega))
      have h4 : lo + (((x.toInt - lo).toNat : Nat) : Int) = x.toInt := by omega
      rw [h4] at h3
      simp only [Bool.or_eq_true, decide_eq_true_eq] at h3
      rcases h3 with h3 | h3
      · exact lv_tableIn hexec hb hdg h1 h2 h3 ht k
      · exact absurd rfl (hx _ h3)

theorem k_get (S : CallFix p m c cc nL s args TB own) (hK : va_K D cls tys s) (hP : va_P D cls (mW q xa ad sS sC fB gT cK) H) {i : Nat} (hi : i < 12) (k : Nat) (hk : k < 6) (hl : Cond.fieldLink own index R_K (F_K k).2.1 (F_K k).2.2.1 ∈ TB) {v : Value} (hv : (capL (cK i))[k]? = some v) (hdg : decode cc pc = .ok (.getfield index, 3))
    (kk : W p l e R s m args below meth c H locs cells slots Q (F0 m (pc + 3) ls (v :: rest))) : W p l e R s m args below meth c H locs cells slots Q (F0 m pc ls (.ref (ad i) :: rest)) :=
  va_get (D := D) (ci := 0) (C := R_K) (T := F_K) (N := 6) S.1 S.2.1 S.2.2.2.2 in_K S.2.2.2.1 hK hP (5 + i) (mW_get hi) rfl k hk (S.2.2.2.2 _ hl) (fun _ h => h) hv hdg kk
theorem k_put (S : CallFix p m c cc nL s args TB own) (hK : va_K D cls tys s) (hP : va_P D cls (mW q xa ad sS sC fB gT cK) H) (hD : va_D A (mW q xa ad sS sC fB gT cK)) (hS : va_S A H0 H locs) {i : Nat} (hi : i < 12) (k : Nat) (hk : k < 6) (hl : Cond.fieldLink own index R_K (F_K k).2.1 (F_K k).2.2.1 ∈ TB) {v : Value} (z : Cp) (hz : (capL (cK i)).set k v = capL z) (hn : narrow (t_K k) v = v) (hf : fits (t_K k) v = true) (hdg : decode cc pc = .ok (.putfield index, 3))
    (kk : ∀ (H1 : Heap) (locs1 : List Loc), va_P D cls (mW q xa ad sS sC fB gT (va_up cK i z)) H1 → va_S A H0 H1 locs1 → W p l e R s m args below meth c H1 locs1 cells slots Q (F0 m (pc + 3) ls rest)) : W p l e R s m args below meth c H locs cells slots Q (F0 m pc ls (v :: .ref (ad i) :: rest)) := by
  refine va_put (D := D) (ci := 0) (C := R_K) (T := F_K) (N := 6) (ty := t_K k) S.1 S.2.1 S.2.2.2.2 in_K t_K t_K_ok n_K S.2.2.2.1 hK hP hD hS (5 + i) (mW_get hi) rfl k hk (S.2.2.2.2 _ hl) (fun _ h => h) rfl (t_K_ok k hk) hn hf hk hdg (fun H1 locs1 hP1 _ hS1 => ?_)
  rw [hz, mW_set z hi] at hP1
  exact kk H1 locs1 hP1 hS1
theorem k_getN (S : CallFix p m c cc nL s args TB own) (hK : va_K D cls tys s) (hP : va_P D cls (mW q xa ad sS sC fB gT cK) H) {i : Nat} (hi : i < 12) (k : Nat) (hk : k < 6) (hN : NL s) (hl : Cond.fieldLinkNest own index R_K (F_K k).2.1 (F_K k).2.2.1 R_M ∈ NW) {v : Value} (hv : (capL (cK i))[k]? = some v) (hdg : decode cc pc = .ok (.getfield index, 3))
    (kk : W p l e R s m args below meth c H locs cells slots Q (F0 m (pc + 3) ls (v :: rest))) : W p l e R s m args below meth c H locs cells slots Q (F0 m pc ls (.ref (ad i) :: rest)) :=
  va_getN (D := D) (ci := 0) (C := R_K) (T := F_K) (N := 6) S.1 S.2.1 S.2.2.2.2 in_K S.2.2.2.1 hK hP (5 + i) (mW_get hi) rfl k hk (va_Nw.use rfl (hN _ hl)) (fun _ h => h) hv hdg kk
theorem k_putN (S : CallFix p m c cc nL s args TB own) (hK : va_K D cls tys s) (hP : va_P D cls (mW q xa ad sS sC fB gT cK) H) (hD : va_D A (mW q xa ad sS sC fB gT cK)) (hS : va_S A H0 H locs) {i : Nat} (hi : i < 12) (k : Nat) (hk : k < 6) (hN : NL s) (hl : Cond.fieldLinkNest own index R_K (F_K k).2.1 (F_K k).2.2.1 R_M ∈ NW) {v : Value} (z : Cp) (hz : (capL (cK i)).set k v = capL z) (hn : narrow (t_K k) v = v) (hf : fits (t_K k) v = true) (hdg : decode cc pc = .ok (.putfield index, 3))
    (kk : ∀ (H1 : Heap) (locs1 : List Loc), va_P D cls (mW q xa ad sS sC fB gT (va_up cK i z)) H1 → va_S A H0 H1 locs1 → W p l e R s m args below meth c H1 locs1 cells slots Q (F0 m (pc + 3) ls rest)) : W p l e R s m args below meth c H locs cells slots Q (F0 m pc ls (v :: .ref (ad i) :: rest)) := by
  refine va_putN (D := D) (ci := 0) (C := R_K) (T := F_K) (N := 6) (ty := t_K k) S.1 S.2.1 S.2.2.2.2 in_K t_K t_K_ok n_K S.2.2.2.1 hK hP hD hS (5 + i) (mW_get hi) rfl k hk (va_Nw.use rfl (hN _ hl)) (fun _ h => h) rfl (t_K_ok k hk) hn hf hk hdg (fun H1 locs1 hP1 _ hS1 => ?_)
  rw [hz, mW_set z hi] at hP1
  exact kk H1 locs1 hP1 hS1
theorem k_getO (S : CallFix p m c cc nL s args TB own) (hK : va_K D cls tys s) {i : Nat} {z : Cp} (hP : va_P D cls (mW q xa ad sS sC fB gT (va_up cK i z)) H) (hi : i < 12) (k : Nat) (hk : k < 6) (hl : Cond.fieldLink own index R_K (F_K k).2.1 (F_K k).2.2.1 ∈ TB) {v : Value} (hv : (capL z)[k]? = some v) (hdg : decode cc pc = .ok (.getfield index, 3))
    (kk : W p l e R s m args below meth c H locs cells slots Q (F0 m (pc + 3) ls (v :: rest))) : W p l e R s m args below meth c H locs cells slots Q (F0 m pc ls (.ref (ad i) :: rest)) :=
  k_get S hK hP hi k hk hl (by rw [va_up_self]; exact hv) hdg kk
theorem k_getX (S : CallFix p m c cc nL s args TB own) (hK : va_K D cls tys s) {i j : Nat} {z : Cp} (hP : va_P D cls (mW q xa ad sS sC fB gT (va_up cK i z)) H) (hj : j < 12) (k : Nat) (hk : k < 6) (hl : Cond.fieldLink own index R_K (F_K k).2.1 (F_K k).2.2.1 ∈ TB) {v : Value} (hv : (capL (cK j))[k]? = some v) (hz : (capL z)[k]? = (capL (cK i))[k]?) (hdg : decode cc pc = .ok (.getfield index, 3))
    (kk : W p l e R s m args below meth c H locs cells slots Q (F0 m (pc + 3) ls (v :: rest))) : W p l e R s m args below meth c H locs cells slots Q (F0 m pc ls (.ref (ad j) :: rest)) :=
  k_get S hK hP hj k hk hl (by
    by_cases h : j = i
    · subst h
      rw [va_up_self, hz]
      exact hv
    · rw [va_up_ne _ _ h]
      exact hv) hdg kk
theorem k_putO (S : CallFix p m c cc nL s args TB own) (hK : va_K D cls tys s) {i : Nat} {z : Cp} (hP : va_P D cls (mW q xa ad sS sC fB gT (va_up cK i z)) H) (hD : va_D A (mW q xa ad sS sC fB gT (va_up cK i z))) (hS : va_S A H0 H locs) (hi : i < 12) (k : Nat) (hk : k < 6) (hl : Cond.fieldLink own index R_K (F_K k).2.1 (F_K k).2.2.1 ∈ TB) {v : Value} (y : Cp) (hz : (capL z).set k v = capL y) (hn : narrow (t_K k) v = v) (hf : fits (t_K k) v = true) (hdg : decode cc pc = .ok (.putfield index, 3))
    (kk : ∀ (H1 : Heap) (locs1 : List Loc), va_P D cls (mW q xa ad sS sC fB gT (va_up cK i y)) H1 → va_S A H0 H1 locs1 → W p l e R s m args below meth c H1 locs1 cells slots Q (F0 m (pc + 3) ls rest)) : W p l e R s m args below meth c H locs cells slots Q (F0 m pc ls (v :: .ref (ad i) :: rest)) :=
  k_put S hK hP hD hS hi k hk hl y (by rw [va_up_self]; exact hz) hn hf hdg (fun H1 locs1 hP1 hS1 => kk H1 locs1 (by rw [bx_uu] at hP1; exact hP1) hS1)
theorem k_getON (S : CallFix p m c cc nL s args TB own) (hK : va_K D cls tys s) {i : Nat} {z : Cp} (hP : va_P D cls (mW q xa ad sS sC fB gT (va_up cK i z)) H) (hi : i < 12) (k : Nat) (hk : k < 6) (hN : NL s) (hl : Cond.fieldLinkNest own index R_K (F_K k).2.1 (F_K k).2.2.1 R_M ∈ NW) {v : Value} (hv : (capL z)[k]? = some v) (hdg : decode cc pc = .ok (.getfield index, 3))
    (kk : W p l e R s m args below meth c H locs cells slots Q (F0 m (pc + 3) ls (v :: rest))) : W p l e R s m args below meth c H locs cells slots Q (F0 m pc ls (.ref (ad i) :: rest)) :=
  k_getN S hK hP hi k hk hN hl (by rw [va_up_self]; exact hv) hdg kk
theorem k_getXN (S : CallFix p m c cc nL s args TB own) (hK : va_K D cls tys s) {i j : Nat} {z : Cp} (hP : va_P D cls (mW q xa ad sS sC fB gT (va_up cK i z)) H) (hj : j < 12) (k : Nat) (hk : k < 6) (hN : NL s) (hl : Cond.fieldLinkNest own index R_K (F_K k).2.1 (F_K k).2.2.1 R_M ∈ NW) {v : Value} (hv : (capL (cK j))[k]? = some v) (hz : (capL z)[k]? = (capL (cK i))[k]?) (hdg : decode cc pc = .ok (.getfield index, 3))
    (kk : W p l e R s m args below meth c H locs cells slots Q (F0 m (pc + 3) ls (v :: rest))) : W p l e R s m args below meth c H locs cells slots Q (F0 m pc ls (.ref (ad j) :: rest)) :=
  k_getN S hK hP hj k hk hN hl (by
    by_cases h : j = i
    · subst h
      rw [va_up_self, hz]
      exact hv
    · rw [va_up_ne _ _ h]
      exact hv) hdg kk
theorem k_putON (S : CallFix p m c cc nL s args TB own) (hK : va_K D cls tys s) {i : Nat} {z : Cp} (hP : va_P D cls (mW q xa ad sS sC fB gT (va_up cK i z)) H) (hD : va_D A (mW q xa ad sS sC fB gT (va_up cK i z))) (hS : va_S A H0 H locs) (hi : i < 12) (k : Nat) (hk : k < 6) (hN : NL s) (hl : Cond.fieldLinkNest own index R_K (F_K k).2.1 (F_K k).2.2.1 R_M ∈ NW) {v : Value} (y : Cp) (hz : (capL z).set k v = capL y) (hn : narrow (t_K k) v = v) (hf : fits (t_K k) v = true) (hdg : decode cc pc = .ok (.putfield index, 3))
    (kk : ∀ (H1 : Heap) (locs1 : List Loc), va_P D cls (mW q xa ad sS sC fB gT (va_up cK i y)) H1 → va_S A H0 H1 locs1 → W p l e R s m args below meth c H1 locs1 cells slots Q (F0 m (pc + 3) ls rest)) : W p l e R s m args below meth c H locs cells slots Q (F0 m pc ls (v :: .ref (ad i) :: rest)) :=
  k_putN S hK hP hD hS hi k hk hN hl y (by rw [va_up_self]; exact hz) hn hf hdg (fun H1 locs1 hP1 hS1 => kk H1 locs1 (by rw [bx_uu] at hP1; exact hP1) hS1)
theorem m_get (S : CallFix p m c cc nL s args TB own) (hK : va_K D cls tys s) (hP : va_P D cls (mW q xa ad sS sC fB gT cK) H) (k : Nat) (hk : k < 8) (hl : Cond.fieldLink own index R_M (F_M k).2.1 (F_M k).2.2.1 ∈ TB) {v : Value} (hv : (mF xa ad sS sC)[k]? = some v) (hdg : decode cc pc = .ok (.getfield index, 3))
    (kk : W p l e R s m args below meth c H locs cells slots Q (F0 m (pc + 3) ls (v :: rest))) : W p l e R s m args below meth c H locs cells slots Q (F0 m pc ls (.ref (xa 0) :: rest)) :=
  va_get (D := D) (ci := 2) (C := R_M) (T := F_M) (N := 8) S.1 S.2.1 S.2.2.2.2 in_M S.2.2.2.1 hK hP 0 rfl rfl k hk (S.2.2.2.2 _ hl) (fun _ h => h) hv hdg kk
theorem m_putS (S : CallFix p m c cc nL s args TB own) (hK : va_K D cls tys s) (hP : va_P D cls (mW q xa ad sS sC fB gT cK) H) (hD : va_D A (mW q xa ad sS sC fB gT cK)) (hS : va_S A H0 H locs) {x : Int32} (hl : Cond.fieldLink own index R_M (F_M 6).2.1 (F_M 6).2.2.1 ∈ TB) (hdg : decode cc pc = .ok (.putfield index, 3))
    (kk : ∀ (H1 : Heap) (locs1 : List Loc), va_P D cls (mW q xa ad x sC fB gT cK) H1 → va_S A H0 H1 locs1 → W p l e R s m args below meth c H1 locs1 cells slots Q (F0 m (pc + 3) ls rest)) : W p l e R s m args below meth c H locs cells slots Q (F0 m pc ls (.int x :: .ref (xa 0) :: rest)) :=
  va_put (D := D) (ci := 2) (C := R_M) (T := F_M) (N := 8) (ty := .int) S.1 S.2.1 S.2.2.2.2 in_M t_M t_M_ok n_M S.2.2.2.1 hK hP hD hS 0 rfl rfl 6 (by decide) (S.2.2.2.2 _ hl) (fun _ h => h) rfl (t_M_ok 6 (by decide)) rfl rfl (Nat.le_of_ble_eq_true rfl) hdg (fun H1 locs1 hP1 _ hS1 => kk H1 locs1 hP1 hS1)
theorem m_putC (S : CallFix p m c cc nL s args TB own) (hK : va_K D cls tys s) (hP : va_P D cls (mW q xa ad sS sC fB gT cK) H) (hD : va_D A (mW q xa ad sS sC fB gT cK)) (hS : va_S A H0 H locs) {x : Int32} (hl : Cond.fieldLink own index R_M (F_M 7).2.1 (F_M 7).2.2.1 ∈ TB) (hdg : decode cc pc = .ok (.putfield index, 3))
    (kk : ∀ (H1 : Heap) (locs1 : List Loc), va_P D cls (mW q xa ad sS x fB gT cK) H1 → va_S A H0 H1 locs1 → W p l e R s m args below meth c H1 locs1 cells slots Q (F0 m (pc + 3) ls rest)) : W p l e R s m args below meth c H locs cells slots Q (F0 m pc ls (.int x :: .ref (xa 0) :: rest)) :=
  va_put (D := D) (ci := 2) (C := R_M) (T := F_M) (N := 8) (ty := .int) S.1 S.2.1 S.2.2.2.2 in_M t_M t_M_ok n_M S.2.2.2.1 hK hP hD hS 0 rfl rfl 7 (by decide) (S.2.2.2.2 _ hl) (fun _ h => h) rfl (t_M_ok 7 (by decide)) rfl rfl (Nat.le_of_ble_eq_true rfl) hdg (fun H1 locs1 hP1 _ hS1 => kk H1 locs1 hP1 hS1)
theorem e_get (S : CallFix p m c cc nL s args TB own) (hK : va_K D cls tys s) (hP : va_P D cls (mW q xa ad sS sC fB gT cK) H) (k : Nat) (hk : k < 2) (hl : Cond.fieldLink own index R_E (F_E k).2.1 (F_E k).2.2.1 ∈ TB) {v : Value} (hv : ([.ref (xa 3), .ref (xa 4)] : List Value)[k]? = some v) (hdg : decode cc pc = .ok (.getfield index, 3))
    (kk : W p l e R s m args below meth c H locs cells slots Q (F0 m (pc + 3) ls (v :: rest))) : W p l e R s m args below meth c H locs cells slots Q (F0 m pc ls (.ref (xa 2) :: rest)) :=
  va_get (D := D) (ci := 1) (C := R_E) (T := F_E) (N := 2) S.1 S.2.1 S.2.2.2.2 in_E S.2.2.2.1 hK hP 2 rfl rfl k hk (S.2.2.2.2 _ hl) (fun _ h => h) hv hdg kk
theorem e_getN (S : CallFix p m c cc nL s args TB own) (hK : va_K D cls tys s) (hP : va_P D cls (mW q xa ad sS sC fB gT cK) H) (k : Nat) (hk : k < 2) (hN : NL s) (hl : Cond.fieldLinkNest own index R_E (F_E k).2.1 (F_E k).2.2.1 R_M ∈ NW) {v : Value} (hv : ([.ref (xa 3), .ref (xa 4)] : List Value)[k]? = some v) (hdg : decode cc pc = .ok (.getfield index, 3))
    (kk : W p l e R s m args below meth c H locs cells slots Q (F0 m (pc + 3) ls (v :: rest))) : W p l e R s m args below meth c H locs cells slots Q (F0 m pc ls (.ref (xa 2) :: rest)) :=
  va_getN (D := D) (ci := 1) (C := R_E) (T := F_E) (N := 2) S.1 S.2.1 S.2.2.2.2 in_E S.2.2.2.1 hK hP 2 rfl rfl k hk (va_Nw.use rfl (hN _ hl)) (fun _ h => h) hv hdg kk
theorem s_ald (S : CallFix p m c cc nL s args TB own) (hK : va_K D cls (tyM q) s) (hP : va_P D cls (mW q xa ad sS sC fB gT cK) H) {i : Int32} (hin : vp_in i 11) (hdg : decode cc pc = .ok (.aaload, 1))
    (kk : W p l e R s m args below meth c H locs cells slots Q (F0 m (pc + 1) ls (.ref (ad i.toNatClampNeg) :: rest))) : W p l e R s m args below meth c H locs cells slots Q (F0 m pc ls (.int i :: .ref (xa 1) :: rest)) :=
  va_aldq (D := D) (C := R_K) S.1 S.2.1 hK hP 1 0 rfl rfl hin hdg kk
theorem b_ald (S : CallFix p m c cc nL s args TB own) (hK : va_K D cls (tyM q) s) (hP : va_P D cls (mW q xa ad sS sC fB gT cK) H) {i : Int32} (hin : vp_in i 512) (hdg : decode cc pc = .ok (.baload, 1))
    (kk : W p l e R s m args below meth c H locs cells slots Q (F0 m (pc + 1) ls (.int (fB i.toNatClampNeg) :: rest))) : W p l e R s m args below meth c H locs cells slots Q (F0 m pc ls (.int i :: .ref (xa 3) :: rest)) :=
  va_bald (D := D) S.1 S.2.1 hK hP 3 1 rfl rfl hin hdg kk
theorem t_ald (S : CallFix p m c cc nL s args TB own) (hK : va_K D cls (tyM q) s) (hP : va_P D cls (mW q xa ad sS sC fB gT cK) H) {i : Int32} (hin : vp_in i 64) (hdg : decode cc pc = .ok (.baload, 1))
    (kk : W p l e R s m args below meth c H locs cells slots Q (F0 m (pc + 1) ls (.int (b2i (gT i.toNatClampNeg)) :: rest))) : W p l e R s m args below meth c H locs cells slots Q (F0 m pc ls (.int i :: .ref (xa 4) :: rest)) :=
  va_zald (D := D) S.1 S.2.1 hK hP 4 2 rfl rfl hin hdg kk
theorem b_ast (S : CallFix p m c cc nL s args TB own) (hK : va_K D cls (tyM q) s) (hP : va_P D cls (mW q xa ad sS sC fB gT cK) H) (hD : va_D A (mW q xa ad sS sC fB gT cK)) (hS : va_S A H0 H locs) {i x : Int32} (hin : vp_in i 512) (hdg : decode cc pc = .ok (.bastore, 1))
    (kk : ∀ (H1 : Heap) (locs1 : List Loc), va_P D cls (mW q xa ad sS sC (upd fB i.toNatClampNeg x.toInt8.toInt32) gT cK) H1 → va_S A H0 H1 locs1 → W p l e R s m args below meth c H1 locs1 cells slots Q (F0 m (pc + 1) ls rest)) : W p l e R s m args below meth c H locs cells slots Q (F0 m pc ls (.int x.toInt8.toInt32 :: .int i :: .ref (xa 3) :: rest)) := by
  refine va_bast (D := D) S.1 S.2.1 hK hP hD hS 3 1 rfl rfl hin hdg (fun H1 locs1 hP1 _ hS1 => ?_)
  rw [pk_vb] at hP1
  exact kk H1 locs1 hP1 hS1
theorem t_ast (S : CallFix p m c cc nL s args TB own) (hK : va_K D cls (tyM q) s) (hP : va_P D cls (mW q xa ad sS sC fB gT cK) H) (hD : va_D A (mW q xa ad sS sC fB gT cK)) (hS : va_S A H0 H locs) {i : Int32} {z : Bool} (hin : vp_in i 64) (hdg : decode cc pc = .ok (.bastore, 1))
    (kk : ∀ (H1 : Heap) (locs1 : List Loc), va_P D cls (mW q xa ad sS sC fB (va_up gT i.toNatClampNeg z) cK) H1 → va_S A H0 H1 locs1 → W p l e R s m args below meth c H1 locs1 cells slots Q (F0 m (pc + 1) ls rest)) : W p l e R s m args below meth c H locs cells slots Q (F0 m pc ls (.int (b2i z) :: .int i :: .ref (xa 4) :: rest)) := by
  refine va_zast (D := D) S.1 S.2.1 hK hP hD hS 4 2 rfl rfl hin hdg (fun H1 locs1 hP1 _ hS1 => ?_)
  rw [b2i_vp, ← up_T] at hP1
  exact kk H1 locs1 hP1 hS1
end OwnRows
section OwnRef
variable {p : Program} {l : Launch} {e : Env} {R : Room} {s : State} {m : MethodId} {args : Array Value} {below : List Frame} {meth : Method} {c : Code} {H : Heap} {locs : List Loc} {cells slots : Nat} {Q : State → Prop}
variable {cc : ByteArray} {pc : Nat} {ls : Array Slot} {rest : List Value} {D : va_G} {A : Nat → Prop} {H0 : Heap} {own : String} {nL index : Nat}
variable {q : Nat → ClassId} {xa : Nat → Nat} {th ca st co ra rb rc im hf : Int32} {rz : Bool} {fM : Nat → Int32} {gT : Nat → Bool} {cK : Nat → Cp}
theorem r_get (S : CallFix p m c cc nL s args TB own) (hK : va_K D cls (tyR q) s) (hP : va_P D cls (rW q xa th ca st co ra rb rc im hf rz fM gT cK) H) (k : Nat) (hk : k < 18) (hl : Cond.fieldLink own index R_R (F_R k).2.1 (F_R k).2.2.1 ∈ TB) {v : Value} (hv : (rF xa th ca st co ra rb rc im hf rz)[k]? = some v) (hdg : decode cc pc = .ok (.getfield index, 3))
    (kk : W p l e R s m args below meth c H locs cells slots Q (F0 m (pc + 3) ls (v :: rest))) : W p l e R s m args below meth c H locs cells slots Q (F0 m pc ls (.ref (xa 0) :: rest)) :=
  va_get (D := D) (ci := 3) (C := R_R) (T := F_R) (N := 18) S.1 S.2.1 S.2.2.2.2 in_R S.2.2.2.1 hK hP 0 rfl rfl k hk (S.2.2.2.2 _ hl) (fun _ h => h) hv hdg kk
theorem r_put_th (S : CallFix p m c cc nL s args TB own) (hK : va_K D cls (tyR q) s) (hP : va_P D cls (rW q xa th ca st co ra rb rc im hf rz fM gT cK) H) (hD : va_D A (rW q xa th ca st co ra rb rc im hf rz fM gT cK)) (hS : va_S A H0 H locs) {x : Int32} (hl : Cond.fieldLink own index R_R (F_R 0).2.1 (F_R 0).2.2.1 ∈ TB) (hdg : decode cc pc = .ok (.putfield index, 3))
    (kk : ∀ (H1 : Heap) (locs1 : List Loc), va_P D cls (rW q xa x ca st co ra rb rc im hf rz fM gT cK) H1 → va_S A H0 H1 locs1 → W p l e R s m args below meth c H1 locs1 cells slots Q (F0 m (pc + 3) ls rest)) : W p l e R s m args below meth c H locs cells slots Q (F0 m pc ls (.int x :: .ref (xa 0) :: rest)) :=
  va_put (D := D) (ci := 3) (C := R_R) (T := F_R) (N := 18) (ty := .int) S.1 S.2.1 S.2.2.2.2 in_R t_R t_R_ok n_R S.2.2.2.1 hK hP hD hS 0 rfl rfl 0 (by decide) (S.2.2.2.2 _ hl) (fun _ h => h) rfl (t_R_ok 0 (by decide)) rfl rfl (Nat.le_of_ble_eq_true rfl) hdg (fun H1 locs1 hP1 _ hS1 => kk H1 locs1 hP1 hS1)
theorem r_put_ca (S : CallFix p m c cc nL s args TB own) (hK : va_K D cls (tyR q) s) (hP : va_P D cls (rW q xa th ca st co ra rb rc im hf rz fM gT cK) H) (hD : va_D A (rW q xa th ca st co ra rb rc im hf rz fM gT cK)) (hS : va_S A H0 H locs) {x : Int32} (hl : Cond.fieldLink own index R_R (F_R 9).2.1 (F_R 9).2.2.1 ∈ TB) (hdg : decode cc pc = .ok (.putfield index, 3))
    (kk : ∀ (H1 : Heap) (locs1 : List Loc), va_P D cls (rW q xa th x st co ra rb rc im hf rz fM gT cK) H1 → va_S A H0 H1 locs1 → W p l e R s m args below meth c H1 locs1 cells slots Q (F0 m (pc + 3) ls rest)) : W p l e R s m args below meth c H locs cells slots Q (F0 m pc ls (.int x :: .ref (xa 0) :: rest)) :=
  va_put (D := D) (ci := 3) (C := R_R) (T := F_R) (N := 18) (ty := .int) S.1 S.2.1 S.2.2.2.2 in_R t_R t_R_ok n_R S.2.2.2.1 hK hP hD hS 0 rfl rfl 9 (by decide) (S.2.2.2.2 _ hl) (fun _ h => h) rfl (t_R_ok 9 (by decide)) rfl rfl (Nat.le_of_ble_eq_true rfl) hdg (fun H1 locs1 hP1 _ hS1 => kk H1 locs1 hP1 hS1)
theorem r_put_st (S : CallFix p m c cc nL s args TB own) (hK : va_K D cls (tyR q) s) (hP : va_P D cls (rW q xa th ca st co ra rb rc im hf rz fM gT cK) H) (hD : va_D A (rW q xa th ca st co ra rb rc im hf rz fM gT cK)) (hS : va_S A H0 H locs) {x : Int32} (hl : Cond.fieldLink own index R_R (F_R 10).2.1 (F_R 10).2.2.1 ∈ TB) (hdg : decode cc pc = .ok (.putfield index, 3))
    (kk : ∀ (H1 : Heap) (locs1 : List Loc), va_P D cls (rW q xa th ca x co ra rb rc im hf rz fM gT cK) H1 → va_S A H0 H1 locs1 → W p l e R s m args below meth c H1 locs1 cells slots Q (F0 m (pc + 3) ls rest)) : W p l e R s m args below meth c H locs cells slots Q (F0 m pc ls (.int x :: .ref (xa 0) :: rest)) :=
  va_put (D := D) (ci := 3) (C := R_R) (T := F_R) (N := 18) (ty := .int) S.1 S.2.1 S.2.2.2.2 in_R t_R t_R_ok n_R S.2.2.2.1 hK hP hD hS 0 rfl rfl 10 (by decide) (S.2.2.2.2 _ hl) (fun _ h => h) rfl (t_R_ok 10 (by decide)) rfl rfl (Nat.le_of_ble_eq_true rfl) hdg (fun H1 locs1 hP1 _ hS1 => kk H1 locs1 hP1 hS1)
theorem r_put_co (S : CallFix p m c cc nL s args TB own) (hK : va_K D cls (tyR q) s) (hP : va_P D cls (rW q xa th ca st co ra rb rc im hf rz fM gT cK) H) (hD : va_D A (rW q xa th ca st co ra rb rc im hf rz fM gT cK)) (hS : va_S A H0 H locs) {x : Int32} (hl : Cond.fieldLink own index R_R (F_R 11).2.1 (F_R 11).2.2.1 ∈ TB) (hdg : decode cc pc = .ok (.putfield index, 3))
    (kk : ∀ (H1 : Heap) (locs1 : List Loc), va_P D cls (rW q xa th ca st x ra rb rc im hf rz fM gT cK) H1 → va_S A H0 H1 locs1 → W p l e R s m args below meth c H1 locs1 cells slots Q (F0 m (pc + 3) ls rest)) : W p l e R s m args below meth c H locs cells slots Q (F0 m pc ls (.int x :: .ref (xa 0) :: rest)) :=
  va_put (D := D) (ci := 3) (C := R_R) (T := F_R) (N := 18) (ty := .int) S.1 S.2.1 S.2.2.2.2 in_R t_R t_R_ok n_R S.2.2.2.1 hK hP hD hS 0 rfl rfl 11 (by decide) (S.2.2.2.2 _ hl) (fun _ h => h) rfl (t_R_ok 11 (by decide)) rfl rfl (Nat.le_of_ble_eq_true rfl) hdg (fun H1 locs1 hP1 _ hS1 => kk H1 locs1 hP1 hS1)
theorem r_put_ra (S : CallFix p m c cc nL s args TB own) (hK : va_K D cls (tyR q) s) (hP : va_P D cls (rW q xa th ca st co ra rb rc im hf rz fM gT cK) H) (hD : va_D A (rW q xa th ca st co ra rb rc im hf rz fM gT cK)) (hS : va_S A H0 H locs) {x : Int32} (hl : Cond.fieldLink own index R_R (F_R 12).2.1 (F_R 12).2.2.1 ∈ TB) (hdg : decode cc pc = .ok (.putfield index, 3))
    (kk : ∀ (H1 : Heap) (locs1 : List Loc), va_P D cls (rW q xa th ca st co x rb rc im hf rz fM gT cK) H1 → va_S A H0 H1 locs1 → W p l e R s m args below meth c H1 locs1 cells slots Q (F0 m (pc + 3) ls rest)) : W p l e R s m args below meth c H locs cells slots Q (F0 m pc ls (.int x :: .ref (xa 0) :: rest)) :=
  va_put (D := D) (ci := 3) (C := R_R) (T := F_R) (N := 18) (ty := .int) S.1 S.2.1 S.2.2.2.2 in_R t_R t_R_ok n_R S.2.2.2.1 hK hP hD hS 0 rfl rfl 12 (by decide) (S.2.2.2.2 _ hl) (fun _ h => h) rfl (t_R_ok 12 (by decide)) rfl rfl (Nat.le_of_ble_eq_true rfl) hdg (fun H1 locs1 hP1 _ hS1 => kk H1 locs1 hP1 hS1)
theorem r_put_rb (S : CallFix p m c cc nL s args TB own) (hK : va_K D cls (tyR q) s) (hP : va_P D cls (rW q xa th ca st co ra rb rc im hf rz fM gT cK) H) (hD : va_D A (rW q xa th ca st co ra rb rc im hf rz fM gT cK)) (hS : va_S A H0 H locs) {x : Int32} (hl : Cond.fieldLink own index R_R (F_R 13).2.1 (F_R 13).2.2.1 ∈ TB) (hdg : decode cc pc = .ok (.putfield index, 3))
    (kk : ∀ (H1 : Heap) (locs1 : List Loc), va_P D cls (rW q xa th ca st co ra x rc im hf rz fM gT cK) H1 → va_S A H0 H1 locs1 → W p l e R s m args below meth c H1 locs1 cells slots Q (F0 m (pc + 3) ls rest)) : W p l e R s m args below meth c H locs cells slots Q (F0 m pc ls (.int x :: .ref (xa 0) :: rest)) :=
  va_put (D := D) (ci := 3) (C := R_R) (T := F_R) (N := 18) (ty := .int) S.1 S.2.1 S.2.2.2.2 in_R t_R t_R_ok n_R S.2.2.2.1 hK hP hD hS 0 rfl rfl 13 (by decide) (S.2.2.2.2 _ hl) (fun _ h => h) rfl (t_R_ok 13 (by decide)) rfl rfl (Nat.le_of_ble_eq_true rfl) hdg (fun H1 locs1 hP1 _ hS1 => kk H1 locs1 hP1 hS1)
theorem r_put_rc (S : CallFix p m c cc nL s args TB own) (hK : va_K D cls (tyR q) s) (hP : va_P D cls (rW q xa th ca st co ra rb rc im hf rz fM gT cK) H) (hD : va_D A (rW q xa th ca st co ra rb rc im hf rz fM gT cK)) (hS : va_S A H0 H locs) {x : Int32} (hl : Cond.fieldLink own index R_R (F_R 14).2.1 (F_R 14).2.2.1 ∈ TB) (hdg : decode cc pc = .ok (.putfield index, 3))
    (kk : ∀ (H1 : Heap) (locs1 : List Loc), va_P D cls (rW q xa th ca st co ra rb x im hf rz fM gT cK) H1 → va_S A H0 H1 locs1 → W p l e R s m args below meth c H1 locs1 cells slots Q (F0 m (pc + 3) ls rest)) : W p l e R s m args below meth c H locs cells slots Q (F0 m pc ls (.int x :: .ref (xa 0) :: rest)) :=
  va_put (D := D) (ci := 3) (C := R_R) (T := F_R) (N := 18) (ty := .int) S.1 S.2.1 S.2.2.2.2 in_R t_R t_R_ok n_R S.2.2.2.1 hK hP hD hS 0 rfl rfl 14 (by decide) (S.2.2.2.2 _ hl) (fun _ h => h) rfl (t_R_ok 14 (by decide)) rfl rfl (Nat.le_of_ble_eq_true rfl) hdg (fun H1 locs1 hP1 _ hS1 => kk H1 locs1 hP1 hS1)
theorem r_put_im (S : CallFix p m c cc nL s args TB own) (hK : va_K D cls (tyR q) s) (hP : va_P D cls (rW q xa th ca st co ra rb rc im hf rz fM gT cK) H) (hD : va_D A (rW q xa th ca st co ra rb rc im hf rz fM gT cK)) (hS : va_S A H0 H locs) {x : Int32} (hl : Cond.fieldLink own index R_R (F_R 15).2.1 (F_R 15).2.2.1 ∈ TB) (hdg : decode cc pc = .ok (.putfield index, 3))
    (kk : ∀ (H1 : Heap) (locs1 : List Loc), va_P D cls (rW q xa th ca st co ra rb rc x hf rz fM gT cK) H1 → va_S A H0 H1 locs1 → W p l e R s m args below meth c H1 locs1 cells slots Q (F0 m (pc + 3) ls rest)) : W p l e R s m args below meth c H locs cells slots Q (F0 m pc ls (.int x :: .ref (xa 0) :: rest)) :=
  va_put (D := D) (ci := 3) (C := R_R) (T := F_R) (N := 18) (ty := .int) S.1 S.2.1 S.2.2.2.2 in_R t_R t_R_ok n_R S.2.2.2.1 hK hP hD hS 0 rfl rfl 15 (by decide) (S.2.2.2.2 _ hl) (fun _ h => h) rfl (t_R_ok 15 (by decide)) rfl rfl (Nat.le_of_ble_eq_true rfl) hdg (fun H1 locs1 hP1 _ hS1 => kk H1 locs1 hP1 hS1)
theorem r_put_hf (S : CallFix p m c cc nL s args TB own) (hK : va_K D cls (tyR q) s) (hP : va_P D cls (rW q xa th ca st co ra rb rc im hf rz fM gT cK) H) (hD : va_D A (rW q xa th ca st co ra rb rc im hf rz fM gT cK)) (hS : va_S A H0 H locs) {x : Int32} (hl : Cond.fieldLink own index R_R (F_R 16).2.1 (F_R 16).2.2.1 ∈ TB) (hdg : decode cc pc = .ok (.putfield index, 3))
    (kk : ∀ (H1 : Heap) (locs1 : List Loc), va_P D cls (rW q xa th ca st co ra rb rc im x rz fM gT cK) H1 → va_S A H0 H1 locs1 → W p l e R s m args below meth c H1 locs1 cells slots Q (F0 m (pc + 3) ls rest)) : W p l e R s m args below meth c H locs cells slots Q (F0 m pc ls (.int x :: .ref (xa 0) :: rest)) :=
  va_put (D := D) (ci := 3) (C := R_R) (T := F_R) (N := 18) (ty := .int) S.1 S.2.1 S.2.2.2.2 in_R t_R t_R_ok n_R S.2.2.2.1 hK hP hD hS 0 rfl rfl 16 (by decide) (S.2.2.2.2 _ hl) (fun _ h => h) rfl (t_R_ok 16 (by decide)) rfl rfl (Nat.le_of_ble_eq_true rfl) hdg (fun H1 locs1 hP1 _ hS1 => kk H1 locs1 hP1 hS1)
theorem r_put_rz (S : CallFix p m c cc nL s args TB own) (hK : va_K D cls (tyR q) s) (hP : va_P D cls (rW q xa th ca st co ra rb rc im hf rz fM gT cK) H) (hD : va_D A (rW q xa th ca st co ra rb rc im hf rz fM gT cK)) (hS : va_S A H0 H locs) {z : Bool} (hl : Cond.fieldLink own index R_R (F_R 17).2.1 (F_R 17).2.2.1 ∈ TB) (hdg : decode cc pc = .ok (.putfield index, 3))
    (kk : ∀ (H1 : Heap) (locs1 : List Loc), va_P D cls (rW q xa th ca st co ra rb rc im hf z fM gT cK) H1 → va_S A H0 H1 locs1 → W p l e R s m args below meth c H1 locs1 cells slots Q (F0 m (pc + 3) ls rest)) : W p l e R s m args below meth c H locs cells slots Q (F0 m pc ls (.int (b2i z) :: .ref (xa 0) :: rest)) :=
  va_put (D := D) (ci := 3) (C := R_R) (T := F_R) (N := 18) (ty := .boolean) S.1 S.2.1 S.2.2.2.2 in_R t_R t_R_ok n_R S.2.2.2.1 hK hP hD hS 0 rfl rfl 17 (by decide) (S.2.2.2.2 _ hl) (fun _ h => h) rfl (t_R_ok 17 (by decide)) (b2i_nar z) (b2i_fit z) (Nat.le_of_ble_eq_true rfl) hdg (fun H1 locs1 hP1 _ hS1 => kk H1 locs1 hP1 hS1)
theorem r_ald_mem (S : CallFix p m c cc nL s args TB own) (hK : va_K D cls (tyR q) s) (hP : va_P D cls (rW q xa th ca st co ra rb rc im hf rz fM gT cK) H) {i : Int32} (hin : vp_in i 512) (hdg : decode cc pc = .ok (.iaload, 1))
    (kk : W p l e R s m args below meth c H locs cells slots Q (F0 m (pc + 1) ls (.int (fM i.toNatClampNeg) :: rest))) : W p l e R s m args below meth c H locs cells slots Q (F0 m pc ls (.int i :: .ref (xa 1) :: rest)) :=
  va_iald (D := D) S.1 S.2.1 hK hP 1 0 rfl rfl hin hdg kk
theorem r_ast_mem (S : CallFix p m c cc nL s args TB own) (hK : va_K D cls (tyR q) s) (hP : va_P D cls (rW q xa th ca st co ra rb rc im hf rz fM gT cK) H) (hD : va_D A (rW q xa th ca st co ra rb rc im hf rz fM gT cK)) (hS : va_S A H0 H locs) {i x : Int32} (hin : vp_in i 512) (hdg : decode cc pc = .ok (.iastore, 1))
    (kk : ∀ (H1 : Heap) (locs1 : List Loc), va_P D cls (rW q xa th ca st co ra rb rc im hf rz (upd fM i.toNatClampNeg x) gT cK) H1 → va_S A H0 H1 locs1 → W p l e R s m args below meth c H1 locs1 cells slots Q (F0 m (pc + 1) ls rest)) : W p l e R s m args below meth c H locs cells slots Q (F0 m pc ls (.int x :: .int i :: .ref (xa 1) :: rest)) :=
  va_iast (D := D) S.1 S.2.1 hK hP hD hS 1 0 rfl rfl hin hdg (fun H1 locs1 hP1 _ hS1 => kk H1 locs1 hP1 hS1)
theorem r_ald_tag (S : CallFix p m c cc nL s args TB own) (hK : va_K D cls (tyR q) s) (hP : va_P D cls (rW q xa th ca st co ra rb rc im hf rz fM gT cK) H) {i : Int32} (hin : vp_in i 64) (hdg : decode cc pc = .ok (.baload, 1))
    (kk : W p l e R s m args below meth c H locs cells slots Q (F0 m (pc + 1) ls (.int (b2i (gT i.toNatClampNeg)) :: rest))) : W p l e R s m args below meth c H locs cells slots Q (F0 m pc ls (.int i :: .ref (xa 2) :: rest)) :=
  va_zald (D := D) S.1 S.2.1 hK hP 2 1 rfl rfl hin hdg kk
theorem r_ast_tag (S : CallFix p m c cc nL s args TB own) (hK : va_K D cls (tyR q) s) (hP : va_P D cls (rW q xa th ca st co ra rb rc im hf rz fM gT cK) H) (hD : va_D A (rW q xa th ca st co ra rb rc im hf rz fM gT cK)) (hS : va_S A H0 H locs) {i : Int32} {z : Bool} (hin : vp_in i 64) (hdg : decode cc pc = .ok (.bastore, 1))
    (kk : ∀ (H1 : Heap) (locs1 : List Loc), va_P D cls (rW q xa th ca st co ra rb rc im hf rz fM (va_up gT i.toNatClampNeg z) cK) H1 → va_S A H0 H1 locs1 → W p l e R s m args below meth c H1 locs1 cells slots Q (F0 m (pc + 1) ls rest)) : W p l e R s m args below meth c H locs cells slots Q (F0 m pc ls (.int (b2i z) :: .int i :: .ref (xa 2) :: rest)) := by
  refine va_zast (D := D) S.1 S.2.1 hK hP hD hS 2 1 rfl rfl hin hdg (fun H1 locs1 hP1 _ hS1 => ?_)
  rw [b2i_vp, ← up_T] at hP1
  exact kk H1 locs1 hP1 hS1
theorem r_ald_v (S : CallFix p m c cc nL s args TB own) (hK : va_K D cls (tyR q) s) (hP : va_P D cls (rW q xa th ca st co ra rb rc im hf rz fM gT cK) H) {i : Int32} (hin : vp_in i 12) (hdg : decode cc pc = .ok (.baload, 1))
    (kk : W p l e R s m args below meth c H locs cells slots Q (F0 m (pc + 1) ls (.int (b2i (k_v (cK i.toNatClampNeg))) :: rest))) : W p l e R s m args below meth c H locs cells slots Q (F0 m pc ls (.int i :: .ref (xa 3) :: rest)) :=
  va_zald (D := D) S.1 S.2.1 hK hP 3 2 rfl rfl hin hdg kk
theorem r_ast_v (S : CallFix p m c cc nL s args TB own) (hK : va_K D cls (tyR q) s) (hP : va_P D cls (rW q xa th ca st co ra rb rc im hf rz fM gT cK) H) (hD : va_D A (rW q xa th ca st co ra rb rc im hf rz fM gT cK)) (hS : va_S A H0 H locs) {i : Int32} {z : Bool} (hin : vp_in i 12) (hdg : decode cc pc = .ok (.bastore, 1))
    (kk : ∀ (H1 : Heap) (locs1 : List Loc), va_P D cls (rW q xa th ca st co ra rb rc im hf rz fM gT (va_up cK i.toNatClampNeg (s_v (cK i.toNatClampNeg) z))) H1 → va_S A H0 H1 locs1 → W p l e R s m args below meth c H1 locs1 cells slots Q (F0 m (pc + 1) ls rest)) : W p l e R s m args below meth c H locs cells slots Q (F0 m pc ls (.int (b2i z) :: .int i :: .ref (xa 3) :: rest)) := by
  have e_v : (fun j => b2i (k_v (va_up cK i.toNatClampNeg (s_v (cK i.toNatClampNeg) z) j))) = upd (fun j => b2i (k_v (cK j))) i.toNatClampNeg (b2i z) := by
    funext j
    by_cases h : j = i.toNatClampNeg
    · rw [h]; simp [va_up, upd, k_v, s_v]
    · simp [va_up, upd, h]
  have e_b : (fun j => k_b (va_up cK i.toNatClampNeg (s_v (cK i.toNatClampNeg) z) j)) = fun j => k_b (cK j) := by
    funext j
    by_cases h : j = i.toNatClampNeg
    · rw [h]; simp [va_up, k_b, s_v]
    · simp [va_up, h]
  have e_t : (fun j => k_t (va_up cK i.toNatClampNeg (s_v (cK i.toNatClampNeg) z) j)) = fun j => k_t (cK j) := by
    funext j
    by_cases h : j = i.toNatClampNeg
    · rw [h]; simp [va_up, k_t, s_v]
    · simp [va_up, h]
  have e_a : (fun j => k_a (va_up cK i.toNatClampNeg (s_v (cK i.toNatClampNeg) z) j)) = fun j => k_a (cK j) := by
    funext j
    by_cases h : j = i.toNatClampNeg
    · rw [h]; simp [va_up, k_a, s_v]
    · simp [va_up, h]
  have e_p : (fun j => k_p (va_up cK i.toNatClampNeg (s_v (cK i.toNatClampNeg) z) j)) = fun j => k_p (cK j) := by
    funext j
    by_cases h : j = i.toNatClampNeg
    · rw [h]; simp [va_up, k_p, s_v]
    · simp [va_up, h]
  have e_y : (fun j => k_y (va_up cK i.toNatClampNeg (s_v (cK i.toNatClampNeg) z) j)) = fun j => k_y (cK j) := by
    funext j
    by_cases h : j = i.toNatClampNeg
    · rw [h]; simp [va_up, k_y, s_v]
    · simp [va_up, h]
  refine va_zast (D := D) S.1 S.2.1 hK hP hD hS 3 2 rfl rfl hin hdg (fun H1 locs1 hP1 _ hS1 => kk H1 locs1 ?_ hS1)
  rw [b2i_vp] at hP1
  unfold rW
  rw [e_v, e_b, e_t, e_a, e_p, e_y]
  exact hP1
theorem r_ald_b (S : CallFix p m c cc nL s args TB own) (hK : va_K D cls (tyR q) s) (hP : va_P D cls (rW q xa th ca st co ra rb rc im hf rz fM gT cK) H) {i : Int32} (hin : vp_in i 12) (hdg : decode cc pc = .ok (.iaload, 1))
    (kk : W p l e R s m args below meth c H locs cells slots Q (F0 m (pc + 1) ls (.int (k_b (cK i.toNatClampNeg)) :: rest))) : W p l e R s m args below meth c H locs cells slots Q (F0 m pc ls (.int i :: .ref (xa 4) :: rest)) :=
  va_iald (D := D) S.1 S.2.1 hK hP 4 3 rfl rfl hin hdg kk
theorem r_ast_b (S : CallFix p m c cc nL s args TB own) (hK : va_K D cls (tyR q) s) (hP : va_P D cls (rW q xa th ca st co ra rb rc im hf rz fM gT cK) H) (hD : va_D A (rW q xa th ca st co ra rb rc im hf rz fM gT cK)) (hS : va_S A H0 H locs) {i x : Int32} (hin : vp_in i 12) (hdg : decode cc pc = .ok (.iastore, 1))
    (kk : ∀ (H1 : Heap) (locs1 : List Loc), va_P D cls (rW q xa th ca st co ra rb rc im hf rz fM gT (va_up cK i.toNatClampNeg (s_b (cK i.toNatClampNeg) x))) H1 → va_S A H0 H1 locs1 → W p l e R s m args below meth c H1 locs1 cells slots Q (F0 m (pc + 1) ls rest)) : W p l e R s m args below meth c H locs cells slots Q (F0 m pc ls (.int x :: .int i :: .ref (xa 4) :: rest)) := by
  have e_v : (fun j => b2i (k_v (va_up cK i.toNatClampNeg (s_b (cK i.toNatClampNeg) x) j))) = fun j => b2i (k_v (cK j)) := by
    funext j
    by_cases h : j = i.toNatClampNeg
    · rw [h]; simp [va_up, k_v, s_b]
    · simp [va_up, h]
  have e_b : (fun j => k_b (va_up cK i.toNatClampNeg (s_b (cK i.toNatClampNeg) x) j)) = upd (fun j => k_b (cK j)) i.toNatClampNeg (x) := by
    funext j
    by_cases h : j = i.toNatClampNeg
    · rw [h]; simp [va_up, upd, k_b, s_b]
    · simp [va_up, upd, h]
  have e_t : (fun j => k_t (va_up cK i.toNatClampNeg (s_b (cK i.toNatClampNeg) x) j)) = fun j => k_t (cK j) := by
    funext j
    by_cases h : j = i.toNatClampNeg
    · rw [h]; simp [va_up, k_t, s_b]
    · simp [va_up, h]
  have e_a : (fun j => k_a (va_up cK i.toNatClampNeg (s_b (cK i.toNatClampNeg) x) j)) = fun j => k_a (cK j) := by
    funext j
    by_cases h : j = i.toNatClampNeg
    · rw [h]; simp [va_up, k_a, s_b]
    · simp [va_up, h]
  have e_p : (fun j => k_p (va_up cK i.toNatClampNeg (s_b (cK i.toNatClampNeg) x) j)) = fun j => k_p (cK j) := by
    funext j
    by_cases h : j = i.toNatClampNeg
    · rw [h]; simp [va_up, k_p, s_b]
    · simp [va_up, h]
  have e_y : (fun j => k_y (va_up cK i.toNatClampNeg (s_b (cK i.toNatClampNeg) x) j)) = fun j => k_y (cK j) := by
    funext j
    by_cases h : j = i.toNatClampNeg
    · rw [h]; simp [va_up, k_y, s_b]
    · simp [va_up, h]
  refine va_iast (D := D) S.1 S.2.1 hK hP hD hS 4 3 rfl rfl hin hdg (fun H1 locs1 hP1 _ hS1 => kk H1 locs1 ?_ hS1)
  unfold rW
  rw [e_v, e_b, e_t, e_a, e_p, e_y]
  exact hP1
theorem r_ald_t (S : CallFix p m c cc nL s args TB own) (hK : va_K D cls (tyR q) s) (hP : va_P D cls (rW q xa th ca st co ra rb rc im hf rz fM gT cK) H) {i : Int32} (hin : vp_in i 12) (hdg : decode cc pc = .ok (.iaload, 1))
    (kk : W p l e R s m args below meth c H locs cells slots Q (F0 m (pc + 1) ls (.int (k_t (cK i.toNatClampNeg)) :: rest))) : W p l e R s m args below meth c H locs cells slots Q (F0 m pc ls (.int i :: .ref (xa 5) :: rest)) :=
  va_iald (D := D) S.1 S.2.1 hK hP 5 4 rfl rfl hin hdg kk
theorem r_ast_t (S : CallFix p m c cc nL s args TB own) (hK : va_K D cls (tyR q) s) (hP : va_P D cls (rW q xa th ca st co ra rb rc im hf rz fM gT cK) H) (hD : va_D A (rW q xa th ca st co ra rb rc im hf rz fM gT cK)) (hS : va_S A H0 H locs) {i x : Int32} (hin : vp_in i 12) (hdg : decode cc pc = .ok (.iastore, 1))
    (kk : ∀ (H1 : Heap) (locs1 : List Loc), va_P D cls (rW q xa th ca st co ra rb rc im hf rz fM gT (va_up cK i.toNatClampNeg (s_t (cK i.toNatClampNeg) x))) H1 → va_S A H0 H1 locs1 → W p l e R s m args below meth c H1 locs1 cells slots Q (F0 m (pc + 1) ls rest)) : W p l e R s m args below meth c H locs cells slots Q (F0 m pc ls (.int x :: .int i :: .ref (xa 5) :: rest)) := by
  have e_v : (fun j => b2i (k_v (va_up cK i.toNatClampNeg (s_t (cK i.toNatClampNeg) x) j))) = fun j => b2i (k_v (cK j)) := by
    funext j
    by_cases h : j = i.toNatClampNeg
    · rw [h]; simp [va_up, k_v, s_t]
    · simp [va_up, h]
  have e_b : (fun j => k_b (va_up cK i.toNatClampNeg (s_t (cK i.toNatClampNeg) x) j)) = fun j => k_b (cK j) := by
    funext j
    by_cases h : j = i.toNatClampNeg
    · rw [h]; simp [va_up, k_b, s_t]
    · simp [va_up, h]
  have e_t : (fun j => k_t (va_up cK i.toNatClampNeg (s_t (cK i.toNatClampNeg) x) j)) = upd (fun j => k_t (cK j)) i.toNatClampNeg (x) := by
    funext j
    by_cases h : j = i.toNatClampNeg
    · rw [h]; simp [va_up, upd, k_t, s_t]
    · simp [va_up, upd, h]
  have e_a : (fun j => k_a (va_up cK i.toNatClampNeg (s_t (cK i.toNatClampNeg) x) j)) = fun j => k_a (cK j) := by
    funext j
    by_cases h : j = i.toNatClampNeg
    · rw [h]; simp [va_up, k_a, s_t]
    · simp [va_up, h]
  have e_p : (fun j => k_p (va_up cK i.toNatClampNeg (s_t (cK i.toNatClampNeg) x) j)) = fun j => k_p (cK j) := by
    funext j
    by_cases h : j = i.toNatClampNeg
    · rw [h]; simp [va_up, k_p, s_t]
    · simp [va_up, h]
  have e_y : (fun j => k_y (va_up cK i.toNatClampNeg (s_t (cK i.toNatClampNeg) x) j)) = fun j => k_y (cK j) := by
    funext j
    by_cases h : j = i.toNatClampNeg
    · rw [h]; simp [va_up, k_y, s_t]
    · simp [va_up, h]
  refine va_iast (D := D) S.1 S.2.1 hK hP hD hS 5 4 rfl rfl hin hdg (fun H1 locs1 hP1 _ hS1 => kk H1 locs1 ?_ hS1)
  unfold rW
  rw [e_v, e_b, e_t, e_a, e_p, e_y]
  exact hP1
theorem r_ald_a (S : CallFix p m c cc nL s args TB own) (hK : va_K D cls (tyR q) s) (hP : va_P D cls (rW q xa th ca st co ra rb rc im hf rz fM gT cK) H) {i : Int32} (hin : vp_in i 12) (hdg : decode cc pc = .ok (.iaload, 1))
    (kk : W p l e R s m args below meth c H locs cells slots Q (F0 m (pc + 1) ls (.int (k_a (cK i.toNatClampNeg)) :: rest))) : W p l e R s m args below meth c H locs cells slots Q (F0 m pc ls (.int i :: .ref (xa 6) :: rest)) :=
  va_iald (D := D) S.1 S.2.1 hK hP 6 5 rfl rfl hin hdg kk
theorem r_ast_a (S : CallFix p m c cc nL s args TB own) (hK : va_K D cls (tyR q) s) (hP : va_P D cls (rW q xa th ca st co ra rb rc im hf rz fM gT cK) H) (hD : va_D A (rW q xa th ca st co ra rb rc im hf rz fM gT cK)) (hS : va_S A H0 H locs) {i x : Int32} (hin : vp_in i 12) (hdg : decode cc pc = .ok (.iastore, 1))
    (kk : ∀ (H1 : Heap) (locs1 : List Loc), va_P D cls (rW q xa th ca st co ra rb rc im hf rz fM gT (va_up cK i.toNatClampNeg (s_a (cK i.toNatClampNeg) x))) H1 → va_S A H0 H1 locs1 → W p l e R s m args below meth c H1 locs1 cells slots Q (F0 m (pc + 1) ls rest)) : W p l e R s m args below meth c H locs cells slots Q (F0 m pc ls (.int x :: .int i :: .ref (xa 6) :: rest)) := by
  have e_v : (fun j => b2i (k_v (va_up cK i.toNatClampNeg (s_a (cK i.toNatClampNeg) x) j))) = fun j => b2i (k_v (cK j)) := by
    funext j
    by_cases h : j = i.toNatClampNeg
    · rw [h]; simp [va_up, k_v, s_a]
    · simp [va_up, h]
  have e_b : (fun j => k_b (va_up cK i.toNatClampNeg (s_a (cK i.toNatClampNeg) x) j)) = fun j => k_b (cK j) := by
    funext j
    by_cases h : j = i.toNatClampNeg
    · rw [h]; simp [va_up, k_b, s_a]
    · simp [va_up, h]
  have e_t : (fun j => k_t (va_up cK i.toNatClampNeg (s_a (cK i.toNatClampNeg) x) j)) = fun j => k_t (cK j) := by
    funext j
    by_cases h : j = i.toNatClampNeg
    · rw [h]; simp [va_up, k_t, s_a]
    · simp [va_up, h]
  have e_a : (fun j => k_a (va_up cK i.toNatClampNeg (s_a (cK i.toNatClampNeg) x) j)) = upd (fun j => k_a (cK j)) i.toNatClampNeg (x) := by
    funext j
    by_cases h : j = i.toNatClampNeg
    · rw [h]; simp [va_up, upd, k_a, s_a]
    · simp [va_up, upd, h]
  have e_p : (fun j => k_p (va_up cK i.toNatClampNeg (s_a (cK i.toNatClampNeg) x) j)) = fun j => k_p (cK j) := by
    funext j
    by_cases h : j = i.toNatClampNeg
    · rw [h]; simp [va_up, k_p, s_a]
    · simp [va_up, h]
  have e_y : (fun j => k_y (va_up cK i.toNatClampNeg (s_a (cK i.toNatClampNeg) x) j)) = fun j => k_y (cK j) := by
    funext j
    by_cases h : j = i.toNatClampNeg
    · rw [h]; simp [va_up, k_y, s_a]
    · simp [va_up, h]
  refine va_iast (D := D) S.1 S.2.1 hK hP hD hS 6 5 rfl rfl hin hdg (fun H1 locs1 hP1 _ hS1 => kk H1 locs1 ?_ hS1)
  unfold rW
  rw [e_v, e_b, e_t, e_a, e_p, e_y]
  exact hP1
theorem r_ald_p (S : CallFix p m c cc nL s args TB own) (hK : va_K D cls (tyR q) s) (hP : va_P D cls (rW q xa th ca st co ra rb rc im hf rz fM gT cK) H) {i : Int32} (hin : vp_in i 12) (hdg : decode cc pc = .ok (.iaload, 1))
    (kk : W p l e R s m args below meth c H locs cells slots Q (F0 m (pc + 1) ls (.int (k_p (cK i.toNatClampNeg)) :: rest))) : W p l e R s m args below meth c H locs cells slots Q (F0 m pc ls (.int i :: .ref (xa 7) :: rest)) :=
  va_iald (D := D) S.1 S.2.1 hK hP 7 6 rfl rfl hin hdg kk
theorem r_ast_p (S : CallFix p m c cc nL s args TB own) (hK : va_K D cls (tyR q) s) (hP : va_P D cls (rW q xa th ca st co ra rb rc im hf rz fM gT cK) H) (hD : va_D A (rW q xa th ca st co ra rb rc im hf rz fM gT cK)) (hS : va_S A H0 H locs) {i x : Int32} (hin : vp_in i 12) (hdg : decode cc pc = .ok (.iastore, 1))
    (kk : ∀ (H1 : Heap) (locs1 : List Loc), va_P D cls (rW q xa th ca st co ra rb rc im hf rz fM gT (va_up cK i.toNatClampNeg (s_p (cK i.toNatClampNeg) x))) H1 → va_S A H0 H1 locs1 → W p l e R s m args below meth c H1 locs1 cells slots Q (F0 m (pc + 1) ls rest)) : W p l e R s m args below meth c H locs cells slots Q (F0 m pc ls (.int x :: .int i :: .ref (xa 7) :: rest)) := by
  have e_v : (fun j => b2i (k_v (va_up cK i.toNatClampNeg (s_p (cK i.toNatClampNeg) x) j))) = fun j => b2i (k_v (cK j)) := by
    funext j
    by_cases h : j = i.toNatClampNeg
    · rw [h]; simp [va_up, k_v, s_p]
    · simp [va_up, h]
  have e_b : (fun j => k_b (va_up cK i.toNatClampNeg (s_p (cK i.toNatClampNeg) x) j)) = fun j => k_b (cK j) := by
    funext j
    by_cases h : j = i.toNatClampNeg
    · rw [h]; simp [va_up, k_b, s_p]
    · simp [va_up, h]
  have e_t : (fun j => k_t (va_up cK i.toNatClampNeg (s_p (cK i.toNatClampNeg) x) j)) = fun j => k_t (cK j) := by
    funext j
    by_cases h : j = i.toNatClampNeg
    · rw [h]; simp [va_up, k_t, s_p]
    · simp [va_up, h]
  have e_a : (fun j => k_a (va_up cK i.toNatClampNeg (s_p (cK i.toNatClampNeg) x) j)) = fun j => k_a (cK j) := by
    funext j
    by_cases h : j = i.toNatClampNeg
    · rw [h]; simp [va_up, k_a, s_p]
    · simp [va_up, h]
  have e_p : (fun j => k_p (va_up cK i.toNatClampNeg (s_p (cK i.toNatClampNeg) x) j)) = upd (fun j => k_p (cK j)) i.toNatClampNeg (x) := by
    funext j
    by_cases h : j = i.toNatClampNeg
    · rw [h]; simp [va_up, upd, k_p, s_p]
    · simp [va_up, upd, h]
  have e_y : (fun j => k_y (va_up cK i.toNatClampNeg (s_p (cK i.toNatClampNeg) x) j)) = fun j => k_y (cK j) := by
    funext j
    by_cases h : j = i.toNatClampNeg
    · rw [h]; simp [va_up, k_y, s_p]
    · simp [va_up, h]
  refine va_iast (D := D) S.1 S.2.1 hK hP hD hS 7 6 rfl rfl hin hdg (fun H1 locs1 hP1 _ hS1 => kk H1 locs1 ?_ hS1)
  unfold rW
  rw [e_v, e_b, e_t, e_a, e_p, e_y]
  exact hP1
theorem r_ald_y (S : CallFix p m c cc nL s args TB own) (hK : va_K D cls (tyR q) s) (hP : va_P D cls (rW q xa th ca st co ra rb rc im hf rz fM gT cK) H) {i : Int32} (hin : vp_in i 12) (hdg : decode cc pc = .ok (.iaload, 1))
    (kk : W p l e R s m args below meth c H locs cells slots Q (F0 m (pc + 1) ls (.int (k_y (cK i.toNatClampNeg)) :: rest))) : W p l e R s m args below meth c H locs cells slots Q (F0 m pc ls (.int i :: .ref (xa 8) :: rest)) :=
  va_iald (D := D) S.1 S.2.1 hK hP 8 7 rfl rfl hin hdg kk
theorem r_ast_y (S : CallFix p m c cc nL s args TB own) (hK : va_K D cls (tyR q) s) (hP : va_P D cls (rW q xa th ca st co ra rb rc im hf rz fM gT cK) H) (hD : va_D A (rW q xa th ca st co ra rb rc im hf rz fM gT cK)) (hS : va_S A H0 H locs) {i x : Int32} (hin : vp_in i 12) (hdg : decode cc pc = .ok (.iastore, 1))
    (kk : ∀ (H1 : Heap) (locs1 : List Loc), va_P D cls (rW q xa th ca st co ra rb rc im hf rz fM gT (va_up cK i.toNatClampNeg (s_y (cK i.toNatClampNeg) x))) H1 → va_S A H0 H1 locs1 → W p l e R s m args below meth c H1 locs1 cells slots Q (F0 m (pc + 1) ls rest)) : W p l e R s m args below meth c H locs cells slots Q (F0 m pc ls (.int x :: .int i :: .ref (xa 8) :: rest)) := by
  have e_v : (fun j => b2i (k_v (va_up cK i.toNatClampNeg (s_y (cK i.toNatClampNeg) x) j))) = fun j => b2i (k_v (cK j)) := by
    funext j
    by_cases h : j = i.toNatClampNeg
    · rw [h]; simp [va_up, k_v, s_y]
    · simp [va_up, h]
  have e_b : (fun j => k_b (va_up cK i.toNatClampNeg (s_y (cK i.toNatClampNeg) x) j)) = fun j => k_b (cK j) := by
    funext j
    by_cases h : j = i.toNatClampNeg
    · rw [h]; simp [va_up, k_b, s_y]
    · simp [va_up, h]
  have e_t : (fun j => k_t (va_up cK i.toNatClampNeg (s_y (cK i.toNatClampNeg) x) j)) = fun j => k_t (cK j) := by
    funext j
    by_cases h : j = i.toNatClampNeg
    · rw [h]; simp [va_up, k_t, s_y]
    · simp [va_up, h]
  have e_a : (fun j => k_a (va_up cK i.toNatClampNeg (s_y (cK i.toNatClampNeg) x) j)) = fun j => k_a (cK j) := by
    funext j
    by_cases h : j = i.toNatClampNeg
    · rw [h]; simp [va_up, k_a, s_y]
    · simp [va_up, h]
  have e_p : (fun j => k_p (va_up cK i.toNatClampNeg (s_y (cK i.toNatClampNeg) x) j)) = fun j => k_p (cK j) := by
    funext j
    by_cases h : j = i.toNatClampNeg
    · rw [h]; simp [va_up, k_p, s_y]
    · simp [va_up, h]
  have e_y : (fun j => k_y (va_up cK i.toNatClampNeg (s_y (cK i.toNatClampNeg) x) j)) = upd (fun j => k_y (cK j)) i.toNatClampNeg (x) := by
    funext j
    by_cases h : j = i.toNatClampNeg
    · rw [h]; simp [va_up, upd, k_y, s_y]
    · simp [va_up, upd, h]
  refine va_iast (D := D) S.1 S.2.1 hK hP hD hS 8 7 rfl rfl hin hdg (fun H1 locs1 hP1 _ hS1 => kk H1 locs1 ?_ hS1)
  unfold rW
  rw [e_v, e_b, e_t, e_a, e_p, e_y]
  exact hP1
theorem r_ald_vO (S : CallFix p m c cc nL s args TB own) (hK : va_K D cls (tyR q) s) {i : Int32} {y : Cp} (hP : va_P D cls (rW q xa th ca st co ra rb rc im hf rz fM gT (va_up cK i.toNatClampNeg y)) H) (hin : vp_in i 12) {v : Int32} (hv : b2i (k_v y) = v) (hdg : decode cc pc = .ok (.baload, 1))
    (kk : W p l e R s m args below meth c H locs cells slots Q (F0 m (pc + 1) ls (.int v :: rest))) : W p l e R s m args below meth c H locs cells slots Q (F0 m pc ls (.int i :: .ref (xa 3) :: rest)) := by
  refine r_ald_v S hK hP hin hdg ?_
  rw [va_up_self, hv]
  exact kk
theorem r_ast_vO (S : CallFix p m c cc nL s args TB own) (hK : va_K D cls (tyR q) s) {i : Int32} {y : Cp} (hP : va_P D cls (rW q xa th ca st co ra rb rc im hf rz fM gT (va_up cK i.toNatClampNeg y)) H) (hD : va_D A (rW q xa th ca st co ra rb rc im hf rz fM gT (va_up cK i.toNatClampNeg y))) (hS : va_S A H0 H locs) {z : Bool} (hin : vp_in i 12) (hdg : decode cc pc = .ok (.bastore, 1))
    (kk : ∀ (H1 : Heap) (locs1 : List Loc), va_P D cls (rW q xa th ca st co ra rb rc im hf rz fM gT (va_up cK i.toNatClampNeg (s_v y z))) H1 → va_S A H0 H1 locs1 → W p l e R s m args below meth c H1 locs1 cells slots Q (F0 m (pc + 1) ls rest)) : W p l e R s m args below meth c H locs cells slots Q (F0 m pc ls (.int (b2i z) :: .int i :: .ref (xa 3) :: rest)) :=
  r_ast_v S hK hP hD hS hin hdg (fun H1 locs1 hP1 hS1 => kk H1 locs1 (by rw [va_up_self, bx_uu] at hP1; exact hP1) hS1)
theorem r_ald_bO (S : CallFix p m c cc nL s args TB own) (hK : va_K D cls (tyR q) s) {i : Int32} {y : Cp} (hP : va_P D cls (rW q xa th ca st co ra rb rc im hf rz fM gT (va_up cK i.toNatClampNeg y)) H) (hin : vp_in i 12) {v : Int32} (hv : k_b y = v) (hdg : decode cc pc = .ok (.iaload, 1))
    (kk : W p l e R s m args below meth c H locs cells slots Q (F0 m (pc + 1) ls (.int v :: rest))) : W p l e R s m args below meth c H locs cells slots Q (F0 m pc ls (.int i :: .ref (xa 4) :: rest)) := by
  refine r_ald_b S hK hP hin hdg ?_
  rw [va_up_self, hv]
  exact kk
theorem r_ast_bO (S : CallFix p m c cc nL s args TB own) (hK : va_K D cls (tyR q) s) {i : Int32} {y : Cp} (hP : va_P D cls (rW q xa th ca st co ra rb rc im hf rz fM gT (va_up cK i.toNatClampNeg y)) H) (hD : va_D A (rW q xa th ca st co ra rb rc im hf rz fM gT (va_up cK i.toNatClampNeg y))) (hS : va_S A H0 H locs) {x : Int32} (hin : vp_in i 12) (hdg : decode cc pc = .ok (.iastore, 1))
    (kk : ∀ (H1 : Heap) (locs1 : List Loc), va_P D cls (rW q xa th ca st co ra rb rc im hf rz fM gT (va_up cK i.toNatClampNeg (s_b y x))) H1 → va_S A H0 H1 locs1 → W p l e R s m args below meth c H1 locs1 cells slots Q (F0 m (pc + 1) ls rest)) : W p l e R s m args below meth c H locs cells slots Q (F0 m pc ls (.int x :: .int i :: .ref (xa 4) :: rest)) :=
  r_ast_b S hK hP hD hS hin hdg (fun H1 locs1 hP1 hS1 => kk H1 locs1 (by rw [va_up_self, bx_uu] at hP1; exact hP1) hS1)
theorem r_ald_tO (S : CallFix p m c cc nL s args TB own) (hK : va_K D cls (tyR q) s) {i : Int32} {y : Cp} (hP : va_P D cls (rW q xa th ca st co ra rb rc im hf rz fM gT (va_up cK i.toNatClampNeg y)) H) (hin : vp_in i 12) {v : Int32} (hv : k_t y = v) (hdg : decode cc pc = .ok (.iaload, 1))
    (kk : W p l e R s m args below meth c H locs cells slots Q (F0 m (pc + 1) ls (.int v :: rest))) : W p l e R s m args below meth c H locs cells slots Q (F0 m pc ls (.int i :: .ref (xa 5) :: rest)) := by
  refine r_ald_t S hK hP hin hdg ?_
  rw [va_up_self, hv]
  exact kk
theorem r_ast_tO (S : CallFix p m c cc nL s args TB own) (hK : va_K D cls (tyR q) s) {i : Int32} {y : Cp} (hP : va_P D cls (rW q xa th ca st co ra rb rc im hf rz fM gT (va_up cK i.toNatClampNeg y)) H) (hD : va_D A (rW q xa th ca st co ra rb rc im hf rz fM gT (va_up cK i.toNatClampNeg y))) (hS : va_S A H0 H locs) {x : Int32} (hin : vp_in i 12) (hdg : decode cc pc = .ok (.iastore, 1))
    (kk : ∀ (H1 : Heap) (locs1 : List Loc), va_P D cls (rW q xa th ca st co ra rb rc im hf rz fM gT (va_up cK i.toNatClampNeg (s_t y x))) H1 → va_S A H0 H1 locs1 → W p l e R s m args below meth c H1 locs1 cells slots Q (F0 m (pc + 1) ls rest)) : W p l e R s m args below meth c H locs cells slots Q (F0 m pc ls (.int x :: .int i :: .ref (xa 5) :: rest)) :=
  r_ast_t S hK hP hD hS hin hdg (fun H1 locs1 hP1 hS1 => kk H1 locs1 (by rw [va_up_self, bx_uu] at hP1; exact hP1) hS1)
theorem r_ald_aO (S : CallFix p m c cc nL s args TB own) (hK : va_K D cls (tyR q) s) {i : Int32} {y : Cp} (hP : va_P D cls (rW q xa th ca st co ra rb rc im hf rz fM gT (va_up cK i.toNatClampNeg y)) H) (hin : vp_in i 12) {v : Int32} (hv : k_a y = v) (hdg : decode cc pc = .ok (.iaload, 1))
    (kk : W p l e R s m args below meth c H locs cells slots Q (F0 m (pc + 1) ls (.int v :: rest))) : W p l e R s m args below meth c H locs cells slots Q (F0 m pc ls (.int i :: .ref (xa 6) :: rest)) := by
  refine r_ald_a S hK hP hin hdg ?_
  rw [va_up_self, hv]
  exact kk
theorem r_ast_aO (S : CallFix p m c cc nL s args TB own) (hK : va_K D cls (tyR q) s) {i : Int32} {y : Cp} (hP : va_P D cls (rW q xa th ca st co ra rb rc im hf rz fM gT (va_up cK i.toNatClampNeg y)) H) (hD : va_D A (rW q xa th ca st co ra rb rc im hf rz fM gT (va_up cK i.toNatClampNeg y))) (hS : va_S A H0 H locs) {x : Int32} (hin : vp_in i 12) (hdg : decode cc pc = .ok (.iastore, 1))
    (kk : ∀ (H1 : Heap) (locs1 : List Loc), va_P D cls (rW q xa th ca st co ra rb rc im hf rz fM gT (va_up cK i.toNatClampNeg (s_a y x))) H1 → va_S A H0 H1 locs1 → W p l e R s m args below meth c H1 locs1 cells slots Q (F0 m (pc + 1) ls rest)) : W p l e R s m args below meth c H locs cells slots Q (F0 m pc ls (.int x :: .int i :: .ref (xa 6) :: rest)) :=
  r_ast_a S hK hP hD hS hin hdg (fun H1 locs1 hP1 hS1 => kk H1 locs1 (by rw [va_up_self, bx_uu] at hP1; exact hP1) hS1)
theorem r_ald_pO (S : CallFix p m c cc nL s args TB own) (hK : va_K D cls (tyR q) s) {i : Int32} {y : Cp} (hP : va_P D cls (rW q xa th ca st co ra rb rc im hf rz fM gT (va_up cK i.toNatClampNeg y)) H) (hin : vp_in i 12) {v : Int32} (hv : k_p y = v) (hdg : decode cc pc = .ok (.iaload, 1))
    (kk : W p l e R s m args below meth c H locs cells slots Q (F0 m (pc + 1) ls (.int v :: rest))) : W p l e R s m args below meth c H locs cells slots Q (F0 m pc ls (.int i :: .ref (xa 7) :: rest)) := by
  refine r_ald_p S hK hP hin hdg ?_
  rw [va_up_self, hv]
  exact kk
theorem r_ast_pO (S : CallFix p m c cc nL s args TB own) (hK : va_K D cls (tyR q) s) {i : Int32} {y : Cp} (hP : va_P D cls (rW q xa th ca st co ra rb rc im hf rz fM gT (va_up cK i.toNatClampNeg y)) H) (hD : va_D A (rW q xa th ca st co ra rb rc im hf rz fM gT (va_up cK i.toNatClampNeg y))) (hS : va_S A H0 H locs) {x : Int32} (hin : vp_in i 12) (hdg : decode cc pc = .ok (.iastore, 1))
    (kk : ∀ (H1 : Heap) (locs1 : List Loc), va_P D cls (rW q xa th ca st co ra rb rc im hf rz fM gT (va_up cK i.toNatClampNeg (s_p y x))) H1 → va_S A H0 H1 locs1 → W p l e R s m args below meth c H1 locs1 cells slots Q (F0 m (pc + 1) ls rest)) : W p l e R s m args below meth c H locs cells slots Q (F0 m pc ls (.int x :: .int i :: .ref (xa 7) :: rest)) :=
  r_ast_p S hK hP hD hS hin hdg (fun H1 locs1 hP1 hS1 => kk H1 locs1 (by rw [va_up_self, bx_uu] at hP1; exact hP1) hS1)
theorem r_ald_yO (S : CallFix p m c cc nL s args TB own) (hK : va_K D cls (tyR q) s) {i : Int32} {y : Cp} (hP : va_P D cls (rW q xa th ca st co ra rb rc im hf rz fM gT (va_up cK i.toNatClampNeg y)) H) (hin : vp_in i 12) {v : Int32} (hv : k_y y = v) (hdg : decode cc pc = .ok (.iaload, 1))
    (kk : W p l e R s m args below meth c H locs cells slots Q (F0 m (pc + 1) ls (.int v :: rest))) : W p l e R s m args below meth c H locs cells slots Q (F0 m pc ls (.int i :: .ref (xa 8) :: rest)) := by
  refine r_ald_y S hK hP hin hdg ?_
  rw [va_up_self, hv]
  exact kk
theorem r_ast_yO (S : CallFix p m c cc nL s args TB own) (hK : va_K D cls (tyR q) s) {i : Int32} {y : Cp} (hP : va_P D cls (rW q xa th ca st co ra rb rc im hf rz fM gT (va_up cK i.toNatClampNeg y)) H) (hD : va_D A (rW q xa th ca st co ra rb rc im hf rz fM gT (va_up cK i.toNatClampNeg y))) (hS : va_S A H0 H locs) {x : Int32} (hin : vp_in i 12) (hdg : decode cc pc = .ok (.iastore, 1))
    (kk : ∀ (H1 : Heap) (locs1 : List Loc), va_P D cls (rW q xa th ca st co ra rb rc im hf rz fM gT (va_up cK i.toNatClampNeg (s_y y x))) H1 → va_S A H0 H1 locs1 → W p l e R s m args below meth c H1 locs1 cells slots Q (F0 m (pc + 1) ls rest)) : W p l e R s m args below meth c H locs cells slots Q (F0 m pc ls (.int x :: .int i :: .ref (xa 8) :: rest)) :=
  r_ast_y S hK hP hD hS hin hdg (fun H1 locs1 hP1 hS1 => kk H1 locs1 (by rw [va_up_self, bx_uu] at hP1; exact hP1) hS1)
end OwnRef
end
section
-- contracts: pure int (or boolean) methods, writers without and with an answer; what a method is to the tables
abbrev PreW (D : va_G) (tys : List (ClassId × FieldType)) (ws : va_W) : State → Prop := fun U => va_K D cls tys U ∧ NL U ∧ va_P D cls ws U.heap
abbrev PMi (l : Launch) (y : MethodName) (b : ByteArray) (n : Nat) (r : Option FieldType) (rm : Room) (as : List Value) (D : va_G) (tys : List (ClassId × FieldType)) (ws : va_W) (v : Int32) : Prop :=
  Met l y (.code y b n r :: TB) rm (va_Pc as (PreW D tys ws)) (vp_Si (fun z => z = v)) 0 0 (fun _ => False)
abbrev WMv (l : Launch) (y : MethodName) (b : ByteArray) (n : Nat) (r : Option FieldType) (rm : Room) (as : List Value) (D : va_G) (tys : List (ClassId × FieldType)) (ws ws' : va_W) (A : Nat → Prop) : Prop :=
  Met l y (.code y b n r :: TB) rm (va_Pc as (PreW D tys ws)) (va_Qv (fun _ : Unit => True) (fun _ t => va_P D cls ws' t.heap) A) 0 0 A
abbrev WMi (l : Launch) (y : MethodName) (b : ByteArray) (n : Nat) (r : Option FieldType) (rm : Room) (as : List Value) (D : va_G) (tys : List (ClassId × FieldType)) (ws ws' : va_W) (A : Nat → Prop) (v : Int32) : Prop :=
  Met l y (.code y b n r :: TB) rm (va_Pc as (PreW D tys ws)) (va_Qi (fun (z : Int32) (_ : Unit) => z = v) (fun _ t => va_P D cls ws' t.heap) A) 0 0 A
abbrev MFd (y : MethodName) (k : Nat) : Prop := y.cls ≠ "java/lang/invoke/MethodHandle" ∧ y.cls ≠ "java/lang/invoke/VarHandle" ∧ (parseMethodDescriptor y.desc).map (fun d => d.parameters.length) = some k
abbrev MFv (y : MethodName) (b : ByteArray) (n : Nat) (r : Option FieldType) (k : Nat) : Prop :=
  Cond.code y b n r ∈ TB ∧ Cond.initialized y.cls ∈ TB ∧ Cond.instanceMethod y ∈ TB ∧ Cond.selects y.cls y y ∈ TB ∧ MFd y k
abbrev MFs (y : MethodName) (b : ByteArray) (n : Nat) (r : Option FieldType) (k : Nat) : Prop :=
  Cond.code y b n r ∈ TB ∧ Cond.initialized y.cls ∈ TB ∧ Cond.static y ∈ TB ∧ MFd y k
abbrev Rok (rm R : Room) (n : Nat) : Prop := rm.cells = 0 ∧ rm.slots = 0 ∧ rm.frames + 1 ≤ R.frames ∧ 8 + (n + 11) + rm.locals ≤ R.locals
theorem gi {y : MethodName} {b : ByteArray} {n : Nat} {r : Option FieldType} (h : Cond.code y b n r ∈ TB) : GoodIn TB (Cond.code y b n r :: TB) := by
  intro w hw
  rcases List.mem_cons.mp hw with hw | hw
  · rw [hw]; exact ⟨h, good_of_word (TB_good _ h)⟩
  · exact ⟨hw, good_of_word (TB_good _ hw)⟩
theorem bl_W {as : List Value} {D : va_G} {tys : List (ClassId × FieldType)} {ws : va_W} : FrameBlind (va_Pc as (PreW D tys ws)) :=
  fun a U g mk h => ⟨h.1, va_K.moved (u := U) (U := U.calling g mk a) (Vm.Alike.refl U.vm) h.2.1, NL_same (u := U) (U := U.calling g mk a) rfl h.2.2.1, h.2.2.2⟩
section OwnCalls
variable {p : Program} {l : Launch} {e : Env} {R : Room} {s : State} {m : MethodId} {args : Array Value} {below : List Frame} {meth : Method} {c : Code} {H : Heap} {locs : List Loc} {cells slots : Nat} {Q : State → Prop}
variable {cc : ByteArray} {pc : Nat} {ls : Array Slot} {D : va_G} {A : Nat → Prop} {tys : List (ClassId × FieldType)} {ws ws' : va_W} {H0 : Heap} {own : String} {nL index n k o : Nat}
variable {y : MethodName} {b : ByteArray} {r : Option FieldType} {rm : Room} {As st0 : List Value} {v : Int32}
theorem pw_U {as : List Value} (hK : va_K D cls tys s) (hN : NL s) (hP : va_P D cls ws H) : ∀ U : State, U.heap = H → s.WarmedH U.vm → va_Pc as (PreW D tys ws) as.toArray U :=
  fun U hU hW => ⟨rfl, va_K.moved hW.alike hK, NL_warm hW hN, by rw [hU]; exact hP⟩
-- pure: a virtual call by a link, by a nest link; a static call
theorem c_pV (rest : List Value) (S : CallFix p m c cc nL s args TB own) (hM : PMi l y b n r rm (.ref o :: As) D tys ws v) (mf : MFv y b n r k) (hl : Cond.methodLink own index y ∈ TB) (hK : va_K D cls tys s) (hN : NL s) (hP : va_P D cls ws H) (q0 ci : Nat) {fs : List Value} {T : u_T} {N : Nat} (he : ws[q0]? = some (o, .inr (ci, fs))) (hc : cls[ci]? = some (y.cls, T, N)) (hR : Rok rm R n) (hk : As.length = k) (hsz : ls.size = nL) (hst : st0 = As.reverse ++ .ref o :: rest) (hw : (rest.map fun v => v.category).sum ≤ 8) (hdg : decode cc pc = .ok (.invokevirtual index, 3)) (hcs : cells ≤ R.cells ∧ slots ≤ R.slots)
    (kk : W p l e R s m args below meth c H locs cells slots Q (F0 m (pc + 3) ls (.int v :: rest))) : W p l e R s m args below meth c H locs cells slots Q (F0 m pc ls st0) := by
  refine vp_callSi (post := fun z => z = v) (W.runV (C := y.cls) S hM ⟨callB_of k S.2.2.2.2 (gi mf.1) rfl hR.1 hR.2.1 (S.2.2.2.2 _ mf.2.1) (S.2.2.2.2 _ hl) mf.2.2.2.2 hR.2.2, S.2.2.2.2 _ mf.2.2.1, S.2.2.2.2 _ mf.2.2.2.1⟩ ⟨bl_W, va_recv hK hP hc he, pw_U hK hN hP⟩ rfl hk hsz hst (lv_room hw) hdg hcs) (fun z hz => ?_)
  rw [hz]; exact kk
theorem c_pN (rest : List Value) (S : CallFix p m c cc nL s args TB own) (hM : PMi l y b n r rm (.ref o :: As) D tys ws v) (mf : MFv y b n r k) (hl : Cond.methodLinkNest own index y R_M ∈ NW) (hK : va_K D cls tys s) (hN : NL s) (hP : va_P D cls ws H) (q0 ci : Nat) {fs : List Value} {T : u_T} {N : Nat} (he : ws[q0]? = some (o, .inr (ci, fs))) (hc : cls[ci]? = some (y.cls, T, N)) (hR : Rok rm R n) (hk : As.length = k) (hsz : ls.size = nL) (hst : st0 = As.reverse ++ .ref o :: rest) (hw : (rest.map fun v => v.category).sum ≤ 8) (hdg : decode cc pc = .ok (.invokevirtual index, 3)) (hcs : cells ≤ R.cells ∧ slots ≤ R.slots)
    (kk : W p l e R s m args below meth c H locs cells slots Q (F0 m (pc + 3) ls (.int v :: rest))) : W p l e R s m args below meth c H locs cells slots Q (F0 m pc ls st0) := by
  refine vp_callSi (post := fun z => z = v) (va_Run.run (va_runVN (C := y.cls) S hM ⟨va_cnB k S.2.2.2.2 (gi mf.1) rfl hR.1 hR.2.1 (hN _ hl) (S.2.2.2.2 _ mf.2.1) mf.2.2.2.2 hR.2.2, S.2.2.2.2 _ mf.2.2.1, S.2.2.2.2 _ mf.2.2.2.1⟩ ⟨bl_W, va_recv hK hP hc he, pw_U hK hN hP⟩ rfl hk hsz hst (lv_room hw) hdg hcs)) (fun z hz => ?_)
  rw [hz]; exact kk
theorem c_pS (rest : List Value) (S : CallFix p m c cc nL s args TB own) (hM : PMi l y b n r rm As D tys ws v) (mf : MFs y b n r k) (hl : Cond.methodLink own index y ∈ TB) (hK : va_K D cls tys s) (hN : NL s) (hP : va_P D cls ws H) (hR : Rok rm R n) (hk : As.length = k) (hsz : ls.size = nL) (hst : st0 = As.reverse ++ rest) (hw : (rest.map fun v => v.category).sum ≤ 8) (hdg : decode cc pc = .ok (.invokestatic index, 3)) (hcs : cells ≤ R.cells ∧ slots ≤ R.slots)
    (kk : W p l e R s m args below meth c H locs cells slots Q (F0 m (pc + 3) ls (.int v :: rest))) : W p l e R s m args below meth c H locs cells slots Q (F0 m pc ls st0) := by
  refine vp_callSi (post := fun z => z = v) (W.runS S hM ⟨callB_of k S.2.2.2.2 (gi mf.1) rfl hR.1 hR.2.1 (S.2.2.2.2 _ mf.2.1) (S.2.2.2.2 _ hl) mf.2.2.2 hR.2.2, S.2.2.2.2 _ mf.2.2.1⟩ ⟨bl_W, pw_U hK hN hP⟩ rfl hk hsz hst (lv_room hw) hdg hcs) (fun z hz => ?_)
  rw [hz]; exact kk
-- writers without an answer
theorem c_vV (rest : List Value) (S : CallFix p m c cc nL s args TB own) (hM : WMv l y b n r rm (.ref o :: As) D tys ws ws' A) (mf : MFv y b n r k) (hl : Cond.methodLink own index y ∈ TB) (hK : va_K D cls tys s) (hN : NL s) (hP : va_P D cls ws H) (hS : va_S A H0 H locs) (q0 ci : Nat) {fs : List Value} {T : u_T} {N : Nat} (he : ws[q0]? = some (o, .inr (ci, fs))) (hc : cls[ci]? = some (y.cls, T, N)) (hR : Rok rm R n) (hk : As.length = k) (hsz : ls.size = nL) (hst : st0 = As.reverse ++ .ref o :: rest) (hw : (rest.map fun v => v.category).sum ≤ 8) (hdg : decode cc pc = .ok (.invokevirtual index, 3)) (hcs : cells ≤ R.cells ∧ slots ≤ R.slots)
    (kk : ∀ (H1 : Heap) (locs1 : List Loc), va_P D cls ws' H1 → va_S A H0 H1 locs1 → W p l e R s m args below meth c H1 locs1 cells slots Q (F0 m (pc + 3) ls rest)) : W p l e R s m args below meth c H locs cells slots Q (F0 m pc ls st0) :=
  va_callv (va_runV (C := y.cls) S hM ⟨callB_of k S.2.2.2.2 (gi mf.1) rfl hR.1 hR.2.1 (S.2.2.2.2 _ mf.2.1) (S.2.2.2.2 _ hl) mf.2.2.2.2 hR.2.2, S.2.2.2.2 _ mf.2.2.1, S.2.2.2.2 _ mf.2.2.2.1⟩ ⟨bl_W, va_recv hK hP hc he, pw_U hK hN hP⟩ rfl hk hsz hst (lv_room hw) hdg hcs) hS (fun _ _ h => h) (fun _ h => h) (fun _ t H1 locs1 ht _ _ hB _ _ hS1 => kk H1 locs1 (by rw [← ht]; exact hB) hS1)
theorem c_vN (rest : List Value) (S : CallFix p m c cc nL s args TB own) (hM : WMv l y b n r rm (.ref o :: As) D tys ws ws' A) (mf : MFv y b n r k) (hl : Cond.methodLinkNest own index y R_M ∈ NW) (hK : va_K D cls tys s) (hN : NL s) (hP : va_P D cls ws H) (hS : va_S A H0 H locs) (q0 ci : Nat) {fs : List Value} {T : u_T} {N : Nat} (he : ws[q0]? = some (o, .inr (ci, fs))) (hc : cls[ci]? = some (y.cls, T, N)) (hR : Rok rm R n) (hk : As.length = k) (hsz : ls.size = nL) (hst : st0 = As.reverse ++ .ref o :: rest) (hw : (rest.map fun v => v.category).sum ≤ 8) (hdg : decode cc pc = .ok (.invokevirtual index, 3)) (hcs : cells ≤ R.cells ∧ slots ≤ R.slots)
    (kk : ∀ (H1 : Heap) (locs1 : List Loc), va_P D cls ws' H1 → va_S A H0 H1 locs1 → W p l e R s m args below meth c H1 locs1 cells slots Q (F0 m (pc + 3) ls rest)) : W p l e R s m args below meth c H locs cells slots Q (F0 m pc ls st0) :=
  va_callv (va_runVN (C := y.cls) S hM ⟨va_cnB k S.2.2.2.2 (gi mf.1) rfl hR.1 hR.2.1 (hN _ hl) (S.2.2.2.2 _ mf.2.1) mf.2.2.2.2 hR.2.2, S.2.2.2.2 _ mf.2.2.1, S.2.2.2.2 _ mf.2.2.2.1⟩ ⟨bl_W, va_recv hK hP hc he, pw_U hK hN hP⟩ rfl hk hsz hst (lv_room hw) hdg hcs) hS (fun _ _ h => h) (fun _ h => h) (fun _ t H1 locs1 ht _ _ hB _ _ hS1 => kk H1 locs1 (by rw [← ht]; exact hB) hS1)
-- writers with an answer
theorem c_iV (rest : List Value) (S : CallFix p m c cc nL s args TB own) (hM : WMi l y b n r rm (.ref o :: As) D tys ws ws' A v) (mf : MFv y b n r k) (hl : Cond.methodLink own index y ∈ TB) (hK : va_K D cls tys s) (hN : NL s) (hP : va_P D cls ws H) (hS : va_S A H0 H locs) (q0 ci : Nat) {fs : List Value} {T : u_T} {N : Nat} (he : ws[q0]? = some (o, .inr (ci, fs))) (hc : cls[ci]? = some (y.cls, T, N)) (hR : Rok rm R n) (hk : As.length = k) (hsz : ls.size = nL) (hst : st0 = As.reverse ++ .ref o :: rest) (hw : (rest.map fun v => v.category).sum ≤ 8) (hdg : decode cc pc = .ok (.invokevirtual index, 3)) (hcs : cells ≤ R.cells ∧ slots ≤ R.slots)
    (kk : ∀ (H1 : Heap) (locs1 : List Loc), va_P D cls ws' H1 → va_S A H0 H1 locs1 → W p l e R s m args below meth c H1 locs1 cells slots Q (F0 m (pc + 3) ls (.int v :: rest))) : W p l e R s m args below meth c H locs cells slots Q (F0 m pc ls st0) :=
  va_calli (va_runV (C := y.cls) S hM ⟨callB_of k S.2.2.2.2 (gi mf.1) rfl hR.1 hR.2.1 (S.2.2.2.2 _ mf.2.1) (S.2.2.2.2 _ hl) mf.2.2.2.2 hR.2.2, S.2.2.2.2 _ mf.2.2.1, S.2.2.2.2 _ mf.2.2.2.1⟩ ⟨bl_W, va_recv hK hP hc he, pw_U hK hN hP⟩ rfl hk hsz hst (lv_room hw) hdg hcs) hS (fun _ _ h => h) (fun _ h => h) (fun z _ t H1 locs1 ht _ hz hB _ _ hS1 => by rw [hz]; exact kk H1 locs1 (by rw [← ht]; exact hB) hS1)
theorem c_iS (rest : List Value) (S : CallFix p m c cc nL s args TB own) (hM : WMi l y b n r rm As D tys ws ws' A v) (mf : MFs y b n r k) (hl : Cond.methodLink own index y ∈ TB) (hK : va_K D cls tys s) (hN : NL s) (hP : va_P D cls ws H) (hS : va_S A H0 H locs) (hR : Rok rm R n) (hk : As.length = k) (hsz : ls.size = nL) (hst : st0 = As.reverse ++ rest) (hw : (rest.map fun v => v.category).sum ≤ 8) (hdg : decode cc pc = .ok (.invokestatic index, 3)) (hcs : cells ≤ R.cells ∧ slots ≤ R.slots)
    (kk : ∀ (H1 : Heap) (locs1 : List Loc), va_P D cls ws' H1 → va_S A H0 H1 locs1 → W p l e R s m args below meth c H1 locs1 cells slots Q (F0 m (pc + 3) ls (.int v :: rest))) : W p l e R s m args below meth c H locs cells slots Q (F0 m pc ls st0) :=
  va_calli (va_runS S hM ⟨callB_of k S.2.2.2.2 (gi mf.1) rfl hR.1 hR.2.1 (S.2.2.2.2 _ mf.2.1) (S.2.2.2.2 _ hl) mf.2.2.2 hR.2.2, S.2.2.2.2 _ mf.2.2.1⟩ ⟨bl_W, pw_U hK hN hP⟩ rfl hk hsz hst (lv_room hw) hdg hcs) hS (fun _ _ h => h) (fun _ h => h) (fun z _ t H1 locs1 ht _ hz hB _ _ hS1 => by rw [hz]; exact kk H1 locs1 (by rw [← ht]; exact hB) hS1)
end OwnCalls
section OwnEntry
variable {l : Launch} {y : MethodName} {b : ByteArray} {n : Nat} {r : Option FieldType} {rm : Room} {as : List Value} {D : va_G} {tys : List (ClassId × FieldType)} {ws ws' : va_W} {v : Int32} {A : Nat → Prop}
theorem ofP (hy : plainName y.cls = true) (hn : (lg_sl as).length ≤ n)
    (body : ∀ (p : Program) (e : Env) (s : State) (m : MethodId) (below : List Frame) (meth : Method) (c : Code) (ls : Array Slot), CallFix p m c b n s as.toArray TB y.cls → meth.sig.returnType = r → meth.locks = false → va_K D cls tys s → NL s → va_P D cls ws s.heap → lv_has ls n (lv_args 0 as) →
      W p l e rm s m as.toArray below meth c s.heap [] 0 0 (MQ below (vp_Si (fun z => z = v)) as.toArray s 0 0 (fun _ => False)) (F0 m 0 ls [])) : PMi l y b n r rm as D tys ws v := by
  refine Met.ofW (cc := b) (maxL := n) (ret := r) hy rfl ?_
  intro p e s m args below meth c s₁ B hml hv
  obtain ⟨rfl, hK, hN, hP⟩ := hv
  have hts := atoms_spec (ws := Cond.code y b n r :: TB) B.pre
  rw [lg_entry_eq]
  exact body p e s m below meth c _ ⟨B.exec, B.bytes, hml, findClass_of_methodNamed B.named, fun w hw => hts w (List.mem_cons_of_mem _ hw)⟩ B.returns B.notSynchronized hK hN hP (lv_entry as hn)
theorem ofV (hy : plainName y.cls = true) (hn : (lg_sl as).length ≤ n)
    (body : ∀ (p : Program) (e : Env) (s : State) (m : MethodId) (below : List Frame) (meth : Method) (c : Code) (ls : Array Slot), CallFix p m c b n s as.toArray TB y.cls → meth.sig.returnType = r → meth.locks = false → va_K D cls tys s → NL s → va_P D cls ws s.heap → lv_has ls n (lv_args 0 as) →
      W p l e rm s m as.toArray below meth c s.heap [] 0 0 (MQ below (va_Qv (fun _ : Unit => True) (fun _ t => va_P D cls ws' t.heap) A) as.toArray s 0 0 A) (F0 m 0 ls [])) : WMv l y b n r rm as D tys ws ws' A := by
  refine Met.ofW (cc := b) (maxL := n) (ret := r) hy rfl ?_
  intro p e s m args below meth c s₁ B hml hv
  obtain ⟨rfl, hK, hN, hP⟩ := hv
  have hts := atoms_spec (ws := Cond.code y b n r :: TB) B.pre
  rw [lg_entry_eq]
  exact body p e s m below meth c _ ⟨B.exec, B.bytes, hml, findClass_of_methodNamed B.named, fun w hw => hts w (List.mem_cons_of_mem _ hw)⟩ B.returns B.notSynchronized hK hN hP (lv_entry as hn)
theorem ofI (hy : plainName y.cls = true) (hn : (lg_sl as).length ≤ n)
    (body : ∀ (p : Program) (e : Env) (s : State) (m : MethodId) (below : List Frame) (meth : Method) (c : Code) (ls : Array Slot), CallFix p m c b n s as.toArray TB y.cls → meth.sig.returnType = r → meth.locks = false → va_K D cls tys s → NL s → va_P D cls ws s.heap → lv_has ls n (lv_args 0 as) →
      W p l e rm s m as.toArray below meth c s.heap [] 0 0 (MQ below (va_Qi (fun (z : Int32) (_ : Unit) => z = v) (fun _ t => va_P D cls ws' t.heap) A) as.toArray s 0 0 A) (F0 m 0 ls [])) : WMi l y b n r rm as D tys ws ws' A v := by
  refine Met.ofW (cc := b) (maxL := n) (ret := r) hy rfl ?_
  intro p e s m args below meth c s₁ B hml hv
  obtain ⟨rfl, hK, hN, hP⟩ := hv
  have hts := atoms_spec (ws := Cond.code y b n r :: TB) B.pre
  rw [lg_entry_eq]
  exact body p e s m below meth c _ ⟨B.exec, B.bytes, hml, findClass_of_methodNamed B.named, fun w hw => hts w (List.mem_cons_of_mem _ hw)⟩ B.returns B.notSynchronized hK hN hP (lv_entry as hn)
end OwnEntry
section OwnEnds
variable {p : Program} {l : Launch} {e : Env} {R : Room} {s : State} {m : MethodId} {args : Array Value} {below : List Frame} {meth : Method} {c : Code} {H : Heap} {locs : List Loc} {cc : ByteArray} {pc : Nat} {ls : Array Slot} {D : va_G} {A : Nat → Prop} {ws ws' : va_W} {v x : Int32} {own : String} {nL : Nat}
theorem e_pi (S : CallFix p m c cc nL s args TB own) (hr : meth.sig.returnType = some .int) (hlocks : meth.locks = false) (hv : x = v) (hdg : decode cc pc = .ok (.ireturn, 1)) :
    W p l e R s m args below meth c s.heap [] 0 0 (MQ below (vp_Si (fun z => z = v)) args s 0 0 (fun _ => False)) (F0 m pc ls [.int x]) :=
  W.iret S.1 S.2.1 hr (fun t ht _ => ⟨x, rfl, hv, ht⟩) t_nil hdg hlocks
theorem e_pz {z : Bool} (S : CallFix p m c cc nL s args TB own) (hr : meth.sig.returnType = some .boolean) (hlocks : meth.locks = false) (hv : b2i z = v) (hdg : decode cc pc = .ok (.ireturn, 1)) :
    W p l e R s m args below meth c s.heap [] 0 0 (MQ below (vp_Si (fun z => z = v)) args s 0 0 (fun _ => False)) (F0 m pc ls [.int (b2i z)]) :=
  W.zret S.1 S.2.1 hr (b2i_nar z) (fun t ht _ => ⟨b2i z, rfl, hv, ht⟩) t_nil hdg hlocks
theorem e_wv (S : CallFix p m c cc nL s args TB own) (hr : meth.sig.returnType = none) (hlocks : meth.locks = false) (hP : va_P D cls ws H) (hS : va_S A s.heap H locs) (hw : ws = ws') (hdg : decode cc pc = .ok (.return_, 1)) :
    W p l e R s m args below meth c H locs 0 0 (MQ below (va_Qv (fun _ : Unit => True) (fun _ t => va_P D cls ws' t.heap) A) args s 0 0 A) (F0 m pc ls []) :=
  W.vret S.1 S.2.1 hr (fun t ht _ => ⟨⟨(), rfl, trivial, by show va_P D cls ws' t.heap; rw [ht, ← hw]; exact hP⟩, hS.F ht⟩) hS.2.2 hdg hlocks
theorem e_wi (S : CallFix p m c cc nL s args TB own) (hr : meth.sig.returnType = some .int) (hlocks : meth.locks = false) (hP : va_P D cls ws H) (hS : va_S A s.heap H locs) (hv : x = v) (hw : ws = ws') (hdg : decode cc pc = .ok (.ireturn, 1)) :
    W p l e R s m args below meth c H locs 0 0 (MQ below (va_Qi (fun (z : Int32) (_ : Unit) => z = v) (fun _ t => va_P D cls ws' t.heap) A) args s 0 0 A) (F0 m pc ls [.int x]) :=
  W.iret S.1 S.2.1 hr (fun t ht _ => ⟨⟨x, (), rfl, hv, by show va_P D cls ws' t.heap; rw [ht, ← hw]; exact hP⟩, hS.F ht⟩) hS.2.2 hdg hlocks
theorem e_wz {z : Bool} (S : CallFix p m c cc nL s args TB own) (hr : meth.sig.returnType = some .boolean) (hlocks : meth.locks = false) (hP : va_P D cls ws H) (hS : va_S A s.heap H locs) (hv : b2i z = v) (hw : ws = ws') (hdg : decode cc pc = .ok (.ireturn, 1)) :
    W p l e R s m args below meth c H locs 0 0 (MQ below (va_Qi (fun (z : Int32) (_ : Unit) => z = v) (fun _ t => va_P D cls ws' t.heap) A) args s 0 0 A) (F0 m pc ls [.int (b2i z)]) :=
  W.zret S.1 S.2.1 hr (b2i_nar z) (fun t ht _ => ⟨⟨b2i z, (), rfl, hv, by show va_P D cls ws' t.heap; rw [ht, ← hw]; exact hP⟩, hS.F ht⟩) hS.2.2 hdg hlocks
end OwnEnds
end
section
-- ranges of addresses
def Ar (x : Int32) (n : Nat) : Prop := 0 ≤ x.toInt ∧ x.toInt + (n : Int) ≤ 512
def As (x ct : Int32) : Prop := 0 ≤ x.toInt ∧ 0 ≤ ct.toInt ∧ x.toInt + ct.toInt ≤ 512
theorem in_k {x : Int32} {n : Nat} (h : decide (¬ (x < 0 ∨ n ≤ x.toNatClampNeg)) = true) : vp_in x n := (of_decide_eq_true h : ¬ (x < 0 ∨ n ≤ x.toNatClampNeg))
theorem ad_s {x y : Int32} (h1 : -2147483648 ≤ x.toInt + y.toInt) (h2 : x.toInt + y.toInt ≤ 2147483647) : (x + y).toInt = x.toInt + y.toInt := by
  rw [Int32.toInt_add]
  exact Int.bmod_eq_of_le (by omega) (by omega)
theorem sb_s {x y : Int32} (h1 : -2147483648 ≤ x.toInt - y.toInt) (h2 : x.toInt - y.toInt ≤ 2147483647) : (x - y).toInt = x.toInt - y.toInt := by
  rw [Int32.toInt_sub]
  exact Int.bmod_eq_of_le (by omega) (by omega)
theorem ml_s {x y : Int32} (h1 : -2147483648 ≤ x.toInt * y.toInt) (h2 : x.toInt * y.toInt ≤ 2147483647) : (x * y).toInt = x.toInt * y.toInt := by
  rw [Int32.toInt_mul]
  exact Int.bmod_eq_of_le (by omega) (by omega)
theorem dv_s {x y : Int32} (h0 : 0 ≤ x.toInt) (h1 : 0 < y.toInt) : (x / y).toInt = x.toInt / y.toInt := by
  have a := Int32.toInt_lt x
  rw [Int32.toInt_div, Int.tdiv_eq_ediv_of_nonneg h0]
  have h2 : 0 ≤ x.toInt / y.toInt := Int.ediv_nonneg h0 (by omega)
  have h3 : x.toInt / y.toInt ≤ x.toInt := Int.ediv_le_self _ h0
  exact Int.bmod_eq_of_le (by omega) (by omega)
theorem Ar.i0 {x : Int32} {n : Nat} (h : Ar x n) (hn : 1 ≤ n) : vp_in x 512 := vp_in_iff.mpr ⟨h.1, by have := h.2; omega⟩
theorem Ar.ik {x k : Int32} {n : Nat} (h : Ar x n) (hk0 : 0 ≤ k.toInt) (hk : k.toInt < n) : vp_in (x + k) 512 := by
  have h1 := h.1
  have h2 := h.2
  have e := ad_s (x := x) (y := k) (by omega) (by omega)
  exact vp_in_iff.mpr ⟨by omega, by omega⟩
theorem Ar.i1 {x : Int32} {n : Nat} (h : Ar x n) (hn : 2 ≤ n) : vp_in (x + 1) 512 := h.ik (by decide) (by have : (1 : Int32).toInt = 1 := (by decide); omega)
theorem Ar.i2 {x : Int32} {n : Nat} (h : Ar x n) (hn : 3 ≤ n) : vp_in (x + 2) 512 := h.ik (by decide) (by have : (2 : Int32).toInt = 2 := (by decide); omega)
theorem Ar.i3 {x : Int32} {n : Nat} (h : Ar x n) (hn : 4 ≤ n) : vp_in (x + 3) 512 := h.ik (by decide) (by have : (3 : Int32).toInt = 3 := (by decide); omega)
theorem Ar.lo {x : Int32} (h : Ar x 8) : Ar x 4 := ⟨h.1, by have := h.2; omega⟩
theorem Ar.hi {x : Int32} (h : Ar x 8) : Ar (x + 4) 4 := by
  have h1 := h.1
  have h2 := h.2
  have e4 : (4 : Int32).toInt = 4 := by decide
  have e := ad_s (x := x) (y := 4) (by omega) (by omega)
  exact ⟨by omega, by omega⟩
theorem dv_in {x : Int32} (h : vp_in x 512) : vp_in (x / 8) 64 := by
  obtain ⟨h1, h2⟩ := vp_in_iff.mp h
  have e8 : (8 : Int32).toInt = 8 := by decide
  have e := dv_s (x := x) (y := 8) h1 (by omega)
  rw [e8] at e
  exact vp_in_iff.mpr ⟨by omega, by omega⟩
theorem Ar.dv {x : Int32} {n : Nat} (h : Ar x n) (hn : 1 ≤ n) : vp_in (x / 8) 64 := dv_in (h.i0 hn)
theorem Ar.a4 {x : Int32} (h : Ar x 4) : As x 4 := ⟨h.1, by decide, by have e4 : (4 : Int32).toInt = 4 := (by decide); have := h.2; omega⟩
theorem and7_in (x : Int32) : vp_in (x &&& 7) 11 := by
  obtain ⟨h1, h2⟩ := vp_in_iff.mp (pk_andIn x (m := 7) 3 (by decide) (by decide))
  exact vp_in_iff.mpr ⟨h1, by omega⟩
theorem and7_lt (x : Int32) : (x &&& 7).toNatClampNeg < 12 := by
  obtain ⟨j, hj, e⟩ := pk_andE x (m := 7) 3 (by decide)
  rw [e, nI_clamp (by omega)]
  omega
theorem in_lt {x : Int32} {n : Nat} (h : vp_in x n) : x.toNatClampNeg < n := Nat.not_le.mp fun z => h (Or.inr z)
theorem in_of {x n : Int32} {N : Nat} (h1 : ¬ x < 0) (h2 : ¬ n ≤ x) (hn : n.toInt = (N : Int)) : vp_in x N := by
  rw [Int32.lt_iff_toInt_lt] at h1
  rw [Int32.le_iff_toInt_le] at h2
  have e0 : (0 : Int32).toInt = 0 := by decide
  exact vp_in_iff.mpr ⟨by omega, by omega⟩
end
section
theorem d_E_byteAt_0 : decode b_E_byteAt 0 = .ok (.aload_n 0, 1) := by decide +kernel
theorem d_E_byteAt_1 : decode b_E_byteAt 1 = .ok (.getfield 9, 3) := by decide +kernel
theorem d_E_byteAt_4 : decode b_E_byteAt 4 = .ok (.iload_n 1, 1) := by decide +kernel
theorem d_E_byteAt_5 : decode b_E_byteAt 5 = .ok (.baload, 1) := by decide +kernel
theorem d_E_byteAt_6 : decode b_E_byteAt 6 = .ok (.sipush 255, 3) := by decide +kernel
theorem d_E_byteAt_9 : decode b_E_byteAt 9 = .ok (.iand, 1) := by decide +kernel
theorem d_E_byteAt_10 : decode b_E_byteAt 10 = .ok (.ireturn, 1) := by decide +kernel
theorem d_E_init_0 : decode b_E_init 0 = .ok (.aload_n 0, 1) := by decide +kernel
theorem d_E_init_1 : decode b_E_init 1 = .ok (.invokespecial 3, 3) := by decide +kernel
theorem d_E_init_4 : decode b_E_init 4 = .ok (.aload_n 0, 1) := by decide +kernel
theorem d_E_init_5 : decode b_E_init 5 = .ok (.sipush 512, 3) := by decide +kernel
theorem d_E_init_8 : decode b_E_init 8 = .ok (.newarray .byte, 2) := by decide +kernel
theorem d_E_init_10 : decode b_E_init 10 = .ok (.putfield 9, 3) := by decide +kernel
theorem d_E_init_13 : decode b_E_init 13 = .ok (.aload_n 0, 1) := by decide +kernel
theorem d_E_init_14 : decode b_E_init 14 = .ok (.bipush 64, 2) := by decide +kernel
theorem d_E_init_16 : decode b_E_init 16 = .ok (.newarray .boolean, 2) := by decide +kernel
theorem d_E_init_18 : decode b_E_init 18 = .ok (.putfield 15, 3) := by decide +kernel
theorem d_E_init_21 : decode b_E_init 21 = .ok (.return_, 1) := by decide +kernel
theorem d_E_loadCapability_0 : decode b_E_loadCapability 0 = .ok (.aload_n 2, 1) := by decide +kernel
theorem d_E_loadCapability_1 : decode b_E_loadCapability 1 = .ok (.aload_n 0, 1) := by decide +kernel
theorem d_E_loadCapability_2 : decode b_E_loadCapability 2 = .ok (.getfield 15, 3) := by decide +kernel
theorem d_E_loadCapability_5 : decode b_E_loadCapability 5 = .ok (.iload_n 1, 1) := by decide +kernel
theorem d_E_loadCapability_6 : decode b_E_loadCapability 6 = .ok (.bipush 8, 2) := by decide +kernel
theorem d_E_loadCapability_8 : decode b_E_loadCapability 8 = .ok (.idiv, 1) := by decide +kernel
theorem d_E_loadCapability_9 : decode b_E_loadCapability 9 = .ok (.baload, 1) := by decide +kernel
theorem d_E_loadCapability_10 : decode b_E_loadCapability 10 = .ok (.aload_n 0, 1) := by decide +kernel
theorem d_E_loadCapability_11 : decode b_E_loadCapability 11 = .ok (.iload_n 1, 1) := by decide +kernel
theorem d_E_loadCapability_12 : decode b_E_loadCapability 12 = .ok (.invokevirtual 23, 3) := by decide +kernel
theorem d_E_loadCapability_15 : decode b_E_loadCapability 15 = .ok (.aload_n 0, 1) := by decide +kernel
theorem d_E_loadCapability_16 : decode b_E_loadCapability 16 = .ok (.iload_n 1, 1) := by decide +kernel
theorem d_E_loadCapability_17 : decode b_E_loadCapability 17 = .ok (.iconst 4, 1) := by decide +kernel
theorem d_E_loadCapability_18 : decode b_E_loadCapability 18 = .ok (.iadd, 1) := by decide +kernel
theorem d_E_loadCapability_19 : decode b_E_loadCapability 19 = .ok (.invokevirtual 23, 3) := by decide +kernel
theorem d_E_loadCapability_22 : decode b_E_loadCapability 22 = .ok (.invokevirtual 26, 3) := by decide +kernel
theorem d_E_loadCapability_25 : decode b_E_loadCapability 25 = .ok (.return_, 1) := by decide +kernel
theorem d_E_store_0 : decode b_E_store 0 = .ok (.iconst 0, 1) := by decide +kernel
theorem d_E_store_1 : decode b_E_store 1 = .ok (.istore 4, 2) := by decide +kernel
theorem d_E_store_3 : decode b_E_store 3 = .ok (.iload 4, 2) := by decide +kernel
theorem d_E_store_5 : decode b_E_store 5 = .ok (.iload_n 3, 1) := by decide +kernel
theorem d_E_store_6 : decode b_E_store 6 = .ok (.if_icmp .ge 39, 3) := by decide +kernel
theorem d_E_store_9 : decode b_E_store 9 = .ok (.aload_n 0, 1) := by decide +kernel
theorem d_E_store_10 : decode b_E_store 10 = .ok (.getfield 9, 3) := by decide +kernel
theorem d_E_store_13 : decode b_E_store 13 = .ok (.iload_n 1, 1) := by decide +kernel
theorem d_E_store_14 : decode b_E_store 14 = .ok (.iload 4, 2) := by decide +kernel
theorem d_E_store_16 : decode b_E_store 16 = .ok (.iadd, 1) := by decide +kernel
theorem d_E_store_17 : decode b_E_store 17 = .ok (.iload_n 2, 1) := by decide +kernel
theorem d_E_store_18 : decode b_E_store 18 = .ok (.bipush 8, 2) := by decide +kernel
theorem d_E_store_20 : decode b_E_store 20 = .ok (.iload 4, 2) := by decide +kernel
theorem d_E_store_22 : decode b_E_store 22 = .ok (.imul, 1) := by decide +kernel
theorem d_E_store_23 : decode b_E_store 23 = .ok (.iushr, 1) := by decide +kernel
theorem d_E_store_24 : decode b_E_store 24 = .ok (.i2b, 1) := by decide +kernel
theorem d_E_store_25 : decode b_E_store 25 = .ok (.bastore, 1) := by decide +kernel
theorem d_E_store_26 : decode b_E_store 26 = .ok (.aload_n 0, 1) := by decide +kernel
theorem d_E_store_27 : decode b_E_store 27 = .ok (.getfield 15, 3) := by decide +kernel
theorem d_E_store_30 : decode b_E_store 30 = .ok (.iload_n 1, 1) := by decide +kernel
theorem d_E_store_31 : decode b_E_store 31 = .ok (.iload 4, 2) := by decide +kernel
theorem d_E_store_33 : decode b_E_store 33 = .ok (.iadd, 1) := by decide +kernel
theorem d_E_store_34 : decode b_E_store 34 = .ok (.bipush 8, 2) := by decide +kernel
theorem d_E_store_36 : decode b_E_store 36 = .ok (.idiv, 1) := by decide +kernel
theorem d_E_store_37 : decode b_E_store 37 = .ok (.iconst 0, 1) := by decide +kernel
theorem d_E_store_38 : decode b_E_store 38 = .ok (.bastore, 1) := by decide +kernel
theorem d_E_store_39 : decode b_E_store 39 = .ok (.iinc 4 1, 3) := by decide +kernel
theorem d_E_store_42 : decode b_E_store 42 = .ok (.goto (-39), 3) := by decide +kernel
theorem d_E_store_45 : decode b_E_store 45 = .ok (.return_, 1) := by decide +kernel
theorem d_E_storeCapability_0 : decode b_E_storeCapability 0 = .ok (.aload_n 0, 1) := by decide +kernel
theorem d_E_storeCapability_1 : decode b_E_storeCapability 1 = .ok (.iload_n 1, 1) := by decide +kernel
theorem d_E_storeCapability_2 : decode b_E_storeCapability 2 = .ok (.aload_n 2, 1) := by decide +kernel
theorem d_E_storeCapability_3 : decode b_E_storeCapability 3 = .ok (.getfield 32, 3) := by decide +kernel
theorem d_E_storeCapability_6 : decode b_E_storeCapability 6 = .ok (.iconst 4, 1) := by decide +kernel
theorem d_E_storeCapability_7 : decode b_E_storeCapability 7 = .ok (.invokevirtual 36, 3) := by decide +kernel
theorem d_E_storeCapability_10 : decode b_E_storeCapability 10 = .ok (.aload_n 0, 1) := by decide +kernel
theorem d_E_storeCapability_11 : decode b_E_storeCapability 11 = .ok (.iload_n 1, 1) := by decide +kernel
theorem d_E_storeCapability_12 : decode b_E_storeCapability 12 = .ok (.iconst 4, 1) := by decide +kernel
theorem d_E_storeCapability_13 : decode b_E_storeCapability 13 = .ok (.iadd, 1) := by decide +kernel
theorem d_E_storeCapability_14 : decode b_E_storeCapability 14 = .ok (.aload_n 2, 1) := by decide +kernel
theorem d_E_storeCapability_15 : decode b_E_storeCapability 15 = .ok (.invokevirtual 40, 3) := by decide +kernel
theorem d_E_storeCapability_18 : decode b_E_storeCapability 18 = .ok (.iconst 4, 1) := by decide +kernel
theorem d_E_storeCapability_19 : decode b_E_storeCapability 19 = .ok (.invokevirtual 36, 3) := by decide +kernel
theorem d_E_storeCapability_22 : decode b_E_storeCapability 22 = .ok (.aload_n 0, 1) := by decide +kernel
theorem d_E_storeCapability_23 : decode b_E_storeCapability 23 = .ok (.getfield 15, 3) := by decide +kernel
theorem d_E_storeCapability_26 : decode b_E_storeCapability 26 = .ok (.iload_n 1, 1) := by decide +kernel
theorem d_E_storeCapability_27 : decode b_E_storeCapability 27 = .ok (.bipush 8, 2) := by decide +kernel
theorem d_E_storeCapability_29 : decode b_E_storeCapability 29 = .ok (.idiv, 1) := by decide +kernel
theorem d_E_storeCapability_30 : decode b_E_storeCapability 30 = .ok (.aload_n 2, 1) := by decide +kernel
theorem d_E_storeCapability_31 : decode b_E_storeCapability 31 = .ok (.getfield 44, 3) := by decide +kernel
theorem d_E_storeCapability_34 : decode b_E_storeCapability 34 = .ok (.bastore, 1) := by decide +kernel
theorem d_E_storeCapability_35 : decode b_E_storeCapability 35 = .ok (.return_, 1) := by decide +kernel
theorem d_E_wordAt_0 : decode b_E_wordAt 0 = .ok (.aload_n 0, 1) := by decide +kernel
theorem d_E_wordAt_1 : decode b_E_wordAt 1 = .ok (.iload_n 1, 1) := by decide +kernel
theorem d_E_wordAt_2 : decode b_E_wordAt 2 = .ok (.invokevirtual 19, 3) := by decide +kernel
theorem d_E_wordAt_5 : decode b_E_wordAt 5 = .ok (.aload_n 0, 1) := by decide +kernel
theorem d_E_wordAt_6 : decode b_E_wordAt 6 = .ok (.iload_n 1, 1) := by decide +kernel
theorem d_E_wordAt_7 : decode b_E_wordAt 7 = .ok (.iconst 1, 1) := by decide +kernel
theorem d_E_wordAt_8 : decode b_E_wordAt 8 = .ok (.iadd, 1) := by decide +kernel
theorem d_E_wordAt_9 : decode b_E_wordAt 9 = .ok (.invokevirtual 19, 3) := by decide +kernel
theorem d_E_wordAt_12 : decode b_E_wordAt 12 = .ok (.bipush 8, 2) := by decide +kernel
theorem d_E_wordAt_14 : decode b_E_wordAt 14 = .ok (.ishl, 1) := by decide +kernel
theorem d_E_wordAt_15 : decode b_E_wordAt 15 = .ok (.ior, 1) := by decide +kernel
theorem d_E_wordAt_16 : decode b_E_wordAt 16 = .ok (.aload_n 0, 1) := by decide +kernel
theorem d_E_wordAt_17 : decode b_E_wordAt 17 = .ok (.iload_n 1, 1) := by decide +kernel
theorem d_E_wordAt_18 : decode b_E_wordAt 18 = .ok (.iconst 2, 1) := by decide +kernel
theorem d_E_wordAt_19 : decode b_E_wordAt 19 = .ok (.iadd, 1) := by decide +kernel
theorem d_E_wordAt_20 : decode b_E_wordAt 20 = .ok (.invokevirtual 19, 3) := by decide +kernel
theorem d_E_wordAt_23 : decode b_E_wordAt 23 = .ok (.bipush 16, 2) := by decide +kernel
theorem d_E_wordAt_25 : decode b_E_wordAt 25 = .ok (.ishl, 1) := by decide +kernel
theorem d_E_wordAt_26 : decode b_E_wordAt 26 = .ok (.ior, 1) := by decide +kernel
theorem d_E_wordAt_27 : decode b_E_wordAt 27 = .ok (.aload_n 0, 1) := by decide +kernel
theorem d_E_wordAt_28 : decode b_E_wordAt 28 = .ok (.iload_n 1, 1) := by decide +kernel
theorem d_E_wordAt_29 : decode b_E_wordAt 29 = .ok (.iconst 3, 1) := by decide +kernel
theorem d_E_wordAt_30 : decode b_E_wordAt 30 = .ok (.iadd, 1) := by decide +kernel
theorem d_E_wordAt_31 : decode b_E_wordAt 31 = .ok (.invokevirtual 19, 3) := by decide +kernel
theorem d_E_wordAt_34 : decode b_E_wordAt 34 = .ok (.bipush 24, 2) := by decide +kernel
theorem d_E_wordAt_36 : decode b_E_wordAt 36 = .ok (.ishl, 1) := by decide +kernel
theorem d_E_wordAt_37 : decode b_E_wordAt 37 = .ok (.ior, 1) := by decide +kernel
theorem d_E_wordAt_38 : decode b_E_wordAt 38 = .ok (.ireturn, 1) := by decide +kernel
theorem d_K_become_0 : decode b_K_become 0 = .ok (.aload_n 0, 1) := by decide +kernel
theorem d_K_become_1 : decode b_K_become 1 = .ok (.aload_n 1, 1) := by decide +kernel
theorem d_K_become_2 : decode b_K_become 2 = .ok (.getfield 9, 3) := by decide +kernel
theorem d_K_become_5 : decode b_K_become 5 = .ok (.putfield 9, 3) := by decide +kernel
theorem d_K_become_8 : decode b_K_become 8 = .ok (.aload_n 0, 1) := by decide +kernel
theorem d_K_become_9 : decode b_K_become 9 = .ok (.aload_n 1, 1) := by decide +kernel
theorem d_K_become_10 : decode b_K_become 10 = .ok (.getfield 15, 3) := by decide +kernel
theorem d_K_become_13 : decode b_K_become 13 = .ok (.putfield 15, 3) := by decide +kernel
theorem d_K_become_16 : decode b_K_become 16 = .ok (.aload_n 0, 1) := by decide +kernel
theorem d_K_become_17 : decode b_K_become 17 = .ok (.aload_n 1, 1) := by decide +kernel
theorem d_K_become_18 : decode b_K_become 18 = .ok (.getfield 19, 3) := by decide +kernel
theorem d_K_become_21 : decode b_K_become 21 = .ok (.putfield 19, 3) := by decide +kernel
theorem d_K_become_24 : decode b_K_become 24 = .ok (.aload_n 0, 1) := by decide +kernel
theorem d_K_become_25 : decode b_K_become 25 = .ok (.aload_n 1, 1) := by decide +kernel
theorem d_K_become_26 : decode b_K_become 26 = .ok (.getfield 22, 3) := by decide +kernel
theorem d_K_become_29 : decode b_K_become 29 = .ok (.putfield 22, 3) := by decide +kernel
theorem d_K_become_32 : decode b_K_become 32 = .ok (.aload_n 0, 1) := by decide +kernel
theorem d_K_become_33 : decode b_K_become 33 = .ok (.aload_n 1, 1) := by decide +kernel
theorem d_K_become_34 : decode b_K_become 34 = .ok (.getfield 25, 3) := by decide +kernel
theorem d_K_become_37 : decode b_K_become 37 = .ok (.putfield 25, 3) := by decide +kernel
theorem d_K_become_40 : decode b_K_become 40 = .ok (.aload_n 0, 1) := by decide +kernel
theorem d_K_become_41 : decode b_K_become 41 = .ok (.aload_n 1, 1) := by decide +kernel
theorem d_K_become_42 : decode b_K_become 42 = .ok (.getfield 28, 3) := by decide +kernel
theorem d_K_become_45 : decode b_K_become 45 = .ok (.putfield 28, 3) := by decide +kernel
theorem d_K_become_48 : decode b_K_become 48 = .ok (.return_, 1) := by decide +kernel
theorem d_K_becomeGranted_0 : decode b_K_becomeGranted 0 = .ok (.aload_n 0, 1) := by decide +kernel
theorem d_K_becomeGranted_1 : decode b_K_becomeGranted 1 = .ok (.iconst 1, 1) := by decide +kernel
theorem d_K_becomeGranted_2 : decode b_K_becomeGranted 2 = .ok (.putfield 9, 3) := by decide +kernel
theorem d_K_becomeGranted_5 : decode b_K_becomeGranted 5 = .ok (.aload_n 0, 1) := by decide +kernel
theorem d_K_becomeGranted_6 : decode b_K_becomeGranted 6 = .ok (.iload_n 1, 1) := by decide +kernel
theorem d_K_becomeGranted_7 : decode b_K_becomeGranted 7 = .ok (.putfield 15, 3) := by decide +kernel
theorem d_K_becomeGranted_10 : decode b_K_becomeGranted 10 = .ok (.aload_n 0, 1) := by decide +kernel
theorem d_K_becomeGranted_11 : decode b_K_becomeGranted 11 = .ok (.iload_n 2, 1) := by decide +kernel
theorem d_K_becomeGranted_12 : decode b_K_becomeGranted 12 = .ok (.putfield 19, 3) := by decide +kernel
theorem d_K_becomeGranted_15 : decode b_K_becomeGranted 15 = .ok (.aload_n 0, 1) := by decide +kernel
theorem d_K_becomeGranted_16 : decode b_K_becomeGranted 16 = .ok (.iload 4, 2) := by decide +kernel
theorem d_K_becomeGranted_18 : decode b_K_becomeGranted 18 = .ok (.putfield 22, 3) := by decide +kernel
theorem d_K_becomeGranted_21 : decode b_K_becomeGranted 21 = .ok (.aload_n 0, 1) := by decide +kernel
theorem d_K_becomeGranted_22 : decode b_K_becomeGranted 22 = .ok (.iconst 0, 1) := by decide +kernel
theorem d_K_becomeGranted_23 : decode b_K_becomeGranted 23 = .ok (.putfield 25, 3) := by decide +kernel
theorem d_K_becomeGranted_26 : decode b_K_becomeGranted 26 = .ok (.aload_n 0, 1) := by decide +kernel
theorem d_K_becomeGranted_27 : decode b_K_becomeGranted 27 = .ok (.iload_n 3, 1) := by decide +kernel
theorem d_K_becomeGranted_28 : decode b_K_becomeGranted 28 = .ok (.putfield 28, 3) := by decide +kernel
theorem d_K_becomeGranted_31 : decode b_K_becomeGranted 31 = .ok (.return_, 1) := by decide +kernel
theorem d_K_becomeNumber_0 : decode b_K_becomeNumber 0 = .ok (.aload_n 0, 1) := by decide +kernel
theorem d_K_becomeNumber_1 : decode b_K_becomeNumber 1 = .ok (.iconst 0, 1) := by decide +kernel
theorem d_K_becomeNumber_2 : decode b_K_becomeNumber 2 = .ok (.putfield 9, 3) := by decide +kernel
theorem d_K_becomeNumber_5 : decode b_K_becomeNumber 5 = .ok (.aload_n 0, 1) := by decide +kernel
theorem d_K_becomeNumber_6 : decode b_K_becomeNumber 6 = .ok (.iconst 0, 1) := by decide +kernel
theorem d_K_becomeNumber_7 : decode b_K_becomeNumber 7 = .ok (.putfield 15, 3) := by decide +kernel
theorem d_K_becomeNumber_10 : decode b_K_becomeNumber 10 = .ok (.aload_n 0, 1) := by decide +kernel
theorem d_K_becomeNumber_11 : decode b_K_becomeNumber 11 = .ok (.iconst 0, 1) := by decide +kernel
theorem d_K_becomeNumber_12 : decode b_K_becomeNumber 12 = .ok (.putfield 19, 3) := by decide +kernel
theorem d_K_becomeNumber_15 : decode b_K_becomeNumber 15 = .ok (.aload_n 0, 1) := by decide +kernel
theorem d_K_becomeNumber_16 : decode b_K_becomeNumber 16 = .ok (.iconst 0, 1) := by decide +kernel
theorem d_K_becomeNumber_17 : decode b_K_becomeNumber 17 = .ok (.putfield 22, 3) := by decide +kernel
theorem d_K_becomeNumber_20 : decode b_K_becomeNumber 20 = .ok (.aload_n 0, 1) := by decide +kernel
theorem d_K_becomeNumber_21 : decode b_K_becomeNumber 21 = .ok (.iconst 0, 1) := by decide +kernel
theorem d_K_becomeNumber_22 : decode b_K_becomeNumber 22 = .ok (.putfield 25, 3) := by decide +kernel
theorem d_K_becomeNumber_25 : decode b_K_becomeNumber 25 = .ok (.aload_n 0, 1) := by decide +kernel
theorem d_K_becomeNumber_26 : decode b_K_becomeNumber 26 = .ok (.iload_n 1, 1) := by decide +kernel
theorem d_K_becomeNumber_27 : decode b_K_becomeNumber 27 = .ok (.putfield 28, 3) := by decide +kernel
theorem d_K_becomeNumber_30 : decode b_K_becomeNumber 30 = .ok (.return_, 1) := by decide +kernel
theorem d_K_becomeUnpacked_0 : decode b_K_becomeUnpacked 0 = .ok (.aload_n 0, 1) := by decide +kernel
theorem d_K_becomeUnpacked_1 : decode b_K_becomeUnpacked 1 = .ok (.iload_n 1, 1) := by decide +kernel
theorem d_K_becomeUnpacked_2 : decode b_K_becomeUnpacked 2 = .ok (.putfield 9, 3) := by decide +kernel
theorem d_K_becomeUnpacked_5 : decode b_K_becomeUnpacked 5 = .ok (.aload_n 0, 1) := by decide +kernel
theorem d_K_becomeUnpacked_6 : decode b_K_becomeUnpacked 6 = .ok (.iload_n 3, 1) := by decide +kernel
theorem d_K_becomeUnpacked_7 : decode b_K_becomeUnpacked 7 = .ok (.sipush 1023, 3) := by decide +kernel
theorem d_K_becomeUnpacked_10 : decode b_K_becomeUnpacked 10 = .ok (.iand, 1) := by decide +kernel
theorem d_K_becomeUnpacked_11 : decode b_K_becomeUnpacked 11 = .ok (.putfield 15, 3) := by decide +kernel
theorem d_K_becomeUnpacked_14 : decode b_K_becomeUnpacked 14 = .ok (.aload_n 0, 1) := by decide +kernel
theorem d_K_becomeUnpacked_15 : decode b_K_becomeUnpacked 15 = .ok (.iload_n 3, 1) := by decide +kernel
theorem d_K_becomeUnpacked_16 : decode b_K_becomeUnpacked 16 = .ok (.bipush 10, 2) := by decide +kernel
theorem d_K_becomeUnpacked_18 : decode b_K_becomeUnpacked 18 = .ok (.iushr, 1) := by decide +kernel
theorem d_K_becomeUnpacked_19 : decode b_K_becomeUnpacked 19 = .ok (.sipush 1023, 3) := by decide +kernel
theorem d_K_becomeUnpacked_22 : decode b_K_becomeUnpacked 22 = .ok (.iand, 1) := by decide +kernel
theorem d_K_becomeUnpacked_23 : decode b_K_becomeUnpacked 23 = .ok (.putfield 19, 3) := by decide +kernel
theorem d_K_becomeUnpacked_26 : decode b_K_becomeUnpacked 26 = .ok (.aload_n 0, 1) := by decide +kernel
theorem d_K_becomeUnpacked_27 : decode b_K_becomeUnpacked 27 = .ok (.iload_n 3, 1) := by decide +kernel
theorem d_K_becomeUnpacked_28 : decode b_K_becomeUnpacked 28 = .ok (.bipush 20, 2) := by decide +kernel
theorem d_K_becomeUnpacked_30 : decode b_K_becomeUnpacked 30 = .ok (.iushr, 1) := by decide +kernel
theorem d_K_becomeUnpacked_31 : decode b_K_becomeUnpacked 31 = .ok (.bipush 15, 2) := by decide +kernel
theorem d_K_becomeUnpacked_33 : decode b_K_becomeUnpacked 33 = .ok (.iand, 1) := by decide +kernel
theorem d_K_becomeUnpacked_34 : decode b_K_becomeUnpacked 34 = .ok (.putfield 25, 3) := by decide +kernel
theorem d_K_becomeUnpacked_37 : decode b_K_becomeUnpacked 37 = .ok (.aload_n 0, 1) := by decide +kernel
theorem d_K_becomeUnpacked_38 : decode b_K_becomeUnpacked 38 = .ok (.iload_n 3, 1) := by decide +kernel
theorem d_K_becomeUnpacked_39 : decode b_K_becomeUnpacked 39 = .ok (.bipush 24, 2) := by decide +kernel
theorem d_K_becomeUnpacked_41 : decode b_K_becomeUnpacked 41 = .ok (.iushr, 1) := by decide +kernel
theorem d_K_becomeUnpacked_42 : decode b_K_becomeUnpacked 42 = .ok (.sipush 255, 3) := by decide +kernel
theorem d_K_becomeUnpacked_45 : decode b_K_becomeUnpacked 45 = .ok (.iand, 1) := by decide +kernel
theorem d_K_becomeUnpacked_46 : decode b_K_becomeUnpacked 46 = .ok (.putfield 22, 3) := by decide +kernel
theorem d_K_becomeUnpacked_49 : decode b_K_becomeUnpacked 49 = .ok (.aload_n 0, 1) := by decide +kernel
theorem d_K_becomeUnpacked_50 : decode b_K_becomeUnpacked 50 = .ok (.iload_n 2, 1) := by decide +kernel
theorem d_K_becomeUnpacked_51 : decode b_K_becomeUnpacked 51 = .ok (.putfield 28, 3) := by decide +kernel
theorem d_K_becomeUnpacked_54 : decode b_K_becomeUnpacked 54 = .ok (.return_, 1) := by decide +kernel
theorem d_K_hasAddressInBounds_0 : decode b_K_hasAddressInBounds 0 = .ok (.aload_n 0, 1) := by decide +kernel
theorem d_K_hasAddressInBounds_1 : decode b_K_hasAddressInBounds 1 = .ok (.getfield 28, 3) := by decide +kernel
theorem d_K_hasAddressInBounds_4 : decode b_K_hasAddressInBounds 4 = .ok (.aload_n 0, 1) := by decide +kernel
theorem d_K_hasAddressInBounds_5 : decode b_K_hasAddressInBounds 5 = .ok (.getfield 15, 3) := by decide +kernel
theorem d_K_hasAddressInBounds_8 : decode b_K_hasAddressInBounds 8 = .ok (.if_icmp .lt 18, 3) := by decide +kernel
theorem d_K_hasAddressInBounds_11 : decode b_K_hasAddressInBounds 11 = .ok (.aload_n 0, 1) := by decide +kernel
theorem d_K_hasAddressInBounds_12 : decode b_K_hasAddressInBounds 12 = .ok (.getfield 28, 3) := by decide +kernel
theorem d_K_hasAddressInBounds_15 : decode b_K_hasAddressInBounds 15 = .ok (.aload_n 0, 1) := by decide +kernel
theorem d_K_hasAddressInBounds_16 : decode b_K_hasAddressInBounds 16 = .ok (.getfield 19, 3) := by decide +kernel
theorem d_K_hasAddressInBounds_19 : decode b_K_hasAddressInBounds 19 = .ok (.if_icmp .ge 7, 3) := by decide +kernel
theorem d_K_hasAddressInBounds_22 : decode b_K_hasAddressInBounds 22 = .ok (.iconst 1, 1) := by decide +kernel
theorem d_K_hasAddressInBounds_23 : decode b_K_hasAddressInBounds 23 = .ok (.goto 4, 3) := by decide +kernel
theorem d_K_hasAddressInBounds_26 : decode b_K_hasAddressInBounds 26 = .ok (.iconst 0, 1) := by decide +kernel
theorem d_K_hasAddressInBounds_27 : decode b_K_hasAddressInBounds 27 = .ok (.ireturn, 1) := by decide +kernel
theorem d_K_init_0 : decode b_K_init 0 = .ok (.aload_n 0, 1) := by decide +kernel
theorem d_K_init_1 : decode b_K_init 1 = .ok (.invokespecial 3, 3) := by decide +kernel
theorem d_K_init_4 : decode b_K_init 4 = .ok (.return_, 1) := by decide +kernel
theorem d_K_isWithin_0 : decode b_K_isWithin 0 = .ok (.aload_n 0, 1) := by decide +kernel
theorem d_K_isWithin_1 : decode b_K_isWithin 1 = .ok (.getfield 9, 3) := by decide +kernel
theorem d_K_isWithin_4 : decode b_K_isWithin 4 = .ok (.aload_n 1, 1) := by decide +kernel
theorem d_K_isWithin_5 : decode b_K_isWithin 5 = .ok (.getfield 9, 3) := by decide +kernel
theorem d_K_isWithin_8 : decode b_K_isWithin 8 = .ok (.if_icmp .ne 40, 3) := by decide +kernel
theorem d_K_isWithin_11 : decode b_K_isWithin 11 = .ok (.aload_n 0, 1) := by decide +kernel
theorem d_K_isWithin_12 : decode b_K_isWithin 12 = .ok (.getfield 15, 3) := by decide +kernel
theorem d_K_isWithin_15 : decode b_K_isWithin 15 = .ok (.aload_n 1, 1) := by decide +kernel
theorem d_K_isWithin_16 : decode b_K_isWithin 16 = .ok (.getfield 15, 3) := by decide +kernel
theorem d_K_isWithin_19 : decode b_K_isWithin 19 = .ok (.if_icmp .lt 29, 3) := by decide +kernel
theorem d_K_isWithin_22 : decode b_K_isWithin 22 = .ok (.aload_n 0, 1) := by decide +kernel
theorem d_K_isWithin_23 : decode b_K_isWithin 23 = .ok (.getfield 19, 3) := by decide +kernel
theorem d_K_isWithin_26 : decode b_K_isWithin 26 = .ok (.aload_n 1, 1) := by decide +kernel
theorem d_K_isWithin_27 : decode b_K_isWithin 27 = .ok (.getfield 19, 3) := by decide +kernel
theorem d_K_isWithin_30 : decode b_K_isWithin 30 = .ok (.if_icmp .gt 18, 3) := by decide +kernel
theorem d_K_isWithin_33 : decode b_K_isWithin 33 = .ok (.aload_n 1, 1) := by decide +kernel
theorem d_K_isWithin_34 : decode b_K_isWithin 34 = .ok (.aload_n 0, 1) := by decide +kernel
theorem d_K_isWithin_35 : decode b_K_isWithin 35 = .ok (.getfield 22, 3) := by decide +kernel
theorem d_K_isWithin_38 : decode b_K_isWithin 38 = .ok (.invokevirtual 31, 3) := by decide +kernel
theorem d_K_isWithin_41 : decode b_K_isWithin 41 = .ok (.ifCond .eq 7, 3) := by decide +kernel
theorem d_K_isWithin_44 : decode b_K_isWithin 44 = .ok (.iconst 1, 1) := by decide +kernel
theorem d_K_isWithin_45 : decode b_K_isWithin 45 = .ok (.goto 4, 3) := by decide +kernel
theorem d_K_isWithin_48 : decode b_K_isWithin 48 = .ok (.iconst 0, 1) := by decide +kernel
theorem d_K_isWithin_49 : decode b_K_isWithin 49 = .ok (.ireturn, 1) := by decide +kernel
theorem d_K_moveTo_0 : decode b_K_moveTo 0 = .ok (.aload_n 0, 1) := by decide +kernel
theorem d_K_moveTo_1 : decode b_K_moveTo 1 = .ok (.iload_n 1, 1) := by decide +kernel
theorem d_K_moveTo_2 : decode b_K_moveTo 2 = .ok (.putfield 28, 3) := by decide +kernel
theorem d_K_moveTo_5 : decode b_K_moveTo 5 = .ok (.iload_n 1, 1) := by decide +kernel
theorem d_K_moveTo_6 : decode b_K_moveTo 6 = .ok (.aload_n 0, 1) := by decide +kernel
theorem d_K_moveTo_7 : decode b_K_moveTo 7 = .ok (.getfield 15, 3) := by decide +kernel
theorem d_K_moveTo_10 : decode b_K_moveTo 10 = .ok (.bipush 64, 2) := by decide +kernel
theorem d_K_moveTo_12 : decode b_K_moveTo 12 = .ok (.isub, 1) := by decide +kernel
theorem d_K_moveTo_13 : decode b_K_moveTo 13 = .ok (.if_icmp .lt 18, 3) := by decide +kernel
theorem d_K_moveTo_16 : decode b_K_moveTo 16 = .ok (.iload_n 1, 1) := by decide +kernel
theorem d_K_moveTo_17 : decode b_K_moveTo 17 = .ok (.aload_n 0, 1) := by decide +kernel
theorem d_K_moveTo_18 : decode b_K_moveTo 18 = .ok (.getfield 19, 3) := by decide +kernel
theorem d_K_moveTo_21 : decode b_K_moveTo 21 = .ok (.bipush 64, 2) := by decide +kernel
theorem d_K_moveTo_23 : decode b_K_moveTo 23 = .ok (.iadd, 1) := by decide +kernel
theorem d_K_moveTo_24 : decode b_K_moveTo 24 = .ok (.if_icmp .ge 7, 3) := by decide +kernel
theorem d_K_moveTo_27 : decode b_K_moveTo 27 = .ok (.iconst 1, 1) := by decide +kernel
theorem d_K_moveTo_28 : decode b_K_moveTo 28 = .ok (.goto 4, 3) := by decide +kernel
theorem d_K_moveTo_31 : decode b_K_moveTo 31 = .ok (.iconst 0, 1) := by decide +kernel
theorem d_K_moveTo_32 : decode b_K_moveTo 32 = .ok (.istore_n 2, 1) := by decide +kernel
theorem d_K_moveTo_33 : decode b_K_moveTo 33 = .ok (.aload_n 0, 1) := by decide +kernel
theorem d_K_moveTo_34 : decode b_K_moveTo 34 = .ok (.aload_n 0, 1) := by decide +kernel
theorem d_K_moveTo_35 : decode b_K_moveTo 35 = .ok (.getfield 9, 3) := by decide +kernel
theorem d_K_moveTo_38 : decode b_K_moveTo 38 = .ok (.ifCond .eq 11, 3) := by decide +kernel
theorem d_K_moveTo_41 : decode b_K_moveTo 41 = .ok (.iload_n 2, 1) := by decide +kernel
theorem d_K_moveTo_42 : decode b_K_moveTo 42 = .ok (.ifCond .eq 7, 3) := by decide +kernel
theorem d_K_moveTo_45 : decode b_K_moveTo 45 = .ok (.iconst 1, 1) := by decide +kernel
theorem d_K_moveTo_46 : decode b_K_moveTo 46 = .ok (.goto 4, 3) := by decide +kernel
theorem d_K_moveTo_49 : decode b_K_moveTo 49 = .ok (.iconst 0, 1) := by decide +kernel
theorem d_K_moveTo_50 : decode b_K_moveTo 50 = .ok (.putfield 9, 3) := by decide +kernel
theorem d_K_moveTo_53 : decode b_K_moveTo 53 = .ok (.return_, 1) := by decide +kernel
theorem d_K_packed_0 : decode b_K_packed 0 = .ok (.aload_n 0, 1) := by decide +kernel
theorem d_K_packed_1 : decode b_K_packed 1 = .ok (.getfield 15, 3) := by decide +kernel
theorem d_K_packed_4 : decode b_K_packed 4 = .ok (.aload_n 0, 1) := by decide +kernel
theorem d_K_packed_5 : decode b_K_packed 5 = .ok (.getfield 19, 3) := by decide +kernel
theorem d_K_packed_8 : decode b_K_packed 8 = .ok (.bipush 10, 2) := by decide +kernel
theorem d_K_packed_10 : decode b_K_packed 10 = .ok (.ishl, 1) := by decide +kernel
theorem d_K_packed_11 : decode b_K_packed 11 = .ok (.ior, 1) := by decide +kernel
theorem d_K_packed_12 : decode b_K_packed 12 = .ok (.aload_n 0, 1) := by decide +kernel
theorem d_K_packed_13 : decode b_K_packed 13 = .ok (.getfield 25, 3) := by decide +kernel
theorem d_K_packed_16 : decode b_K_packed 16 = .ok (.bipush 20, 2) := by decide +kernel
theorem d_K_packed_18 : decode b_K_packed 18 = .ok (.ishl, 1) := by decide +kernel
theorem d_K_packed_19 : decode b_K_packed 19 = .ok (.ior, 1) := by decide +kernel
theorem d_K_packed_20 : decode b_K_packed 20 = .ok (.aload_n 0, 1) := by decide +kernel
theorem d_K_packed_21 : decode b_K_packed 21 = .ok (.getfield 22, 3) := by decide +kernel
theorem d_K_packed_24 : decode b_K_packed 24 = .ok (.bipush 24, 2) := by decide +kernel
theorem d_K_packed_26 : decode b_K_packed 26 = .ok (.ishl, 1) := by decide +kernel
theorem d_K_packed_27 : decode b_K_packed 27 = .ok (.ior, 1) := by decide +kernel
theorem d_K_packed_28 : decode b_K_packed 28 = .ok (.ireturn, 1) := by decide +kernel
theorem d_K_part_0 : decode b_K_part 0 = .ok (.iload_n 1, 1) := by decide +kernel
theorem d_K_part_1 : decode b_K_part 1 = .ok (.tableswitch 68 0 4 #[35, 48, 53, 58, 63], 35) := by decide +kernel
theorem d_K_part_36 : decode b_K_part 36 = .ok (.aload_n 0, 1) := by decide +kernel
theorem d_K_part_37 : decode b_K_part 37 = .ok (.getfield 9, 3) := by decide +kernel
theorem d_K_part_40 : decode b_K_part 40 = .ok (.ifCond .eq 7, 3) := by decide +kernel
theorem d_K_part_43 : decode b_K_part 43 = .ok (.iconst 1, 1) := by decide +kernel
theorem d_K_part_44 : decode b_K_part 44 = .ok (.goto 4, 3) := by decide +kernel
theorem d_K_part_47 : decode b_K_part 47 = .ok (.iconst 0, 1) := by decide +kernel
theorem d_K_part_48 : decode b_K_part 48 = .ok (.ireturn, 1) := by decide +kernel
theorem d_K_part_49 : decode b_K_part 49 = .ok (.aload_n 0, 1) := by decide +kernel
theorem d_K_part_50 : decode b_K_part 50 = .ok (.getfield 15, 3) := by decide +kernel
theorem d_K_part_53 : decode b_K_part 53 = .ok (.ireturn, 1) := by decide +kernel
theorem d_K_part_54 : decode b_K_part 54 = .ok (.aload_n 0, 1) := by decide +kernel
theorem d_K_part_55 : decode b_K_part 55 = .ok (.getfield 19, 3) := by decide +kernel
theorem d_K_part_58 : decode b_K_part 58 = .ok (.ireturn, 1) := by decide +kernel
theorem d_K_part_59 : decode b_K_part 59 = .ok (.aload_n 0, 1) := by decide +kernel
theorem d_K_part_60 : decode b_K_part 60 = .ok (.getfield 22, 3) := by decide +kernel
theorem d_K_part_63 : decode b_K_part 63 = .ok (.ireturn, 1) := by decide +kernel
theorem d_K_part_64 : decode b_K_part 64 = .ok (.aload_n 0, 1) := by decide +kernel
theorem d_K_part_65 : decode b_K_part 65 = .ok (.getfield 25, 3) := by decide +kernel
theorem d_K_part_68 : decode b_K_part 68 = .ok (.ireturn, 1) := by decide +kernel
theorem d_K_part_69 : decode b_K_part 69 = .ok (.aload_n 0, 1) := by decide +kernel
theorem d_K_part_70 : decode b_K_part 70 = .ok (.getfield 28, 3) := by decide +kernel
theorem d_K_part_73 : decode b_K_part 73 = .ok (.ireturn, 1) := by decide +kernel
theorem d_K_permits_0 : decode b_K_permits 0 = .ok (.aload_n 0, 1) := by decide +kernel
theorem d_K_permits_1 : decode b_K_permits 1 = .ok (.getfield 22, 3) := by decide +kernel
theorem d_K_permits_4 : decode b_K_permits 4 = .ok (.iload_n 1, 1) := by decide +kernel
theorem d_K_permits_5 : decode b_K_permits 5 = .ok (.iand, 1) := by decide +kernel
theorem d_K_permits_6 : decode b_K_permits 6 = .ok (.iload_n 1, 1) := by decide +kernel
theorem d_K_permits_7 : decode b_K_permits 7 = .ok (.if_icmp .ne 7, 3) := by decide +kernel
theorem d_K_permits_10 : decode b_K_permits 10 = .ok (.iconst 1, 1) := by decide +kernel
theorem d_K_permits_11 : decode b_K_permits 11 = .ok (.goto 4, 3) := by decide +kernel
theorem d_K_permits_14 : decode b_K_permits 14 = .ok (.iconst 0, 1) := by decide +kernel
theorem d_K_permits_15 : decode b_K_permits 15 = .ok (.ireturn, 1) := by decide +kernel
theorem d_K_refusal_0 : decode b_K_refusal 0 = .ok (.aload_n 0, 1) := by decide +kernel
theorem d_K_refusal_1 : decode b_K_refusal 1 = .ok (.getfield 9, 3) := by decide +kernel
theorem d_K_refusal_4 : decode b_K_refusal 4 = .ok (.ifCond .ne 5, 3) := by decide +kernel
theorem d_K_refusal_7 : decode b_K_refusal 7 = .ok (.iconst 1, 1) := by decide +kernel
theorem d_K_refusal_8 : decode b_K_refusal 8 = .ok (.ireturn, 1) := by decide +kernel
theorem d_K_refusal_9 : decode b_K_refusal 9 = .ok (.aload_n 0, 1) := by decide +kernel
theorem d_K_refusal_10 : decode b_K_refusal 10 = .ok (.getfield 25, 3) := by decide +kernel
theorem d_K_refusal_13 : decode b_K_refusal 13 = .ok (.ifCond .eq 5, 3) := by decide +kernel
theorem d_K_refusal_16 : decode b_K_refusal 16 = .ok (.iconst 2, 1) := by decide +kernel
theorem d_K_refusal_17 : decode b_K_refusal 17 = .ok (.ireturn, 1) := by decide +kernel
theorem d_K_refusal_18 : decode b_K_refusal 18 = .ok (.aload_n 0, 1) := by decide +kernel
theorem d_K_refusal_19 : decode b_K_refusal 19 = .ok (.iload_n 1, 1) := by decide +kernel
theorem d_K_refusal_20 : decode b_K_refusal 20 = .ok (.invokevirtual 31, 3) := by decide +kernel
theorem d_K_refusal_23 : decode b_K_refusal 23 = .ok (.ifCond .ne 5, 3) := by decide +kernel
theorem d_K_refusal_26 : decode b_K_refusal 26 = .ok (.iconst 3, 1) := by decide +kernel
theorem d_K_refusal_27 : decode b_K_refusal 27 = .ok (.ireturn, 1) := by decide +kernel
theorem d_K_refusal_28 : decode b_K_refusal 28 = .ok (.lload_n 2, 1) := by decide +kernel
theorem d_K_refusal_29 : decode b_K_refusal 29 = .ok (.aload_n 0, 1) := by decide +kernel
theorem d_K_refusal_30 : decode b_K_refusal 30 = .ok (.getfield 15, 3) := by decide +kernel
theorem d_K_refusal_33 : decode b_K_refusal 33 = .ok (.i2l, 1) := by decide +kernel
theorem d_K_refusal_34 : decode b_K_refusal 34 = .ok (.lcmp, 1) := by decide +kernel
theorem d_K_refusal_35 : decode b_K_refusal 35 = .ok (.ifCond .lt 29, 3) := by decide +kernel
theorem d_K_refusal_38 : decode b_K_refusal 38 = .ok (.lload_n 2, 1) := by decide +kernel
theorem d_K_refusal_39 : decode b_K_refusal 39 = .ok (.iload 4, 2) := by decide +kernel
theorem d_K_refusal_41 : decode b_K_refusal 41 = .ok (.i2l, 1) := by decide +kernel
theorem d_K_refusal_42 : decode b_K_refusal 42 = .ok (.ladd, 1) := by decide +kernel
theorem d_K_refusal_43 : decode b_K_refusal 43 = .ok (.aload_n 0, 1) := by decide +kernel
theorem d_K_refusal_44 : decode b_K_refusal 44 = .ok (.getfield 19, 3) := by decide +kernel
theorem d_K_refusal_47 : decode b_K_refusal 47 = .ok (.i2l, 1) := by decide +kernel
theorem d_K_refusal_48 : decode b_K_refusal 48 = .ok (.lcmp, 1) := by decide +kernel
theorem d_K_refusal_49 : decode b_K_refusal 49 = .ok (.ifCond .gt 15, 3) := by decide +kernel
theorem d_K_refusal_52 : decode b_K_refusal 52 = .ok (.lload_n 2, 1) := by decide +kernel
theorem d_K_refusal_53 : decode b_K_refusal 53 = .ok (.iload 4, 2) := by decide +kernel
theorem d_K_refusal_55 : decode b_K_refusal 55 = .ok (.i2l, 1) := by decide +kernel
theorem d_K_refusal_56 : decode b_K_refusal 56 = .ok (.ladd, 1) := by decide +kernel
theorem d_K_refusal_57 : decode b_K_refusal 57 = .ok (.ldc2_w 35, 3) := by decide +kernel
theorem d_K_refusal_60 : decode b_K_refusal 60 = .ok (.lcmp, 1) := by decide +kernel
theorem d_K_refusal_61 : decode b_K_refusal 61 = .ok (.ifCond .le 5, 3) := by decide +kernel
theorem d_K_refusal_64 : decode b_K_refusal 64 = .ok (.iconst 4, 1) := by decide +kernel
theorem d_K_refusal_65 : decode b_K_refusal 65 = .ok (.ireturn, 1) := by decide +kernel
theorem d_K_refusal_66 : decode b_K_refusal 66 = .ok (.lload_n 2, 1) := by decide +kernel
theorem d_K_refusal_67 : decode b_K_refusal 67 = .ok (.iload 4, 2) := by decide +kernel
theorem d_K_refusal_69 : decode b_K_refusal 69 = .ok (.iconst 1, 1) := by decide +kernel
theorem d_K_refusal_70 : decode b_K_refusal 70 = .ok (.isub, 1) := by decide +kernel
theorem d_K_refusal_71 : decode b_K_refusal 71 = .ok (.i2l, 1) := by decide +kernel
theorem d_K_refusal_72 : decode b_K_refusal 72 = .ok (.land, 1) := by decide +kernel
theorem d_K_refusal_73 : decode b_K_refusal 73 = .ok (.lconst 0, 1) := by decide +kernel
theorem d_K_refusal_74 : decode b_K_refusal 74 = .ok (.lcmp, 1) := by decide +kernel
theorem d_K_refusal_75 : decode b_K_refusal 75 = .ok (.ifCond .ne 7, 3) := by decide +kernel
theorem d_K_refusal_78 : decode b_K_refusal 78 = .ok (.iconst 0, 1) := by decide +kernel
theorem d_K_refusal_79 : decode b_K_refusal 79 = .ok (.goto 4, 3) := by decide +kernel
theorem d_K_refusal_82 : decode b_K_refusal 82 = .ok (.iconst 5, 1) := by decide +kernel
theorem d_K_refusal_83 : decode b_K_refusal 83 = .ok (.ireturn, 1) := by decide +kernel
end
section
theorem d_M_access_0 : decode b_M_access 0 = .ok (.aload_n 3, 1) := by decide +kernel
theorem d_M_access_1 : decode b_M_access 1 = .ok (.iload_n 1, 1) := by decide +kernel
theorem d_M_access_2 : decode b_M_access 2 = .ok (.aload_n 2, 1) := by decide +kernel
theorem d_M_access_3 : decode b_M_access 3 = .ok (.invokestatic 188, 3) := by decide +kernel
theorem d_M_access_6 : decode b_M_access 6 = .ok (.lload 4, 2) := by decide +kernel
theorem d_M_access_8 : decode b_M_access 8 = .ok (.iload_n 1, 1) := by decide +kernel
theorem d_M_access_9 : decode b_M_access 9 = .ok (.invokestatic 192, 3) := by decide +kernel
theorem d_M_access_12 : decode b_M_access 12 = .ok (.invokevirtual 90, 3) := by decide +kernel
theorem d_M_access_15 : decode b_M_access 15 = .ok (.istore 6, 2) := by decide +kernel
theorem d_M_access_17 : decode b_M_access 17 = .ok (.iload 6, 2) := by decide +kernel
theorem d_M_access_19 : decode b_M_access 19 = .ok (.ifCond .eq 6, 3) := by decide +kernel
theorem d_M_access_22 : decode b_M_access 22 = .ok (.iload 6, 2) := by decide +kernel
theorem d_M_access_24 : decode b_M_access 24 = .ok (.ireturn, 1) := by decide +kernel
theorem d_M_access_25 : decode b_M_access 25 = .ok (.lload 4, 2) := by decide +kernel
theorem d_M_access_27 : decode b_M_access 27 = .ok (.l2i, 1) := by decide +kernel
theorem d_M_access_28 : decode b_M_access 28 = .ok (.istore 7, 2) := by decide +kernel
theorem d_M_access_30 : decode b_M_access 30 = .ok (.iload_n 1, 1) := by decide +kernel
theorem d_M_access_31 : decode b_M_access 31 = .ok (.tableswitch 95 17 22 #[37, 53, 69, 95, 95, 82], 37) := by decide +kernel
theorem d_M_access_68 : decode b_M_access 68 = .ok (.aload_n 2, 1) := by decide +kernel
theorem d_M_access_69 : decode b_M_access 69 = .ok (.aload_n 0, 1) := by decide +kernel
theorem d_M_access_70 : decode b_M_access 70 = .ok (.getfield 32, 3) := by decide +kernel
theorem d_M_access_73 : decode b_M_access 73 = .ok (.iload 7, 2) := by decide +kernel
theorem d_M_access_75 : decode b_M_access 75 = .ok (.invokevirtual 72, 3) := by decide +kernel
theorem d_M_access_78 : decode b_M_access 78 = .ok (.invokevirtual 102, 3) := by decide +kernel
theorem d_M_access_81 : decode b_M_access 81 = .ok (.goto 62, 3) := by decide +kernel
theorem d_M_access_84 : decode b_M_access 84 = .ok (.aload_n 2, 1) := by decide +kernel
theorem d_M_access_85 : decode b_M_access 85 = .ok (.aload_n 0, 1) := by decide +kernel
theorem d_M_access_86 : decode b_M_access 86 = .ok (.getfield 32, 3) := by decide +kernel
theorem d_M_access_89 : decode b_M_access 89 = .ok (.iload 7, 2) := by decide +kernel
theorem d_M_access_91 : decode b_M_access 91 = .ok (.invokevirtual 195, 3) := by decide +kernel
theorem d_M_access_94 : decode b_M_access 94 = .ok (.invokevirtual 102, 3) := by decide +kernel
theorem d_M_access_97 : decode b_M_access 97 = .ok (.goto 46, 3) := by decide +kernel
theorem d_M_access_100 : decode b_M_access 100 = .ok (.aload_n 0, 1) := by decide +kernel
theorem d_M_access_101 : decode b_M_access 101 = .ok (.getfield 32, 3) := by decide +kernel
theorem d_M_access_104 : decode b_M_access 104 = .ok (.iload 7, 2) := by decide +kernel
theorem d_M_access_106 : decode b_M_access 106 = .ok (.aload_n 2, 1) := by decide +kernel
theorem d_M_access_107 : decode b_M_access 107 = .ok (.invokevirtual 198, 3) := by decide +kernel
theorem d_M_access_110 : decode b_M_access 110 = .ok (.goto 33, 3) := by decide +kernel
theorem d_M_access_113 : decode b_M_access 113 = .ok (.aload_n 0, 1) := by decide +kernel
theorem d_M_access_114 : decode b_M_access 114 = .ok (.getfield 32, 3) := by decide +kernel
theorem d_M_access_117 : decode b_M_access 117 = .ok (.iload 7, 2) := by decide +kernel
theorem d_M_access_119 : decode b_M_access 119 = .ok (.aload_n 2, 1) := by decide +kernel
theorem d_M_access_120 : decode b_M_access 120 = .ok (.invokevirtual 202, 3) := by decide +kernel
theorem d_M_access_123 : decode b_M_access 123 = .ok (.goto 20, 3) := by decide +kernel
theorem d_M_access_126 : decode b_M_access 126 = .ok (.aload_n 0, 1) := by decide +kernel
theorem d_M_access_127 : decode b_M_access 127 = .ok (.getfield 32, 3) := by decide +kernel
theorem d_M_access_130 : decode b_M_access 130 = .ok (.iload 7, 2) := by decide +kernel
theorem d_M_access_132 : decode b_M_access 132 = .ok (.aload_n 2, 1) := by decide +kernel
theorem d_M_access_133 : decode b_M_access 133 = .ok (.getfield 87, 3) := by decide +kernel
theorem d_M_access_136 : decode b_M_access 136 = .ok (.iload_n 1, 1) := by decide +kernel
theorem d_M_access_137 : decode b_M_access 137 = .ok (.invokestatic 192, 3) := by decide +kernel
theorem d_M_access_140 : decode b_M_access 140 = .ok (.invokevirtual 50, 3) := by decide +kernel
theorem d_M_access_143 : decode b_M_access 143 = .ok (.iconst 0, 1) := by decide +kernel
theorem d_M_access_144 : decode b_M_access 144 = .ok (.ireturn, 1) := by decide +kernel
theorem d_M_advance_0 : decode b_M_advance 0 = .ok (.iload_n 1, 1) := by decide +kernel
theorem d_M_advance_1 : decode b_M_advance 1 = .ok (.ifCond .ne 19, 3) := by decide +kernel
theorem d_M_advance_4 : decode b_M_advance 4 = .ok (.aload_n 0, 1) := by decide +kernel
theorem d_M_advance_5 : decode b_M_advance 5 = .ok (.getfield 16, 3) := by decide +kernel
theorem d_M_advance_8 : decode b_M_advance 8 = .ok (.aload_n 0, 1) := by decide +kernel
theorem d_M_advance_9 : decode b_M_advance 9 = .ok (.getfield 16, 3) := by decide +kernel
theorem d_M_advance_12 : decode b_M_advance 12 = .ok (.getfield 87, 3) := by decide +kernel
theorem d_M_advance_15 : decode b_M_advance 15 = .ok (.iconst 4, 1) := by decide +kernel
theorem d_M_advance_16 : decode b_M_advance 16 = .ok (.iadd, 1) := by decide +kernel
theorem d_M_advance_17 : decode b_M_advance 17 = .ok (.invokevirtual 112, 3) := by decide +kernel
theorem d_M_advance_20 : decode b_M_advance 20 = .ok (.iload_n 1, 1) := by decide +kernel
theorem d_M_advance_21 : decode b_M_advance 21 = .ok (.ireturn, 1) := by decide +kernel
theorem d_M_areExact_0 : decode b_M_areExact 0 = .ok (.iload_n 0, 1) := by decide +kernel
theorem d_M_areExact_1 : decode b_M_areExact 1 = .ok (.invokestatic 178, 3) := by decide +kernel
theorem d_M_areExact_4 : decode b_M_areExact 4 = .ok (.iload_n 0, 1) := by decide +kernel
theorem d_M_areExact_5 : decode b_M_areExact 5 = .ok (.if_icmp .ne 15, 3) := by decide +kernel
theorem d_M_areExact_8 : decode b_M_areExact 8 = .ok (.iload_n 1, 1) := by decide +kernel
theorem d_M_areExact_9 : decode b_M_areExact 9 = .ok (.invokestatic 178, 3) := by decide +kernel
theorem d_M_areExact_12 : decode b_M_areExact 12 = .ok (.iload_n 1, 1) := by decide +kernel
theorem d_M_areExact_13 : decode b_M_areExact 13 = .ok (.if_icmp .ne 7, 3) := by decide +kernel
theorem d_M_areExact_16 : decode b_M_areExact 16 = .ok (.iconst 1, 1) := by decide +kernel
theorem d_M_areExact_17 : decode b_M_areExact 17 = .ok (.goto 4, 3) := by decide +kernel
theorem d_M_areExact_20 : decode b_M_areExact 20 = .ok (.iconst 0, 1) := by decide +kernel
theorem d_M_areExact_21 : decode b_M_areExact 21 = .ok (.istore_n 2, 1) := by decide +kernel
theorem d_M_areExact_22 : decode b_M_areExact 22 = .ok (.iload_n 1, 1) := by decide +kernel
theorem d_M_areExact_23 : decode b_M_areExact 23 = .ok (.iload_n 0, 1) := by decide +kernel
theorem d_M_areExact_24 : decode b_M_areExact 24 = .ok (.isub, 1) := by decide +kernel
theorem d_M_areExact_25 : decode b_M_areExact 25 = .ok (.bipush 64, 2) := by decide +kernel
theorem d_M_areExact_27 : decode b_M_areExact 27 = .ok (.if_icmp .le 7, 3) := by decide +kernel
theorem d_M_areExact_30 : decode b_M_areExact 30 = .ok (.iload_n 2, 1) := by decide +kernel
theorem d_M_areExact_31 : decode b_M_areExact 31 = .ok (.ifCond .eq 7, 3) := by decide +kernel
theorem d_M_areExact_34 : decode b_M_areExact 34 = .ok (.iconst 1, 1) := by decide +kernel
theorem d_M_areExact_35 : decode b_M_areExact 35 = .ok (.goto 4, 3) := by decide +kernel
theorem d_M_areExact_38 : decode b_M_areExact 38 = .ok (.iconst 0, 1) := by decide +kernel
theorem d_M_areExact_39 : decode b_M_areExact 39 = .ok (.ireturn, 1) := by decide +kernel
theorem d_M_branch_0 : decode b_M_branch 0 = .ok (.iload_n 1, 1) := by decide +kernel
theorem d_M_branch_1 : decode b_M_branch 1 = .ok (.ifCond .eq 9, 3) := by decide +kernel
theorem d_M_branch_4 : decode b_M_branch 4 = .ok (.iconst 4, 1) := by decide +kernel
theorem d_M_branch_5 : decode b_M_branch 5 = .ok (.iload_n 2, 1) := by decide +kernel
theorem d_M_branch_6 : decode b_M_branch 6 = .ok (.imul, 1) := by decide +kernel
theorem d_M_branch_7 : decode b_M_branch 7 = .ok (.goto 4, 3) := by decide +kernel
theorem d_M_branch_10 : decode b_M_branch 10 = .ok (.iconst 0, 1) := by decide +kernel
theorem d_M_branch_11 : decode b_M_branch 11 = .ok (.istore_n 3, 1) := by decide +kernel
theorem d_M_branch_12 : decode b_M_branch 12 = .ok (.aload_n 0, 1) := by decide +kernel
theorem d_M_branch_13 : decode b_M_branch 13 = .ok (.getfield 16, 3) := by decide +kernel
theorem d_M_branch_16 : decode b_M_branch 16 = .ok (.aload_n 0, 1) := by decide +kernel
theorem d_M_branch_17 : decode b_M_branch 17 = .ok (.getfield 16, 3) := by decide +kernel
theorem d_M_branch_20 : decode b_M_branch 20 = .ok (.getfield 87, 3) := by decide +kernel
theorem d_M_branch_23 : decode b_M_branch 23 = .ok (.iconst 4, 1) := by decide +kernel
theorem d_M_branch_24 : decode b_M_branch 24 = .ok (.iadd, 1) := by decide +kernel
theorem d_M_branch_25 : decode b_M_branch 25 = .ok (.iload_n 3, 1) := by decide +kernel
theorem d_M_branch_26 : decode b_M_branch 26 = .ok (.iadd, 1) := by decide +kernel
theorem d_M_branch_27 : decode b_M_branch 27 = .ok (.invokevirtual 112, 3) := by decide +kernel
theorem d_M_branch_30 : decode b_M_branch 30 = .ok (.iconst 0, 1) := by decide +kernel
theorem d_M_branch_31 : decode b_M_branch 31 = .ok (.ireturn, 1) := by decide +kernel
theorem d_M_bytesOf_0 : decode b_M_bytesOf 0 = .ok (.iload_n 0, 1) := by decide +kernel
theorem d_M_bytesOf_1 : decode b_M_bytesOf 1 = .ok (.tableswitch 39 17 21 #[35, 37, 39, 35, 37], 35) := by decide +kernel
theorem d_M_bytesOf_36 : decode b_M_bytesOf 36 = .ok (.iconst 1, 1) := by decide +kernel
theorem d_M_bytesOf_37 : decode b_M_bytesOf 37 = .ok (.ireturn, 1) := by decide +kernel
theorem d_M_bytesOf_38 : decode b_M_bytesOf 38 = .ok (.iconst 4, 1) := by decide +kernel
theorem d_M_bytesOf_39 : decode b_M_bytesOf 39 = .ok (.ireturn, 1) := by decide +kernel
theorem d_M_bytesOf_40 : decode b_M_bytesOf 40 = .ok (.bipush 8, 2) := by decide +kernel
theorem d_M_bytesOf_42 : decode b_M_bytesOf 42 = .ok (.ireturn, 1) := by decide +kernel
theorem d_M_cause_0 : decode b_M_cause 0 = .ok (.aload_n 0, 1) := by decide +kernel
theorem d_M_cause_1 : decode b_M_cause 1 = .ok (.getfield 44, 3) := by decide +kernel
theorem d_M_cause_4 : decode b_M_cause 4 = .ok (.ireturn, 1) := by decide +kernel
theorem d_M_compute_0 : decode b_M_compute 0 = .ok (.iload_n 1, 1) := by decide +kernel
theorem d_M_compute_1 : decode b_M_compute 1 = .ok (.bipush 17, 2) := by decide +kernel
theorem d_M_compute_3 : decode b_M_compute 3 = .ok (.if_icmp .lt 26, 3) := by decide +kernel
theorem d_M_compute_6 : decode b_M_compute 6 = .ok (.iload_n 1, 1) := by decide +kernel
theorem d_M_compute_7 : decode b_M_compute 7 = .ok (.bipush 22, 2) := by decide +kernel
theorem d_M_compute_9 : decode b_M_compute 9 = .ok (.if_icmp .gt 20, 3) := by decide +kernel
theorem d_M_compute_12 : decode b_M_compute 12 = .ok (.aload_n 0, 1) := by decide +kernel
theorem d_M_compute_13 : decode b_M_compute 13 = .ok (.iload_n 1, 1) := by decide +kernel
theorem d_M_compute_14 : decode b_M_compute 14 = .ok (.aload_n 2, 1) := by decide +kernel
theorem d_M_compute_15 : decode b_M_compute 15 = .ok (.aload_n 3, 1) := by decide +kernel
theorem d_M_compute_16 : decode b_M_compute 16 = .ok (.aload_n 3, 1) := by decide +kernel
theorem d_M_compute_17 : decode b_M_compute 17 = .ok (.getfield 87, 3) := by decide +kernel
theorem d_M_compute_20 : decode b_M_compute 20 = .ok (.i2l, 1) := by decide +kernel
theorem d_M_compute_21 : decode b_M_compute 21 = .ok (.iload 5, 2) := by decide +kernel
theorem d_M_compute_23 : decode b_M_compute 23 = .ok (.i2l, 1) := by decide +kernel
theorem d_M_compute_24 : decode b_M_compute 24 = .ok (.ladd, 1) := by decide +kernel
theorem d_M_compute_25 : decode b_M_compute 25 = .ok (.invokevirtual 122, 3) := by decide +kernel
theorem d_M_compute_28 : decode b_M_compute 28 = .ok (.ireturn, 1) := by decide +kernel
theorem d_M_compute_29 : decode b_M_compute 29 = .ok (.iload_n 1, 1) := by decide +kernel
theorem d_M_compute_30 : decode b_M_compute 30 = .ok (.bipush 23, 2) := by decide +kernel
theorem d_M_compute_32 : decode b_M_compute 32 = .ok (.if_icmp .lt 22, 3) := by decide +kernel
theorem d_M_compute_35 : decode b_M_compute 35 = .ok (.iload_n 1, 1) := by decide +kernel
theorem d_M_compute_36 : decode b_M_compute 36 = .ok (.bipush 28, 2) := by decide +kernel
theorem d_M_compute_38 : decode b_M_compute 38 = .ok (.if_icmp .gt 16, 3) := by decide +kernel
theorem d_M_compute_41 : decode b_M_compute 41 = .ok (.aload_n 2, 1) := by decide +kernel
theorem d_M_compute_42 : decode b_M_compute 42 = .ok (.aload_n 3, 1) := by decide +kernel
theorem d_M_compute_43 : decode b_M_compute 43 = .ok (.iload_n 1, 1) := by decide +kernel
theorem d_M_compute_44 : decode b_M_compute 44 = .ok (.bipush 23, 2) := by decide +kernel
theorem d_M_compute_46 : decode b_M_compute 46 = .ok (.isub, 1) := by decide +kernel
theorem d_M_compute_47 : decode b_M_compute 47 = .ok (.invokevirtual 68, 3) := by decide +kernel
theorem d_M_compute_50 : decode b_M_compute 50 = .ok (.invokestatic 126, 3) := by decide +kernel
theorem d_M_compute_53 : decode b_M_compute 53 = .ok (.ireturn, 1) := by decide +kernel
theorem d_M_compute_54 : decode b_M_compute 54 = .ok (.iload_n 1, 1) := by decide +kernel
theorem d_M_compute_55 : decode b_M_compute 55 = .ok (.tableswitch 306 2 32 #[137, 152, 306, 306, 306, 167, 173, 184, 197, 209, 221, 232, 240, 248, 306, 306, 306, 306, 306, 306, 306, 306, 306, 306, 306, 306, 306, 254, 260, 279, 300], 137) := by decide +kernel
theorem d_M_compute_192 : decode b_M_compute 192 = .ok (.aload_n 2, 1) := by decide +kernel
theorem d_M_compute_193 : decode b_M_compute 193 = .ok (.aload_n 3, 1) := by decide +kernel
theorem d_M_compute_194 : decode b_M_compute 194 = .ok (.getfield 87, 3) := by decide +kernel
theorem d_M_compute_197 : decode b_M_compute 197 = .ok (.aload 4, 2) := by decide +kernel
theorem d_M_compute_199 : decode b_M_compute 199 = .ok (.getfield 87, 3) := by decide +kernel
theorem d_M_compute_202 : decode b_M_compute 202 = .ok (.iadd, 1) := by decide +kernel
theorem d_M_compute_203 : decode b_M_compute 203 = .ok (.invokestatic 126, 3) := by decide +kernel
theorem d_M_compute_206 : decode b_M_compute 206 = .ok (.ireturn, 1) := by decide +kernel
theorem d_M_compute_207 : decode b_M_compute 207 = .ok (.aload_n 2, 1) := by decide +kernel
theorem d_M_compute_208 : decode b_M_compute 208 = .ok (.aload_n 3, 1) := by decide +kernel
theorem d_M_compute_209 : decode b_M_compute 209 = .ok (.getfield 87, 3) := by decide +kernel
theorem d_M_compute_212 : decode b_M_compute 212 = .ok (.aload 4, 2) := by decide +kernel
theorem d_M_compute_214 : decode b_M_compute 214 = .ok (.getfield 87, 3) := by decide +kernel
theorem d_M_compute_217 : decode b_M_compute 217 = .ok (.isub, 1) := by decide +kernel
theorem d_M_compute_218 : decode b_M_compute 218 = .ok (.invokestatic 126, 3) := by decide +kernel
theorem d_M_compute_221 : decode b_M_compute 221 = .ok (.ireturn, 1) := by decide +kernel
theorem d_M_compute_222 : decode b_M_compute 222 = .ok (.aload_n 2, 1) := by decide +kernel
theorem d_M_compute_223 : decode b_M_compute 223 = .ok (.aload_n 3, 1) := by decide +kernel
theorem d_M_compute_224 : decode b_M_compute 224 = .ok (.invokestatic 130, 3) := by decide +kernel
theorem d_M_compute_227 : decode b_M_compute 227 = .ok (.ireturn, 1) := by decide +kernel
theorem d_M_compute_228 : decode b_M_compute 228 = .ok (.aload_n 2, 1) := by decide +kernel
theorem d_M_compute_229 : decode b_M_compute 229 = .ok (.aload_n 3, 1) := by decide +kernel
theorem d_M_compute_230 : decode b_M_compute 230 = .ok (.aload 4, 2) := by decide +kernel
theorem d_M_compute_232 : decode b_M_compute 232 = .ok (.getfield 87, 3) := by decide +kernel
theorem d_M_compute_235 : decode b_M_compute 235 = .ok (.invokestatic 133, 3) := by decide +kernel
theorem d_M_compute_238 : decode b_M_compute 238 = .ok (.ireturn, 1) := by decide +kernel
theorem d_M_compute_239 : decode b_M_compute 239 = .ok (.aload_n 2, 1) := by decide +kernel
theorem d_M_compute_240 : decode b_M_compute 240 = .ok (.aload_n 3, 1) := by decide +kernel
theorem d_M_compute_241 : decode b_M_compute 241 = .ok (.aload_n 3, 1) := by decide +kernel
theorem d_M_compute_242 : decode b_M_compute 242 = .ok (.getfield 87, 3) := by decide +kernel
theorem d_M_compute_245 : decode b_M_compute 245 = .ok (.iload 5, 2) := by decide +kernel
theorem d_M_compute_247 : decode b_M_compute 247 = .ok (.iadd, 1) := by decide +kernel
theorem d_M_compute_248 : decode b_M_compute 248 = .ok (.invokestatic 133, 3) := by decide +kernel
theorem d_M_compute_251 : decode b_M_compute 251 = .ok (.ireturn, 1) := by decide +kernel
theorem d_M_compute_252 : decode b_M_compute 252 = .ok (.aload_n 2, 1) := by decide +kernel
theorem d_M_compute_253 : decode b_M_compute 253 = .ok (.aload_n 3, 1) := by decide +kernel
theorem d_M_compute_254 : decode b_M_compute 254 = .ok (.aload 4, 2) := by decide +kernel
theorem d_M_compute_256 : decode b_M_compute 256 = .ok (.getfield 87, 3) := by decide +kernel
theorem d_M_compute_259 : decode b_M_compute 259 = .ok (.iconst 0, 1) := by decide +kernel
theorem d_M_compute_260 : decode b_M_compute 260 = .ok (.invokestatic 137, 3) := by decide +kernel
theorem d_M_compute_263 : decode b_M_compute 263 = .ok (.ireturn, 1) := by decide +kernel
theorem d_M_compute_264 : decode b_M_compute 264 = .ok (.aload_n 2, 1) := by decide +kernel
theorem d_M_compute_265 : decode b_M_compute 265 = .ok (.aload_n 3, 1) := by decide +kernel
theorem d_M_compute_266 : decode b_M_compute 266 = .ok (.aload 4, 2) := by decide +kernel
theorem d_M_compute_268 : decode b_M_compute 268 = .ok (.getfield 87, 3) := by decide +kernel
theorem d_M_compute_271 : decode b_M_compute 271 = .ok (.iconst 1, 1) := by decide +kernel
theorem d_M_compute_272 : decode b_M_compute 272 = .ok (.invokestatic 137, 3) := by decide +kernel
theorem d_M_compute_275 : decode b_M_compute 275 = .ok (.ireturn, 1) := by decide +kernel
theorem d_M_compute_276 : decode b_M_compute 276 = .ok (.aload_n 2, 1) := by decide +kernel
theorem d_M_compute_277 : decode b_M_compute 277 = .ok (.aload_n 3, 1) := by decide +kernel
theorem d_M_compute_278 : decode b_M_compute 278 = .ok (.aload 4, 2) := by decide +kernel
theorem d_M_compute_280 : decode b_M_compute 280 = .ok (.getfield 87, 3) := by decide +kernel
theorem d_M_compute_283 : decode b_M_compute 283 = .ok (.invokestatic 141, 3) := by decide +kernel
theorem d_M_compute_286 : decode b_M_compute 286 = .ok (.ireturn, 1) := by decide +kernel
theorem d_M_compute_287 : decode b_M_compute 287 = .ok (.aload_n 2, 1) := by decide +kernel
theorem d_M_compute_288 : decode b_M_compute 288 = .ok (.aload_n 3, 1) := by decide +kernel
theorem d_M_compute_289 : decode b_M_compute 289 = .ok (.aload 4, 2) := by decide +kernel
theorem d_M_compute_291 : decode b_M_compute 291 = .ok (.invokestatic 144, 3) := by decide +kernel
theorem d_M_compute_294 : decode b_M_compute 294 = .ok (.ireturn, 1) := by decide +kernel
theorem d_M_compute_295 : decode b_M_compute 295 = .ok (.aload_n 2, 1) := by decide +kernel
theorem d_M_compute_296 : decode b_M_compute 296 = .ok (.aload_n 3, 1) := by decide +kernel
theorem d_M_compute_297 : decode b_M_compute 297 = .ok (.aload 4, 2) := by decide +kernel
theorem d_M_compute_299 : decode b_M_compute 299 = .ok (.invokestatic 148, 3) := by decide +kernel
theorem d_M_compute_302 : decode b_M_compute 302 = .ok (.ireturn, 1) := by decide +kernel
theorem d_M_compute_303 : decode b_M_compute 303 = .ok (.aload_n 2, 1) := by decide +kernel
theorem d_M_compute_304 : decode b_M_compute 304 = .ok (.aload_n 3, 1) := by decide +kernel
theorem d_M_compute_305 : decode b_M_compute 305 = .ok (.invokestatic 151, 3) := by decide +kernel
theorem d_M_compute_308 : decode b_M_compute 308 = .ok (.ireturn, 1) := by decide +kernel
theorem d_M_compute_309 : decode b_M_compute 309 = .ok (.aload_n 2, 1) := by decide +kernel
theorem d_M_compute_310 : decode b_M_compute 310 = .ok (.aload_n 3, 1) := by decide +kernel
theorem d_M_compute_311 : decode b_M_compute 311 = .ok (.invokestatic 154, 3) := by decide +kernel
theorem d_M_compute_314 : decode b_M_compute 314 = .ok (.ireturn, 1) := by decide +kernel
theorem d_M_compute_315 : decode b_M_compute 315 = .ok (.aload_n 2, 1) := by decide +kernel
theorem d_M_compute_316 : decode b_M_compute 316 = .ok (.aload_n 3, 1) := by decide +kernel
theorem d_M_compute_317 : decode b_M_compute 317 = .ok (.aload 4, 2) := by decide +kernel
theorem d_M_compute_319 : decode b_M_compute 319 = .ok (.invokevirtual 157, 3) := by decide +kernel
theorem d_M_compute_322 : decode b_M_compute 322 = .ok (.ifCond .eq 7, 3) := by decide +kernel
theorem d_M_compute_325 : decode b_M_compute 325 = .ok (.iconst 1, 1) := by decide +kernel
theorem d_M_compute_326 : decode b_M_compute 326 = .ok (.goto 4, 3) := by decide +kernel
theorem d_M_compute_329 : decode b_M_compute 329 = .ok (.iconst 0, 1) := by decide +kernel
theorem d_M_compute_330 : decode b_M_compute 330 = .ok (.invokestatic 126, 3) := by decide +kernel
theorem d_M_compute_333 : decode b_M_compute 333 = .ok (.ireturn, 1) := by decide +kernel
theorem d_M_compute_334 : decode b_M_compute 334 = .ok (.aload_n 2, 1) := by decide +kernel
theorem d_M_compute_335 : decode b_M_compute 335 = .ok (.aload_n 0, 1) := by decide +kernel
theorem d_M_compute_336 : decode b_M_compute 336 = .ok (.getfield 16, 3) := by decide +kernel
theorem d_M_compute_339 : decode b_M_compute 339 = .ok (.aload_n 0, 1) := by decide +kernel
theorem d_M_compute_340 : decode b_M_compute 340 = .ok (.getfield 16, 3) := by decide +kernel
theorem d_M_compute_343 : decode b_M_compute 343 = .ok (.getfield 87, 3) := by decide +kernel
theorem d_M_compute_346 : decode b_M_compute 346 = .ok (.iconst 4, 1) := by decide +kernel
theorem d_M_compute_347 : decode b_M_compute 347 = .ok (.iload 5, 2) := by decide +kernel
theorem d_M_compute_349 : decode b_M_compute 349 = .ok (.imul, 1) := by decide +kernel
theorem d_M_compute_350 : decode b_M_compute 350 = .ok (.iadd, 1) := by decide +kernel
theorem d_M_compute_351 : decode b_M_compute 351 = .ok (.invokestatic 133, 3) := by decide +kernel
theorem d_M_compute_354 : decode b_M_compute 354 = .ok (.ireturn, 1) := by decide +kernel
theorem d_M_compute_355 : decode b_M_compute 355 = .ok (.aload_n 0, 1) := by decide +kernel
theorem d_M_compute_356 : decode b_M_compute 356 = .ok (.aload_n 2, 1) := by decide +kernel
theorem d_M_compute_357 : decode b_M_compute 357 = .ok (.invokevirtual 161, 3) := by decide +kernel
theorem d_M_compute_360 : decode b_M_compute 360 = .ok (.ireturn, 1) := by decide +kernel
theorem d_M_compute_361 : decode b_M_compute 361 = .ok (.bipush 8, 2) := by decide +kernel
theorem d_M_compute_363 : decode b_M_compute 363 = .ok (.ireturn, 1) := by decide +kernel
theorem d_M_copy_0 : decode b_M_copy 0 = .ok (.aload_n 0, 1) := by decide +kernel
theorem d_M_copy_1 : decode b_M_copy 1 = .ok (.aload_n 1, 1) := by decide +kernel
theorem d_M_copy_2 : decode b_M_copy 2 = .ok (.invokevirtual 79, 3) := by decide +kernel
theorem d_M_copy_5 : decode b_M_copy 5 = .ok (.iconst 0, 1) := by decide +kernel
theorem d_M_copy_6 : decode b_M_copy 6 = .ok (.ireturn, 1) := by decide +kernel
theorem d_M_grant_0 : decode b_M_grant 0 = .ok (.iload_n 1, 1) := by decide +kernel
theorem d_M_grant_1 : decode b_M_grant 1 = .ok (.ifCond .lt 13, 3) := by decide +kernel
theorem d_M_grant_4 : decode b_M_grant 4 = .ok (.iload_n 1, 1) := by decide +kernel
theorem d_M_grant_5 : decode b_M_grant 5 = .ok (.bipush 9, 2) := by decide +kernel
theorem d_M_grant_7 : decode b_M_grant 7 = .ok (.if_icmp .gt 7, 3) := by decide +kernel
theorem d_M_grant_10 : decode b_M_grant 10 = .ok (.iconst 1, 1) := by decide +kernel
theorem d_M_grant_11 : decode b_M_grant 11 = .ok (.goto 4, 3) := by decide +kernel
theorem d_M_grant_14 : decode b_M_grant 14 = .ok (.iconst 0, 1) := by decide +kernel
theorem d_M_grant_15 : decode b_M_grant 15 = .ok (.istore 6, 2) := by decide +kernel
theorem d_M_grant_17 : decode b_M_grant 17 = .ok (.iload_n 2, 1) := by decide +kernel
theorem d_M_grant_18 : decode b_M_grant 18 = .ok (.ifCond .lt 19, 3) := by decide +kernel
theorem d_M_grant_21 : decode b_M_grant 21 = .ok (.iload_n 2, 1) := by decide +kernel
theorem d_M_grant_22 : decode b_M_grant 22 = .ok (.iload_n 3, 1) := by decide +kernel
theorem d_M_grant_23 : decode b_M_grant 23 = .ok (.if_icmp .gt 14, 3) := by decide +kernel
theorem d_M_grant_26 : decode b_M_grant 26 = .ok (.iload_n 3, 1) := by decide +kernel
theorem d_M_grant_27 : decode b_M_grant 27 = .ok (.sipush 512, 3) := by decide +kernel
theorem d_M_grant_30 : decode b_M_grant 30 = .ok (.if_icmp .gt 7, 3) := by decide +kernel
theorem d_M_grant_33 : decode b_M_grant 33 = .ok (.iconst 1, 1) := by decide +kernel
theorem d_M_grant_34 : decode b_M_grant 34 = .ok (.goto 4, 3) := by decide +kernel
theorem d_M_grant_37 : decode b_M_grant 37 = .ok (.iconst 0, 1) := by decide +kernel
theorem d_M_grant_38 : decode b_M_grant 38 = .ok (.istore 7, 2) := by decide +kernel
theorem d_M_grant_40 : decode b_M_grant 40 = .ok (.iload 5, 2) := by decide +kernel
theorem d_M_grant_42 : decode b_M_grant 42 = .ok (.ifCond .lt 15, 3) := by decide +kernel
theorem d_M_grant_45 : decode b_M_grant 45 = .ok (.iload 5, 2) := by decide +kernel
theorem d_M_grant_47 : decode b_M_grant 47 = .ok (.sipush 255, 3) := by decide +kernel
theorem d_M_grant_50 : decode b_M_grant 50 = .ok (.if_icmp .gt 7, 3) := by decide +kernel
theorem d_M_grant_53 : decode b_M_grant 53 = .ok (.iconst 1, 1) := by decide +kernel
theorem d_M_grant_54 : decode b_M_grant 54 = .ok (.goto 4, 3) := by decide +kernel
theorem d_M_grant_57 : decode b_M_grant 57 = .ok (.iconst 0, 1) := by decide +kernel
theorem d_M_grant_58 : decode b_M_grant 58 = .ok (.istore 8, 2) := by decide +kernel
theorem d_M_grant_60 : decode b_M_grant 60 = .ok (.iload 6, 2) := by decide +kernel
theorem d_M_grant_62 : decode b_M_grant 62 = .ok (.ifCond .eq 13, 3) := by decide +kernel
theorem d_M_grant_65 : decode b_M_grant 65 = .ok (.iload 7, 2) := by decide +kernel
theorem d_M_grant_67 : decode b_M_grant 67 = .ok (.ifCond .eq 8, 3) := by decide +kernel
theorem d_M_grant_70 : decode b_M_grant 70 = .ok (.iload 8, 2) := by decide +kernel
theorem d_M_grant_72 : decode b_M_grant 72 = .ok (.ifCond .ne 11, 3) := by decide +kernel
theorem d_M_grant_75 : decode b_M_grant 75 = .ok (.new 47, 3) := by decide +kernel
theorem d_M_grant_78 : decode b_M_grant 78 = .ok (.dup, 1) := by decide +kernel
theorem d_M_grant_79 : decode b_M_grant 79 = .ok (.invokespecial 49, 3) := by decide +kernel
theorem d_M_grant_82 : decode b_M_grant 82 = .ok (.athrow, 1) := by decide +kernel
theorem d_M_grant_83 : decode b_M_grant 83 = .ok (.aload_n 0, 1) := by decide +kernel
theorem d_M_grant_84 : decode b_M_grant 84 = .ok (.getfield 11, 3) := by decide +kernel
theorem d_M_grant_87 : decode b_M_grant 87 = .ok (.iload_n 1, 1) := by decide +kernel
theorem d_M_grant_88 : decode b_M_grant 88 = .ok (.aaload, 1) := by decide +kernel
theorem d_M_grant_89 : decode b_M_grant 89 = .ok (.iload_n 2, 1) := by decide +kernel
theorem d_M_grant_90 : decode b_M_grant 90 = .ok (.iload_n 3, 1) := by decide +kernel
theorem d_M_grant_91 : decode b_M_grant 91 = .ok (.iload 4, 2) := by decide +kernel
theorem d_M_grant_93 : decode b_M_grant 93 = .ok (.iload 5, 2) := by decide +kernel
theorem d_M_grant_95 : decode b_M_grant 95 = .ok (.invokevirtual 36, 3) := by decide +kernel
theorem d_M_grant_98 : decode b_M_grant 98 = .ok (.aload_n 0, 1) := by decide +kernel
theorem d_M_grant_99 : decode b_M_grant 99 = .ok (.iconst 0, 1) := by decide +kernel
theorem d_M_grant_100 : decode b_M_grant 100 = .ok (.putfield 40, 3) := by decide +kernel
theorem d_M_grant_103 : decode b_M_grant 103 = .ok (.return_, 1) := by decide +kernel
theorem d_M_init_0 : decode b_M_init 0 = .ok (.aload_n 0, 1) := by decide +kernel
theorem d_M_init_1 : decode b_M_init 1 = .ok (.invokespecial 1, 3) := by decide +kernel
theorem d_M_init_4 : decode b_M_init 4 = .ok (.aload_n 0, 1) := by decide +kernel
theorem d_M_init_5 : decode b_M_init 5 = .ok (.bipush 11, 2) := by decide +kernel
theorem d_M_init_7 : decode b_M_init 7 = .ok (.anewarray 9, 3) := by decide +kernel
theorem d_M_init_10 : decode b_M_init 10 = .ok (.putfield 11, 3) := by decide +kernel
theorem d_M_init_13 : decode b_M_init 13 = .ok (.iconst 0, 1) := by decide +kernel
theorem d_M_init_14 : decode b_M_init 14 = .ok (.istore_n 1, 1) := by decide +kernel
theorem d_M_init_15 : decode b_M_init 15 = .ok (.iload_n 1, 1) := by decide +kernel
theorem d_M_init_16 : decode b_M_init 16 = .ok (.bipush 11, 2) := by decide +kernel
theorem d_M_init_18 : decode b_M_init 18 = .ok (.if_icmp .ge 22, 3) := by decide +kernel
theorem d_M_init_21 : decode b_M_init 21 = .ok (.aload_n 0, 1) := by decide +kernel
theorem d_M_init_22 : decode b_M_init 22 = .ok (.getfield 11, 3) := by decide +kernel
theorem d_M_init_25 : decode b_M_init 25 = .ok (.iload_n 1, 1) := by decide +kernel
theorem d_M_init_26 : decode b_M_init 26 = .ok (.new 9, 3) := by decide +kernel
theorem d_M_init_29 : decode b_M_init 29 = .ok (.dup, 1) := by decide +kernel
theorem d_M_init_30 : decode b_M_init 30 = .ok (.invokespecial 15, 3) := by decide +kernel
theorem d_M_init_33 : decode b_M_init 33 = .ok (.aastore, 1) := by decide +kernel
theorem d_M_init_34 : decode b_M_init 34 = .ok (.iinc 1 1, 3) := by decide +kernel
theorem d_M_init_37 : decode b_M_init 37 = .ok (.goto (-22), 3) := by decide +kernel
theorem d_M_init_40 : decode b_M_init 40 = .ok (.aload_n 0, 1) := by decide +kernel
theorem d_M_init_41 : decode b_M_init 41 = .ok (.aload_n 0, 1) := by decide +kernel
theorem d_M_init_42 : decode b_M_init 42 = .ok (.getfield 11, 3) := by decide +kernel
theorem d_M_init_45 : decode b_M_init 45 = .ok (.bipush 8, 2) := by decide +kernel
theorem d_M_init_47 : decode b_M_init 47 = .ok (.aaload, 1) := by decide +kernel
theorem d_M_init_48 : decode b_M_init 48 = .ok (.putfield 16, 3) := by decide +kernel
theorem d_M_init_51 : decode b_M_init 51 = .ok (.aload_n 0, 1) := by decide +kernel
theorem d_M_init_52 : decode b_M_init 52 = .ok (.aload_n 0, 1) := by decide +kernel
theorem d_M_init_53 : decode b_M_init 53 = .ok (.getfield 11, 3) := by decide +kernel
theorem d_M_init_56 : decode b_M_init 56 = .ok (.bipush 9, 2) := by decide +kernel
theorem d_M_init_58 : decode b_M_init 58 = .ok (.aaload, 1) := by decide +kernel
theorem d_M_init_59 : decode b_M_init 59 = .ok (.putfield 20, 3) := by decide +kernel
theorem d_M_init_62 : decode b_M_init 62 = .ok (.aload_n 0, 1) := by decide +kernel
theorem d_M_init_63 : decode b_M_init 63 = .ok (.aload_n 0, 1) := by decide +kernel
theorem d_M_init_64 : decode b_M_init 64 = .ok (.getfield 11, 3) := by decide +kernel
theorem d_M_init_67 : decode b_M_init 67 = .ok (.bipush 10, 2) := by decide +kernel
theorem d_M_init_69 : decode b_M_init 69 = .ok (.aaload, 1) := by decide +kernel
theorem d_M_init_70 : decode b_M_init 70 = .ok (.putfield 23, 3) := by decide +kernel
theorem d_M_init_73 : decode b_M_init 73 = .ok (.aload_n 0, 1) := by decide +kernel
theorem d_M_init_74 : decode b_M_init 74 = .ok (.new 9, 3) := by decide +kernel
theorem d_M_init_77 : decode b_M_init 77 = .ok (.dup, 1) := by decide +kernel
theorem d_M_init_78 : decode b_M_init 78 = .ok (.invokespecial 15, 3) := by decide +kernel
theorem d_M_init_81 : decode b_M_init 81 = .ok (.putfield 26, 3) := by decide +kernel
theorem d_M_init_84 : decode b_M_init 84 = .ok (.aload_n 0, 1) := by decide +kernel
theorem d_M_init_85 : decode b_M_init 85 = .ok (.new 29, 3) := by decide +kernel
theorem d_M_init_88 : decode b_M_init 88 = .ok (.dup, 1) := by decide +kernel
theorem d_M_init_89 : decode b_M_init 89 = .ok (.invokespecial 31, 3) := by decide +kernel
theorem d_M_init_92 : decode b_M_init 92 = .ok (.putfield 32, 3) := by decide +kernel
theorem d_M_init_95 : decode b_M_init 95 = .ok (.aload_n 0, 1) := by decide +kernel
theorem d_M_init_96 : decode b_M_init 96 = .ok (.getfield 16, 3) := by decide +kernel
theorem d_M_init_99 : decode b_M_init 99 = .ok (.iconst 0, 1) := by decide +kernel
theorem d_M_init_100 : decode b_M_init 100 = .ok (.sipush 512, 3) := by decide +kernel
theorem d_M_init_103 : decode b_M_init 103 = .ok (.iconst 0, 1) := by decide +kernel
theorem d_M_init_104 : decode b_M_init 104 = .ok (.sipush 255, 3) := by decide +kernel
theorem d_M_init_107 : decode b_M_init 107 = .ok (.invokevirtual 36, 3) := by decide +kernel
theorem d_M_init_110 : decode b_M_init 110 = .ok (.aload_n 0, 1) := by decide +kernel
theorem d_M_init_111 : decode b_M_init 111 = .ok (.getfield 11, 3) := by decide +kernel
theorem d_M_init_114 : decode b_M_init 114 = .ok (.iconst 1, 1) := by decide +kernel
theorem d_M_init_115 : decode b_M_init 115 = .ok (.aaload, 1) := by decide +kernel
theorem d_M_init_116 : decode b_M_init 116 = .ok (.iconst 0, 1) := by decide +kernel
theorem d_M_init_117 : decode b_M_init 117 = .ok (.sipush 512, 3) := by decide +kernel
theorem d_M_init_120 : decode b_M_init 120 = .ok (.iconst 0, 1) := by decide +kernel
theorem d_M_init_121 : decode b_M_init 121 = .ok (.sipush 255, 3) := by decide +kernel
theorem d_M_init_124 : decode b_M_init 124 = .ok (.invokevirtual 36, 3) := by decide +kernel
theorem d_M_init_127 : decode b_M_init 127 = .ok (.aload_n 0, 1) := by decide +kernel
theorem d_M_init_128 : decode b_M_init 128 = .ok (.iconst 0, 1) := by decide +kernel
theorem d_M_init_129 : decode b_M_init 129 = .ok (.putfield 40, 3) := by decide +kernel
theorem d_M_init_132 : decode b_M_init 132 = .ok (.aload_n 0, 1) := by decide +kernel
theorem d_M_init_133 : decode b_M_init 133 = .ok (.iconst 0, 1) := by decide +kernel
theorem d_M_init_134 : decode b_M_init 134 = .ok (.putfield 44, 3) := by decide +kernel
theorem d_M_init_137 : decode b_M_init 137 = .ok (.return_, 1) := by decide +kernel
theorem d_M_jump_0 : decode b_M_jump 0 = .ok (.aload_n 2, 1) := by decide +kernel
theorem d_M_jump_1 : decode b_M_jump 1 = .ok (.getfield 83, 3) := by decide +kernel
theorem d_M_jump_4 : decode b_M_jump 4 = .ok (.ifCond .ne 5, 3) := by decide +kernel
theorem d_M_jump_7 : decode b_M_jump 7 = .ok (.iconst 1, 1) := by decide +kernel
theorem d_M_jump_8 : decode b_M_jump 8 = .ok (.ireturn, 1) := by decide +kernel
theorem d_M_jump_9 : decode b_M_jump 9 = .ok (.aload_n 2, 1) := by decide +kernel
theorem d_M_jump_10 : decode b_M_jump 10 = .ok (.getfield 115, 3) := by decide +kernel
theorem d_M_jump_13 : decode b_M_jump 13 = .ok (.iconst 1, 1) := by decide +kernel
theorem d_M_jump_14 : decode b_M_jump 14 = .ok (.if_icmp .le 5, 3) := by decide +kernel
theorem d_M_jump_17 : decode b_M_jump 17 = .ok (.iconst 2, 1) := by decide +kernel
theorem d_M_jump_18 : decode b_M_jump 18 = .ok (.ireturn, 1) := by decide +kernel
theorem d_M_jump_19 : decode b_M_jump 19 = .ok (.aload_n 2, 1) := by decide +kernel
theorem d_M_jump_20 : decode b_M_jump 20 = .ok (.iconst 4, 1) := by decide +kernel
theorem d_M_jump_21 : decode b_M_jump 21 = .ok (.invokevirtual 118, 3) := by decide +kernel
theorem d_M_jump_24 : decode b_M_jump 24 = .ok (.ifCond .ne 5, 3) := by decide +kernel
theorem d_M_jump_27 : decode b_M_jump 27 = .ok (.iconst 3, 1) := by decide +kernel
theorem d_M_jump_28 : decode b_M_jump 28 = .ok (.ireturn, 1) := by decide +kernel
theorem d_M_jump_29 : decode b_M_jump 29 = .ok (.aload_n 0, 1) := by decide +kernel
theorem d_M_jump_30 : decode b_M_jump 30 = .ok (.getfield 26, 3) := by decide +kernel
theorem d_M_jump_33 : decode b_M_jump 33 = .ok (.aload_n 0, 1) := by decide +kernel
theorem d_M_jump_34 : decode b_M_jump 34 = .ok (.getfield 16, 3) := by decide +kernel
theorem d_M_jump_37 : decode b_M_jump 37 = .ok (.invokevirtual 79, 3) := by decide +kernel
theorem d_M_jump_40 : decode b_M_jump 40 = .ok (.aload_n 0, 1) := by decide +kernel
theorem d_M_jump_41 : decode b_M_jump 41 = .ok (.getfield 26, 3) := by decide +kernel
theorem d_M_jump_44 : decode b_M_jump 44 = .ok (.aload_n 0, 1) := by decide +kernel
theorem d_M_jump_45 : decode b_M_jump 45 = .ok (.getfield 16, 3) := by decide +kernel
theorem d_M_jump_48 : decode b_M_jump 48 = .ok (.getfield 87, 3) := by decide +kernel
theorem d_M_jump_51 : decode b_M_jump 51 = .ok (.iconst 4, 1) := by decide +kernel
theorem d_M_jump_52 : decode b_M_jump 52 = .ok (.iadd, 1) := by decide +kernel
theorem d_M_jump_53 : decode b_M_jump 53 = .ok (.invokevirtual 112, 3) := by decide +kernel
theorem d_M_jump_56 : decode b_M_jump 56 = .ok (.aload_n 0, 1) := by decide +kernel
theorem d_M_jump_57 : decode b_M_jump 57 = .ok (.getfield 26, 3) := by decide +kernel
theorem d_M_jump_60 : decode b_M_jump 60 = .ok (.iconst 1, 1) := by decide +kernel
theorem d_M_jump_61 : decode b_M_jump 61 = .ok (.putfield 115, 3) := by decide +kernel
theorem d_M_jump_64 : decode b_M_jump 64 = .ok (.aload_n 0, 1) := by decide +kernel
theorem d_M_jump_65 : decode b_M_jump 65 = .ok (.getfield 16, 3) := by decide +kernel
theorem d_M_jump_68 : decode b_M_jump 68 = .ok (.aload_n 2, 1) := by decide +kernel
theorem d_M_jump_69 : decode b_M_jump 69 = .ok (.invokevirtual 79, 3) := by decide +kernel
theorem d_M_jump_72 : decode b_M_jump 72 = .ok (.aload_n 0, 1) := by decide +kernel
theorem d_M_jump_73 : decode b_M_jump 73 = .ok (.getfield 16, 3) := by decide +kernel
theorem d_M_jump_76 : decode b_M_jump 76 = .ok (.iconst 0, 1) := by decide +kernel
theorem d_M_jump_77 : decode b_M_jump 77 = .ok (.putfield 115, 3) := by decide +kernel
theorem d_M_jump_80 : decode b_M_jump 80 = .ok (.aload_n 1, 1) := by decide +kernel
theorem d_M_jump_81 : decode b_M_jump 81 = .ok (.aload_n 0, 1) := by decide +kernel
theorem d_M_jump_82 : decode b_M_jump 82 = .ok (.getfield 26, 3) := by decide +kernel
theorem d_M_jump_85 : decode b_M_jump 85 = .ok (.invokevirtual 79, 3) := by decide +kernel
theorem d_M_jump_88 : decode b_M_jump 88 = .ok (.iconst 0, 1) := by decide +kernel
theorem d_M_jump_89 : decode b_M_jump 89 = .ok (.ireturn, 1) := by decide +kernel
theorem d_M_look_0 : decode b_M_look 0 = .ok (.iload_n 1, 1) := by decide +kernel
theorem d_M_look_1 : decode b_M_look 1 = .ok (.ifCond .lt 18, 3) := by decide +kernel
theorem d_M_look_4 : decode b_M_look 4 = .ok (.iload_n 1, 1) := by decide +kernel
theorem d_M_look_5 : decode b_M_look 5 = .ok (.bipush 11, 2) := by decide +kernel
theorem d_M_look_7 : decode b_M_look 7 = .ok (.if_icmp .ge 12, 3) := by decide +kernel
theorem d_M_look_10 : decode b_M_look 10 = .ok (.iload_n 2, 1) := by decide +kernel
theorem d_M_look_11 : decode b_M_look 11 = .ok (.ifCond .lt 8, 3) := by decide +kernel
theorem d_M_look_14 : decode b_M_look 14 = .ok (.iload_n 2, 1) := by decide +kernel
theorem d_M_look_15 : decode b_M_look 15 = .ok (.iconst 5, 1) := by decide +kernel
theorem d_M_look_16 : decode b_M_look 16 = .ok (.if_icmp .le 11, 3) := by decide +kernel
theorem d_M_look_19 : decode b_M_look 19 = .ok (.new 47, 3) := by decide +kernel
theorem d_M_look_22 : decode b_M_look 22 = .ok (.dup, 1) := by decide +kernel
theorem d_M_look_23 : decode b_M_look 23 = .ok (.invokespecial 49, 3) := by decide +kernel
theorem d_M_look_26 : decode b_M_look 26 = .ok (.athrow, 1) := by decide +kernel
theorem d_M_look_27 : decode b_M_look 27 = .ok (.aload_n 0, 1) := by decide +kernel
theorem d_M_look_28 : decode b_M_look 28 = .ok (.getfield 11, 3) := by decide +kernel
theorem d_M_look_31 : decode b_M_look 31 = .ok (.iload_n 1, 1) := by decide +kernel
theorem d_M_look_32 : decode b_M_look 32 = .ok (.aaload, 1) := by decide +kernel
theorem d_M_look_33 : decode b_M_look 33 = .ok (.iload_n 2, 1) := by decide +kernel
theorem d_M_look_34 : decode b_M_look 34 = .ok (.invokevirtual 68, 3) := by decide +kernel
theorem d_M_look_37 : decode b_M_look 37 = .ok (.ireturn, 1) := by decide +kernel
theorem d_M_makeEntry_0 : decode b_M_makeEntry 0 = .ok (.aload_n 1, 1) := by decide +kernel
theorem d_M_makeEntry_1 : decode b_M_makeEntry 1 = .ok (.getfield 83, 3) := by decide +kernel
theorem d_M_makeEntry_4 : decode b_M_makeEntry 4 = .ok (.ifCond .ne 5, 3) := by decide +kernel
theorem d_M_makeEntry_7 : decode b_M_makeEntry 7 = .ok (.iconst 1, 1) := by decide +kernel
theorem d_M_makeEntry_8 : decode b_M_makeEntry 8 = .ok (.ireturn, 1) := by decide +kernel
theorem d_M_makeEntry_9 : decode b_M_makeEntry 9 = .ok (.aload_n 1, 1) := by decide +kernel
theorem d_M_makeEntry_10 : decode b_M_makeEntry 10 = .ok (.getfield 115, 3) := by decide +kernel
theorem d_M_makeEntry_13 : decode b_M_makeEntry 13 = .ok (.ifCond .eq 5, 3) := by decide +kernel
theorem d_M_makeEntry_16 : decode b_M_makeEntry 16 = .ok (.iconst 2, 1) := by decide +kernel
theorem d_M_makeEntry_17 : decode b_M_makeEntry 17 = .ok (.ireturn, 1) := by decide +kernel
theorem d_M_makeEntry_18 : decode b_M_makeEntry 18 = .ok (.aload_n 1, 1) := by decide +kernel
theorem d_M_makeEntry_19 : decode b_M_makeEntry 19 = .ok (.iconst 4, 1) := by decide +kernel
theorem d_M_makeEntry_20 : decode b_M_makeEntry 20 = .ok (.invokevirtual 118, 3) := by decide +kernel
theorem d_M_makeEntry_23 : decode b_M_makeEntry 23 = .ok (.ifCond .ne 5, 3) := by decide +kernel
theorem d_M_makeEntry_26 : decode b_M_makeEntry 26 = .ok (.iconst 3, 1) := by decide +kernel
theorem d_M_makeEntry_27 : decode b_M_makeEntry 27 = .ok (.ireturn, 1) := by decide +kernel
theorem d_M_makeEntry_28 : decode b_M_makeEntry 28 = .ok (.aload_n 0, 1) := by decide +kernel
theorem d_M_makeEntry_29 : decode b_M_makeEntry 29 = .ok (.aload_n 1, 1) := by decide +kernel
theorem d_M_makeEntry_30 : decode b_M_makeEntry 30 = .ok (.invokevirtual 79, 3) := by decide +kernel
theorem d_M_makeEntry_33 : decode b_M_makeEntry 33 = .ok (.aload_n 0, 1) := by decide +kernel
theorem d_M_makeEntry_34 : decode b_M_makeEntry 34 = .ok (.iconst 1, 1) := by decide +kernel
theorem d_M_makeEntry_35 : decode b_M_makeEntry 35 = .ok (.putfield 115, 3) := by decide +kernel
theorem d_M_makeEntry_38 : decode b_M_makeEntry 38 = .ok (.iconst 0, 1) := by decide +kernel
theorem d_M_makeEntry_39 : decode b_M_makeEntry 39 = .ok (.ireturn, 1) := by decide +kernel
theorem d_M_multipleNotAbove_0 : decode b_M_multipleNotAbove 0 = .ok (.iload_n 0, 1) := by decide +kernel
theorem d_M_multipleNotAbove_1 : decode b_M_multipleNotAbove 1 = .ok (.bipush 8, 2) := by decide +kernel
theorem d_M_multipleNotAbove_3 : decode b_M_multipleNotAbove 3 = .ok (.idiv, 1) := by decide +kernel
theorem d_M_multipleNotAbove_4 : decode b_M_multipleNotAbove 4 = .ok (.bipush 8, 2) := by decide +kernel
theorem d_M_multipleNotAbove_6 : decode b_M_multipleNotAbove 6 = .ok (.imul, 1) := by decide +kernel
theorem d_M_multipleNotAbove_7 : decode b_M_multipleNotAbove 7 = .ok (.ireturn, 1) := by decide +kernel
theorem d_M_multipleNotBelow_0 : decode b_M_multipleNotBelow 0 = .ok (.iload_n 0, 1) := by decide +kernel
theorem d_M_multipleNotBelow_1 : decode b_M_multipleNotBelow 1 = .ok (.bipush 8, 2) := by decide +kernel
theorem d_M_multipleNotBelow_3 : decode b_M_multipleNotBelow 3 = .ok (.iadd, 1) := by decide +kernel
theorem d_M_multipleNotBelow_4 : decode b_M_multipleNotBelow 4 = .ok (.iconst 1, 1) := by decide +kernel
theorem d_M_multipleNotBelow_5 : decode b_M_multipleNotBelow 5 = .ok (.isub, 1) := by decide +kernel
theorem d_M_multipleNotBelow_6 : decode b_M_multipleNotBelow 6 = .ok (.invokestatic 178, 3) := by decide +kernel
theorem d_M_multipleNotBelow_9 : decode b_M_multipleNotBelow 9 = .ok (.ireturn, 1) := by decide +kernel
theorem d_M_number_0 : decode b_M_number 0 = .ok (.aload_n 0, 1) := by decide +kernel
theorem d_M_number_1 : decode b_M_number 1 = .ok (.iload_n 1, 1) := by decide +kernel
theorem d_M_number_2 : decode b_M_number 2 = .ok (.invokevirtual 102, 3) := by decide +kernel
theorem d_M_number_5 : decode b_M_number 5 = .ok (.iconst 0, 1) := by decide +kernel
theorem d_M_number_6 : decode b_M_number 6 = .ok (.ireturn, 1) := by decide +kernel
theorem d_M_peek_0 : decode b_M_peek 0 = .ok (.iload_n 1, 1) := by decide +kernel
theorem d_M_peek_1 : decode b_M_peek 1 = .ok (.ifCond .lt 10, 3) := by decide +kernel
theorem d_M_peek_4 : decode b_M_peek 4 = .ok (.iload_n 1, 1) := by decide +kernel
theorem d_M_peek_5 : decode b_M_peek 5 = .ok (.sipush 512, 3) := by decide +kernel
theorem d_M_peek_8 : decode b_M_peek 8 = .ok (.if_icmp .lt 11, 3) := by decide +kernel
theorem d_M_peek_11 : decode b_M_peek 11 = .ok (.new 47, 3) := by decide +kernel
theorem d_M_peek_14 : decode b_M_peek 14 = .ok (.dup, 1) := by decide +kernel
theorem d_M_peek_15 : decode b_M_peek 15 = .ok (.invokespecial 49, 3) := by decide +kernel
theorem d_M_peek_18 : decode b_M_peek 18 = .ok (.athrow, 1) := by decide +kernel
theorem d_M_peek_19 : decode b_M_peek 19 = .ok (.aload_n 0, 1) := by decide +kernel
theorem d_M_peek_20 : decode b_M_peek 20 = .ok (.getfield 32, 3) := by decide +kernel
theorem d_M_peek_23 : decode b_M_peek 23 = .ok (.iload_n 1, 1) := by decide +kernel
theorem d_M_peek_24 : decode b_M_peek 24 = .ok (.invokevirtual 72, 3) := by decide +kernel
theorem d_M_peek_27 : decode b_M_peek 27 = .ok (.ireturn, 1) := by decide +kernel
theorem d_M_permissionsFor_0 : decode b_M_permissionsFor 0 = .ok (.iload_n 0, 1) := by decide +kernel
theorem d_M_permissionsFor_1 : decode b_M_permissionsFor 1 = .ok (.tableswitch 58 17 22 #[39, 39, 41, 58, 58, 44], 39) := by decide +kernel
theorem d_M_permissionsFor_40 : decode b_M_permissionsFor 40 = .ok (.iconst 1, 1) := by decide +kernel
theorem d_M_permissionsFor_41 : decode b_M_permissionsFor 41 = .ok (.ireturn, 1) := by decide +kernel
theorem d_M_permissionsFor_42 : decode b_M_permissionsFor 42 = .ok (.bipush 9, 2) := by decide +kernel
theorem d_M_permissionsFor_44 : decode b_M_permissionsFor 44 = .ok (.ireturn, 1) := by decide +kernel
theorem d_M_permissionsFor_45 : decode b_M_permissionsFor 45 = .ok (.aload_n 1, 1) := by decide +kernel
theorem d_M_permissionsFor_46 : decode b_M_permissionsFor 46 = .ok (.getfield 83, 3) := by decide +kernel
theorem d_M_permissionsFor_49 : decode b_M_permissionsFor 49 = .ok (.ifCond .eq 8, 3) := by decide +kernel
theorem d_M_permissionsFor_52 : decode b_M_permissionsFor 52 = .ok (.bipush 18, 2) := by decide +kernel
theorem d_M_permissionsFor_54 : decode b_M_permissionsFor 54 = .ok (.goto 4, 3) := by decide +kernel
theorem d_M_permissionsFor_57 : decode b_M_permissionsFor 57 = .ok (.iconst 2, 1) := by decide +kernel
theorem d_M_permissionsFor_58 : decode b_M_permissionsFor 58 = .ok (.ireturn, 1) := by decide +kernel
theorem d_M_permissionsFor_59 : decode b_M_permissionsFor 59 = .ok (.iconst 2, 1) := by decide +kernel
theorem d_M_permissionsFor_60 : decode b_M_permissionsFor 60 = .ok (.ireturn, 1) := by decide +kernel
theorem d_M_poke_0 : decode b_M_poke 0 = .ok (.iload_n 3, 1) := by decide +kernel
theorem d_M_poke_1 : decode b_M_poke 1 = .ok (.iconst 1, 1) := by decide +kernel
theorem d_M_poke_2 : decode b_M_poke 2 = .ok (.if_icmp .lt 21, 3) := by decide +kernel
theorem d_M_poke_5 : decode b_M_poke 5 = .ok (.iload_n 3, 1) := by decide +kernel
theorem d_M_poke_6 : decode b_M_poke 6 = .ok (.iconst 4, 1) := by decide +kernel
theorem d_M_poke_7 : decode b_M_poke 7 = .ok (.if_icmp .gt 16, 3) := by decide +kernel
theorem d_M_poke_10 : decode b_M_poke 10 = .ok (.iload_n 1, 1) := by decide +kernel
theorem d_M_poke_11 : decode b_M_poke 11 = .ok (.ifCond .lt 12, 3) := by decide +kernel
theorem d_M_poke_14 : decode b_M_poke 14 = .ok (.iload_n 1, 1) := by decide +kernel
theorem d_M_poke_15 : decode b_M_poke 15 = .ok (.sipush 512, 3) := by decide +kernel
theorem d_M_poke_18 : decode b_M_poke 18 = .ok (.iload_n 3, 1) := by decide +kernel
theorem d_M_poke_19 : decode b_M_poke 19 = .ok (.isub, 1) := by decide +kernel
theorem d_M_poke_20 : decode b_M_poke 20 = .ok (.if_icmp .le 11, 3) := by decide +kernel
theorem d_M_poke_23 : decode b_M_poke 23 = .ok (.new 47, 3) := by decide +kernel
theorem d_M_poke_26 : decode b_M_poke 26 = .ok (.dup, 1) := by decide +kernel
theorem d_M_poke_27 : decode b_M_poke 27 = .ok (.invokespecial 49, 3) := by decide +kernel
theorem d_M_poke_30 : decode b_M_poke 30 = .ok (.athrow, 1) := by decide +kernel
theorem d_M_poke_31 : decode b_M_poke 31 = .ok (.aload_n 0, 1) := by decide +kernel
theorem d_M_poke_32 : decode b_M_poke 32 = .ok (.getfield 32, 3) := by decide +kernel
theorem d_M_poke_35 : decode b_M_poke 35 = .ok (.iload_n 1, 1) := by decide +kernel
theorem d_M_poke_36 : decode b_M_poke 36 = .ok (.iload_n 2, 1) := by decide +kernel
theorem d_M_poke_37 : decode b_M_poke 37 = .ok (.iload_n 3, 1) := by decide +kernel
theorem d_M_poke_38 : decode b_M_poke 38 = .ok (.invokevirtual 50, 3) := by decide +kernel
theorem d_M_poke_41 : decode b_M_poke 41 = .ok (.return_, 1) := by decide +kernel
theorem d_M_run_0 : decode b_M_run 0 = .ok (.iload_n 1, 1) := by decide +kernel
theorem d_M_run_1 : decode b_M_run 1 = .ok (.sipush 2000, 3) := by decide +kernel
theorem d_M_run_4 : decode b_M_run 4 = .ok (.invokestatic 54, 3) := by decide +kernel
theorem d_M_run_7 : decode b_M_run 7 = .ok (.istore_n 2, 1) := by decide +kernel
theorem d_M_run_8 : decode b_M_run 8 = .ok (.iconst 0, 1) := by decide +kernel
theorem d_M_run_9 : decode b_M_run 9 = .ok (.istore_n 3, 1) := by decide +kernel
theorem d_M_run_10 : decode b_M_run 10 = .ok (.iconst 1, 1) := by decide +kernel
theorem d_M_run_11 : decode b_M_run 11 = .ok (.istore 4, 2) := by decide +kernel
theorem d_M_run_13 : decode b_M_run 13 = .ok (.iload_n 3, 1) := by decide +kernel
theorem d_M_run_14 : decode b_M_run 14 = .ok (.iload_n 2, 1) := by decide +kernel
theorem d_M_run_15 : decode b_M_run 15 = .ok (.if_icmp .ge 41, 3) := by decide +kernel
theorem d_M_run_18 : decode b_M_run 18 = .ok (.iload 4, 2) := by decide +kernel
theorem d_M_run_20 : decode b_M_run 20 = .ok (.ifCond .eq 36, 3) := by decide +kernel
theorem d_M_run_23 : decode b_M_run 23 = .ok (.aload_n 0, 1) := by decide +kernel
theorem d_M_run_24 : decode b_M_run 24 = .ok (.getfield 40, 3) := by decide +kernel
theorem d_M_run_27 : decode b_M_run 27 = .ok (.ifCond .ne 29, 3) := by decide +kernel
theorem d_M_run_30 : decode b_M_run 30 = .ok (.aload_n 0, 1) := by decide +kernel
theorem d_M_run_31 : decode b_M_run 31 = .ok (.invokevirtual 60, 3) := by decide +kernel
theorem d_M_run_34 : decode b_M_run 34 = .ok (.istore 5, 2) := by decide +kernel
theorem d_M_run_36 : decode b_M_run 36 = .ok (.iinc 3 1, 3) := by decide +kernel
theorem d_M_run_39 : decode b_M_run 39 = .ok (.iload 5, 2) := by decide +kernel
theorem d_M_run_41 : decode b_M_run 41 = .ok (.ifCond .eq 12, 3) := by decide +kernel
theorem d_M_run_44 : decode b_M_run 44 = .ok (.aload_n 0, 1) := by decide +kernel
theorem d_M_run_45 : decode b_M_run 45 = .ok (.iload 5, 2) := by decide +kernel
theorem d_M_run_47 : decode b_M_run 47 = .ok (.invokevirtual 64, 3) := by decide +kernel
theorem d_M_run_50 : decode b_M_run 50 = .ok (.iconst 0, 1) := by decide +kernel
theorem d_M_run_51 : decode b_M_run 51 = .ok (.istore 4, 2) := by decide +kernel
theorem d_M_run_53 : decode b_M_run 53 = .ok (.goto (-40), 3) := by decide +kernel
theorem d_M_run_56 : decode b_M_run 56 = .ok (.iload_n 3, 1) := by decide +kernel
theorem d_M_run_57 : decode b_M_run 57 = .ok (.ireturn, 1) := by decide +kernel
theorem d_M_seal_0 : decode b_M_seal 0 = .ok (.aload_n 1, 1) := by decide +kernel
theorem d_M_seal_1 : decode b_M_seal 1 = .ok (.getfield 83, 3) := by decide +kernel
theorem d_M_seal_4 : decode b_M_seal 4 = .ok (.ifCond .eq 10, 3) := by decide +kernel
theorem d_M_seal_7 : decode b_M_seal 7 = .ok (.aload_n 2, 1) := by decide +kernel
theorem d_M_seal_8 : decode b_M_seal 8 = .ok (.getfield 83, 3) := by decide +kernel
theorem d_M_seal_11 : decode b_M_seal 11 = .ok (.ifCond .ne 5, 3) := by decide +kernel
theorem d_M_seal_14 : decode b_M_seal 14 = .ok (.iconst 1, 1) := by decide +kernel
theorem d_M_seal_15 : decode b_M_seal 15 = .ok (.ireturn, 1) := by decide +kernel
theorem d_M_seal_16 : decode b_M_seal 16 = .ok (.aload_n 1, 1) := by decide +kernel
theorem d_M_seal_17 : decode b_M_seal 17 = .ok (.getfield 115, 3) := by decide +kernel
theorem d_M_seal_20 : decode b_M_seal 20 = .ok (.ifCond .ne 10, 3) := by decide +kernel
theorem d_M_seal_23 : decode b_M_seal 23 = .ok (.aload_n 2, 1) := by decide +kernel
theorem d_M_seal_24 : decode b_M_seal 24 = .ok (.getfield 115, 3) := by decide +kernel
theorem d_M_seal_27 : decode b_M_seal 27 = .ok (.ifCond .eq 5, 3) := by decide +kernel
theorem d_M_seal_30 : decode b_M_seal 30 = .ok (.iconst 2, 1) := by decide +kernel
theorem d_M_seal_31 : decode b_M_seal 31 = .ok (.ireturn, 1) := by decide +kernel
theorem d_M_seal_32 : decode b_M_seal 32 = .ok (.aload_n 2, 1) := by decide +kernel
theorem d_M_seal_33 : decode b_M_seal 33 = .ok (.bipush 32, 2) := by decide +kernel
theorem d_M_seal_35 : decode b_M_seal 35 = .ok (.invokevirtual 118, 3) := by decide +kernel
theorem d_M_seal_38 : decode b_M_seal 38 = .ok (.ifCond .ne 5, 3) := by decide +kernel
theorem d_M_seal_41 : decode b_M_seal 41 = .ok (.iconst 3, 1) := by decide +kernel
theorem d_M_seal_42 : decode b_M_seal 42 = .ok (.ireturn, 1) := by decide +kernel
theorem d_M_seal_43 : decode b_M_seal 43 = .ok (.aload_n 2, 1) := by decide +kernel
theorem d_M_seal_44 : decode b_M_seal 44 = .ok (.invokevirtual 184, 3) := by decide +kernel
theorem d_M_seal_47 : decode b_M_seal 47 = .ok (.ifCond .ne 5, 3) := by decide +kernel
theorem d_M_seal_50 : decode b_M_seal 50 = .ok (.iconst 4, 1) := by decide +kernel
theorem d_M_seal_51 : decode b_M_seal 51 = .ok (.ireturn, 1) := by decide +kernel
theorem d_M_seal_52 : decode b_M_seal 52 = .ok (.aload_n 2, 1) := by decide +kernel
theorem d_M_seal_53 : decode b_M_seal 53 = .ok (.getfield 87, 3) := by decide +kernel
theorem d_M_seal_56 : decode b_M_seal 56 = .ok (.istore_n 3, 1) := by decide +kernel
theorem d_M_seal_57 : decode b_M_seal 57 = .ok (.iload_n 3, 1) := by decide +kernel
theorem d_M_seal_58 : decode b_M_seal 58 = .ok (.iconst 1, 1) := by decide +kernel
theorem d_M_seal_59 : decode b_M_seal 59 = .ok (.if_icmp .le 9, 3) := by decide +kernel
theorem d_M_seal_62 : decode b_M_seal 62 = .ok (.iload_n 3, 1) := by decide +kernel
theorem d_M_seal_63 : decode b_M_seal 63 = .ok (.bipush 15, 2) := by decide +kernel
theorem d_M_seal_65 : decode b_M_seal 65 = .ok (.if_icmp .le 6, 3) := by decide +kernel
theorem d_M_seal_68 : decode b_M_seal 68 = .ok (.bipush 7, 2) := by decide +kernel
theorem d_M_seal_70 : decode b_M_seal 70 = .ok (.ireturn, 1) := by decide +kernel
theorem d_M_seal_71 : decode b_M_seal 71 = .ok (.aload_n 0, 1) := by decide +kernel
theorem d_M_seal_72 : decode b_M_seal 72 = .ok (.aload_n 1, 1) := by decide +kernel
theorem d_M_seal_73 : decode b_M_seal 73 = .ok (.invokevirtual 79, 3) := by decide +kernel
theorem d_M_seal_76 : decode b_M_seal 76 = .ok (.aload_n 0, 1) := by decide +kernel
theorem d_M_seal_77 : decode b_M_seal 77 = .ok (.iload_n 3, 1) := by decide +kernel
theorem d_M_seal_78 : decode b_M_seal 78 = .ok (.putfield 115, 3) := by decide +kernel
theorem d_M_seal_81 : decode b_M_seal 81 = .ok (.iconst 0, 1) := by decide +kernel
theorem d_M_seal_82 : decode b_M_seal 82 = .ok (.ireturn, 1) := by decide +kernel
theorem d_M_setHandler_0 : decode b_M_setHandler 0 = .ok (.aload_n 1, 1) := by decide +kernel
theorem d_M_setHandler_1 : decode b_M_setHandler 1 = .ok (.getfield 83, 3) := by decide +kernel
theorem d_M_setHandler_4 : decode b_M_setHandler 4 = .ok (.ifCond .eq 26, 3) := by decide +kernel
theorem d_M_setHandler_7 : decode b_M_setHandler 7 = .ok (.aload_n 1, 1) := by decide +kernel
theorem d_M_setHandler_8 : decode b_M_setHandler 8 = .ok (.getfield 115, 3) := by decide +kernel
theorem d_M_setHandler_11 : decode b_M_setHandler 11 = .ok (.ifCond .ne 19, 3) := by decide +kernel
theorem d_M_setHandler_14 : decode b_M_setHandler 14 = .ok (.aload_n 1, 1) := by decide +kernel
theorem d_M_setHandler_15 : decode b_M_setHandler 15 = .ok (.iconst 4, 1) := by decide +kernel
theorem d_M_setHandler_16 : decode b_M_setHandler 16 = .ok (.invokevirtual 118, 3) := by decide +kernel
theorem d_M_setHandler_19 : decode b_M_setHandler 19 = .ok (.ifCond .eq 11, 3) := by decide +kernel
theorem d_M_setHandler_22 : decode b_M_setHandler 22 = .ok (.aload_n 0, 1) := by decide +kernel
theorem d_M_setHandler_23 : decode b_M_setHandler 23 = .ok (.getfield 20, 3) := by decide +kernel
theorem d_M_setHandler_26 : decode b_M_setHandler 26 = .ok (.aload_n 1, 1) := by decide +kernel
theorem d_M_setHandler_27 : decode b_M_setHandler 27 = .ok (.invokevirtual 79, 3) := by decide +kernel
theorem d_M_setHandler_30 : decode b_M_setHandler 30 = .ok (.iconst 0, 1) := by decide +kernel
theorem d_M_setHandler_31 : decode b_M_setHandler 31 = .ok (.ireturn, 1) := by decide +kernel
theorem d_M_state_0 : decode b_M_state 0 = .ok (.aload_n 0, 1) := by decide +kernel
theorem d_M_state_1 : decode b_M_state 1 = .ok (.getfield 40, 3) := by decide +kernel
theorem d_M_state_4 : decode b_M_state 4 = .ok (.ireturn, 1) := by decide +kernel
theorem d_M_step_0 : decode b_M_step 0 = .ok (.aload_n 0, 1) := by decide +kernel
theorem d_M_step_1 : decode b_M_step 1 = .ok (.getfield 16, 3) := by decide +kernel
theorem d_M_step_4 : decode b_M_step 4 = .ok (.getfield 87, 3) := by decide +kernel
theorem d_M_step_7 : decode b_M_step 7 = .ok (.istore_n 1, 1) := by decide +kernel
theorem d_M_step_8 : decode b_M_step 8 = .ok (.aload_n 0, 1) := by decide +kernel
theorem d_M_step_9 : decode b_M_step 9 = .ok (.getfield 16, 3) := by decide +kernel
theorem d_M_step_12 : decode b_M_step 12 = .ok (.iconst 4, 1) := by decide +kernel
theorem d_M_step_13 : decode b_M_step 13 = .ok (.iload_n 1, 1) := by decide +kernel
theorem d_M_step_14 : decode b_M_step 14 = .ok (.i2l, 1) := by decide +kernel
theorem d_M_step_15 : decode b_M_step 15 = .ok (.iconst 4, 1) := by decide +kernel
theorem d_M_step_16 : decode b_M_step 16 = .ok (.invokevirtual 90, 3) := by decide +kernel
theorem d_M_step_19 : decode b_M_step 19 = .ok (.istore_n 2, 1) := by decide +kernel
theorem d_M_step_20 : decode b_M_step 20 = .ok (.iload_n 2, 1) := by decide +kernel
theorem d_M_step_21 : decode b_M_step 21 = .ok (.ifCond .eq 5, 3) := by decide +kernel
theorem d_M_step_24 : decode b_M_step 24 = .ok (.iload_n 2, 1) := by decide +kernel
theorem d_M_step_25 : decode b_M_step 25 = .ok (.ireturn, 1) := by decide +kernel
theorem d_M_step_26 : decode b_M_step 26 = .ok (.aload_n 0, 1) := by decide +kernel
theorem d_M_step_27 : decode b_M_step 27 = .ok (.getfield 32, 3) := by decide +kernel
theorem d_M_step_30 : decode b_M_step 30 = .ok (.iload_n 1, 1) := by decide +kernel
theorem d_M_step_31 : decode b_M_step 31 = .ok (.iconst 2, 1) := by decide +kernel
theorem d_M_step_32 : decode b_M_step 32 = .ok (.iadd, 1) := by decide +kernel
theorem d_M_step_33 : decode b_M_step 33 = .ok (.invokevirtual 72, 3) := by decide +kernel
theorem d_M_step_36 : decode b_M_step 36 = .ok (.istore_n 3, 1) := by decide +kernel
theorem d_M_step_37 : decode b_M_step 37 = .ok (.aload_n 0, 1) := by decide +kernel
theorem d_M_step_38 : decode b_M_step 38 = .ok (.getfield 32, 3) := by decide +kernel
theorem d_M_step_41 : decode b_M_step 41 = .ok (.iload_n 1, 1) := by decide +kernel
theorem d_M_step_42 : decode b_M_step 42 = .ok (.iconst 3, 1) := by decide +kernel
theorem d_M_step_43 : decode b_M_step 43 = .ok (.iadd, 1) := by decide +kernel
theorem d_M_step_44 : decode b_M_step 44 = .ok (.invokevirtual 72, 3) := by decide +kernel
theorem d_M_step_47 : decode b_M_step 47 = .ok (.istore 4, 2) := by decide +kernel
theorem d_M_step_49 : decode b_M_step 49 = .ok (.aload_n 0, 1) := by decide +kernel
theorem d_M_step_50 : decode b_M_step 50 = .ok (.getfield 11, 3) := by decide +kernel
theorem d_M_step_53 : decode b_M_step 53 = .ok (.aload_n 0, 1) := by decide +kernel
theorem d_M_step_54 : decode b_M_step 54 = .ok (.getfield 32, 3) := by decide +kernel
theorem d_M_step_57 : decode b_M_step 57 = .ok (.iload_n 1, 1) := by decide +kernel
theorem d_M_step_58 : decode b_M_step 58 = .ok (.iconst 1, 1) := by decide +kernel
theorem d_M_step_59 : decode b_M_step 59 = .ok (.iadd, 1) := by decide +kernel
theorem d_M_step_60 : decode b_M_step 60 = .ok (.invokevirtual 72, 3) := by decide +kernel
theorem d_M_step_63 : decode b_M_step 63 = .ok (.bipush 7, 2) := by decide +kernel
theorem d_M_step_65 : decode b_M_step 65 = .ok (.iand, 1) := by decide +kernel
theorem d_M_step_66 : decode b_M_step 66 = .ok (.aaload, 1) := by decide +kernel
theorem d_M_step_67 : decode b_M_step 67 = .ok (.astore 5, 2) := by decide +kernel
theorem d_M_step_69 : decode b_M_step 69 = .ok (.aload_n 0, 1) := by decide +kernel
theorem d_M_step_70 : decode b_M_step 70 = .ok (.getfield 11, 3) := by decide +kernel
theorem d_M_step_73 : decode b_M_step 73 = .ok (.iload_n 3, 1) := by decide +kernel
theorem d_M_step_74 : decode b_M_step 74 = .ok (.bipush 7, 2) := by decide +kernel
theorem d_M_step_76 : decode b_M_step 76 = .ok (.iand, 1) := by decide +kernel
theorem d_M_step_77 : decode b_M_step 77 = .ok (.aaload, 1) := by decide +kernel
theorem d_M_step_78 : decode b_M_step 78 = .ok (.astore 6, 2) := by decide +kernel
theorem d_M_step_80 : decode b_M_step 80 = .ok (.aload_n 0, 1) := by decide +kernel
theorem d_M_step_81 : decode b_M_step 81 = .ok (.getfield 32, 3) := by decide +kernel
theorem d_M_step_84 : decode b_M_step 84 = .ok (.iload_n 1, 1) := by decide +kernel
theorem d_M_step_85 : decode b_M_step 85 = .ok (.invokevirtual 72, 3) := by decide +kernel
theorem d_M_step_88 : decode b_M_step 88 = .ok (.istore 7, 2) := by decide +kernel
theorem d_M_step_90 : decode b_M_step 90 = .ok (.iload 7, 2) := by decide +kernel
theorem d_M_step_92 : decode b_M_step 92 = .ok (.tableswitch 197 0 16 #[84, 178, 197, 197, 91, 117, 143, 197, 197, 197, 197, 197, 197, 197, 197, 197, 169], 84) := by decide +kernel
theorem d_M_step_176 : decode b_M_step 176 = .ok (.aload_n 0, 1) := by decide +kernel
theorem d_M_step_177 : decode b_M_step 177 = .ok (.iconst 1, 1) := by decide +kernel
theorem d_M_step_178 : decode b_M_step 178 = .ok (.putfield 40, 3) := by decide +kernel
theorem d_M_step_181 : decode b_M_step 181 = .ok (.iconst 0, 1) := by decide +kernel
theorem d_M_step_182 : decode b_M_step 182 = .ok (.ireturn, 1) := by decide +kernel
theorem d_M_step_183 : decode b_M_step 183 = .ok (.aload_n 0, 1) := by decide +kernel
theorem d_M_step_184 : decode b_M_step 184 = .ok (.aload 5, 2) := by decide +kernel
theorem d_M_step_186 : decode b_M_step 186 = .ok (.getfield 87, 3) := by decide +kernel
theorem d_M_step_189 : decode b_M_step 189 = .ok (.aload 6, 2) := by decide +kernel
theorem d_M_step_191 : decode b_M_step 191 = .ok (.getfield 87, 3) := by decide +kernel
theorem d_M_step_194 : decode b_M_step 194 = .ok (.if_icmp .ne 7, 3) := by decide +kernel
theorem d_M_step_197 : decode b_M_step 197 = .ok (.iconst 1, 1) := by decide +kernel
theorem d_M_step_198 : decode b_M_step 198 = .ok (.goto 4, 3) := by decide +kernel
theorem d_M_step_201 : decode b_M_step 201 = .ok (.iconst 0, 1) := by decide +kernel
theorem d_M_step_202 : decode b_M_step 202 = .ok (.iload 4, 2) := by decide +kernel
theorem d_M_step_204 : decode b_M_step 204 = .ok (.i2b, 1) := by decide +kernel
theorem d_M_step_205 : decode b_M_step 205 = .ok (.invokevirtual 94, 3) := by decide +kernel
theorem d_M_step_208 : decode b_M_step 208 = .ok (.ireturn, 1) := by decide +kernel
theorem d_M_step_209 : decode b_M_step 209 = .ok (.aload_n 0, 1) := by decide +kernel
theorem d_M_step_210 : decode b_M_step 210 = .ok (.aload 5, 2) := by decide +kernel
theorem d_M_step_212 : decode b_M_step 212 = .ok (.getfield 87, 3) := by decide +kernel
theorem d_M_step_215 : decode b_M_step 215 = .ok (.aload 6, 2) := by decide +kernel
theorem d_M_step_217 : decode b_M_step 217 = .ok (.getfield 87, 3) := by decide +kernel
theorem d_M_step_220 : decode b_M_step 220 = .ok (.if_icmp .ge 7, 3) := by decide +kernel
theorem d_M_step_223 : decode b_M_step 223 = .ok (.iconst 1, 1) := by decide +kernel
theorem d_M_step_224 : decode b_M_step 224 = .ok (.goto 4, 3) := by decide +kernel
theorem d_M_step_227 : decode b_M_step 227 = .ok (.iconst 0, 1) := by decide +kernel
theorem d_M_step_228 : decode b_M_step 228 = .ok (.iload 4, 2) := by decide +kernel
theorem d_M_step_230 : decode b_M_step 230 = .ok (.i2b, 1) := by decide +kernel
theorem d_M_step_231 : decode b_M_step 231 = .ok (.invokevirtual 94, 3) := by decide +kernel
theorem d_M_step_234 : decode b_M_step 234 = .ok (.ireturn, 1) := by decide +kernel
theorem d_M_step_235 : decode b_M_step 235 = .ok (.aload_n 0, 1) := by decide +kernel
theorem d_M_step_236 : decode b_M_step 236 = .ok (.aload 5, 2) := by decide +kernel
theorem d_M_step_238 : decode b_M_step 238 = .ok (.getfield 87, 3) := by decide +kernel
theorem d_M_step_241 : decode b_M_step 241 = .ok (.aload 6, 2) := by decide +kernel
theorem d_M_step_243 : decode b_M_step 243 = .ok (.getfield 87, 3) := by decide +kernel
theorem d_M_step_246 : decode b_M_step 246 = .ok (.if_icmp .eq 7, 3) := by decide +kernel
theorem d_M_step_249 : decode b_M_step 249 = .ok (.iconst 1, 1) := by decide +kernel
theorem d_M_step_250 : decode b_M_step 250 = .ok (.goto 4, 3) := by decide +kernel
theorem d_M_step_253 : decode b_M_step 253 = .ok (.iconst 0, 1) := by decide +kernel
theorem d_M_step_254 : decode b_M_step 254 = .ok (.iload 4, 2) := by decide +kernel
theorem d_M_step_256 : decode b_M_step 256 = .ok (.i2b, 1) := by decide +kernel
theorem d_M_step_257 : decode b_M_step 257 = .ok (.invokevirtual 94, 3) := by decide +kernel
theorem d_M_step_260 : decode b_M_step 260 = .ok (.ireturn, 1) := by decide +kernel
theorem d_M_step_261 : decode b_M_step 261 = .ok (.aload_n 0, 1) := by decide +kernel
theorem d_M_step_262 : decode b_M_step 262 = .ok (.aload 5, 2) := by decide +kernel
theorem d_M_step_264 : decode b_M_step 264 = .ok (.aload 6, 2) := by decide +kernel
theorem d_M_step_266 : decode b_M_step 266 = .ok (.invokevirtual 98, 3) := by decide +kernel
theorem d_M_step_269 : decode b_M_step 269 = .ok (.ireturn, 1) := by decide +kernel
theorem d_M_step_270 : decode b_M_step 270 = .ok (.aload 5, 2) := by decide +kernel
theorem d_M_step_272 : decode b_M_step 272 = .ok (.sipush 256, 3) := by decide +kernel
theorem d_M_step_275 : decode b_M_step 275 = .ok (.iload_n 3, 1) := by decide +kernel
theorem d_M_step_276 : decode b_M_step 276 = .ok (.imul, 1) := by decide +kernel
theorem d_M_step_277 : decode b_M_step 277 = .ok (.iload 4, 2) := by decide +kernel
theorem d_M_step_279 : decode b_M_step 279 = .ok (.iadd, 1) := by decide +kernel
theorem d_M_step_280 : decode b_M_step 280 = .ok (.invokevirtual 102, 3) := by decide +kernel
theorem d_M_step_283 : decode b_M_step 283 = .ok (.aload_n 0, 1) := by decide +kernel
theorem d_M_step_284 : decode b_M_step 284 = .ok (.iconst 0, 1) := by decide +kernel
theorem d_M_step_285 : decode b_M_step 285 = .ok (.invokevirtual 105, 3) := by decide +kernel
theorem d_M_step_288 : decode b_M_step 288 = .ok (.ireturn, 1) := by decide +kernel
theorem d_M_step_289 : decode b_M_step 289 = .ok (.aload_n 0, 1) := by decide +kernel
theorem d_M_step_290 : decode b_M_step 290 = .ok (.aload_n 0, 1) := by decide +kernel
theorem d_M_step_291 : decode b_M_step 291 = .ok (.iload 7, 2) := by decide +kernel
theorem d_M_step_293 : decode b_M_step 293 = .ok (.aload 5, 2) := by decide +kernel
theorem d_M_step_295 : decode b_M_step 295 = .ok (.aload 6, 2) := by decide +kernel
theorem d_M_step_297 : decode b_M_step 297 = .ok (.aload_n 0, 1) := by decide +kernel
theorem d_M_step_298 : decode b_M_step 298 = .ok (.getfield 11, 3) := by decide +kernel
theorem d_M_step_301 : decode b_M_step 301 = .ok (.iload 4, 2) := by decide +kernel
theorem d_M_step_303 : decode b_M_step 303 = .ok (.bipush 7, 2) := by decide +kernel
theorem d_M_step_305 : decode b_M_step 305 = .ok (.iand, 1) := by decide +kernel
theorem d_M_step_306 : decode b_M_step 306 = .ok (.aaload, 1) := by decide +kernel
theorem d_M_step_307 : decode b_M_step 307 = .ok (.iload 4, 2) := by decide +kernel
theorem d_M_step_309 : decode b_M_step 309 = .ok (.i2b, 1) := by decide +kernel
theorem d_M_step_310 : decode b_M_step 310 = .ok (.invokevirtual 108, 3) := by decide +kernel
theorem d_M_step_313 : decode b_M_step 313 = .ok (.invokevirtual 105, 3) := by decide +kernel
theorem d_M_step_316 : decode b_M_step 316 = .ok (.ireturn, 1) := by decide +kernel
theorem d_M_tagged_0 : decode b_M_tagged 0 = .ok (.iload_n 1, 1) := by decide +kernel
theorem d_M_tagged_1 : decode b_M_tagged 1 = .ok (.ifCond .lt 25, 3) := by decide +kernel
theorem d_M_tagged_4 : decode b_M_tagged 4 = .ok (.iload_n 1, 1) := by decide +kernel
theorem d_M_tagged_5 : decode b_M_tagged 5 = .ok (.bipush 64, 2) := by decide +kernel
theorem d_M_tagged_7 : decode b_M_tagged 7 = .ok (.if_icmp .ge 19, 3) := by decide +kernel
theorem d_M_tagged_10 : decode b_M_tagged 10 = .ok (.aload_n 0, 1) := by decide +kernel
theorem d_M_tagged_11 : decode b_M_tagged 11 = .ok (.getfield 32, 3) := by decide +kernel
theorem d_M_tagged_14 : decode b_M_tagged 14 = .ok (.getfield 75, 3) := by decide +kernel
theorem d_M_tagged_17 : decode b_M_tagged 17 = .ok (.iload_n 1, 1) := by decide +kernel
theorem d_M_tagged_18 : decode b_M_tagged 18 = .ok (.baload, 1) := by decide +kernel
theorem d_M_tagged_19 : decode b_M_tagged 19 = .ok (.ifCond .eq 7, 3) := by decide +kernel
theorem d_M_tagged_22 : decode b_M_tagged 22 = .ok (.iconst 1, 1) := by decide +kernel
theorem d_M_tagged_23 : decode b_M_tagged 23 = .ok (.goto 4, 3) := by decide +kernel
theorem d_M_tagged_26 : decode b_M_tagged 26 = .ok (.iconst 0, 1) := by decide +kernel
theorem d_M_tagged_27 : decode b_M_tagged 27 = .ok (.ireturn, 1) := by decide +kernel
theorem d_M_takeException_0 : decode b_M_takeException 0 = .ok (.aload_n 0, 1) := by decide +kernel
theorem d_M_takeException_1 : decode b_M_takeException 1 = .ok (.iload_n 1, 1) := by decide +kernel
theorem d_M_takeException_2 : decode b_M_takeException 2 = .ok (.putfield 44, 3) := by decide +kernel
theorem d_M_takeException_5 : decode b_M_takeException 5 = .ok (.aload_n 0, 1) := by decide +kernel
theorem d_M_takeException_6 : decode b_M_takeException 6 = .ok (.getfield 23, 3) := by decide +kernel
theorem d_M_takeException_9 : decode b_M_takeException 9 = .ok (.aload_n 0, 1) := by decide +kernel
theorem d_M_takeException_10 : decode b_M_takeException 10 = .ok (.getfield 16, 3) := by decide +kernel
theorem d_M_takeException_13 : decode b_M_takeException 13 = .ok (.invokevirtual 79, 3) := by decide +kernel
theorem d_M_takeException_16 : decode b_M_takeException 16 = .ok (.aload_n 0, 1) := by decide +kernel
theorem d_M_takeException_17 : decode b_M_takeException 17 = .ok (.getfield 20, 3) := by decide +kernel
theorem d_M_takeException_20 : decode b_M_takeException 20 = .ok (.getfield 83, 3) := by decide +kernel
theorem d_M_takeException_23 : decode b_M_takeException 23 = .ok (.ifCond .eq 17, 3) := by decide +kernel
theorem d_M_takeException_26 : decode b_M_takeException 26 = .ok (.aload_n 0, 1) := by decide +kernel
theorem d_M_takeException_27 : decode b_M_takeException 27 = .ok (.getfield 16, 3) := by decide +kernel
theorem d_M_takeException_30 : decode b_M_takeException 30 = .ok (.aload_n 0, 1) := by decide +kernel
theorem d_M_takeException_31 : decode b_M_takeException 31 = .ok (.getfield 20, 3) := by decide +kernel
theorem d_M_takeException_34 : decode b_M_takeException 34 = .ok (.invokevirtual 79, 3) := by decide +kernel
theorem d_M_takeException_37 : decode b_M_takeException 37 = .ok (.goto 8, 3) := by decide +kernel
theorem d_M_takeException_40 : decode b_M_takeException 40 = .ok (.aload_n 0, 1) := by decide +kernel
theorem d_M_takeException_41 : decode b_M_takeException 41 = .ok (.iconst 2, 1) := by decide +kernel
theorem d_M_takeException_42 : decode b_M_takeException 42 = .ok (.putfield 40, 3) := by decide +kernel
theorem d_M_takeException_45 : decode b_M_takeException 45 = .ok (.return_, 1) := by decide +kernel
theorem d_M_unseal_0 : decode b_M_unseal 0 = .ok (.aload_n 1, 1) := by decide +kernel
theorem d_M_unseal_1 : decode b_M_unseal 1 = .ok (.getfield 83, 3) := by decide +kernel
theorem d_M_unseal_4 : decode b_M_unseal 4 = .ok (.ifCond .eq 10, 3) := by decide +kernel
theorem d_M_unseal_7 : decode b_M_unseal 7 = .ok (.aload_n 2, 1) := by decide +kernel
theorem d_M_unseal_8 : decode b_M_unseal 8 = .ok (.getfield 83, 3) := by decide +kernel
theorem d_M_unseal_11 : decode b_M_unseal 11 = .ok (.ifCond .ne 5, 3) := by decide +kernel
theorem d_M_unseal_14 : decode b_M_unseal 14 = .ok (.iconst 1, 1) := by decide +kernel
theorem d_M_unseal_15 : decode b_M_unseal 15 = .ok (.ireturn, 1) := by decide +kernel
theorem d_M_unseal_16 : decode b_M_unseal 16 = .ok (.aload_n 1, 1) := by decide +kernel
theorem d_M_unseal_17 : decode b_M_unseal 17 = .ok (.getfield 115, 3) := by decide +kernel
theorem d_M_unseal_20 : decode b_M_unseal 20 = .ok (.iconst 1, 1) := by decide +kernel
theorem d_M_unseal_21 : decode b_M_unseal 21 = .ok (.if_icmp .le 10, 3) := by decide +kernel
theorem d_M_unseal_24 : decode b_M_unseal 24 = .ok (.aload_n 2, 1) := by decide +kernel
theorem d_M_unseal_25 : decode b_M_unseal 25 = .ok (.getfield 115, 3) := by decide +kernel
theorem d_M_unseal_28 : decode b_M_unseal 28 = .ok (.ifCond .eq 5, 3) := by decide +kernel
theorem d_M_unseal_31 : decode b_M_unseal 31 = .ok (.iconst 2, 1) := by decide +kernel
theorem d_M_unseal_32 : decode b_M_unseal 32 = .ok (.ireturn, 1) := by decide +kernel
theorem d_M_unseal_33 : decode b_M_unseal 33 = .ok (.aload_n 2, 1) := by decide +kernel
theorem d_M_unseal_34 : decode b_M_unseal 34 = .ok (.getfield 87, 3) := by decide +kernel
theorem d_M_unseal_37 : decode b_M_unseal 37 = .ok (.aload_n 1, 1) := by decide +kernel
theorem d_M_unseal_38 : decode b_M_unseal 38 = .ok (.getfield 115, 3) := by decide +kernel
theorem d_M_unseal_41 : decode b_M_unseal 41 = .ok (.if_icmp .eq 6, 3) := by decide +kernel
theorem d_M_unseal_44 : decode b_M_unseal 44 = .ok (.bipush 7, 2) := by decide +kernel
theorem d_M_unseal_46 : decode b_M_unseal 46 = .ok (.ireturn, 1) := by decide +kernel
theorem d_M_unseal_47 : decode b_M_unseal 47 = .ok (.aload_n 2, 1) := by decide +kernel
theorem d_M_unseal_48 : decode b_M_unseal 48 = .ok (.bipush 64, 2) := by decide +kernel
theorem d_M_unseal_50 : decode b_M_unseal 50 = .ok (.invokevirtual 118, 3) := by decide +kernel
theorem d_M_unseal_53 : decode b_M_unseal 53 = .ok (.ifCond .ne 5, 3) := by decide +kernel
theorem d_M_unseal_56 : decode b_M_unseal 56 = .ok (.iconst 3, 1) := by decide +kernel
theorem d_M_unseal_57 : decode b_M_unseal 57 = .ok (.ireturn, 1) := by decide +kernel
theorem d_M_unseal_58 : decode b_M_unseal 58 = .ok (.aload_n 2, 1) := by decide +kernel
theorem d_M_unseal_59 : decode b_M_unseal 59 = .ok (.invokevirtual 184, 3) := by decide +kernel
theorem d_M_unseal_62 : decode b_M_unseal 62 = .ok (.ifCond .ne 5, 3) := by decide +kernel
theorem d_M_unseal_65 : decode b_M_unseal 65 = .ok (.iconst 4, 1) := by decide +kernel
theorem d_M_unseal_66 : decode b_M_unseal 66 = .ok (.ireturn, 1) := by decide +kernel
theorem d_M_unseal_67 : decode b_M_unseal 67 = .ok (.aload_n 0, 1) := by decide +kernel
theorem d_M_unseal_68 : decode b_M_unseal 68 = .ok (.aload_n 1, 1) := by decide +kernel
theorem d_M_unseal_69 : decode b_M_unseal 69 = .ok (.invokevirtual 79, 3) := by decide +kernel
theorem d_M_unseal_72 : decode b_M_unseal 72 = .ok (.aload_n 0, 1) := by decide +kernel
theorem d_M_unseal_73 : decode b_M_unseal 73 = .ok (.iconst 0, 1) := by decide +kernel
theorem d_M_unseal_74 : decode b_M_unseal 74 = .ok (.putfield 115, 3) := by decide +kernel
theorem d_M_unseal_77 : decode b_M_unseal 77 = .ok (.iconst 0, 1) := by decide +kernel
theorem d_M_unseal_78 : decode b_M_unseal 78 = .ok (.ireturn, 1) := by decide +kernel
theorem d_M_withAddress_0 : decode b_M_withAddress 0 = .ok (.aload_n 1, 1) := by decide +kernel
theorem d_M_withAddress_1 : decode b_M_withAddress 1 = .ok (.getfield 83, 3) := by decide +kernel
theorem d_M_withAddress_4 : decode b_M_withAddress 4 = .ok (.ifCond .eq 12, 3) := by decide +kernel
theorem d_M_withAddress_7 : decode b_M_withAddress 7 = .ok (.aload_n 1, 1) := by decide +kernel
theorem d_M_withAddress_8 : decode b_M_withAddress 8 = .ok (.getfield 115, 3) := by decide +kernel
theorem d_M_withAddress_11 : decode b_M_withAddress 11 = .ok (.ifCond .eq 5, 3) := by decide +kernel
theorem d_M_withAddress_14 : decode b_M_withAddress 14 = .ok (.iconst 2, 1) := by decide +kernel
theorem d_M_withAddress_15 : decode b_M_withAddress 15 = .ok (.ireturn, 1) := by decide +kernel
theorem d_M_withAddress_16 : decode b_M_withAddress 16 = .ok (.aload_n 0, 1) := by decide +kernel
theorem d_M_withAddress_17 : decode b_M_withAddress 17 = .ok (.aload_n 1, 1) := by decide +kernel
theorem d_M_withAddress_18 : decode b_M_withAddress 18 = .ok (.invokevirtual 79, 3) := by decide +kernel
theorem d_M_withAddress_21 : decode b_M_withAddress 21 = .ok (.aload_n 0, 1) := by decide +kernel
theorem d_M_withAddress_22 : decode b_M_withAddress 22 = .ok (.iload_n 2, 1) := by decide +kernel
theorem d_M_withAddress_23 : decode b_M_withAddress 23 = .ok (.invokevirtual 112, 3) := by decide +kernel
theorem d_M_withAddress_26 : decode b_M_withAddress 26 = .ok (.iconst 0, 1) := by decide +kernel
theorem d_M_withAddress_27 : decode b_M_withAddress 27 = .ok (.ireturn, 1) := by decide +kernel
theorem d_M_withBounds_0 : decode b_M_withBounds 0 = .ok (.aload_n 1, 1) := by decide +kernel
theorem d_M_withBounds_1 : decode b_M_withBounds 1 = .ok (.getfield 83, 3) := by decide +kernel
theorem d_M_withBounds_4 : decode b_M_withBounds 4 = .ok (.ifCond .ne 5, 3) := by decide +kernel
theorem d_M_withBounds_7 : decode b_M_withBounds 7 = .ok (.iconst 1, 1) := by decide +kernel
theorem d_M_withBounds_8 : decode b_M_withBounds 8 = .ok (.ireturn, 1) := by decide +kernel
theorem d_M_withBounds_9 : decode b_M_withBounds 9 = .ok (.aload_n 1, 1) := by decide +kernel
theorem d_M_withBounds_10 : decode b_M_withBounds 10 = .ok (.getfield 115, 3) := by decide +kernel
theorem d_M_withBounds_13 : decode b_M_withBounds 13 = .ok (.ifCond .eq 5, 3) := by decide +kernel
theorem d_M_withBounds_16 : decode b_M_withBounds 16 = .ok (.iconst 2, 1) := by decide +kernel
theorem d_M_withBounds_17 : decode b_M_withBounds 17 = .ok (.ireturn, 1) := by decide +kernel
theorem d_M_withBounds_18 : decode b_M_withBounds 18 = .ok (.aload_n 1, 1) := by decide +kernel
theorem d_M_withBounds_19 : decode b_M_withBounds 19 = .ok (.getfield 87, 3) := by decide +kernel
theorem d_M_withBounds_22 : decode b_M_withBounds 22 = .ok (.i2l, 1) := by decide +kernel
theorem d_M_withBounds_23 : decode b_M_withBounds 23 = .ok (.iload_n 2, 1) := by decide +kernel
theorem d_M_withBounds_24 : decode b_M_withBounds 24 = .ok (.i2l, 1) := by decide +kernel
theorem d_M_withBounds_25 : decode b_M_withBounds 25 = .ok (.ladd, 1) := by decide +kernel
theorem d_M_withBounds_26 : decode b_M_withBounds 26 = .ok (.lstore 4, 2) := by decide +kernel
theorem d_M_withBounds_28 : decode b_M_withBounds 28 = .ok (.iload_n 2, 1) := by decide +kernel
theorem d_M_withBounds_29 : decode b_M_withBounds 29 = .ok (.ifCond .lt 25, 3) := by decide +kernel
theorem d_M_withBounds_32 : decode b_M_withBounds 32 = .ok (.aload_n 1, 1) := by decide +kernel
theorem d_M_withBounds_33 : decode b_M_withBounds 33 = .ok (.getfield 87, 3) := by decide +kernel
theorem d_M_withBounds_36 : decode b_M_withBounds 36 = .ok (.aload_n 1, 1) := by decide +kernel
theorem d_M_withBounds_37 : decode b_M_withBounds 37 = .ok (.getfield 168, 3) := by decide +kernel
theorem d_M_withBounds_40 : decode b_M_withBounds 40 = .ok (.if_icmp .lt 14, 3) := by decide +kernel
theorem d_M_withBounds_43 : decode b_M_withBounds 43 = .ok (.lload 4, 2) := by decide +kernel
theorem d_M_withBounds_45 : decode b_M_withBounds 45 = .ok (.aload_n 1, 1) := by decide +kernel
theorem d_M_withBounds_46 : decode b_M_withBounds 46 = .ok (.getfield 171, 3) := by decide +kernel
theorem d_M_withBounds_49 : decode b_M_withBounds 49 = .ok (.i2l, 1) := by decide +kernel
theorem d_M_withBounds_50 : decode b_M_withBounds 50 = .ok (.lcmp, 1) := by decide +kernel
theorem d_M_withBounds_51 : decode b_M_withBounds 51 = .ok (.ifCond .le 5, 3) := by decide +kernel
theorem d_M_withBounds_54 : decode b_M_withBounds 54 = .ok (.iconst 4, 1) := by decide +kernel
theorem d_M_withBounds_55 : decode b_M_withBounds 55 = .ok (.ireturn, 1) := by decide +kernel
theorem d_M_withBounds_56 : decode b_M_withBounds 56 = .ok (.aload_n 1, 1) := by decide +kernel
theorem d_M_withBounds_57 : decode b_M_withBounds 57 = .ok (.getfield 87, 3) := by decide +kernel
theorem d_M_withBounds_60 : decode b_M_withBounds 60 = .ok (.istore 6, 2) := by decide +kernel
theorem d_M_withBounds_62 : decode b_M_withBounds 62 = .ok (.lload 4, 2) := by decide +kernel
theorem d_M_withBounds_64 : decode b_M_withBounds 64 = .ok (.l2i, 1) := by decide +kernel
theorem d_M_withBounds_65 : decode b_M_withBounds 65 = .ok (.istore 7, 2) := by decide +kernel
theorem d_M_withBounds_67 : decode b_M_withBounds 67 = .ok (.iload 6, 2) := by decide +kernel
theorem d_M_withBounds_69 : decode b_M_withBounds 69 = .ok (.iload 7, 2) := by decide +kernel
theorem d_M_withBounds_71 : decode b_M_withBounds 71 = .ok (.invokestatic 174, 3) := by decide +kernel
theorem d_M_withBounds_74 : decode b_M_withBounds 74 = .ok (.istore 8, 2) := by decide +kernel
theorem d_M_withBounds_76 : decode b_M_withBounds 76 = .ok (.iload 8, 2) := by decide +kernel
theorem d_M_withBounds_78 : decode b_M_withBounds 78 = .ok (.ifCond .ne 17, 3) := by decide +kernel
theorem d_M_withBounds_81 : decode b_M_withBounds 81 = .ok (.iload 6, 2) := by decide +kernel
theorem d_M_withBounds_83 : decode b_M_withBounds 83 = .ok (.invokestatic 178, 3) := by decide +kernel
theorem d_M_withBounds_86 : decode b_M_withBounds 86 = .ok (.istore 6, 2) := by decide +kernel
theorem d_M_withBounds_88 : decode b_M_withBounds 88 = .ok (.iload 7, 2) := by decide +kernel
theorem d_M_withBounds_90 : decode b_M_withBounds 90 = .ok (.invokestatic 181, 3) := by decide +kernel
theorem d_M_withBounds_93 : decode b_M_withBounds 93 = .ok (.istore 7, 2) := by decide +kernel
theorem d_M_withBounds_95 : decode b_M_withBounds 95 = .ok (.iload 6, 2) := by decide +kernel
theorem d_M_withBounds_97 : decode b_M_withBounds 97 = .ok (.aload_n 1, 1) := by decide +kernel
theorem d_M_withBounds_98 : decode b_M_withBounds 98 = .ok (.getfield 168, 3) := by decide +kernel
theorem d_M_withBounds_101 : decode b_M_withBounds 101 = .ok (.if_icmp .lt 12, 3) := by decide +kernel
theorem d_M_withBounds_104 : decode b_M_withBounds 104 = .ok (.iload 7, 2) := by decide +kernel
theorem d_M_withBounds_106 : decode b_M_withBounds 106 = .ok (.aload_n 1, 1) := by decide +kernel
theorem d_M_withBounds_107 : decode b_M_withBounds 107 = .ok (.getfield 171, 3) := by decide +kernel
theorem d_M_withBounds_110 : decode b_M_withBounds 110 = .ok (.if_icmp .le 5, 3) := by decide +kernel
theorem d_M_withBounds_113 : decode b_M_withBounds 113 = .ok (.iconst 4, 1) := by decide +kernel
theorem d_M_withBounds_114 : decode b_M_withBounds 114 = .ok (.ireturn, 1) := by decide +kernel
theorem d_M_withBounds_115 : decode b_M_withBounds 115 = .ok (.iload_n 3, 1) := by decide +kernel
theorem d_M_withBounds_116 : decode b_M_withBounds 116 = .ok (.ifCond .eq 11, 3) := by decide +kernel
theorem d_M_withBounds_119 : decode b_M_withBounds 119 = .ok (.iload 8, 2) := by decide +kernel
theorem d_M_withBounds_121 : decode b_M_withBounds 121 = .ok (.ifCond .ne 6, 3) := by decide +kernel
theorem d_M_withBounds_124 : decode b_M_withBounds 124 = .ok (.bipush 6, 2) := by decide +kernel
theorem d_M_withBounds_126 : decode b_M_withBounds 126 = .ok (.ireturn, 1) := by decide +kernel
theorem d_M_withBounds_127 : decode b_M_withBounds 127 = .ok (.aload_n 0, 1) := by decide +kernel
theorem d_M_withBounds_128 : decode b_M_withBounds 128 = .ok (.aload_n 1, 1) := by decide +kernel
theorem d_M_withBounds_129 : decode b_M_withBounds 129 = .ok (.invokevirtual 79, 3) := by decide +kernel
theorem d_M_withBounds_132 : decode b_M_withBounds 132 = .ok (.aload_n 0, 1) := by decide +kernel
theorem d_M_withBounds_133 : decode b_M_withBounds 133 = .ok (.iload 6, 2) := by decide +kernel
theorem d_M_withBounds_135 : decode b_M_withBounds 135 = .ok (.putfield 168, 3) := by decide +kernel
theorem d_M_withBounds_138 : decode b_M_withBounds 138 = .ok (.aload_n 0, 1) := by decide +kernel
theorem d_M_withBounds_139 : decode b_M_withBounds 139 = .ok (.iload 7, 2) := by decide +kernel
theorem d_M_withBounds_141 : decode b_M_withBounds 141 = .ok (.putfield 171, 3) := by decide +kernel
theorem d_M_withBounds_144 : decode b_M_withBounds 144 = .ok (.iconst 0, 1) := by decide +kernel
theorem d_M_withBounds_145 : decode b_M_withBounds 145 = .ok (.ireturn, 1) := by decide +kernel
theorem d_M_withPermissions_0 : decode b_M_withPermissions 0 = .ok (.aload_n 1, 1) := by decide +kernel
theorem d_M_withPermissions_1 : decode b_M_withPermissions 1 = .ok (.getfield 83, 3) := by decide +kernel
theorem d_M_withPermissions_4 : decode b_M_withPermissions 4 = .ok (.ifCond .eq 12, 3) := by decide +kernel
theorem d_M_withPermissions_7 : decode b_M_withPermissions 7 = .ok (.aload_n 1, 1) := by decide +kernel
theorem d_M_withPermissions_8 : decode b_M_withPermissions 8 = .ok (.getfield 115, 3) := by decide +kernel
theorem d_M_withPermissions_11 : decode b_M_withPermissions 11 = .ok (.ifCond .eq 5, 3) := by decide +kernel
theorem d_M_withPermissions_14 : decode b_M_withPermissions 14 = .ok (.iconst 2, 1) := by decide +kernel
theorem d_M_withPermissions_15 : decode b_M_withPermissions 15 = .ok (.ireturn, 1) := by decide +kernel
theorem d_M_withPermissions_16 : decode b_M_withPermissions 16 = .ok (.aload_n 0, 1) := by decide +kernel
theorem d_M_withPermissions_17 : decode b_M_withPermissions 17 = .ok (.aload_n 1, 1) := by decide +kernel
theorem d_M_withPermissions_18 : decode b_M_withPermissions 18 = .ok (.invokevirtual 79, 3) := by decide +kernel
theorem d_M_withPermissions_21 : decode b_M_withPermissions 21 = .ok (.aload_n 0, 1) := by decide +kernel
theorem d_M_withPermissions_22 : decode b_M_withPermissions 22 = .ok (.aload_n 1, 1) := by decide +kernel
theorem d_M_withPermissions_23 : decode b_M_withPermissions 23 = .ok (.getfield 165, 3) := by decide +kernel
theorem d_M_withPermissions_26 : decode b_M_withPermissions 26 = .ok (.iload_n 2, 1) := by decide +kernel
theorem d_M_withPermissions_27 : decode b_M_withPermissions 27 = .ok (.iand, 1) := by decide +kernel
theorem d_M_withPermissions_28 : decode b_M_withPermissions 28 = .ok (.putfield 165, 3) := by decide +kernel
theorem d_M_withPermissions_31 : decode b_M_withPermissions 31 = .ok (.iconst 0, 1) := by decide +kernel
theorem d_M_withPermissions_32 : decode b_M_withPermissions 32 = .ok (.ireturn, 1) := by decide +kernel
theorem d_M_withoutTag_0 : decode b_M_withoutTag 0 = .ok (.aload_n 0, 1) := by decide +kernel
theorem d_M_withoutTag_1 : decode b_M_withoutTag 1 = .ok (.aload_n 1, 1) := by decide +kernel
theorem d_M_withoutTag_2 : decode b_M_withoutTag 2 = .ok (.invokevirtual 79, 3) := by decide +kernel
theorem d_M_withoutTag_5 : decode b_M_withoutTag 5 = .ok (.aload_n 0, 1) := by decide +kernel
theorem d_M_withoutTag_6 : decode b_M_withoutTag 6 = .ok (.iconst 0, 1) := by decide +kernel
theorem d_M_withoutTag_7 : decode b_M_withoutTag 7 = .ok (.putfield 83, 3) := by decide +kernel
theorem d_M_withoutTag_10 : decode b_M_withoutTag 10 = .ok (.iconst 0, 1) := by decide +kernel
theorem d_M_withoutTag_11 : decode b_M_withoutTag 11 = .ok (.ireturn, 1) := by decide +kernel
end
section
theorem d_R_access_0 : decode b_R_access 0 = .ok (.aload_n 0, 1) := by decide +kernel
theorem d_R_access_1 : decode b_R_access 1 = .ok (.getfield 26, 3) := by decide +kernel
theorem d_R_access_4 : decode b_R_access 4 = .ok (.aload_n 0, 1) := by decide +kernel
theorem d_R_access_5 : decode b_R_access 5 = .ok (.getfield 57, 3) := by decide +kernel
theorem d_R_access_8 : decode b_R_access 8 = .ok (.iaload, 1) := by decide +kernel
theorem d_R_access_9 : decode b_R_access 9 = .ok (.aload_n 0, 1) := by decide +kernel
theorem d_R_access_10 : decode b_R_access 10 = .ok (.getfield 82, 3) := by decide +kernel
theorem d_R_access_13 : decode b_R_access 13 = .ok (.iadd, 1) := by decide +kernel
theorem d_R_access_14 : decode b_R_access 14 = .ok (.istore_n 1, 1) := by decide +kernel
theorem d_R_access_15 : decode b_R_access 15 = .ok (.aload_n 0, 1) := by decide +kernel
theorem d_R_access_16 : decode b_R_access 16 = .ok (.getfield 72, 3) := by decide +kernel
theorem d_R_access_19 : decode b_R_access 19 = .ok (.tableswitch 171 17 22 #[37, 54, 70, 171, 171, 78], 37) := by decide +kernel
theorem d_R_access_56 : decode b_R_access 56 = .ok (.aload_n 0, 1) := by decide +kernel
theorem d_R_access_57 : decode b_R_access 57 = .ok (.aload_n 0, 1) := by decide +kernel
theorem d_R_access_58 : decode b_R_access 58 = .ok (.getfield 79, 3) := by decide +kernel
theorem d_R_access_61 : decode b_R_access 61 = .ok (.aload_n 0, 1) := by decide +kernel
theorem d_R_access_62 : decode b_R_access 62 = .ok (.getfield 7, 3) := by decide +kernel
theorem d_R_access_65 : decode b_R_access 65 = .ok (.iload_n 1, 1) := by decide +kernel
theorem d_R_access_66 : decode b_R_access 66 = .ok (.iaload, 1) := by decide +kernel
theorem d_R_access_67 : decode b_R_access 67 = .ok (.invokevirtual 114, 3) := by decide +kernel
theorem d_R_access_70 : decode b_R_access 70 = .ok (.goto 138, 3) := by decide +kernel
theorem d_R_access_73 : decode b_R_access 73 = .ok (.aload_n 0, 1) := by decide +kernel
theorem d_R_access_74 : decode b_R_access 74 = .ok (.aload_n 0, 1) := by decide +kernel
theorem d_R_access_75 : decode b_R_access 75 = .ok (.getfield 79, 3) := by decide +kernel
theorem d_R_access_78 : decode b_R_access 78 = .ok (.aload_n 0, 1) := by decide +kernel
theorem d_R_access_79 : decode b_R_access 79 = .ok (.iload_n 1, 1) := by decide +kernel
theorem d_R_access_80 : decode b_R_access 80 = .ok (.invokevirtual 111, 3) := by decide +kernel
theorem d_R_access_83 : decode b_R_access 83 = .ok (.invokevirtual 114, 3) := by decide +kernel
theorem d_R_access_86 : decode b_R_access 86 = .ok (.goto 122, 3) := by decide +kernel
theorem d_R_access_89 : decode b_R_access 89 = .ok (.aload_n 0, 1) := by decide +kernel
theorem d_R_access_90 : decode b_R_access 90 = .ok (.iload_n 1, 1) := by decide +kernel
theorem d_R_access_91 : decode b_R_access 91 = .ok (.invokevirtual 118, 3) := by decide +kernel
theorem d_R_access_94 : decode b_R_access 94 = .ok (.goto 114, 3) := by decide +kernel
theorem d_R_access_97 : decode b_R_access 97 = .ok (.aload_n 0, 1) := by decide +kernel
theorem d_R_access_98 : decode b_R_access 98 = .ok (.iload_n 1, 1) := by decide +kernel
theorem d_R_access_99 : decode b_R_access 99 = .ok (.aload_n 0, 1) := by decide +kernel
theorem d_R_access_100 : decode b_R_access 100 = .ok (.getfield 26, 3) := by decide +kernel
theorem d_R_access_103 : decode b_R_access 103 = .ok (.aload_n 0, 1) := by decide +kernel
theorem d_R_access_104 : decode b_R_access 104 = .ok (.getfield 79, 3) := by decide +kernel
theorem d_R_access_107 : decode b_R_access 107 = .ok (.iaload, 1) := by decide +kernel
theorem d_R_access_108 : decode b_R_access 108 = .ok (.iconst 4, 1) := by decide +kernel
theorem d_R_access_109 : decode b_R_access 109 = .ok (.invokevirtual 122, 3) := by decide +kernel
theorem d_R_access_112 : decode b_R_access 112 = .ok (.aload_n 0, 1) := by decide +kernel
theorem d_R_access_113 : decode b_R_access 113 = .ok (.iload_n 1, 1) := by decide +kernel
theorem d_R_access_114 : decode b_R_access 114 = .ok (.iconst 4, 1) := by decide +kernel
theorem d_R_access_115 : decode b_R_access 115 = .ok (.iadd, 1) := by decide +kernel
theorem d_R_access_116 : decode b_R_access 116 = .ok (.aload_n 0, 1) := by decide +kernel
theorem d_R_access_117 : decode b_R_access 117 = .ok (.getfield 20, 3) := by decide +kernel
theorem d_R_access_120 : decode b_R_access 120 = .ok (.aload_n 0, 1) := by decide +kernel
theorem d_R_access_121 : decode b_R_access 121 = .ok (.getfield 79, 3) := by decide +kernel
theorem d_R_access_124 : decode b_R_access 124 = .ok (.iaload, 1) := by decide +kernel
theorem d_R_access_125 : decode b_R_access 125 = .ok (.sipush 1024, 3) := by decide +kernel
theorem d_R_access_128 : decode b_R_access 128 = .ok (.aload_n 0, 1) := by decide +kernel
theorem d_R_access_129 : decode b_R_access 129 = .ok (.getfield 23, 3) := by decide +kernel
theorem d_R_access_132 : decode b_R_access 132 = .ok (.aload_n 0, 1) := by decide +kernel
theorem d_R_access_133 : decode b_R_access 133 = .ok (.getfield 79, 3) := by decide +kernel
theorem d_R_access_136 : decode b_R_access 136 = .ok (.iaload, 1) := by decide +kernel
theorem d_R_access_137 : decode b_R_access 137 = .ok (.imul, 1) := by decide +kernel
theorem d_R_access_138 : decode b_R_access 138 = .ok (.iadd, 1) := by decide +kernel
theorem d_R_access_139 : decode b_R_access 139 = .ok (.ldc 126, 2) := by decide +kernel
theorem d_R_access_141 : decode b_R_access 141 = .ok (.aload_n 0, 1) := by decide +kernel
theorem d_R_access_142 : decode b_R_access 142 = .ok (.getfield 32, 3) := by decide +kernel
theorem d_R_access_145 : decode b_R_access 145 = .ok (.aload_n 0, 1) := by decide +kernel
theorem d_R_access_146 : decode b_R_access 146 = .ok (.getfield 79, 3) := by decide +kernel
theorem d_R_access_149 : decode b_R_access 149 = .ok (.iaload, 1) := by decide +kernel
theorem d_R_access_150 : decode b_R_access 150 = .ok (.imul, 1) := by decide +kernel
theorem d_R_access_151 : decode b_R_access 151 = .ok (.iadd, 1) := by decide +kernel
theorem d_R_access_152 : decode b_R_access 152 = .ok (.aload_n 0, 1) := by decide +kernel
theorem d_R_access_153 : decode b_R_access 153 = .ok (.getfield 29, 3) := by decide +kernel
theorem d_R_access_156 : decode b_R_access 156 = .ok (.aload_n 0, 1) := by decide +kernel
theorem d_R_access_157 : decode b_R_access 157 = .ok (.getfield 79, 3) := by decide +kernel
theorem d_R_access_160 : decode b_R_access 160 = .ok (.iaload, 1) := by decide +kernel
theorem d_R_access_161 : decode b_R_access 161 = .ok (.bipush 24, 2) := by decide +kernel
theorem d_R_access_163 : decode b_R_access 163 = .ok (.ishl, 1) := by decide +kernel
theorem d_R_access_164 : decode b_R_access 164 = .ok (.iadd, 1) := by decide +kernel
theorem d_R_access_165 : decode b_R_access 165 = .ok (.iconst 4, 1) := by decide +kernel
theorem d_R_access_166 : decode b_R_access 166 = .ok (.invokevirtual 122, 3) := by decide +kernel
theorem d_R_access_169 : decode b_R_access 169 = .ok (.aload_n 0, 1) := by decide +kernel
theorem d_R_access_170 : decode b_R_access 170 = .ok (.getfield 13, 3) := by decide +kernel
theorem d_R_access_173 : decode b_R_access 173 = .ok (.iload_n 1, 1) := by decide +kernel
theorem d_R_access_174 : decode b_R_access 174 = .ok (.bipush 8, 2) := by decide +kernel
theorem d_R_access_176 : decode b_R_access 176 = .ok (.idiv, 1) := by decide +kernel
theorem d_R_access_177 : decode b_R_access 177 = .ok (.aload_n 0, 1) := by decide +kernel
theorem d_R_access_178 : decode b_R_access 178 = .ok (.getfield 17, 3) := by decide +kernel
theorem d_R_access_181 : decode b_R_access 181 = .ok (.aload_n 0, 1) := by decide +kernel
theorem d_R_access_182 : decode b_R_access 182 = .ok (.getfield 79, 3) := by decide +kernel
theorem d_R_access_185 : decode b_R_access 185 = .ok (.baload, 1) := by decide +kernel
theorem d_R_access_186 : decode b_R_access 186 = .ok (.bastore, 1) := by decide +kernel
theorem d_R_access_187 : decode b_R_access 187 = .ok (.goto 21, 3) := by decide +kernel
theorem d_R_access_190 : decode b_R_access 190 = .ok (.aload_n 0, 1) := by decide +kernel
theorem d_R_access_191 : decode b_R_access 191 = .ok (.iload_n 1, 1) := by decide +kernel
theorem d_R_access_192 : decode b_R_access 192 = .ok (.aload_n 0, 1) := by decide +kernel
theorem d_R_access_193 : decode b_R_access 193 = .ok (.getfield 26, 3) := by decide +kernel
theorem d_R_access_196 : decode b_R_access 196 = .ok (.aload_n 0, 1) := by decide +kernel
theorem d_R_access_197 : decode b_R_access 197 = .ok (.getfield 79, 3) := by decide +kernel
theorem d_R_access_200 : decode b_R_access 200 = .ok (.iaload, 1) := by decide +kernel
theorem d_R_access_201 : decode b_R_access 201 = .ok (.aload_n 0, 1) := by decide +kernel
theorem d_R_access_202 : decode b_R_access 202 = .ok (.invokevirtual 85, 3) := by decide +kernel
theorem d_R_access_205 : decode b_R_access 205 = .ok (.invokevirtual 122, 3) := by decide +kernel
theorem d_R_access_208 : decode b_R_access 208 = .ok (.return_, 1) := by decide +kernel
theorem d_R_allow_0 : decode b_R_allow 0 = .ok (.aload_n 0, 1) := by decide +kernel
theorem d_R_allow_1 : decode b_R_allow 1 = .ok (.iload_n 1, 1) := by decide +kernel
theorem d_R_allow_2 : decode b_R_allow 2 = .ok (.invokevirtual 47, 3) := by decide +kernel
theorem d_R_allow_5 : decode b_R_allow 5 = .ok (.istore 6, 2) := by decide +kernel
theorem d_R_allow_7 : decode b_R_allow 7 = .ok (.iload 6, 2) := by decide +kernel
theorem d_R_allow_9 : decode b_R_allow 9 = .ok (.ifCond .le 6, 3) := by decide +kernel
theorem d_R_allow_12 : decode b_R_allow 12 = .ok (.iload 6, 2) := by decide +kernel
theorem d_R_allow_14 : decode b_R_allow 14 = .ok (.ireturn, 1) := by decide +kernel
theorem d_R_allow_15 : decode b_R_allow 15 = .ok (.aload_n 0, 1) := by decide +kernel
theorem d_R_allow_16 : decode b_R_allow 16 = .ok (.iload_n 1, 1) := by decide +kernel
theorem d_R_allow_17 : decode b_R_allow 17 = .ok (.iload 5, 2) := by decide +kernel
theorem d_R_allow_19 : decode b_R_allow 19 = .ok (.invokevirtual 51, 3) := by decide +kernel
theorem d_R_allow_22 : decode b_R_allow 22 = .ok (.ifCond .ne 5, 3) := by decide +kernel
theorem d_R_allow_25 : decode b_R_allow 25 = .ok (.iconst 3, 1) := by decide +kernel
theorem d_R_allow_26 : decode b_R_allow 26 = .ok (.ireturn, 1) := by decide +kernel
theorem d_R_allow_27 : decode b_R_allow 27 = .ok (.aload_n 0, 1) := by decide +kernel
theorem d_R_allow_28 : decode b_R_allow 28 = .ok (.getfield 23, 3) := by decide +kernel
theorem d_R_allow_31 : decode b_R_allow 31 = .ok (.iload_n 1, 1) := by decide +kernel
theorem d_R_allow_32 : decode b_R_allow 32 = .ok (.iaload, 1) := by decide +kernel
theorem d_R_allow_33 : decode b_R_allow 33 = .ok (.sipush 512, 3) := by decide +kernel
theorem d_R_allow_36 : decode b_R_allow 36 = .ok (.if_icmp .ge 13, 3) := by decide +kernel
theorem d_R_allow_39 : decode b_R_allow 39 = .ok (.aload_n 0, 1) := by decide +kernel
theorem d_R_allow_40 : decode b_R_allow 40 = .ok (.getfield 23, 3) := by decide +kernel
theorem d_R_allow_43 : decode b_R_allow 43 = .ok (.iload_n 1, 1) := by decide +kernel
theorem d_R_allow_44 : decode b_R_allow 44 = .ok (.iaload, 1) := by decide +kernel
theorem d_R_allow_45 : decode b_R_allow 45 = .ok (.i2l, 1) := by decide +kernel
theorem d_R_allow_46 : decode b_R_allow 46 = .ok (.goto 6, 3) := by decide +kernel
theorem d_R_allow_49 : decode b_R_allow 49 = .ok (.ldc2_w 55, 3) := by decide +kernel
theorem d_R_allow_52 : decode b_R_allow 52 = .ok (.lstore 7, 2) := by decide +kernel
theorem d_R_allow_54 : decode b_R_allow 54 = .ok (.lload_n 2, 1) := by decide +kernel
theorem d_R_allow_55 : decode b_R_allow 55 = .ok (.aload_n 0, 1) := by decide +kernel
theorem d_R_allow_56 : decode b_R_allow 56 = .ok (.getfield 20, 3) := by decide +kernel
theorem d_R_allow_59 : decode b_R_allow 59 = .ok (.iload_n 1, 1) := by decide +kernel
theorem d_R_allow_60 : decode b_R_allow 60 = .ok (.iaload, 1) := by decide +kernel
theorem d_R_allow_61 : decode b_R_allow 61 = .ok (.i2l, 1) := by decide +kernel
theorem d_R_allow_62 : decode b_R_allow 62 = .ok (.lcmp, 1) := by decide +kernel
theorem d_R_allow_63 : decode b_R_allow 63 = .ok (.ifCond .lt 14, 3) := by decide +kernel
theorem d_R_allow_66 : decode b_R_allow 66 = .ok (.lload_n 2, 1) := by decide +kernel
theorem d_R_allow_67 : decode b_R_allow 67 = .ok (.iload 4, 2) := by decide +kernel
theorem d_R_allow_69 : decode b_R_allow 69 = .ok (.i2l, 1) := by decide +kernel
theorem d_R_allow_70 : decode b_R_allow 70 = .ok (.ladd, 1) := by decide +kernel
theorem d_R_allow_71 : decode b_R_allow 71 = .ok (.lload 7, 2) := by decide +kernel
theorem d_R_allow_73 : decode b_R_allow 73 = .ok (.lcmp, 1) := by decide +kernel
theorem d_R_allow_74 : decode b_R_allow 74 = .ok (.ifCond .le 5, 3) := by decide +kernel
theorem d_R_allow_77 : decode b_R_allow 77 = .ok (.iconst 4, 1) := by decide +kernel
theorem d_R_allow_78 : decode b_R_allow 78 = .ok (.ireturn, 1) := by decide +kernel
theorem d_R_allow_79 : decode b_R_allow 79 = .ok (.lload_n 2, 1) := by decide +kernel
theorem d_R_allow_80 : decode b_R_allow 80 = .ok (.iload 4, 2) := by decide +kernel
theorem d_R_allow_82 : decode b_R_allow 82 = .ok (.i2l, 1) := by decide +kernel
theorem d_R_allow_83 : decode b_R_allow 83 = .ok (.lrem, 1) := by decide +kernel
theorem d_R_allow_84 : decode b_R_allow 84 = .ok (.lconst 0, 1) := by decide +kernel
theorem d_R_allow_85 : decode b_R_allow 85 = .ok (.lcmp, 1) := by decide +kernel
theorem d_R_allow_86 : decode b_R_allow 86 = .ok (.ifCond .ne 7, 3) := by decide +kernel
theorem d_R_allow_89 : decode b_R_allow 89 = .ok (.iconst 0, 1) := by decide +kernel
theorem d_R_allow_90 : decode b_R_allow 90 = .ok (.goto 4, 3) := by decide +kernel
theorem d_R_allow_93 : decode b_R_allow 93 = .ok (.iconst 5, 1) := by decide +kernel
theorem d_R_allow_94 : decode b_R_allow 94 = .ok (.ireturn, 1) := by decide +kernel
theorem d_R_bound_0 : decode b_R_bound 0 = .ok (.aload_n 0, 1) := by decide +kernel
theorem d_R_bound_1 : decode b_R_bound 1 = .ok (.getfield 26, 3) := by decide +kernel
theorem d_R_bound_4 : decode b_R_bound 4 = .ok (.aload_n 0, 1) := by decide +kernel
theorem d_R_bound_5 : decode b_R_bound 5 = .ok (.getfield 57, 3) := by decide +kernel
theorem d_R_bound_8 : decode b_R_bound 8 = .ok (.iaload, 1) := by decide +kernel
theorem d_R_bound_9 : decode b_R_bound 9 = .ok (.istore_n 1, 1) := by decide +kernel
theorem d_R_bound_10 : decode b_R_bound 10 = .ok (.iload_n 1, 1) := by decide +kernel
theorem d_R_bound_11 : decode b_R_bound 11 = .ok (.aload_n 0, 1) := by decide +kernel
theorem d_R_bound_12 : decode b_R_bound 12 = .ok (.getfield 26, 3) := by decide +kernel
theorem d_R_bound_15 : decode b_R_bound 15 = .ok (.aload_n 0, 1) := by decide +kernel
theorem d_R_bound_16 : decode b_R_bound 16 = .ok (.getfield 60, 3) := by decide +kernel
theorem d_R_bound_19 : decode b_R_bound 19 = .ok (.iaload, 1) := by decide +kernel
theorem d_R_bound_20 : decode b_R_bound 20 = .ok (.iadd, 1) := by decide +kernel
theorem d_R_bound_21 : decode b_R_bound 21 = .ok (.istore_n 2, 1) := by decide +kernel
theorem d_R_bound_22 : decode b_R_bound 22 = .ok (.aload_n 0, 1) := by decide +kernel
theorem d_R_bound_23 : decode b_R_bound 23 = .ok (.iload_n 1, 1) := by decide +kernel
theorem d_R_bound_24 : decode b_R_bound 24 = .ok (.iload_n 2, 1) := by decide +kernel
theorem d_R_bound_25 : decode b_R_bound 25 = .ok (.invokevirtual 63, 3) := by decide +kernel
theorem d_R_bound_28 : decode b_R_bound 28 = .ok (.istore_n 3, 1) := by decide +kernel
theorem d_R_bound_29 : decode b_R_bound 29 = .ok (.aload_n 0, 1) := by decide +kernel
theorem d_R_bound_30 : decode b_R_bound 30 = .ok (.getfield 20, 3) := by decide +kernel
theorem d_R_bound_33 : decode b_R_bound 33 = .ok (.bipush 11, 2) := by decide +kernel
theorem d_R_bound_35 : decode b_R_bound 35 = .ok (.iload_n 3, 1) := by decide +kernel
theorem d_R_bound_36 : decode b_R_bound 36 = .ok (.ifCond .eq 7, 3) := by decide +kernel
theorem d_R_bound_39 : decode b_R_bound 39 = .ok (.iload_n 1, 1) := by decide +kernel
theorem d_R_bound_40 : decode b_R_bound 40 = .ok (.goto 8, 3) := by decide +kernel
theorem d_R_bound_43 : decode b_R_bound 43 = .ok (.aload_n 0, 1) := by decide +kernel
theorem d_R_bound_44 : decode b_R_bound 44 = .ok (.iload_n 1, 1) := by decide +kernel
theorem d_R_bound_45 : decode b_R_bound 45 = .ok (.invokevirtual 66, 3) := by decide +kernel
theorem d_R_bound_48 : decode b_R_bound 48 = .ok (.iastore, 1) := by decide +kernel
theorem d_R_bound_49 : decode b_R_bound 49 = .ok (.aload_n 0, 1) := by decide +kernel
theorem d_R_bound_50 : decode b_R_bound 50 = .ok (.getfield 23, 3) := by decide +kernel
theorem d_R_bound_53 : decode b_R_bound 53 = .ok (.bipush 11, 2) := by decide +kernel
theorem d_R_bound_55 : decode b_R_bound 55 = .ok (.iload_n 3, 1) := by decide +kernel
theorem d_R_bound_56 : decode b_R_bound 56 = .ok (.ifCond .eq 7, 3) := by decide +kernel
theorem d_R_bound_59 : decode b_R_bound 59 = .ok (.iload_n 2, 1) := by decide +kernel
theorem d_R_bound_60 : decode b_R_bound 60 = .ok (.goto 8, 3) := by decide +kernel
theorem d_R_bound_63 : decode b_R_bound 63 = .ok (.aload_n 0, 1) := by decide +kernel
theorem d_R_bound_64 : decode b_R_bound 64 = .ok (.iload_n 2, 1) := by decide +kernel
theorem d_R_bound_65 : decode b_R_bound 65 = .ok (.invokevirtual 69, 3) := by decide +kernel
theorem d_R_bound_68 : decode b_R_bound 68 = .ok (.iastore, 1) := by decide +kernel
theorem d_R_bound_69 : decode b_R_bound 69 = .ok (.return_, 1) := by decide +kernel
theorem d_R_cause_0 : decode b_R_cause 0 = .ok (.aload_n 0, 1) := by decide +kernel
theorem d_R_cause_1 : decode b_R_cause 1 = .ok (.iconst 0, 1) := by decide +kernel
theorem d_R_cause_2 : decode b_R_cause 2 = .ok (.putfield 39, 3) := by decide +kernel
theorem d_R_cause_5 : decode b_R_cause 5 = .ok (.aload_n 0, 1) := by decide +kernel
theorem d_R_cause_6 : decode b_R_cause 6 = .ok (.getfield 165, 3) := by decide +kernel
theorem d_R_cause_9 : decode b_R_cause 9 = .ok (.ireturn, 1) := by decide +kernel
theorem d_R_copy_0 : decode b_R_copy 0 = .ok (.aload_n 0, 1) := by decide +kernel
theorem d_R_copy_1 : decode b_R_copy 1 = .ok (.iload_n 2, 1) := by decide +kernel
theorem d_R_copy_2 : decode b_R_copy 2 = .ok (.aload_n 0, 1) := by decide +kernel
theorem d_R_copy_3 : decode b_R_copy 3 = .ok (.getfield 20, 3) := by decide +kernel
theorem d_R_copy_6 : decode b_R_copy 6 = .ok (.iload_n 1, 1) := by decide +kernel
theorem d_R_copy_7 : decode b_R_copy 7 = .ok (.iaload, 1) := by decide +kernel
theorem d_R_copy_8 : decode b_R_copy 8 = .ok (.aload_n 0, 1) := by decide +kernel
theorem d_R_copy_9 : decode b_R_copy 9 = .ok (.getfield 23, 3) := by decide +kernel
theorem d_R_copy_12 : decode b_R_copy 12 = .ok (.iload_n 1, 1) := by decide +kernel
theorem d_R_copy_13 : decode b_R_copy 13 = .ok (.iaload, 1) := by decide +kernel
theorem d_R_copy_14 : decode b_R_copy 14 = .ok (.aload_n 0, 1) := by decide +kernel
theorem d_R_copy_15 : decode b_R_copy 15 = .ok (.getfield 26, 3) := by decide +kernel
theorem d_R_copy_18 : decode b_R_copy 18 = .ok (.iload_n 1, 1) := by decide +kernel
theorem d_R_copy_19 : decode b_R_copy 19 = .ok (.iaload, 1) := by decide +kernel
theorem d_R_copy_20 : decode b_R_copy 20 = .ok (.aload_n 0, 1) := by decide +kernel
theorem d_R_copy_21 : decode b_R_copy 21 = .ok (.getfield 29, 3) := by decide +kernel
theorem d_R_copy_24 : decode b_R_copy 24 = .ok (.iload_n 1, 1) := by decide +kernel
theorem d_R_copy_25 : decode b_R_copy 25 = .ok (.iaload, 1) := by decide +kernel
theorem d_R_copy_26 : decode b_R_copy 26 = .ok (.invokevirtual 35, 3) := by decide +kernel
theorem d_R_copy_29 : decode b_R_copy 29 = .ok (.aload_n 0, 1) := by decide +kernel
theorem d_R_copy_30 : decode b_R_copy 30 = .ok (.getfield 17, 3) := by decide +kernel
theorem d_R_copy_33 : decode b_R_copy 33 = .ok (.iload_n 2, 1) := by decide +kernel
theorem d_R_copy_34 : decode b_R_copy 34 = .ok (.aload_n 0, 1) := by decide +kernel
theorem d_R_copy_35 : decode b_R_copy 35 = .ok (.getfield 17, 3) := by decide +kernel
theorem d_R_copy_38 : decode b_R_copy 38 = .ok (.iload_n 1, 1) := by decide +kernel
theorem d_R_copy_39 : decode b_R_copy 39 = .ok (.baload, 1) := by decide +kernel
theorem d_R_copy_40 : decode b_R_copy 40 = .ok (.bastore, 1) := by decide +kernel
theorem d_R_copy_41 : decode b_R_copy 41 = .ok (.aload_n 0, 1) := by decide +kernel
theorem d_R_copy_42 : decode b_R_copy 42 = .ok (.getfield 32, 3) := by decide +kernel
theorem d_R_copy_45 : decode b_R_copy 45 = .ok (.iload_n 2, 1) := by decide +kernel
theorem d_R_copy_46 : decode b_R_copy 46 = .ok (.aload_n 0, 1) := by decide +kernel
theorem d_R_copy_47 : decode b_R_copy 47 = .ok (.getfield 32, 3) := by decide +kernel
theorem d_R_copy_50 : decode b_R_copy 50 = .ok (.iload_n 1, 1) := by decide +kernel
theorem d_R_copy_51 : decode b_R_copy 51 = .ok (.iaload, 1) := by decide +kernel
theorem d_R_copy_52 : decode b_R_copy 52 = .ok (.iastore, 1) := by decide +kernel
theorem d_R_copy_53 : decode b_R_copy 53 = .ok (.return_, 1) := by decide +kernel
theorem d_R_derive_0 : decode b_R_derive 0 = .ok (.aload_n 0, 1) := by decide +kernel
theorem d_R_derive_1 : decode b_R_derive 1 = .ok (.aload_n 0, 1) := by decide +kernel
theorem d_R_derive_2 : decode b_R_derive 2 = .ok (.getfield 72, 3) := by decide +kernel
theorem d_R_derive_5 : decode b_R_derive 5 = .ok (.bipush 31, 2) := by decide +kernel
theorem d_R_derive_7 : decode b_R_derive 7 = .ok (.if_icmp .ne 8, 3) := by decide +kernel
theorem d_R_derive_10 : decode b_R_derive 10 = .ok (.bipush 8, 2) := by decide +kernel
theorem d_R_derive_12 : decode b_R_derive 12 = .ok (.goto 7, 3) := by decide +kernel
theorem d_R_derive_15 : decode b_R_derive 15 = .ok (.aload_n 0, 1) := by decide +kernel
theorem d_R_derive_16 : decode b_R_derive 16 = .ok (.getfield 57, 3) := by decide +kernel
theorem d_R_derive_19 : decode b_R_derive 19 = .ok (.bipush 11, 2) := by decide +kernel
theorem d_R_derive_21 : decode b_R_derive 21 = .ok (.invokevirtual 134, 3) := by decide +kernel
theorem d_R_derive_24 : decode b_R_derive 24 = .ok (.aload_n 0, 1) := by decide +kernel
theorem d_R_derive_25 : decode b_R_derive 25 = .ok (.getfield 72, 3) := by decide +kernel
theorem d_R_derive_28 : decode b_R_derive 28 = .ok (.tableswitch 257 8 31 #[112, 130, 153, 153, 160, 182, 201, 212, 257, 257, 257, 257, 257, 257, 257, 257, 257, 257, 257, 257, 257, 223, 257, 234], 112) := by decide +kernel
theorem d_R_derive_140 : decode b_R_derive 140 = .ok (.aload_n 0, 1) := by decide +kernel
theorem d_R_derive_141 : decode b_R_derive 141 = .ok (.bipush 11, 2) := by decide +kernel
theorem d_R_derive_143 : decode b_R_derive 143 = .ok (.aload_n 0, 1) := by decide +kernel
theorem d_R_derive_144 : decode b_R_derive 144 = .ok (.getfield 26, 3) := by decide +kernel
theorem d_R_derive_147 : decode b_R_derive 147 = .ok (.aload_n 0, 1) := by decide +kernel
theorem d_R_derive_148 : decode b_R_derive 148 = .ok (.getfield 60, 3) := by decide +kernel
theorem d_R_derive_151 : decode b_R_derive 151 = .ok (.iaload, 1) := by decide +kernel
theorem d_R_derive_152 : decode b_R_derive 152 = .ok (.invokevirtual 137, 3) := by decide +kernel
theorem d_R_derive_155 : decode b_R_derive 155 = .ok (.goto 130, 3) := by decide +kernel
theorem d_R_derive_158 : decode b_R_derive 158 = .ok (.aload_n 0, 1) := by decide +kernel
theorem d_R_derive_159 : decode b_R_derive 159 = .ok (.bipush 11, 2) := by decide +kernel
theorem d_R_derive_161 : decode b_R_derive 161 = .ok (.aload_n 0, 1) := by decide +kernel
theorem d_R_derive_162 : decode b_R_derive 162 = .ok (.getfield 26, 3) := by decide +kernel
theorem d_R_derive_165 : decode b_R_derive 165 = .ok (.aload_n 0, 1) := by decide +kernel
theorem d_R_derive_166 : decode b_R_derive 166 = .ok (.getfield 57, 3) := by decide +kernel
theorem d_R_derive_169 : decode b_R_derive 169 = .ok (.iaload, 1) := by decide +kernel
theorem d_R_derive_170 : decode b_R_derive 170 = .ok (.aload_n 0, 1) := by decide +kernel
theorem d_R_derive_171 : decode b_R_derive 171 = .ok (.getfield 82, 3) := by decide +kernel
theorem d_R_derive_174 : decode b_R_derive 174 = .ok (.iadd, 1) := by decide +kernel
theorem d_R_derive_175 : decode b_R_derive 175 = .ok (.invokevirtual 137, 3) := by decide +kernel
theorem d_R_derive_178 : decode b_R_derive 178 = .ok (.goto 107, 3) := by decide +kernel
theorem d_R_derive_181 : decode b_R_derive 181 = .ok (.aload_n 0, 1) := by decide +kernel
theorem d_R_derive_182 : decode b_R_derive 182 = .ok (.invokevirtual 140, 3) := by decide +kernel
theorem d_R_derive_185 : decode b_R_derive 185 = .ok (.goto 100, 3) := by decide +kernel
theorem d_R_derive_188 : decode b_R_derive 188 = .ok (.aload_n 0, 1) := by decide +kernel
theorem d_R_derive_189 : decode b_R_derive 189 = .ok (.getfield 29, 3) := by decide +kernel
theorem d_R_derive_192 : decode b_R_derive 192 = .ok (.bipush 11, 2) := by decide +kernel
theorem d_R_derive_194 : decode b_R_derive 194 = .ok (.dup2, 1) := by decide +kernel
theorem d_R_derive_195 : decode b_R_derive 195 = .ok (.iaload, 1) := by decide +kernel
theorem d_R_derive_196 : decode b_R_derive 196 = .ok (.aload_n 0, 1) := by decide +kernel
theorem d_R_derive_197 : decode b_R_derive 197 = .ok (.getfield 26, 3) := by decide +kernel
theorem d_R_derive_200 : decode b_R_derive 200 = .ok (.aload_n 0, 1) := by decide +kernel
theorem d_R_derive_201 : decode b_R_derive 201 = .ok (.getfield 60, 3) := by decide +kernel
theorem d_R_derive_204 : decode b_R_derive 204 = .ok (.iaload, 1) := by decide +kernel
theorem d_R_derive_205 : decode b_R_derive 205 = .ok (.iand, 1) := by decide +kernel
theorem d_R_derive_206 : decode b_R_derive 206 = .ok (.iastore, 1) := by decide +kernel
theorem d_R_derive_207 : decode b_R_derive 207 = .ok (.goto 78, 3) := by decide +kernel
theorem d_R_derive_210 : decode b_R_derive 210 = .ok (.aload_n 0, 1) := by decide +kernel
theorem d_R_derive_211 : decode b_R_derive 211 = .ok (.getfield 32, 3) := by decide +kernel
theorem d_R_derive_214 : decode b_R_derive 214 = .ok (.bipush 11, 2) := by decide +kernel
theorem d_R_derive_216 : decode b_R_derive 216 = .ok (.aload_n 0, 1) := by decide +kernel
theorem d_R_derive_217 : decode b_R_derive 217 = .ok (.getfield 26, 3) := by decide +kernel
theorem d_R_derive_220 : decode b_R_derive 220 = .ok (.aload_n 0, 1) := by decide +kernel
theorem d_R_derive_221 : decode b_R_derive 221 = .ok (.getfield 60, 3) := by decide +kernel
theorem d_R_derive_224 : decode b_R_derive 224 = .ok (.iaload, 1) := by decide +kernel
theorem d_R_derive_225 : decode b_R_derive 225 = .ok (.iastore, 1) := by decide +kernel
theorem d_R_derive_226 : decode b_R_derive 226 = .ok (.goto 59, 3) := by decide +kernel
theorem d_R_derive_229 : decode b_R_derive 229 = .ok (.aload_n 0, 1) := by decide +kernel
theorem d_R_derive_230 : decode b_R_derive 230 = .ok (.getfield 32, 3) := by decide +kernel
theorem d_R_derive_233 : decode b_R_derive 233 = .ok (.bipush 11, 2) := by decide +kernel
theorem d_R_derive_235 : decode b_R_derive 235 = .ok (.iconst 0, 1) := by decide +kernel
theorem d_R_derive_236 : decode b_R_derive 236 = .ok (.iastore, 1) := by decide +kernel
theorem d_R_derive_237 : decode b_R_derive 237 = .ok (.goto 48, 3) := by decide +kernel
theorem d_R_derive_240 : decode b_R_derive 240 = .ok (.aload_n 0, 1) := by decide +kernel
theorem d_R_derive_241 : decode b_R_derive 241 = .ok (.getfield 32, 3) := by decide +kernel
theorem d_R_derive_244 : decode b_R_derive 244 = .ok (.bipush 11, 2) := by decide +kernel
theorem d_R_derive_246 : decode b_R_derive 246 = .ok (.iconst 1, 1) := by decide +kernel
theorem d_R_derive_247 : decode b_R_derive 247 = .ok (.iastore, 1) := by decide +kernel
theorem d_R_derive_248 : decode b_R_derive 248 = .ok (.goto 37, 3) := by decide +kernel
theorem d_R_derive_251 : decode b_R_derive 251 = .ok (.aload_n 0, 1) := by decide +kernel
theorem d_R_derive_252 : decode b_R_derive 252 = .ok (.getfield 17, 3) := by decide +kernel
theorem d_R_derive_255 : decode b_R_derive 255 = .ok (.bipush 11, 2) := by decide +kernel
theorem d_R_derive_257 : decode b_R_derive 257 = .ok (.iconst 0, 1) := by decide +kernel
theorem d_R_derive_258 : decode b_R_derive 258 = .ok (.bastore, 1) := by decide +kernel
theorem d_R_derive_259 : decode b_R_derive 259 = .ok (.goto 26, 3) := by decide +kernel
theorem d_R_derive_262 : decode b_R_derive 262 = .ok (.aload_n 0, 1) := by decide +kernel
theorem d_R_derive_263 : decode b_R_derive 263 = .ok (.bipush 11, 2) := by decide +kernel
theorem d_R_derive_265 : decode b_R_derive 265 = .ok (.aload_n 0, 1) := by decide +kernel
theorem d_R_derive_266 : decode b_R_derive 266 = .ok (.getfield 26, 3) := by decide +kernel
theorem d_R_derive_269 : decode b_R_derive 269 = .ok (.bipush 8, 2) := by decide +kernel
theorem d_R_derive_271 : decode b_R_derive 271 = .ok (.iaload, 1) := by decide +kernel
theorem d_R_derive_272 : decode b_R_derive 272 = .ok (.iconst 4, 1) := by decide +kernel
theorem d_R_derive_273 : decode b_R_derive 273 = .ok (.aload_n 0, 1) := by decide +kernel
theorem d_R_derive_274 : decode b_R_derive 274 = .ok (.getfield 82, 3) := by decide +kernel
theorem d_R_derive_277 : decode b_R_derive 277 = .ok (.imul, 1) := by decide +kernel
theorem d_R_derive_278 : decode b_R_derive 278 = .ok (.iadd, 1) := by decide +kernel
theorem d_R_derive_279 : decode b_R_derive 279 = .ok (.invokevirtual 137, 3) := by decide +kernel
theorem d_R_derive_282 : decode b_R_derive 282 = .ok (.goto 3, 3) := by decide +kernel
theorem d_R_derive_285 : decode b_R_derive 285 = .ok (.aload_n 0, 1) := by decide +kernel
theorem d_R_derive_286 : decode b_R_derive 286 = .ok (.bipush 11, 2) := by decide +kernel
theorem d_R_derive_288 : decode b_R_derive 288 = .ok (.aload_n 0, 1) := by decide +kernel
theorem d_R_derive_289 : decode b_R_derive 289 = .ok (.getfield 79, 3) := by decide +kernel
theorem d_R_derive_292 : decode b_R_derive 292 = .ok (.invokevirtual 134, 3) := by decide +kernel
theorem d_R_derive_295 : decode b_R_derive 295 = .ok (.return_, 1) := by decide +kernel
theorem d_R_doIt_0 : decode b_R_doIt 0 = .ok (.aload_n 0, 1) := by decide +kernel
theorem d_R_doIt_1 : decode b_R_doIt 1 = .ok (.getfield 72, 3) := by decide +kernel
theorem d_R_doIt_4 : decode b_R_doIt 4 = .ok (.iconst 4, 1) := by decide +kernel
theorem d_R_doIt_5 : decode b_R_doIt 5 = .ok (.if_icmp .lt 30, 3) := by decide +kernel
theorem d_R_doIt_8 : decode b_R_doIt 8 = .ok (.aload_n 0, 1) := by decide +kernel
theorem d_R_doIt_9 : decode b_R_doIt 9 = .ok (.getfield 72, 3) := by decide +kernel
theorem d_R_doIt_12 : decode b_R_doIt 12 = .ok (.bipush 22, 2) := by decide +kernel
theorem d_R_doIt_14 : decode b_R_doIt 14 = .ok (.if_icmp .le 12, 3) := by decide +kernel
theorem d_R_doIt_17 : decode b_R_doIt 17 = .ok (.aload_n 0, 1) := by decide +kernel
theorem d_R_doIt_18 : decode b_R_doIt 18 = .ok (.getfield 72, 3) := by decide +kernel
theorem d_R_doIt_21 : decode b_R_doIt 21 = .ok (.bipush 29, 2) := by decide +kernel
theorem d_R_doIt_23 : decode b_R_doIt 23 = .ok (.if_icmp .lt 12, 3) := by decide +kernel
theorem d_R_doIt_26 : decode b_R_doIt 26 = .ok (.aload_n 0, 1) := by decide +kernel
theorem d_R_doIt_27 : decode b_R_doIt 27 = .ok (.getfield 72, 3) := by decide +kernel
theorem d_R_doIt_30 : decode b_R_doIt 30 = .ok (.bipush 30, 2) := by decide +kernel
theorem d_R_doIt_32 : decode b_R_doIt 32 = .ok (.if_icmp .ne 7, 3) := by decide +kernel
theorem d_R_doIt_35 : decode b_R_doIt 35 = .ok (.iconst 1, 1) := by decide +kernel
theorem d_R_doIt_36 : decode b_R_doIt 36 = .ok (.goto 4, 3) := by decide +kernel
theorem d_R_doIt_39 : decode b_R_doIt 39 = .ok (.iconst 0, 1) := by decide +kernel
theorem d_R_doIt_40 : decode b_R_doIt 40 = .ok (.istore_n 1, 1) := by decide +kernel
theorem d_R_doIt_41 : decode b_R_doIt 41 = .ok (.aload_n 0, 1) := by decide +kernel
theorem d_R_doIt_42 : decode b_R_doIt 42 = .ok (.getfield 72, 3) := by decide +kernel
theorem d_R_doIt_45 : decode b_R_doIt 45 = .ok (.iconst 3, 1) := by decide +kernel
theorem d_R_doIt_46 : decode b_R_doIt 46 = .ok (.if_icmp .le 16, 3) := by decide +kernel
theorem d_R_doIt_49 : decode b_R_doIt 49 = .ok (.aload_n 0, 1) := by decide +kernel
theorem d_R_doIt_50 : decode b_R_doIt 50 = .ok (.getfield 72, 3) := by decide +kernel
theorem d_R_doIt_53 : decode b_R_doIt 53 = .ok (.bipush 7, 2) := by decide +kernel
theorem d_R_doIt_55 : decode b_R_doIt 55 = .ok (.if_icmp .ge 7, 3) := by decide +kernel
theorem d_R_doIt_58 : decode b_R_doIt 58 = .ok (.iconst 1, 1) := by decide +kernel
theorem d_R_doIt_59 : decode b_R_doIt 59 = .ok (.goto 4, 3) := by decide +kernel
theorem d_R_doIt_62 : decode b_R_doIt 62 = .ok (.iconst 0, 1) := by decide +kernel
theorem d_R_doIt_63 : decode b_R_doIt 63 = .ok (.istore_n 2, 1) := by decide +kernel
theorem d_R_doIt_64 : decode b_R_doIt 64 = .ok (.aload_n 0, 1) := by decide +kernel
theorem d_R_doIt_65 : decode b_R_doIt 65 = .ok (.getfield 26, 3) := by decide +kernel
theorem d_R_doIt_68 : decode b_R_doIt 68 = .ok (.bipush 8, 2) := by decide +kernel
theorem d_R_doIt_70 : decode b_R_doIt 70 = .ok (.iaload, 1) := by decide +kernel
theorem d_R_doIt_71 : decode b_R_doIt 71 = .ok (.iconst 4, 1) := by decide +kernel
theorem d_R_doIt_72 : decode b_R_doIt 72 = .ok (.iadd, 1) := by decide +kernel
theorem d_R_doIt_73 : decode b_R_doIt 73 = .ok (.iload_n 2, 1) := by decide +kernel
theorem d_R_doIt_74 : decode b_R_doIt 74 = .ok (.ifCond .eq 19, 3) := by decide +kernel
theorem d_R_doIt_77 : decode b_R_doIt 77 = .ok (.aload_n 0, 1) := by decide +kernel
theorem d_R_doIt_78 : decode b_R_doIt 78 = .ok (.invokevirtual 143, 3) := by decide +kernel
theorem d_R_doIt_81 : decode b_R_doIt 81 = .ok (.ifCond .eq 12, 3) := by decide +kernel
theorem d_R_doIt_84 : decode b_R_doIt 84 = .ok (.iconst 4, 1) := by decide +kernel
theorem d_R_doIt_85 : decode b_R_doIt 85 = .ok (.aload_n 0, 1) := by decide +kernel
theorem d_R_doIt_86 : decode b_R_doIt 86 = .ok (.getfield 82, 3) := by decide +kernel
theorem d_R_doIt_89 : decode b_R_doIt 89 = .ok (.imul, 1) := by decide +kernel
theorem d_R_doIt_90 : decode b_R_doIt 90 = .ok (.goto 4, 3) := by decide +kernel
theorem d_R_doIt_93 : decode b_R_doIt 93 = .ok (.iconst 0, 1) := by decide +kernel
theorem d_R_doIt_94 : decode b_R_doIt 94 = .ok (.iadd, 1) := by decide +kernel
theorem d_R_doIt_95 : decode b_R_doIt 95 = .ok (.istore_n 3, 1) := by decide +kernel
theorem d_R_doIt_96 : decode b_R_doIt 96 = .ok (.iload_n 1, 1) := by decide +kernel
theorem d_R_doIt_97 : decode b_R_doIt 97 = .ok (.ifCond .eq 18, 3) := by decide +kernel
theorem d_R_doIt_100 : decode b_R_doIt 100 = .ok (.aload_n 0, 1) := by decide +kernel
theorem d_R_doIt_101 : decode b_R_doIt 101 = .ok (.aload_n 0, 1) := by decide +kernel
theorem d_R_doIt_102 : decode b_R_doIt 102 = .ok (.getfield 79, 3) := by decide +kernel
theorem d_R_doIt_105 : decode b_R_doIt 105 = .ok (.aload_n 0, 1) := by decide +kernel
theorem d_R_doIt_106 : decode b_R_doIt 106 = .ok (.invokevirtual 146, 3) := by decide +kernel
theorem d_R_doIt_109 : decode b_R_doIt 109 = .ok (.invokevirtual 114, 3) := by decide +kernel
theorem d_R_doIt_112 : decode b_R_doIt 112 = .ok (.goto 90, 3) := by decide +kernel
theorem d_R_doIt_115 : decode b_R_doIt 115 = .ok (.aload_n 0, 1) := by decide +kernel
theorem d_R_doIt_116 : decode b_R_doIt 116 = .ok (.getfield 72, 3) := by decide +kernel
theorem d_R_doIt_119 : decode b_R_doIt 119 = .ok (.bipush 16, 2) := by decide +kernel
theorem d_R_doIt_121 : decode b_R_doIt 121 = .ok (.if_icmp .le 19, 3) := by decide +kernel
theorem d_R_doIt_124 : decode b_R_doIt 124 = .ok (.aload_n 0, 1) := by decide +kernel
theorem d_R_doIt_125 : decode b_R_doIt 125 = .ok (.getfield 72, 3) := by decide +kernel
theorem d_R_doIt_128 : decode b_R_doIt 128 = .ok (.bipush 23, 2) := by decide +kernel
theorem d_R_doIt_130 : decode b_R_doIt 130 = .ok (.if_icmp .ge 10, 3) := by decide +kernel
theorem d_R_doIt_133 : decode b_R_doIt 133 = .ok (.aload_n 0, 1) := by decide +kernel
theorem d_R_doIt_134 : decode b_R_doIt 134 = .ok (.invokevirtual 149, 3) := by decide +kernel
theorem d_R_doIt_137 : decode b_R_doIt 137 = .ok (.goto 65, 3) := by decide +kernel
theorem d_R_doIt_140 : decode b_R_doIt 140 = .ok (.aload_n 0, 1) := by decide +kernel
theorem d_R_doIt_141 : decode b_R_doIt 141 = .ok (.getfield 72, 3) := by decide +kernel
theorem d_R_doIt_144 : decode b_R_doIt 144 = .ok (.bipush 32, 2) := by decide +kernel
theorem d_R_doIt_146 : decode b_R_doIt 146 = .ok (.if_icmp .ne 39, 3) := by decide +kernel
theorem d_R_doIt_149 : decode b_R_doIt 149 = .ok (.aload_n 0, 1) := by decide +kernel
theorem d_R_doIt_150 : decode b_R_doIt 150 = .ok (.aload_n 0, 1) := by decide +kernel
theorem d_R_doIt_151 : decode b_R_doIt 151 = .ok (.getfield 79, 3) := by decide +kernel
theorem d_R_doIt_154 : decode b_R_doIt 154 = .ok (.invokevirtual 47, 3) := by decide +kernel
theorem d_R_doIt_157 : decode b_R_doIt 157 = .ok (.ifCond .ne 28, 3) := by decide +kernel
theorem d_R_doIt_160 : decode b_R_doIt 160 = .ok (.aload_n 0, 1) := by decide +kernel
theorem d_R_doIt_161 : decode b_R_doIt 161 = .ok (.aload_n 0, 1) := by decide +kernel
theorem d_R_doIt_162 : decode b_R_doIt 162 = .ok (.getfield 79, 3) := by decide +kernel
theorem d_R_doIt_165 : decode b_R_doIt 165 = .ok (.iconst 4, 1) := by decide +kernel
theorem d_R_doIt_166 : decode b_R_doIt 166 = .ok (.invokevirtual 51, 3) := by decide +kernel
theorem d_R_doIt_169 : decode b_R_doIt 169 = .ok (.ifCond .eq 16, 3) := by decide +kernel
theorem d_R_doIt_172 : decode b_R_doIt 172 = .ok (.aload_n 0, 1) := by decide +kernel
theorem d_R_doIt_173 : decode b_R_doIt 173 = .ok (.aload_n 0, 1) := by decide +kernel
theorem d_R_doIt_174 : decode b_R_doIt 174 = .ok (.getfield 79, 3) := by decide +kernel
theorem d_R_doIt_177 : decode b_R_doIt 177 = .ok (.bipush 9, 2) := by decide +kernel
theorem d_R_doIt_179 : decode b_R_doIt 179 = .ok (.invokevirtual 134, 3) := by decide +kernel
theorem d_R_doIt_182 : decode b_R_doIt 182 = .ok (.goto 20, 3) := by decide +kernel
theorem d_R_doIt_185 : decode b_R_doIt 185 = .ok (.iload_n 2, 1) := by decide +kernel
theorem d_R_doIt_186 : decode b_R_doIt 186 = .ok (.ifCond .ne 16, 3) := by decide +kernel
theorem d_R_doIt_189 : decode b_R_doIt 189 = .ok (.aload_n 0, 1) := by decide +kernel
theorem d_R_doIt_190 : decode b_R_doIt 190 = .ok (.getfield 72, 3) := by decide +kernel
theorem d_R_doIt_193 : decode b_R_doIt 193 = .ok (.bipush 32, 2) := by decide +kernel
theorem d_R_doIt_195 : decode b_R_doIt 195 = .ok (.if_icmp .eq 7, 3) := by decide +kernel
theorem d_R_doIt_198 : decode b_R_doIt 198 = .ok (.aload_n 0, 1) := by decide +kernel
theorem d_R_doIt_199 : decode b_R_doIt 199 = .ok (.invokevirtual 152, 3) := by decide +kernel
theorem d_R_doIt_202 : decode b_R_doIt 202 = .ok (.aload_n 0, 1) := by decide +kernel
theorem d_R_doIt_203 : decode b_R_doIt 203 = .ok (.bipush 8, 2) := by decide +kernel
theorem d_R_doIt_205 : decode b_R_doIt 205 = .ok (.iload_n 3, 1) := by decide +kernel
theorem d_R_doIt_206 : decode b_R_doIt 206 = .ok (.invokevirtual 137, 3) := by decide +kernel
theorem d_R_doIt_209 : decode b_R_doIt 209 = .ok (.return_, 1) := by decide +kernel
theorem d_R_down_0 : decode b_R_down 0 = .ok (.iload_n 1, 1) := by decide +kernel
theorem d_R_down_1 : decode b_R_down 1 = .ok (.iload_n 1, 1) := by decide +kernel
theorem d_R_down_2 : decode b_R_down 2 = .ok (.bipush 8, 2) := by decide +kernel
theorem d_R_down_4 : decode b_R_down 4 = .ok (.irem, 1) := by decide +kernel
theorem d_R_down_5 : decode b_R_down 5 = .ok (.isub, 1) := by decide +kernel
theorem d_R_down_6 : decode b_R_down 6 = .ok (.ireturn, 1) := by decide +kernel
theorem d_R_exact_0 : decode b_R_exact 0 = .ok (.iload_n 2, 1) := by decide +kernel
theorem d_R_exact_1 : decode b_R_exact 1 = .ok (.iload_n 1, 1) := by decide +kernel
theorem d_R_exact_2 : decode b_R_exact 2 = .ok (.isub, 1) := by decide +kernel
theorem d_R_exact_3 : decode b_R_exact 3 = .ok (.bipush 64, 2) := by decide +kernel
theorem d_R_exact_5 : decode b_R_exact 5 = .ok (.if_icmp .le 17, 3) := by decide +kernel
theorem d_R_exact_8 : decode b_R_exact 8 = .ok (.iload_n 1, 1) := by decide +kernel
theorem d_R_exact_9 : decode b_R_exact 9 = .ok (.bipush 8, 2) := by decide +kernel
theorem d_R_exact_11 : decode b_R_exact 11 = .ok (.irem, 1) := by decide +kernel
theorem d_R_exact_12 : decode b_R_exact 12 = .ok (.ifCond .ne 14, 3) := by decide +kernel
theorem d_R_exact_15 : decode b_R_exact 15 = .ok (.iload_n 2, 1) := by decide +kernel
theorem d_R_exact_16 : decode b_R_exact 16 = .ok (.bipush 8, 2) := by decide +kernel
theorem d_R_exact_18 : decode b_R_exact 18 = .ok (.irem, 1) := by decide +kernel
theorem d_R_exact_19 : decode b_R_exact 19 = .ok (.ifCond .ne 7, 3) := by decide +kernel
theorem d_R_exact_22 : decode b_R_exact 22 = .ok (.iconst 1, 1) := by decide +kernel
theorem d_R_exact_23 : decode b_R_exact 23 = .ok (.goto 4, 3) := by decide +kernel
theorem d_R_exact_26 : decode b_R_exact 26 = .ok (.iconst 0, 1) := by decide +kernel
theorem d_R_exact_27 : decode b_R_exact 27 = .ok (.ireturn, 1) := by decide +kernel
theorem d_R_exception_0 : decode b_R_exception 0 = .ok (.aload_n 0, 1) := by decide +kernel
theorem d_R_exception_1 : decode b_R_exception 1 = .ok (.getfield 72, 3) := by decide +kernel
theorem d_R_exception_4 : decode b_R_exception 4 = .ok (.bipush 8, 2) := by decide +kernel
theorem d_R_exception_6 : decode b_R_exception 6 = .ok (.if_icmp .eq 21, 3) := by decide +kernel
theorem d_R_exception_9 : decode b_R_exception 9 = .ok (.aload_n 0, 1) := by decide +kernel
theorem d_R_exception_10 : decode b_R_exception 10 = .ok (.getfield 72, 3) := by decide +kernel
theorem d_R_exception_13 : decode b_R_exception 13 = .ok (.bipush 9, 2) := by decide +kernel
theorem d_R_exception_15 : decode b_R_exception 15 = .ok (.if_icmp .eq 12, 3) := by decide +kernel
theorem d_R_exception_18 : decode b_R_exception 18 = .ok (.aload_n 0, 1) := by decide +kernel
theorem d_R_exception_19 : decode b_R_exception 19 = .ok (.getfield 72, 3) := by decide +kernel
theorem d_R_exception_22 : decode b_R_exception 22 = .ok (.bipush 12, 2) := by decide +kernel
theorem d_R_exception_24 : decode b_R_exception 24 = .ok (.if_icmp .ne 12, 3) := by decide +kernel
theorem d_R_exception_27 : decode b_R_exception 27 = .ok (.aload_n 0, 1) := by decide +kernel
theorem d_R_exception_28 : decode b_R_exception 28 = .ok (.aload_n 0, 1) := by decide +kernel
theorem d_R_exception_29 : decode b_R_exception 29 = .ok (.getfield 57, 3) := by decide +kernel
theorem d_R_exception_32 : decode b_R_exception 32 = .ok (.invokevirtual 93, 3) := by decide +kernel
theorem d_R_exception_35 : decode b_R_exception 35 = .ok (.ireturn, 1) := by decide +kernel
theorem d_R_exception_36 : decode b_R_exception 36 = .ok (.aload_n 0, 1) := by decide +kernel
theorem d_R_exception_37 : decode b_R_exception 37 = .ok (.getfield 72, 3) := by decide +kernel
theorem d_R_exception_40 : decode b_R_exception 40 = .ok (.bipush 10, 2) := by decide +kernel
theorem d_R_exception_42 : decode b_R_exception 42 = .ok (.if_icmp .eq 12, 3) := by decide +kernel
theorem d_R_exception_45 : decode b_R_exception 45 = .ok (.aload_n 0, 1) := by decide +kernel
theorem d_R_exception_46 : decode b_R_exception 46 = .ok (.getfield 72, 3) := by decide +kernel
theorem d_R_exception_49 : decode b_R_exception 49 = .ok (.bipush 11, 2) := by decide +kernel
theorem d_R_exception_51 : decode b_R_exception 51 = .ok (.if_icmp .ne 8, 3) := by decide +kernel
theorem d_R_exception_54 : decode b_R_exception 54 = .ok (.aload_n 0, 1) := by decide +kernel
theorem d_R_exception_55 : decode b_R_exception 55 = .ok (.invokevirtual 96, 3) := by decide +kernel
theorem d_R_exception_58 : decode b_R_exception 58 = .ok (.ireturn, 1) := by decide +kernel
theorem d_R_exception_59 : decode b_R_exception 59 = .ok (.aload_n 0, 1) := by decide +kernel
theorem d_R_exception_60 : decode b_R_exception 60 = .ok (.getfield 72, 3) := by decide +kernel
theorem d_R_exception_63 : decode b_R_exception 63 = .ok (.bipush 13, 2) := by decide +kernel
theorem d_R_exception_65 : decode b_R_exception 65 = .ok (.if_icmp .ne 8, 3) := by decide +kernel
theorem d_R_exception_68 : decode b_R_exception 68 = .ok (.aload_n 0, 1) := by decide +kernel
theorem d_R_exception_69 : decode b_R_exception 69 = .ok (.invokevirtual 99, 3) := by decide +kernel
theorem d_R_exception_72 : decode b_R_exception 72 = .ok (.ireturn, 1) := by decide +kernel
theorem d_R_exception_73 : decode b_R_exception 73 = .ok (.aload_n 0, 1) := by decide +kernel
theorem d_R_exception_74 : decode b_R_exception 74 = .ok (.getfield 72, 3) := by decide +kernel
theorem d_R_exception_77 : decode b_R_exception 77 = .ok (.bipush 14, 2) := by decide +kernel
theorem d_R_exception_79 : decode b_R_exception 79 = .ok (.if_icmp .ne 8, 3) := by decide +kernel
theorem d_R_exception_82 : decode b_R_exception 82 = .ok (.aload_n 0, 1) := by decide +kernel
theorem d_R_exception_83 : decode b_R_exception 83 = .ok (.invokevirtual 102, 3) := by decide +kernel
theorem d_R_exception_86 : decode b_R_exception 86 = .ok (.ireturn, 1) := by decide +kernel
theorem d_R_exception_87 : decode b_R_exception 87 = .ok (.aload_n 0, 1) := by decide +kernel
theorem d_R_exception_88 : decode b_R_exception 88 = .ok (.getfield 72, 3) := by decide +kernel
theorem d_R_exception_91 : decode b_R_exception 91 = .ok (.bipush 15, 2) := by decide +kernel
theorem d_R_exception_93 : decode b_R_exception 93 = .ok (.if_icmp .ne 43, 3) := by decide +kernel
theorem d_R_exception_96 : decode b_R_exception 96 = .ok (.aload_n 0, 1) := by decide +kernel
theorem d_R_exception_97 : decode b_R_exception 97 = .ok (.aload_n 0, 1) := by decide +kernel
theorem d_R_exception_98 : decode b_R_exception 98 = .ok (.getfield 57, 3) := by decide +kernel
theorem d_R_exception_101 : decode b_R_exception 101 = .ok (.invokevirtual 47, 3) := by decide +kernel
theorem d_R_exception_104 : decode b_R_exception 104 = .ok (.ifCond .le 14, 3) := by decide +kernel
theorem d_R_exception_107 : decode b_R_exception 107 = .ok (.aload_n 0, 1) := by decide +kernel
theorem d_R_exception_108 : decode b_R_exception 108 = .ok (.aload_n 0, 1) := by decide +kernel
theorem d_R_exception_109 : decode b_R_exception 109 = .ok (.getfield 57, 3) := by decide +kernel
theorem d_R_exception_112 : decode b_R_exception 112 = .ok (.invokevirtual 47, 3) := by decide +kernel
theorem d_R_exception_115 : decode b_R_exception 115 = .ok (.goto 20, 3) := by decide +kernel
theorem d_R_exception_118 : decode b_R_exception 118 = .ok (.aload_n 0, 1) := by decide +kernel
theorem d_R_exception_119 : decode b_R_exception 119 = .ok (.aload_n 0, 1) := by decide +kernel
theorem d_R_exception_120 : decode b_R_exception 120 = .ok (.getfield 57, 3) := by decide +kernel
theorem d_R_exception_123 : decode b_R_exception 123 = .ok (.iconst 4, 1) := by decide +kernel
theorem d_R_exception_124 : decode b_R_exception 124 = .ok (.invokevirtual 51, 3) := by decide +kernel
theorem d_R_exception_127 : decode b_R_exception 127 = .ok (.ifCond .eq 7, 3) := by decide +kernel
theorem d_R_exception_130 : decode b_R_exception 130 = .ok (.iconst 0, 1) := by decide +kernel
theorem d_R_exception_131 : decode b_R_exception 131 = .ok (.goto 4, 3) := by decide +kernel
theorem d_R_exception_134 : decode b_R_exception 134 = .ok (.iconst 3, 1) := by decide +kernel
theorem d_R_exception_135 : decode b_R_exception 135 = .ok (.ireturn, 1) := by decide +kernel
theorem d_R_exception_136 : decode b_R_exception 136 = .ok (.aload_n 0, 1) := by decide +kernel
theorem d_R_exception_137 : decode b_R_exception 137 = .ok (.getfield 72, 3) := by decide +kernel
theorem d_R_exception_140 : decode b_R_exception 140 = .ok (.bipush 16, 2) := by decide +kernel
theorem d_R_exception_142 : decode b_R_exception 142 = .ok (.if_icmp .ne 8, 3) := by decide +kernel
theorem d_R_exception_145 : decode b_R_exception 145 = .ok (.aload_n 0, 1) := by decide +kernel
theorem d_R_exception_146 : decode b_R_exception 146 = .ok (.invokevirtual 105, 3) := by decide +kernel
theorem d_R_exception_149 : decode b_R_exception 149 = .ok (.ireturn, 1) := by decide +kernel
theorem d_R_exception_150 : decode b_R_exception 150 = .ok (.aload_n 0, 1) := by decide +kernel
theorem d_R_exception_151 : decode b_R_exception 151 = .ok (.getfield 72, 3) := by decide +kernel
theorem d_R_exception_154 : decode b_R_exception 154 = .ok (.bipush 16, 2) := by decide +kernel
theorem d_R_exception_156 : decode b_R_exception 156 = .ok (.if_icmp .le 17, 3) := by decide +kernel
theorem d_R_exception_159 : decode b_R_exception 159 = .ok (.aload_n 0, 1) := by decide +kernel
theorem d_R_exception_160 : decode b_R_exception 160 = .ok (.getfield 72, 3) := by decide +kernel
theorem d_R_exception_163 : decode b_R_exception 163 = .ok (.bipush 23, 2) := by decide +kernel
theorem d_R_exception_165 : decode b_R_exception 165 = .ok (.if_icmp .ge 8, 3) := by decide +kernel
theorem d_R_exception_168 : decode b_R_exception 168 = .ok (.aload_n 0, 1) := by decide +kernel
theorem d_R_exception_169 : decode b_R_exception 169 = .ok (.invokevirtual 108, 3) := by decide +kernel
theorem d_R_exception_172 : decode b_R_exception 172 = .ok (.ireturn, 1) := by decide +kernel
theorem d_R_exception_173 : decode b_R_exception 173 = .ok (.aload_n 0, 1) := by decide +kernel
theorem d_R_exception_174 : decode b_R_exception 174 = .ok (.getfield 72, 3) := by decide +kernel
theorem d_R_exception_177 : decode b_R_exception 177 = .ok (.bipush 32, 2) := by decide +kernel
theorem d_R_exception_179 : decode b_R_exception 179 = .ok (.if_icmp .le 8, 3) := by decide +kernel
theorem d_R_exception_182 : decode b_R_exception 182 = .ok (.bipush 8, 2) := by decide +kernel
theorem d_R_exception_184 : decode b_R_exception 184 = .ok (.goto 4, 3) := by decide +kernel
theorem d_R_exception_187 : decode b_R_exception 187 = .ok (.iconst 0, 1) := by decide +kernel
theorem d_R_exception_188 : decode b_R_exception 188 = .ok (.ireturn, 1) := by decide +kernel
theorem d_R_fetch_0 : decode b_R_fetch 0 = .ok (.aload_n 0, 1) := by decide +kernel
theorem d_R_fetch_1 : decode b_R_fetch 1 = .ok (.aload_n 0, 1) := by decide +kernel
theorem d_R_fetch_2 : decode b_R_fetch 2 = .ok (.getfield 7, 3) := by decide +kernel
theorem d_R_fetch_5 : decode b_R_fetch 5 = .ok (.iload_n 1, 1) := by decide +kernel
theorem d_R_fetch_6 : decode b_R_fetch 6 = .ok (.iaload, 1) := by decide +kernel
theorem d_R_fetch_7 : decode b_R_fetch 7 = .ok (.putfield 72, 3) := by decide +kernel
theorem d_R_fetch_10 : decode b_R_fetch 10 = .ok (.aload_n 0, 1) := by decide +kernel
theorem d_R_fetch_11 : decode b_R_fetch 11 = .ok (.aload_n 0, 1) := by decide +kernel
theorem d_R_fetch_12 : decode b_R_fetch 12 = .ok (.getfield 7, 3) := by decide +kernel
theorem d_R_fetch_15 : decode b_R_fetch 15 = .ok (.iload_n 1, 1) := by decide +kernel
theorem d_R_fetch_16 : decode b_R_fetch 16 = .ok (.iconst 1, 1) := by decide +kernel
theorem d_R_fetch_17 : decode b_R_fetch 17 = .ok (.iadd, 1) := by decide +kernel
theorem d_R_fetch_18 : decode b_R_fetch 18 = .ok (.iaload, 1) := by decide +kernel
theorem d_R_fetch_19 : decode b_R_fetch 19 = .ok (.bipush 8, 2) := by decide +kernel
theorem d_R_fetch_21 : decode b_R_fetch 21 = .ok (.irem, 1) := by decide +kernel
theorem d_R_fetch_22 : decode b_R_fetch 22 = .ok (.putfield 79, 3) := by decide +kernel
theorem d_R_fetch_25 : decode b_R_fetch 25 = .ok (.aload_n 0, 1) := by decide +kernel
theorem d_R_fetch_26 : decode b_R_fetch 26 = .ok (.aload_n 0, 1) := by decide +kernel
theorem d_R_fetch_27 : decode b_R_fetch 27 = .ok (.getfield 7, 3) := by decide +kernel
theorem d_R_fetch_30 : decode b_R_fetch 30 = .ok (.iload_n 1, 1) := by decide +kernel
theorem d_R_fetch_31 : decode b_R_fetch 31 = .ok (.iconst 2, 1) := by decide +kernel
theorem d_R_fetch_32 : decode b_R_fetch 32 = .ok (.iadd, 1) := by decide +kernel
theorem d_R_fetch_33 : decode b_R_fetch 33 = .ok (.iaload, 1) := by decide +kernel
theorem d_R_fetch_34 : decode b_R_fetch 34 = .ok (.bipush 8, 2) := by decide +kernel
theorem d_R_fetch_36 : decode b_R_fetch 36 = .ok (.irem, 1) := by decide +kernel
theorem d_R_fetch_37 : decode b_R_fetch 37 = .ok (.putfield 57, 3) := by decide +kernel
theorem d_R_fetch_40 : decode b_R_fetch 40 = .ok (.aload_n 0, 1) := by decide +kernel
theorem d_R_fetch_41 : decode b_R_fetch 41 = .ok (.aload_n 0, 1) := by decide +kernel
theorem d_R_fetch_42 : decode b_R_fetch 42 = .ok (.getfield 7, 3) := by decide +kernel
theorem d_R_fetch_45 : decode b_R_fetch 45 = .ok (.iload_n 1, 1) := by decide +kernel
theorem d_R_fetch_46 : decode b_R_fetch 46 = .ok (.iconst 3, 1) := by decide +kernel
theorem d_R_fetch_47 : decode b_R_fetch 47 = .ok (.iadd, 1) := by decide +kernel
theorem d_R_fetch_48 : decode b_R_fetch 48 = .ok (.iaload, 1) := by decide +kernel
theorem d_R_fetch_49 : decode b_R_fetch 49 = .ok (.bipush 8, 2) := by decide +kernel
theorem d_R_fetch_51 : decode b_R_fetch 51 = .ok (.irem, 1) := by decide +kernel
theorem d_R_fetch_52 : decode b_R_fetch 52 = .ok (.putfield 60, 3) := by decide +kernel
theorem d_R_fetch_55 : decode b_R_fetch 55 = .ok (.aload_n 0, 1) := by decide +kernel
theorem d_R_fetch_56 : decode b_R_fetch 56 = .ok (.aload_n 0, 1) := by decide +kernel
theorem d_R_fetch_57 : decode b_R_fetch 57 = .ok (.getfield 7, 3) := by decide +kernel
theorem d_R_fetch_60 : decode b_R_fetch 60 = .ok (.iload_n 1, 1) := by decide +kernel
theorem d_R_fetch_61 : decode b_R_fetch 61 = .ok (.iconst 3, 1) := by decide +kernel
theorem d_R_fetch_62 : decode b_R_fetch 62 = .ok (.iadd, 1) := by decide +kernel
theorem d_R_fetch_63 : decode b_R_fetch 63 = .ok (.iaload, 1) := by decide +kernel
theorem d_R_fetch_64 : decode b_R_fetch 64 = .ok (.sipush 128, 3) := by decide +kernel
theorem d_R_fetch_67 : decode b_R_fetch 67 = .ok (.if_icmp .ge 14, 3) := by decide +kernel
theorem d_R_fetch_70 : decode b_R_fetch 70 = .ok (.aload_n 0, 1) := by decide +kernel
theorem d_R_fetch_71 : decode b_R_fetch 71 = .ok (.getfield 7, 3) := by decide +kernel
theorem d_R_fetch_74 : decode b_R_fetch 74 = .ok (.iload_n 1, 1) := by decide +kernel
theorem d_R_fetch_75 : decode b_R_fetch 75 = .ok (.iconst 3, 1) := by decide +kernel
theorem d_R_fetch_76 : decode b_R_fetch 76 = .ok (.iadd, 1) := by decide +kernel
theorem d_R_fetch_77 : decode b_R_fetch 77 = .ok (.iaload, 1) := by decide +kernel
theorem d_R_fetch_78 : decode b_R_fetch 78 = .ok (.goto 15, 3) := by decide +kernel
theorem d_R_fetch_81 : decode b_R_fetch 81 = .ok (.aload_n 0, 1) := by decide +kernel
theorem d_R_fetch_82 : decode b_R_fetch 82 = .ok (.getfield 7, 3) := by decide +kernel
theorem d_R_fetch_85 : decode b_R_fetch 85 = .ok (.iload_n 1, 1) := by decide +kernel
theorem d_R_fetch_86 : decode b_R_fetch 86 = .ok (.iconst 3, 1) := by decide +kernel
theorem d_R_fetch_87 : decode b_R_fetch 87 = .ok (.iadd, 1) := by decide +kernel
theorem d_R_fetch_88 : decode b_R_fetch 88 = .ok (.iaload, 1) := by decide +kernel
theorem d_R_fetch_89 : decode b_R_fetch 89 = .ok (.sipush 256, 3) := by decide +kernel
theorem d_R_fetch_92 : decode b_R_fetch 92 = .ok (.isub, 1) := by decide +kernel
theorem d_R_fetch_93 : decode b_R_fetch 93 = .ok (.putfield 82, 3) := by decide +kernel
theorem d_R_fetch_96 : decode b_R_fetch 96 = .ok (.aload_n 0, 1) := by decide +kernel
theorem d_R_fetch_97 : decode b_R_fetch 97 = .ok (.sipush 256, 3) := by decide +kernel
theorem d_R_fetch_100 : decode b_R_fetch 100 = .ok (.aload_n 0, 1) := by decide +kernel
theorem d_R_fetch_101 : decode b_R_fetch 101 = .ok (.getfield 7, 3) := by decide +kernel
theorem d_R_fetch_104 : decode b_R_fetch 104 = .ok (.iload_n 1, 1) := by decide +kernel
theorem d_R_fetch_105 : decode b_R_fetch 105 = .ok (.iconst 2, 1) := by decide +kernel
theorem d_R_fetch_106 : decode b_R_fetch 106 = .ok (.iadd, 1) := by decide +kernel
theorem d_R_fetch_107 : decode b_R_fetch 107 = .ok (.iaload, 1) := by decide +kernel
theorem d_R_fetch_108 : decode b_R_fetch 108 = .ok (.imul, 1) := by decide +kernel
theorem d_R_fetch_109 : decode b_R_fetch 109 = .ok (.aload_n 0, 1) := by decide +kernel
theorem d_R_fetch_110 : decode b_R_fetch 110 = .ok (.getfield 7, 3) := by decide +kernel
theorem d_R_fetch_113 : decode b_R_fetch 113 = .ok (.iload_n 1, 1) := by decide +kernel
theorem d_R_fetch_114 : decode b_R_fetch 114 = .ok (.iconst 3, 1) := by decide +kernel
theorem d_R_fetch_115 : decode b_R_fetch 115 = .ok (.iadd, 1) := by decide +kernel
theorem d_R_fetch_116 : decode b_R_fetch 116 = .ok (.iaload, 1) := by decide +kernel
theorem d_R_fetch_117 : decode b_R_fetch 117 = .ok (.iadd, 1) := by decide +kernel
theorem d_R_fetch_118 : decode b_R_fetch 118 = .ok (.putfield 127, 3) := by decide +kernel
theorem d_R_fetch_121 : decode b_R_fetch 121 = .ok (.return_, 1) := by decide +kernel
theorem d_R_forAccess_0 : decode b_R_forAccess 0 = .ok (.aload_n 0, 1) := by decide +kernel
theorem d_R_forAccess_1 : decode b_R_forAccess 1 = .ok (.getfield 72, 3) := by decide +kernel
theorem d_R_forAccess_4 : decode b_R_forAccess 4 = .ok (.bipush 20, 2) := by decide +kernel
theorem d_R_forAccess_6 : decode b_R_forAccess 6 = .ok (.if_icmp .ge 7, 3) := by decide +kernel
theorem d_R_forAccess_9 : decode b_R_forAccess 9 = .ok (.iconst 1, 1) := by decide +kernel
theorem d_R_forAccess_10 : decode b_R_forAccess 10 = .ok (.goto 4, 3) := by decide +kernel
theorem d_R_forAccess_13 : decode b_R_forAccess 13 = .ok (.iconst 2, 1) := by decide +kernel
theorem d_R_forAccess_14 : decode b_R_forAccess 14 = .ok (.istore_n 1, 1) := by decide +kernel
theorem d_R_forAccess_15 : decode b_R_forAccess 15 = .ok (.aload_n 0, 1) := by decide +kernel
theorem d_R_forAccess_16 : decode b_R_forAccess 16 = .ok (.getfield 72, 3) := by decide +kernel
theorem d_R_forAccess_19 : decode b_R_forAccess 19 = .ok (.bipush 19, 2) := by decide +kernel
theorem d_R_forAccess_21 : decode b_R_forAccess 21 = .ok (.if_icmp .ne 8, 3) := by decide +kernel
theorem d_R_forAccess_24 : decode b_R_forAccess 24 = .ok (.bipush 9, 2) := by decide +kernel
theorem d_R_forAccess_26 : decode b_R_forAccess 26 = .ok (.goto 30, 3) := by decide +kernel
theorem d_R_forAccess_29 : decode b_R_forAccess 29 = .ok (.aload_n 0, 1) := by decide +kernel
theorem d_R_forAccess_30 : decode b_R_forAccess 30 = .ok (.getfield 72, 3) := by decide +kernel
theorem d_R_forAccess_33 : decode b_R_forAccess 33 = .ok (.bipush 22, 2) := by decide +kernel
theorem d_R_forAccess_35 : decode b_R_forAccess 35 = .ok (.if_icmp .ne 20, 3) := by decide +kernel
theorem d_R_forAccess_38 : decode b_R_forAccess 38 = .ok (.aload_n 0, 1) := by decide +kernel
theorem d_R_forAccess_39 : decode b_R_forAccess 39 = .ok (.getfield 17, 3) := by decide +kernel
theorem d_R_forAccess_42 : decode b_R_forAccess 42 = .ok (.aload_n 0, 1) := by decide +kernel
theorem d_R_forAccess_43 : decode b_R_forAccess 43 = .ok (.getfield 79, 3) := by decide +kernel
theorem d_R_forAccess_46 : decode b_R_forAccess 46 = .ok (.baload, 1) := by decide +kernel
theorem d_R_forAccess_47 : decode b_R_forAccess 47 = .ok (.ifCond .eq 8, 3) := by decide +kernel
theorem d_R_forAccess_50 : decode b_R_forAccess 50 = .ok (.bipush 18, 2) := by decide +kernel
theorem d_R_forAccess_52 : decode b_R_forAccess 52 = .ok (.goto 4, 3) := by decide +kernel
theorem d_R_forAccess_55 : decode b_R_forAccess 55 = .ok (.iload_n 1, 1) := by decide +kernel
theorem d_R_forAccess_56 : decode b_R_forAccess 56 = .ok (.istore_n 1, 1) := by decide +kernel
theorem d_R_forAccess_57 : decode b_R_forAccess 57 = .ok (.aload_n 0, 1) := by decide +kernel
theorem d_R_forAccess_58 : decode b_R_forAccess 58 = .ok (.aload_n 0, 1) := by decide +kernel
theorem d_R_forAccess_59 : decode b_R_forAccess 59 = .ok (.getfield 57, 3) := by decide +kernel
theorem d_R_forAccess_62 : decode b_R_forAccess 62 = .ok (.aload_n 0, 1) := by decide +kernel
theorem d_R_forAccess_63 : decode b_R_forAccess 63 = .ok (.getfield 26, 3) := by decide +kernel
theorem d_R_forAccess_66 : decode b_R_forAccess 66 = .ok (.aload_n 0, 1) := by decide +kernel
theorem d_R_forAccess_67 : decode b_R_forAccess 67 = .ok (.getfield 57, 3) := by decide +kernel
theorem d_R_forAccess_70 : decode b_R_forAccess 70 = .ok (.iaload, 1) := by decide +kernel
theorem d_R_forAccess_71 : decode b_R_forAccess 71 = .ok (.i2l, 1) := by decide +kernel
theorem d_R_forAccess_72 : decode b_R_forAccess 72 = .ok (.aload_n 0, 1) := by decide +kernel
theorem d_R_forAccess_73 : decode b_R_forAccess 73 = .ok (.getfield 82, 3) := by decide +kernel
theorem d_R_forAccess_76 : decode b_R_forAccess 76 = .ok (.i2l, 1) := by decide +kernel
theorem d_R_forAccess_77 : decode b_R_forAccess 77 = .ok (.ladd, 1) := by decide +kernel
theorem d_R_forAccess_78 : decode b_R_forAccess 78 = .ok (.aload_n 0, 1) := by decide +kernel
theorem d_R_forAccess_79 : decode b_R_forAccess 79 = .ok (.invokevirtual 85, 3) := by decide +kernel
theorem d_R_forAccess_82 : decode b_R_forAccess 82 = .ok (.iload_n 1, 1) := by decide +kernel
theorem d_R_forAccess_83 : decode b_R_forAccess 83 = .ok (.invokevirtual 89, 3) := by decide +kernel
theorem d_R_forAccess_86 : decode b_R_forAccess 86 = .ok (.ireturn, 1) := by decide +kernel
theorem d_R_forBounds_0 : decode b_R_forBounds 0 = .ok (.aload_n 0, 1) := by decide +kernel
theorem d_R_forBounds_1 : decode b_R_forBounds 1 = .ok (.aload_n 0, 1) := by decide +kernel
theorem d_R_forBounds_2 : decode b_R_forBounds 2 = .ok (.getfield 57, 3) := by decide +kernel
theorem d_R_forBounds_5 : decode b_R_forBounds 5 = .ok (.invokevirtual 47, 3) := by decide +kernel
theorem d_R_forBounds_8 : decode b_R_forBounds 8 = .ok (.istore_n 1, 1) := by decide +kernel
theorem d_R_forBounds_9 : decode b_R_forBounds 9 = .ok (.iload_n 1, 1) := by decide +kernel
theorem d_R_forBounds_10 : decode b_R_forBounds 10 = .ok (.ifCond .le 5, 3) := by decide +kernel
theorem d_R_forBounds_13 : decode b_R_forBounds 13 = .ok (.iload_n 1, 1) := by decide +kernel
theorem d_R_forBounds_14 : decode b_R_forBounds 14 = .ok (.ireturn, 1) := by decide +kernel
theorem d_R_forBounds_15 : decode b_R_forBounds 15 = .ok (.aload_n 0, 1) := by decide +kernel
theorem d_R_forBounds_16 : decode b_R_forBounds 16 = .ok (.getfield 26, 3) := by decide +kernel
theorem d_R_forBounds_19 : decode b_R_forBounds 19 = .ok (.aload_n 0, 1) := by decide +kernel
theorem d_R_forBounds_20 : decode b_R_forBounds 20 = .ok (.getfield 57, 3) := by decide +kernel
theorem d_R_forBounds_23 : decode b_R_forBounds 23 = .ok (.iaload, 1) := by decide +kernel
theorem d_R_forBounds_24 : decode b_R_forBounds 24 = .ok (.istore_n 2, 1) := by decide +kernel
theorem d_R_forBounds_25 : decode b_R_forBounds 25 = .ok (.aload_n 0, 1) := by decide +kernel
theorem d_R_forBounds_26 : decode b_R_forBounds 26 = .ok (.getfield 26, 3) := by decide +kernel
theorem d_R_forBounds_29 : decode b_R_forBounds 29 = .ok (.aload_n 0, 1) := by decide +kernel
theorem d_R_forBounds_30 : decode b_R_forBounds 30 = .ok (.getfield 60, 3) := by decide +kernel
theorem d_R_forBounds_33 : decode b_R_forBounds 33 = .ok (.iaload, 1) := by decide +kernel
theorem d_R_forBounds_34 : decode b_R_forBounds 34 = .ok (.istore_n 3, 1) := by decide +kernel
theorem d_R_forBounds_35 : decode b_R_forBounds 35 = .ok (.iload_n 3, 1) := by decide +kernel
theorem d_R_forBounds_36 : decode b_R_forBounds 36 = .ok (.ifCond .lt 44, 3) := by decide +kernel
theorem d_R_forBounds_39 : decode b_R_forBounds 39 = .ok (.iload_n 2, 1) := by decide +kernel
theorem d_R_forBounds_40 : decode b_R_forBounds 40 = .ok (.aload_n 0, 1) := by decide +kernel
theorem d_R_forBounds_41 : decode b_R_forBounds 41 = .ok (.getfield 20, 3) := by decide +kernel
theorem d_R_forBounds_44 : decode b_R_forBounds 44 = .ok (.aload_n 0, 1) := by decide +kernel
theorem d_R_forBounds_45 : decode b_R_forBounds 45 = .ok (.getfield 57, 3) := by decide +kernel
theorem d_R_forBounds_48 : decode b_R_forBounds 48 = .ok (.iaload, 1) := by decide +kernel
theorem d_R_forBounds_49 : decode b_R_forBounds 49 = .ok (.if_icmp .lt 31, 3) := by decide +kernel
theorem d_R_forBounds_52 : decode b_R_forBounds 52 = .ok (.iload_n 2, 1) := by decide +kernel
theorem d_R_forBounds_53 : decode b_R_forBounds 53 = .ok (.aload_n 0, 1) := by decide +kernel
theorem d_R_forBounds_54 : decode b_R_forBounds 54 = .ok (.getfield 23, 3) := by decide +kernel
theorem d_R_forBounds_57 : decode b_R_forBounds 57 = .ok (.aload_n 0, 1) := by decide +kernel
theorem d_R_forBounds_58 : decode b_R_forBounds 58 = .ok (.getfield 57, 3) := by decide +kernel
theorem d_R_forBounds_61 : decode b_R_forBounds 61 = .ok (.iaload, 1) := by decide +kernel
theorem d_R_forBounds_62 : decode b_R_forBounds 62 = .ok (.if_icmp .gt 18, 3) := by decide +kernel
theorem d_R_forBounds_65 : decode b_R_forBounds 65 = .ok (.iload_n 3, 1) := by decide +kernel
theorem d_R_forBounds_66 : decode b_R_forBounds 66 = .ok (.aload_n 0, 1) := by decide +kernel
theorem d_R_forBounds_67 : decode b_R_forBounds 67 = .ok (.getfield 23, 3) := by decide +kernel
theorem d_R_forBounds_70 : decode b_R_forBounds 70 = .ok (.aload_n 0, 1) := by decide +kernel
theorem d_R_forBounds_71 : decode b_R_forBounds 71 = .ok (.getfield 57, 3) := by decide +kernel
theorem d_R_forBounds_74 : decode b_R_forBounds 74 = .ok (.iaload, 1) := by decide +kernel
theorem d_R_forBounds_75 : decode b_R_forBounds 75 = .ok (.iload_n 2, 1) := by decide +kernel
theorem d_R_forBounds_76 : decode b_R_forBounds 76 = .ok (.isub, 1) := by decide +kernel
theorem d_R_forBounds_77 : decode b_R_forBounds 77 = .ok (.if_icmp .le 5, 3) := by decide +kernel
theorem d_R_forBounds_80 : decode b_R_forBounds 80 = .ok (.iconst 4, 1) := by decide +kernel
theorem d_R_forBounds_81 : decode b_R_forBounds 81 = .ok (.ireturn, 1) := by decide +kernel
theorem d_R_forBounds_82 : decode b_R_forBounds 82 = .ok (.aload_n 0, 1) := by decide +kernel
theorem d_R_forBounds_83 : decode b_R_forBounds 83 = .ok (.iload_n 2, 1) := by decide +kernel
theorem d_R_forBounds_84 : decode b_R_forBounds 84 = .ok (.iload_n 2, 1) := by decide +kernel
theorem d_R_forBounds_85 : decode b_R_forBounds 85 = .ok (.iload_n 3, 1) := by decide +kernel
theorem d_R_forBounds_86 : decode b_R_forBounds 86 = .ok (.iadd, 1) := by decide +kernel
theorem d_R_forBounds_87 : decode b_R_forBounds 87 = .ok (.invokevirtual 63, 3) := by decide +kernel
theorem d_R_forBounds_90 : decode b_R_forBounds 90 = .ok (.ifCond .eq 5, 3) := by decide +kernel
theorem d_R_forBounds_93 : decode b_R_forBounds 93 = .ok (.iconst 0, 1) := by decide +kernel
theorem d_R_forBounds_94 : decode b_R_forBounds 94 = .ok (.ireturn, 1) := by decide +kernel
theorem d_R_forBounds_95 : decode b_R_forBounds 95 = .ok (.aload_n 0, 1) := by decide +kernel
theorem d_R_forBounds_96 : decode b_R_forBounds 96 = .ok (.iload_n 2, 1) := by decide +kernel
theorem d_R_forBounds_97 : decode b_R_forBounds 97 = .ok (.invokevirtual 66, 3) := by decide +kernel
theorem d_R_forBounds_100 : decode b_R_forBounds 100 = .ok (.aload_n 0, 1) := by decide +kernel
theorem d_R_forBounds_101 : decode b_R_forBounds 101 = .ok (.getfield 20, 3) := by decide +kernel
theorem d_R_forBounds_104 : decode b_R_forBounds 104 = .ok (.aload_n 0, 1) := by decide +kernel
theorem d_R_forBounds_105 : decode b_R_forBounds 105 = .ok (.getfield 57, 3) := by decide +kernel
theorem d_R_forBounds_108 : decode b_R_forBounds 108 = .ok (.iaload, 1) := by decide +kernel
theorem d_R_forBounds_109 : decode b_R_forBounds 109 = .ok (.if_icmp .lt 22, 3) := by decide +kernel
theorem d_R_forBounds_112 : decode b_R_forBounds 112 = .ok (.aload_n 0, 1) := by decide +kernel
theorem d_R_forBounds_113 : decode b_R_forBounds 113 = .ok (.iload_n 2, 1) := by decide +kernel
theorem d_R_forBounds_114 : decode b_R_forBounds 114 = .ok (.iload_n 3, 1) := by decide +kernel
theorem d_R_forBounds_115 : decode b_R_forBounds 115 = .ok (.iadd, 1) := by decide +kernel
theorem d_R_forBounds_116 : decode b_R_forBounds 116 = .ok (.invokevirtual 69, 3) := by decide +kernel
theorem d_R_forBounds_119 : decode b_R_forBounds 119 = .ok (.aload_n 0, 1) := by decide +kernel
theorem d_R_forBounds_120 : decode b_R_forBounds 120 = .ok (.getfield 23, 3) := by decide +kernel
theorem d_R_forBounds_123 : decode b_R_forBounds 123 = .ok (.aload_n 0, 1) := by decide +kernel
theorem d_R_forBounds_124 : decode b_R_forBounds 124 = .ok (.getfield 57, 3) := by decide +kernel
theorem d_R_forBounds_127 : decode b_R_forBounds 127 = .ok (.iaload, 1) := by decide +kernel
theorem d_R_forBounds_128 : decode b_R_forBounds 128 = .ok (.if_icmp .le 5, 3) := by decide +kernel
theorem d_R_forBounds_131 : decode b_R_forBounds 131 = .ok (.iconst 4, 1) := by decide +kernel
theorem d_R_forBounds_132 : decode b_R_forBounds 132 = .ok (.ireturn, 1) := by decide +kernel
theorem d_R_forBounds_133 : decode b_R_forBounds 133 = .ok (.aload_n 0, 1) := by decide +kernel
theorem d_R_forBounds_134 : decode b_R_forBounds 134 = .ok (.getfield 72, 3) := by decide +kernel
theorem d_R_forBounds_137 : decode b_R_forBounds 137 = .ok (.bipush 11, 2) := by decide +kernel
theorem d_R_forBounds_139 : decode b_R_forBounds 139 = .ok (.if_icmp .ne 8, 3) := by decide +kernel
theorem d_R_forBounds_142 : decode b_R_forBounds 142 = .ok (.bipush 6, 2) := by decide +kernel
theorem d_R_forBounds_144 : decode b_R_forBounds 144 = .ok (.goto 4, 3) := by decide +kernel
theorem d_R_forBounds_147 : decode b_R_forBounds 147 = .ok (.iconst 0, 1) := by decide +kernel
theorem d_R_forBounds_148 : decode b_R_forBounds 148 = .ok (.ireturn, 1) := by decide +kernel
theorem d_R_forJump_0 : decode b_R_forJump 0 = .ok (.aload_n 0, 1) := by decide +kernel
theorem d_R_forJump_1 : decode b_R_forJump 1 = .ok (.getfield 17, 3) := by decide +kernel
theorem d_R_forJump_4 : decode b_R_forJump 4 = .ok (.aload_n 0, 1) := by decide +kernel
theorem d_R_forJump_5 : decode b_R_forJump 5 = .ok (.getfield 57, 3) := by decide +kernel
theorem d_R_forJump_8 : decode b_R_forJump 8 = .ok (.baload, 1) := by decide +kernel
theorem d_R_forJump_9 : decode b_R_forJump 9 = .ok (.ifCond .ne 7, 3) := by decide +kernel
theorem d_R_forJump_12 : decode b_R_forJump 12 = .ok (.iconst 1, 1) := by decide +kernel
theorem d_R_forJump_13 : decode b_R_forJump 13 = .ok (.goto 37, 3) := by decide +kernel
theorem d_R_forJump_16 : decode b_R_forJump 16 = .ok (.aload_n 0, 1) := by decide +kernel
theorem d_R_forJump_17 : decode b_R_forJump 17 = .ok (.getfield 32, 3) := by decide +kernel
theorem d_R_forJump_20 : decode b_R_forJump 20 = .ok (.aload_n 0, 1) := by decide +kernel
theorem d_R_forJump_21 : decode b_R_forJump 21 = .ok (.getfield 57, 3) := by decide +kernel
theorem d_R_forJump_24 : decode b_R_forJump 24 = .ok (.iaload, 1) := by decide +kernel
theorem d_R_forJump_25 : decode b_R_forJump 25 = .ok (.iconst 1, 1) := by decide +kernel
theorem d_R_forJump_26 : decode b_R_forJump 26 = .ok (.if_icmp .le 7, 3) := by decide +kernel
theorem d_R_forJump_29 : decode b_R_forJump 29 = .ok (.iconst 2, 1) := by decide +kernel
theorem d_R_forJump_30 : decode b_R_forJump 30 = .ok (.goto 20, 3) := by decide +kernel
theorem d_R_forJump_33 : decode b_R_forJump 33 = .ok (.aload_n 0, 1) := by decide +kernel
theorem d_R_forJump_34 : decode b_R_forJump 34 = .ok (.aload_n 0, 1) := by decide +kernel
theorem d_R_forJump_35 : decode b_R_forJump 35 = .ok (.getfield 57, 3) := by decide +kernel
theorem d_R_forJump_38 : decode b_R_forJump 38 = .ok (.iconst 4, 1) := by decide +kernel
theorem d_R_forJump_39 : decode b_R_forJump 39 = .ok (.invokevirtual 51, 3) := by decide +kernel
theorem d_R_forJump_42 : decode b_R_forJump 42 = .ok (.ifCond .eq 7, 3) := by decide +kernel
theorem d_R_forJump_45 : decode b_R_forJump 45 = .ok (.iconst 0, 1) := by decide +kernel
theorem d_R_forJump_46 : decode b_R_forJump 46 = .ok (.goto 4, 3) := by decide +kernel
theorem d_R_forJump_49 : decode b_R_forJump 49 = .ok (.iconst 3, 1) := by decide +kernel
theorem d_R_forJump_50 : decode b_R_forJump 50 = .ok (.ireturn, 1) := by decide +kernel
theorem d_R_forSeal_0 : decode b_R_forSeal 0 = .ok (.aload_n 0, 1) := by decide +kernel
theorem d_R_forSeal_1 : decode b_R_forSeal 1 = .ok (.getfield 17, 3) := by decide +kernel
theorem d_R_forSeal_4 : decode b_R_forSeal 4 = .ok (.aload_n 0, 1) := by decide +kernel
theorem d_R_forSeal_5 : decode b_R_forSeal 5 = .ok (.getfield 57, 3) := by decide +kernel
theorem d_R_forSeal_8 : decode b_R_forSeal 8 = .ok (.baload, 1) := by decide +kernel
theorem d_R_forSeal_9 : decode b_R_forSeal 9 = .ok (.ifCond .eq 15, 3) := by decide +kernel
theorem d_R_forSeal_12 : decode b_R_forSeal 12 = .ok (.aload_n 0, 1) := by decide +kernel
theorem d_R_forSeal_13 : decode b_R_forSeal 13 = .ok (.getfield 17, 3) := by decide +kernel
theorem d_R_forSeal_16 : decode b_R_forSeal 16 = .ok (.aload_n 0, 1) := by decide +kernel
theorem d_R_forSeal_17 : decode b_R_forSeal 17 = .ok (.getfield 60, 3) := by decide +kernel
theorem d_R_forSeal_20 : decode b_R_forSeal 20 = .ok (.baload, 1) := by decide +kernel
theorem d_R_forSeal_21 : decode b_R_forSeal 21 = .ok (.ifCond .ne 5, 3) := by decide +kernel
theorem d_R_forSeal_24 : decode b_R_forSeal 24 = .ok (.iconst 1, 1) := by decide +kernel
theorem d_R_forSeal_25 : decode b_R_forSeal 25 = .ok (.ireturn, 1) := by decide +kernel
theorem d_R_forSeal_26 : decode b_R_forSeal 26 = .ok (.aload_n 0, 1) := by decide +kernel
theorem d_R_forSeal_27 : decode b_R_forSeal 27 = .ok (.getfield 32, 3) := by decide +kernel
theorem d_R_forSeal_30 : decode b_R_forSeal 30 = .ok (.aload_n 0, 1) := by decide +kernel
theorem d_R_forSeal_31 : decode b_R_forSeal 31 = .ok (.getfield 57, 3) := by decide +kernel
theorem d_R_forSeal_34 : decode b_R_forSeal 34 = .ok (.iaload, 1) := by decide +kernel
theorem d_R_forSeal_35 : decode b_R_forSeal 35 = .ok (.ifCond .gt 15, 3) := by decide +kernel
theorem d_R_forSeal_38 : decode b_R_forSeal 38 = .ok (.aload_n 0, 1) := by decide +kernel
theorem d_R_forSeal_39 : decode b_R_forSeal 39 = .ok (.getfield 32, 3) := by decide +kernel
theorem d_R_forSeal_42 : decode b_R_forSeal 42 = .ok (.aload_n 0, 1) := by decide +kernel
theorem d_R_forSeal_43 : decode b_R_forSeal 43 = .ok (.getfield 60, 3) := by decide +kernel
theorem d_R_forSeal_46 : decode b_R_forSeal 46 = .ok (.iaload, 1) := by decide +kernel
theorem d_R_forSeal_47 : decode b_R_forSeal 47 = .ok (.ifCond .le 5, 3) := by decide +kernel
theorem d_R_forSeal_50 : decode b_R_forSeal 50 = .ok (.iconst 2, 1) := by decide +kernel
theorem d_R_forSeal_51 : decode b_R_forSeal 51 = .ok (.ireturn, 1) := by decide +kernel
theorem d_R_forSeal_52 : decode b_R_forSeal 52 = .ok (.aload_n 0, 1) := by decide +kernel
theorem d_R_forSeal_53 : decode b_R_forSeal 53 = .ok (.aload_n 0, 1) := by decide +kernel
theorem d_R_forSeal_54 : decode b_R_forSeal 54 = .ok (.getfield 60, 3) := by decide +kernel
theorem d_R_forSeal_57 : decode b_R_forSeal 57 = .ok (.bipush 32, 2) := by decide +kernel
theorem d_R_forSeal_59 : decode b_R_forSeal 59 = .ok (.invokevirtual 51, 3) := by decide +kernel
theorem d_R_forSeal_62 : decode b_R_forSeal 62 = .ok (.ifCond .ne 5, 3) := by decide +kernel
theorem d_R_forSeal_65 : decode b_R_forSeal 65 = .ok (.iconst 3, 1) := by decide +kernel
theorem d_R_forSeal_66 : decode b_R_forSeal 66 = .ok (.ireturn, 1) := by decide +kernel
theorem d_R_forSeal_67 : decode b_R_forSeal 67 = .ok (.aload_n 0, 1) := by decide +kernel
theorem d_R_forSeal_68 : decode b_R_forSeal 68 = .ok (.aload_n 0, 1) := by decide +kernel
theorem d_R_forSeal_69 : decode b_R_forSeal 69 = .ok (.getfield 60, 3) := by decide +kernel
theorem d_R_forSeal_72 : decode b_R_forSeal 72 = .ok (.invokevirtual 75, 3) := by decide +kernel
theorem d_R_forSeal_75 : decode b_R_forSeal 75 = .ok (.ifCond .ne 7, 3) := by decide +kernel
theorem d_R_forSeal_78 : decode b_R_forSeal 78 = .ok (.iconst 4, 1) := by decide +kernel
theorem d_R_forSeal_79 : decode b_R_forSeal 79 = .ok (.goto 27, 3) := by decide +kernel
theorem d_R_forSeal_82 : decode b_R_forSeal 82 = .ok (.aload_n 0, 1) := by decide +kernel
theorem d_R_forSeal_83 : decode b_R_forSeal 83 = .ok (.getfield 26, 3) := by decide +kernel
theorem d_R_forSeal_86 : decode b_R_forSeal 86 = .ok (.aload_n 0, 1) := by decide +kernel
theorem d_R_forSeal_87 : decode b_R_forSeal 87 = .ok (.getfield 60, 3) := by decide +kernel
theorem d_R_forSeal_90 : decode b_R_forSeal 90 = .ok (.iaload, 1) := by decide +kernel
theorem d_R_forSeal_91 : decode b_R_forSeal 91 = .ok (.iconst 2, 1) := by decide +kernel
theorem d_R_forSeal_92 : decode b_R_forSeal 92 = .ok (.bipush 15, 2) := by decide +kernel
theorem d_R_forSeal_94 : decode b_R_forSeal 94 = .ok (.invokestatic 43, 3) := by decide +kernel
theorem d_R_forSeal_97 : decode b_R_forSeal 97 = .ok (.ifCond .eq 8, 3) := by decide +kernel
theorem d_R_forSeal_100 : decode b_R_forSeal 100 = .ok (.bipush 7, 2) := by decide +kernel
theorem d_R_forSeal_102 : decode b_R_forSeal 102 = .ok (.goto 4, 3) := by decide +kernel
theorem d_R_forSeal_105 : decode b_R_forSeal 105 = .ok (.iconst 0, 1) := by decide +kernel
theorem d_R_forSeal_106 : decode b_R_forSeal 106 = .ok (.ireturn, 1) := by decide +kernel
theorem d_R_forUnseal_0 : decode b_R_forUnseal 0 = .ok (.aload_n 0, 1) := by decide +kernel
theorem d_R_forUnseal_1 : decode b_R_forUnseal 1 = .ok (.getfield 17, 3) := by decide +kernel
theorem d_R_forUnseal_4 : decode b_R_forUnseal 4 = .ok (.aload_n 0, 1) := by decide +kernel
theorem d_R_forUnseal_5 : decode b_R_forUnseal 5 = .ok (.getfield 57, 3) := by decide +kernel
theorem d_R_forUnseal_8 : decode b_R_forUnseal 8 = .ok (.baload, 1) := by decide +kernel
theorem d_R_forUnseal_9 : decode b_R_forUnseal 9 = .ok (.ifCond .eq 15, 3) := by decide +kernel
theorem d_R_forUnseal_12 : decode b_R_forUnseal 12 = .ok (.aload_n 0, 1) := by decide +kernel
theorem d_R_forUnseal_13 : decode b_R_forUnseal 13 = .ok (.getfield 17, 3) := by decide +kernel
theorem d_R_forUnseal_16 : decode b_R_forUnseal 16 = .ok (.aload_n 0, 1) := by decide +kernel
theorem d_R_forUnseal_17 : decode b_R_forUnseal 17 = .ok (.getfield 60, 3) := by decide +kernel
theorem d_R_forUnseal_20 : decode b_R_forUnseal 20 = .ok (.baload, 1) := by decide +kernel
theorem d_R_forUnseal_21 : decode b_R_forUnseal 21 = .ok (.ifCond .ne 5, 3) := by decide +kernel
theorem d_R_forUnseal_24 : decode b_R_forUnseal 24 = .ok (.iconst 1, 1) := by decide +kernel
theorem d_R_forUnseal_25 : decode b_R_forUnseal 25 = .ok (.ireturn, 1) := by decide +kernel
theorem d_R_forUnseal_26 : decode b_R_forUnseal 26 = .ok (.aload_n 0, 1) := by decide +kernel
theorem d_R_forUnseal_27 : decode b_R_forUnseal 27 = .ok (.getfield 32, 3) := by decide +kernel
theorem d_R_forUnseal_30 : decode b_R_forUnseal 30 = .ok (.aload_n 0, 1) := by decide +kernel
theorem d_R_forUnseal_31 : decode b_R_forUnseal 31 = .ok (.getfield 57, 3) := by decide +kernel
theorem d_R_forUnseal_34 : decode b_R_forUnseal 34 = .ok (.iaload, 1) := by decide +kernel
theorem d_R_forUnseal_35 : decode b_R_forUnseal 35 = .ok (.iconst 2, 1) := by decide +kernel
theorem d_R_forUnseal_36 : decode b_R_forUnseal 36 = .ok (.if_icmp .lt 15, 3) := by decide +kernel
theorem d_R_forUnseal_39 : decode b_R_forUnseal 39 = .ok (.aload_n 0, 1) := by decide +kernel
theorem d_R_forUnseal_40 : decode b_R_forUnseal 40 = .ok (.getfield 32, 3) := by decide +kernel
theorem d_R_forUnseal_43 : decode b_R_forUnseal 43 = .ok (.aload_n 0, 1) := by decide +kernel
theorem d_R_forUnseal_44 : decode b_R_forUnseal 44 = .ok (.getfield 60, 3) := by decide +kernel
theorem d_R_forUnseal_47 : decode b_R_forUnseal 47 = .ok (.iaload, 1) := by decide +kernel
end
section
theorem d_R_forUnseal_48 : decode b_R_forUnseal 48 = .ok (.ifCond .le 5, 3) := by decide +kernel
theorem d_R_forUnseal_51 : decode b_R_forUnseal 51 = .ok (.iconst 2, 1) := by decide +kernel
theorem d_R_forUnseal_52 : decode b_R_forUnseal 52 = .ok (.ireturn, 1) := by decide +kernel
theorem d_R_forUnseal_53 : decode b_R_forUnseal 53 = .ok (.aload_n 0, 1) := by decide +kernel
theorem d_R_forUnseal_54 : decode b_R_forUnseal 54 = .ok (.getfield 26, 3) := by decide +kernel
theorem d_R_forUnseal_57 : decode b_R_forUnseal 57 = .ok (.aload_n 0, 1) := by decide +kernel
theorem d_R_forUnseal_58 : decode b_R_forUnseal 58 = .ok (.getfield 60, 3) := by decide +kernel
theorem d_R_forUnseal_61 : decode b_R_forUnseal 61 = .ok (.iaload, 1) := by decide +kernel
theorem d_R_forUnseal_62 : decode b_R_forUnseal 62 = .ok (.aload_n 0, 1) := by decide +kernel
theorem d_R_forUnseal_63 : decode b_R_forUnseal 63 = .ok (.getfield 32, 3) := by decide +kernel
theorem d_R_forUnseal_66 : decode b_R_forUnseal 66 = .ok (.aload_n 0, 1) := by decide +kernel
theorem d_R_forUnseal_67 : decode b_R_forUnseal 67 = .ok (.getfield 57, 3) := by decide +kernel
theorem d_R_forUnseal_70 : decode b_R_forUnseal 70 = .ok (.iaload, 1) := by decide +kernel
theorem d_R_forUnseal_71 : decode b_R_forUnseal 71 = .ok (.if_icmp .eq 6, 3) := by decide +kernel
theorem d_R_forUnseal_74 : decode b_R_forUnseal 74 = .ok (.bipush 7, 2) := by decide +kernel
theorem d_R_forUnseal_76 : decode b_R_forUnseal 76 = .ok (.ireturn, 1) := by decide +kernel
theorem d_R_forUnseal_77 : decode b_R_forUnseal 77 = .ok (.aload_n 0, 1) := by decide +kernel
theorem d_R_forUnseal_78 : decode b_R_forUnseal 78 = .ok (.aload_n 0, 1) := by decide +kernel
theorem d_R_forUnseal_79 : decode b_R_forUnseal 79 = .ok (.getfield 60, 3) := by decide +kernel
theorem d_R_forUnseal_82 : decode b_R_forUnseal 82 = .ok (.bipush 64, 2) := by decide +kernel
theorem d_R_forUnseal_84 : decode b_R_forUnseal 84 = .ok (.invokevirtual 51, 3) := by decide +kernel
theorem d_R_forUnseal_87 : decode b_R_forUnseal 87 = .ok (.ifCond .ne 7, 3) := by decide +kernel
theorem d_R_forUnseal_90 : decode b_R_forUnseal 90 = .ok (.iconst 3, 1) := by decide +kernel
theorem d_R_forUnseal_91 : decode b_R_forUnseal 91 = .ok (.goto 19, 3) := by decide +kernel
theorem d_R_forUnseal_94 : decode b_R_forUnseal 94 = .ok (.aload_n 0, 1) := by decide +kernel
theorem d_R_forUnseal_95 : decode b_R_forUnseal 95 = .ok (.aload_n 0, 1) := by decide +kernel
theorem d_R_forUnseal_96 : decode b_R_forUnseal 96 = .ok (.getfield 60, 3) := by decide +kernel
theorem d_R_forUnseal_99 : decode b_R_forUnseal 99 = .ok (.invokevirtual 75, 3) := by decide +kernel
theorem d_R_forUnseal_102 : decode b_R_forUnseal 102 = .ok (.ifCond .eq 7, 3) := by decide +kernel
theorem d_R_forUnseal_105 : decode b_R_forUnseal 105 = .ok (.iconst 0, 1) := by decide +kernel
theorem d_R_forUnseal_106 : decode b_R_forUnseal 106 = .ok (.goto 4, 3) := by decide +kernel
theorem d_R_forUnseal_109 : decode b_R_forUnseal 109 = .ok (.iconst 4, 1) := by decide +kernel
theorem d_R_forUnseal_110 : decode b_R_forUnseal 110 = .ok (.ireturn, 1) := by decide +kernel
theorem d_R_goes_0 : decode b_R_goes 0 = .ok (.aload_n 0, 1) := by decide +kernel
theorem d_R_goes_1 : decode b_R_goes 1 = .ok (.getfield 72, 3) := by decide +kernel
theorem d_R_goes_4 : decode b_R_goes 4 = .ok (.iconst 4, 1) := by decide +kernel
theorem d_R_goes_5 : decode b_R_goes 5 = .ok (.if_icmp .ne 32, 3) := by decide +kernel
theorem d_R_goes_8 : decode b_R_goes 8 = .ok (.aload_n 0, 1) := by decide +kernel
theorem d_R_goes_9 : decode b_R_goes 9 = .ok (.getfield 26, 3) := by decide +kernel
theorem d_R_goes_12 : decode b_R_goes 12 = .ok (.aload_n 0, 1) := by decide +kernel
theorem d_R_goes_13 : decode b_R_goes 13 = .ok (.getfield 79, 3) := by decide +kernel
theorem d_R_goes_16 : decode b_R_goes 16 = .ok (.iaload, 1) := by decide +kernel
theorem d_R_goes_17 : decode b_R_goes 17 = .ok (.aload_n 0, 1) := by decide +kernel
theorem d_R_goes_18 : decode b_R_goes 18 = .ok (.getfield 26, 3) := by decide +kernel
theorem d_R_goes_21 : decode b_R_goes 21 = .ok (.aload_n 0, 1) := by decide +kernel
theorem d_R_goes_22 : decode b_R_goes 22 = .ok (.getfield 57, 3) := by decide +kernel
theorem d_R_goes_25 : decode b_R_goes 25 = .ok (.iaload, 1) := by decide +kernel
theorem d_R_goes_26 : decode b_R_goes 26 = .ok (.if_icmp .ne 7, 3) := by decide +kernel
theorem d_R_goes_29 : decode b_R_goes 29 = .ok (.iconst 1, 1) := by decide +kernel
theorem d_R_goes_30 : decode b_R_goes 30 = .ok (.goto 70, 3) := by decide +kernel
theorem d_R_goes_33 : decode b_R_goes 33 = .ok (.iconst 0, 1) := by decide +kernel
theorem d_R_goes_34 : decode b_R_goes 34 = .ok (.goto 66, 3) := by decide +kernel
theorem d_R_goes_37 : decode b_R_goes 37 = .ok (.aload_n 0, 1) := by decide +kernel
theorem d_R_goes_38 : decode b_R_goes 38 = .ok (.getfield 72, 3) := by decide +kernel
theorem d_R_goes_41 : decode b_R_goes 41 = .ok (.iconst 5, 1) := by decide +kernel
theorem d_R_goes_42 : decode b_R_goes 42 = .ok (.if_icmp .ne 32, 3) := by decide +kernel
theorem d_R_goes_45 : decode b_R_goes 45 = .ok (.aload_n 0, 1) := by decide +kernel
theorem d_R_goes_46 : decode b_R_goes 46 = .ok (.getfield 26, 3) := by decide +kernel
theorem d_R_goes_49 : decode b_R_goes 49 = .ok (.aload_n 0, 1) := by decide +kernel
theorem d_R_goes_50 : decode b_R_goes 50 = .ok (.getfield 79, 3) := by decide +kernel
theorem d_R_goes_53 : decode b_R_goes 53 = .ok (.iaload, 1) := by decide +kernel
theorem d_R_goes_54 : decode b_R_goes 54 = .ok (.aload_n 0, 1) := by decide +kernel
theorem d_R_goes_55 : decode b_R_goes 55 = .ok (.getfield 26, 3) := by decide +kernel
theorem d_R_goes_58 : decode b_R_goes 58 = .ok (.aload_n 0, 1) := by decide +kernel
theorem d_R_goes_59 : decode b_R_goes 59 = .ok (.getfield 57, 3) := by decide +kernel
theorem d_R_goes_62 : decode b_R_goes 62 = .ok (.iaload, 1) := by decide +kernel
theorem d_R_goes_63 : decode b_R_goes 63 = .ok (.if_icmp .ge 7, 3) := by decide +kernel
theorem d_R_goes_66 : decode b_R_goes 66 = .ok (.iconst 1, 1) := by decide +kernel
theorem d_R_goes_67 : decode b_R_goes 67 = .ok (.goto 33, 3) := by decide +kernel
theorem d_R_goes_70 : decode b_R_goes 70 = .ok (.iconst 0, 1) := by decide +kernel
theorem d_R_goes_71 : decode b_R_goes 71 = .ok (.goto 29, 3) := by decide +kernel
theorem d_R_goes_74 : decode b_R_goes 74 = .ok (.aload_n 0, 1) := by decide +kernel
theorem d_R_goes_75 : decode b_R_goes 75 = .ok (.getfield 26, 3) := by decide +kernel
theorem d_R_goes_78 : decode b_R_goes 78 = .ok (.aload_n 0, 1) := by decide +kernel
theorem d_R_goes_79 : decode b_R_goes 79 = .ok (.getfield 79, 3) := by decide +kernel
theorem d_R_goes_82 : decode b_R_goes 82 = .ok (.iaload, 1) := by decide +kernel
theorem d_R_goes_83 : decode b_R_goes 83 = .ok (.aload_n 0, 1) := by decide +kernel
theorem d_R_goes_84 : decode b_R_goes 84 = .ok (.getfield 26, 3) := by decide +kernel
theorem d_R_goes_87 : decode b_R_goes 87 = .ok (.aload_n 0, 1) := by decide +kernel
theorem d_R_goes_88 : decode b_R_goes 88 = .ok (.getfield 57, 3) := by decide +kernel
theorem d_R_goes_91 : decode b_R_goes 91 = .ok (.iaload, 1) := by decide +kernel
theorem d_R_goes_92 : decode b_R_goes 92 = .ok (.if_icmp .eq 7, 3) := by decide +kernel
theorem d_R_goes_95 : decode b_R_goes 95 = .ok (.iconst 1, 1) := by decide +kernel
theorem d_R_goes_96 : decode b_R_goes 96 = .ok (.goto 4, 3) := by decide +kernel
theorem d_R_goes_99 : decode b_R_goes 99 = .ok (.iconst 0, 1) := by decide +kernel
theorem d_R_goes_100 : decode b_R_goes 100 = .ok (.ireturn, 1) := by decide +kernel
theorem d_R_grant_0 : decode b_R_grant 0 = .ok (.aload_n 0, 1) := by decide +kernel
theorem d_R_grant_1 : decode b_R_grant 1 = .ok (.iload_n 1, 1) := by decide +kernel
theorem d_R_grant_2 : decode b_R_grant 2 = .ok (.iconst 0, 1) := by decide +kernel
theorem d_R_grant_3 : decode b_R_grant 3 = .ok (.bipush 9, 2) := by decide +kernel
theorem d_R_grant_5 : decode b_R_grant 5 = .ok (.invokestatic 43, 3) := by decide +kernel
theorem d_R_grant_8 : decode b_R_grant 8 = .ok (.ifCond .ne 31, 3) := by decide +kernel
theorem d_R_grant_11 : decode b_R_grant 11 = .ok (.iload_n 2, 1) := by decide +kernel
theorem d_R_grant_12 : decode b_R_grant 12 = .ok (.ifCond .lt 27, 3) := by decide +kernel
theorem d_R_grant_15 : decode b_R_grant 15 = .ok (.iload_n 2, 1) := by decide +kernel
theorem d_R_grant_16 : decode b_R_grant 16 = .ok (.iload_n 3, 1) := by decide +kernel
theorem d_R_grant_17 : decode b_R_grant 17 = .ok (.if_icmp .gt 22, 3) := by decide +kernel
theorem d_R_grant_20 : decode b_R_grant 20 = .ok (.iload_n 3, 1) := by decide +kernel
theorem d_R_grant_21 : decode b_R_grant 21 = .ok (.sipush 512, 3) := by decide +kernel
theorem d_R_grant_24 : decode b_R_grant 24 = .ok (.if_icmp .gt 15, 3) := by decide +kernel
theorem d_R_grant_27 : decode b_R_grant 27 = .ok (.iload 5, 2) := by decide +kernel
theorem d_R_grant_29 : decode b_R_grant 29 = .ok (.iconst 0, 1) := by decide +kernel
theorem d_R_grant_30 : decode b_R_grant 30 = .ok (.sipush 255, 3) := by decide +kernel
theorem d_R_grant_33 : decode b_R_grant 33 = .ok (.invokestatic 43, 3) := by decide +kernel
theorem d_R_grant_36 : decode b_R_grant 36 = .ok (.ifCond .eq 7, 3) := by decide +kernel
theorem d_R_grant_39 : decode b_R_grant 39 = .ok (.iconst 1, 1) := by decide +kernel
theorem d_R_grant_40 : decode b_R_grant 40 = .ok (.goto 4, 3) := by decide +kernel
theorem d_R_grant_43 : decode b_R_grant 43 = .ok (.iconst 0, 1) := by decide +kernel
theorem d_R_grant_44 : decode b_R_grant 44 = .ok (.putfield 39, 3) := by decide +kernel
theorem d_R_grant_47 : decode b_R_grant 47 = .ok (.aload_n 0, 1) := by decide +kernel
theorem d_R_grant_48 : decode b_R_grant 48 = .ok (.getfield 39, 3) := by decide +kernel
theorem d_R_grant_51 : decode b_R_grant 51 = .ok (.ifCond .le 4, 3) := by decide +kernel
theorem d_R_grant_54 : decode b_R_grant 54 = .ok (.return_, 1) := by decide +kernel
theorem d_R_grant_55 : decode b_R_grant 55 = .ok (.aload_n 0, 1) := by decide +kernel
theorem d_R_grant_56 : decode b_R_grant 56 = .ok (.iload_n 1, 1) := by decide +kernel
theorem d_R_grant_57 : decode b_R_grant 57 = .ok (.iload_n 2, 1) := by decide +kernel
theorem d_R_grant_58 : decode b_R_grant 58 = .ok (.iload_n 3, 1) := by decide +kernel
theorem d_R_grant_59 : decode b_R_grant 59 = .ok (.iload 4, 2) := by decide +kernel
theorem d_R_grant_61 : decode b_R_grant 61 = .ok (.iload 5, 2) := by decide +kernel
theorem d_R_grant_63 : decode b_R_grant 63 = .ok (.invokevirtual 35, 3) := by decide +kernel
theorem d_R_grant_66 : decode b_R_grant 66 = .ok (.aload_n 0, 1) := by decide +kernel
theorem d_R_grant_67 : decode b_R_grant 67 = .ok (.iconst 0, 1) := by decide +kernel
theorem d_R_grant_68 : decode b_R_grant 68 = .ok (.putfield 168, 3) := by decide +kernel
theorem d_R_grant_71 : decode b_R_grant 71 = .ok (.return_, 1) := by decide +kernel
theorem d_R_init_0 : decode b_R_init 0 = .ok (.aload_n 0, 1) := by decide +kernel
theorem d_R_init_1 : decode b_R_init 1 = .ok (.invokespecial 1, 3) := by decide +kernel
theorem d_R_init_4 : decode b_R_init 4 = .ok (.aload_n 0, 1) := by decide +kernel
theorem d_R_init_5 : decode b_R_init 5 = .ok (.sipush 512, 3) := by decide +kernel
theorem d_R_init_8 : decode b_R_init 8 = .ok (.newarray .int, 2) := by decide +kernel
theorem d_R_init_10 : decode b_R_init 10 = .ok (.putfield 7, 3) := by decide +kernel
theorem d_R_init_13 : decode b_R_init 13 = .ok (.aload_n 0, 1) := by decide +kernel
theorem d_R_init_14 : decode b_R_init 14 = .ok (.bipush 64, 2) := by decide +kernel
theorem d_R_init_16 : decode b_R_init 16 = .ok (.newarray .boolean, 2) := by decide +kernel
theorem d_R_init_18 : decode b_R_init 18 = .ok (.putfield 13, 3) := by decide +kernel
theorem d_R_init_21 : decode b_R_init 21 = .ok (.aload_n 0, 1) := by decide +kernel
theorem d_R_init_22 : decode b_R_init 22 = .ok (.bipush 12, 2) := by decide +kernel
theorem d_R_init_24 : decode b_R_init 24 = .ok (.newarray .boolean, 2) := by decide +kernel
theorem d_R_init_26 : decode b_R_init 26 = .ok (.putfield 17, 3) := by decide +kernel
theorem d_R_init_29 : decode b_R_init 29 = .ok (.aload_n 0, 1) := by decide +kernel
theorem d_R_init_30 : decode b_R_init 30 = .ok (.bipush 12, 2) := by decide +kernel
theorem d_R_init_32 : decode b_R_init 32 = .ok (.newarray .int, 2) := by decide +kernel
theorem d_R_init_34 : decode b_R_init 34 = .ok (.putfield 20, 3) := by decide +kernel
theorem d_R_init_37 : decode b_R_init 37 = .ok (.aload_n 0, 1) := by decide +kernel
theorem d_R_init_38 : decode b_R_init 38 = .ok (.bipush 12, 2) := by decide +kernel
theorem d_R_init_40 : decode b_R_init 40 = .ok (.newarray .int, 2) := by decide +kernel
theorem d_R_init_42 : decode b_R_init 42 = .ok (.putfield 23, 3) := by decide +kernel
theorem d_R_init_45 : decode b_R_init 45 = .ok (.aload_n 0, 1) := by decide +kernel
theorem d_R_init_46 : decode b_R_init 46 = .ok (.bipush 12, 2) := by decide +kernel
theorem d_R_init_48 : decode b_R_init 48 = .ok (.newarray .int, 2) := by decide +kernel
theorem d_R_init_50 : decode b_R_init 50 = .ok (.putfield 26, 3) := by decide +kernel
theorem d_R_init_53 : decode b_R_init 53 = .ok (.aload_n 0, 1) := by decide +kernel
theorem d_R_init_54 : decode b_R_init 54 = .ok (.bipush 12, 2) := by decide +kernel
theorem d_R_init_56 : decode b_R_init 56 = .ok (.newarray .int, 2) := by decide +kernel
theorem d_R_init_58 : decode b_R_init 58 = .ok (.putfield 29, 3) := by decide +kernel
theorem d_R_init_61 : decode b_R_init 61 = .ok (.aload_n 0, 1) := by decide +kernel
theorem d_R_init_62 : decode b_R_init 62 = .ok (.bipush 12, 2) := by decide +kernel
theorem d_R_init_64 : decode b_R_init 64 = .ok (.newarray .int, 2) := by decide +kernel
theorem d_R_init_66 : decode b_R_init 66 = .ok (.putfield 32, 3) := by decide +kernel
theorem d_R_init_69 : decode b_R_init 69 = .ok (.aload_n 0, 1) := by decide +kernel
theorem d_R_init_70 : decode b_R_init 70 = .ok (.bipush 8, 2) := by decide +kernel
theorem d_R_init_72 : decode b_R_init 72 = .ok (.iconst 0, 1) := by decide +kernel
theorem d_R_init_73 : decode b_R_init 73 = .ok (.sipush 512, 3) := by decide +kernel
theorem d_R_init_76 : decode b_R_init 76 = .ok (.iconst 0, 1) := by decide +kernel
theorem d_R_init_77 : decode b_R_init 77 = .ok (.sipush 255, 3) := by decide +kernel
theorem d_R_init_80 : decode b_R_init 80 = .ok (.invokevirtual 35, 3) := by decide +kernel
theorem d_R_init_83 : decode b_R_init 83 = .ok (.aload_n 0, 1) := by decide +kernel
theorem d_R_init_84 : decode b_R_init 84 = .ok (.iconst 1, 1) := by decide +kernel
theorem d_R_init_85 : decode b_R_init 85 = .ok (.iconst 0, 1) := by decide +kernel
theorem d_R_init_86 : decode b_R_init 86 = .ok (.sipush 512, 3) := by decide +kernel
theorem d_R_init_89 : decode b_R_init 89 = .ok (.iconst 0, 1) := by decide +kernel
theorem d_R_init_90 : decode b_R_init 90 = .ok (.sipush 255, 3) := by decide +kernel
theorem d_R_init_93 : decode b_R_init 93 = .ok (.invokevirtual 35, 3) := by decide +kernel
theorem d_R_init_96 : decode b_R_init 96 = .ok (.return_, 1) := by decide +kernel
theorem d_R_jump_0 : decode b_R_jump 0 = .ok (.aload_n 0, 1) := by decide +kernel
theorem d_R_jump_1 : decode b_R_jump 1 = .ok (.aload_n 0, 1) := by decide +kernel
theorem d_R_jump_2 : decode b_R_jump 2 = .ok (.getfield 57, 3) := by decide +kernel
theorem d_R_jump_5 : decode b_R_jump 5 = .ok (.bipush 11, 2) := by decide +kernel
theorem d_R_jump_7 : decode b_R_jump 7 = .ok (.invokevirtual 134, 3) := by decide +kernel
theorem d_R_jump_10 : decode b_R_jump 10 = .ok (.aload_n 0, 1) := by decide +kernel
theorem d_R_jump_11 : decode b_R_jump 11 = .ok (.bipush 8, 2) := by decide +kernel
theorem d_R_jump_13 : decode b_R_jump 13 = .ok (.aload_n 0, 1) := by decide +kernel
theorem d_R_jump_14 : decode b_R_jump 14 = .ok (.getfield 79, 3) := by decide +kernel
theorem d_R_jump_17 : decode b_R_jump 17 = .ok (.invokevirtual 134, 3) := by decide +kernel
theorem d_R_jump_20 : decode b_R_jump 20 = .ok (.aload_n 0, 1) := by decide +kernel
theorem d_R_jump_21 : decode b_R_jump 21 = .ok (.aload_n 0, 1) := by decide +kernel
theorem d_R_jump_22 : decode b_R_jump 22 = .ok (.getfield 79, 3) := by decide +kernel
theorem d_R_jump_25 : decode b_R_jump 25 = .ok (.aload_n 0, 1) := by decide +kernel
theorem d_R_jump_26 : decode b_R_jump 26 = .ok (.getfield 26, 3) := by decide +kernel
theorem d_R_jump_29 : decode b_R_jump 29 = .ok (.bipush 8, 2) := by decide +kernel
theorem d_R_jump_31 : decode b_R_jump 31 = .ok (.iaload, 1) := by decide +kernel
theorem d_R_jump_32 : decode b_R_jump 32 = .ok (.iconst 4, 1) := by decide +kernel
theorem d_R_jump_33 : decode b_R_jump 33 = .ok (.iadd, 1) := by decide +kernel
theorem d_R_jump_34 : decode b_R_jump 34 = .ok (.invokevirtual 137, 3) := by decide +kernel
theorem d_R_jump_37 : decode b_R_jump 37 = .ok (.aload_n 0, 1) := by decide +kernel
theorem d_R_jump_38 : decode b_R_jump 38 = .ok (.getfield 32, 3) := by decide +kernel
theorem d_R_jump_41 : decode b_R_jump 41 = .ok (.aload_n 0, 1) := by decide +kernel
theorem d_R_jump_42 : decode b_R_jump 42 = .ok (.getfield 79, 3) := by decide +kernel
theorem d_R_jump_45 : decode b_R_jump 45 = .ok (.iconst 1, 1) := by decide +kernel
theorem d_R_jump_46 : decode b_R_jump 46 = .ok (.iastore, 1) := by decide +kernel
theorem d_R_jump_47 : decode b_R_jump 47 = .ok (.aload_n 0, 1) := by decide +kernel
theorem d_R_jump_48 : decode b_R_jump 48 = .ok (.bipush 11, 2) := by decide +kernel
theorem d_R_jump_50 : decode b_R_jump 50 = .ok (.bipush 8, 2) := by decide +kernel
theorem d_R_jump_52 : decode b_R_jump 52 = .ok (.invokevirtual 134, 3) := by decide +kernel
theorem d_R_jump_55 : decode b_R_jump 55 = .ok (.aload_n 0, 1) := by decide +kernel
theorem d_R_jump_56 : decode b_R_jump 56 = .ok (.getfield 32, 3) := by decide +kernel
theorem d_R_jump_59 : decode b_R_jump 59 = .ok (.bipush 8, 2) := by decide +kernel
theorem d_R_jump_61 : decode b_R_jump 61 = .ok (.iconst 0, 1) := by decide +kernel
theorem d_R_jump_62 : decode b_R_jump 62 = .ok (.iastore, 1) := by decide +kernel
theorem d_R_jump_63 : decode b_R_jump 63 = .ok (.return_, 1) := by decide +kernel
theorem d_R_load_0 : decode b_R_load 0 = .ok (.aload_n 0, 1) := by decide +kernel
theorem d_R_load_1 : decode b_R_load 1 = .ok (.iload_n 1, 1) := by decide +kernel
theorem d_R_load_2 : decode b_R_load 2 = .ok (.invokevirtual 111, 3) := by decide +kernel
theorem d_R_load_5 : decode b_R_load 5 = .ok (.istore_n 2, 1) := by decide +kernel
theorem d_R_load_6 : decode b_R_load 6 = .ok (.aload_n 0, 1) := by decide +kernel
theorem d_R_load_7 : decode b_R_load 7 = .ok (.iload_n 1, 1) := by decide +kernel
theorem d_R_load_8 : decode b_R_load 8 = .ok (.iconst 4, 1) := by decide +kernel
theorem d_R_load_9 : decode b_R_load 9 = .ok (.iadd, 1) := by decide +kernel
theorem d_R_load_10 : decode b_R_load 10 = .ok (.invokevirtual 111, 3) := by decide +kernel
theorem d_R_load_13 : decode b_R_load 13 = .ok (.istore_n 3, 1) := by decide +kernel
theorem d_R_load_14 : decode b_R_load 14 = .ok (.aload_n 0, 1) := by decide +kernel
theorem d_R_load_15 : decode b_R_load 15 = .ok (.aload_n 0, 1) := by decide +kernel
theorem d_R_load_16 : decode b_R_load 16 = .ok (.getfield 79, 3) := by decide +kernel
theorem d_R_load_19 : decode b_R_load 19 = .ok (.iload_n 3, 1) := by decide +kernel
theorem d_R_load_20 : decode b_R_load 20 = .ok (.sipush 1023, 3) := by decide +kernel
theorem d_R_load_23 : decode b_R_load 23 = .ok (.iand, 1) := by decide +kernel
theorem d_R_load_24 : decode b_R_load 24 = .ok (.iload_n 3, 1) := by decide +kernel
theorem d_R_load_25 : decode b_R_load 25 = .ok (.bipush 10, 2) := by decide +kernel
theorem d_R_load_27 : decode b_R_load 27 = .ok (.ishr, 1) := by decide +kernel
theorem d_R_load_28 : decode b_R_load 28 = .ok (.sipush 1023, 3) := by decide +kernel
theorem d_R_load_31 : decode b_R_load 31 = .ok (.iand, 1) := by decide +kernel
theorem d_R_load_32 : decode b_R_load 32 = .ok (.iload_n 2, 1) := by decide +kernel
theorem d_R_load_33 : decode b_R_load 33 = .ok (.iload_n 3, 1) := by decide +kernel
theorem d_R_load_34 : decode b_R_load 34 = .ok (.bipush 24, 2) := by decide +kernel
theorem d_R_load_36 : decode b_R_load 36 = .ok (.ishr, 1) := by decide +kernel
theorem d_R_load_37 : decode b_R_load 37 = .ok (.sipush 255, 3) := by decide +kernel
theorem d_R_load_40 : decode b_R_load 40 = .ok (.iand, 1) := by decide +kernel
theorem d_R_load_41 : decode b_R_load 41 = .ok (.invokevirtual 35, 3) := by decide +kernel
theorem d_R_load_44 : decode b_R_load 44 = .ok (.aload_n 0, 1) := by decide +kernel
theorem d_R_load_45 : decode b_R_load 45 = .ok (.getfield 32, 3) := by decide +kernel
theorem d_R_load_48 : decode b_R_load 48 = .ok (.aload_n 0, 1) := by decide +kernel
theorem d_R_load_49 : decode b_R_load 49 = .ok (.getfield 79, 3) := by decide +kernel
theorem d_R_load_52 : decode b_R_load 52 = .ok (.iload_n 3, 1) := by decide +kernel
theorem d_R_load_53 : decode b_R_load 53 = .ok (.bipush 20, 2) := by decide +kernel
theorem d_R_load_55 : decode b_R_load 55 = .ok (.ishr, 1) := by decide +kernel
theorem d_R_load_56 : decode b_R_load 56 = .ok (.bipush 15, 2) := by decide +kernel
theorem d_R_load_58 : decode b_R_load 58 = .ok (.iand, 1) := by decide +kernel
theorem d_R_load_59 : decode b_R_load 59 = .ok (.iastore, 1) := by decide +kernel
theorem d_R_load_60 : decode b_R_load 60 = .ok (.aload_n 0, 1) := by decide +kernel
theorem d_R_load_61 : decode b_R_load 61 = .ok (.getfield 17, 3) := by decide +kernel
theorem d_R_load_64 : decode b_R_load 64 = .ok (.aload_n 0, 1) := by decide +kernel
theorem d_R_load_65 : decode b_R_load 65 = .ok (.getfield 79, 3) := by decide +kernel
theorem d_R_load_68 : decode b_R_load 68 = .ok (.aload_n 0, 1) := by decide +kernel
theorem d_R_load_69 : decode b_R_load 69 = .ok (.getfield 13, 3) := by decide +kernel
theorem d_R_load_72 : decode b_R_load 72 = .ok (.iload_n 1, 1) := by decide +kernel
theorem d_R_load_73 : decode b_R_load 73 = .ok (.bipush 8, 2) := by decide +kernel
theorem d_R_load_75 : decode b_R_load 75 = .ok (.idiv, 1) := by decide +kernel
theorem d_R_load_76 : decode b_R_load 76 = .ok (.baload, 1) := by decide +kernel
theorem d_R_load_77 : decode b_R_load 77 = .ok (.bastore, 1) := by decide +kernel
theorem d_R_load_78 : decode b_R_load 78 = .ok (.return_, 1) := by decide +kernel
theorem d_R_look_0 : decode b_R_look 0 = .ok (.iload_n 1, 1) := by decide +kernel
theorem d_R_look_1 : decode b_R_look 1 = .ok (.iconst 0, 1) := by decide +kernel
theorem d_R_look_2 : decode b_R_look 2 = .ok (.bipush 10, 2) := by decide +kernel
theorem d_R_look_4 : decode b_R_look 4 = .ok (.invokestatic 43, 3) := by decide +kernel
theorem d_R_look_7 : decode b_R_look 7 = .ok (.ifCond .ne 12, 3) := by decide +kernel
theorem d_R_look_10 : decode b_R_look 10 = .ok (.iload_n 2, 1) := by decide +kernel
theorem d_R_look_11 : decode b_R_look 11 = .ok (.iconst 0, 1) := by decide +kernel
theorem d_R_look_12 : decode b_R_look 12 = .ok (.iconst 5, 1) := by decide +kernel
theorem d_R_look_13 : decode b_R_look 13 = .ok (.invokestatic 43, 3) := by decide +kernel
theorem d_R_look_16 : decode b_R_look 16 = .ok (.ifCond .eq 9, 3) := by decide +kernel
theorem d_R_look_19 : decode b_R_look 19 = .ok (.aload_n 0, 1) := by decide +kernel
theorem d_R_look_20 : decode b_R_look 20 = .ok (.iconst 1, 1) := by decide +kernel
theorem d_R_look_21 : decode b_R_look 21 = .ok (.invokevirtual 180, 3) := by decide +kernel
theorem d_R_look_24 : decode b_R_look 24 = .ok (.ireturn, 1) := by decide +kernel
theorem d_R_look_25 : decode b_R_look 25 = .ok (.aload_n 0, 1) := by decide +kernel
theorem d_R_look_26 : decode b_R_look 26 = .ok (.iconst 0, 1) := by decide +kernel
theorem d_R_look_27 : decode b_R_look 27 = .ok (.putfield 39, 3) := by decide +kernel
theorem d_R_look_30 : decode b_R_look 30 = .ok (.iload_n 2, 1) := by decide +kernel
theorem d_R_look_31 : decode b_R_look 31 = .ok (.iconst 1, 1) := by decide +kernel
theorem d_R_look_32 : decode b_R_look 32 = .ok (.if_icmp .ne 12, 3) := by decide +kernel
theorem d_R_look_35 : decode b_R_look 35 = .ok (.aload_n 0, 1) := by decide +kernel
theorem d_R_look_36 : decode b_R_look 36 = .ok (.getfield 20, 3) := by decide +kernel
theorem d_R_look_39 : decode b_R_look 39 = .ok (.iload_n 1, 1) := by decide +kernel
theorem d_R_look_40 : decode b_R_look 40 = .ok (.iaload, 1) := by decide +kernel
theorem d_R_look_41 : decode b_R_look 41 = .ok (.goto 9, 3) := by decide +kernel
theorem d_R_look_44 : decode b_R_look 44 = .ok (.aload_n 0, 1) := by decide +kernel
theorem d_R_look_45 : decode b_R_look 45 = .ok (.getfield 23, 3) := by decide +kernel
theorem d_R_look_48 : decode b_R_look 48 = .ok (.iload_n 1, 1) := by decide +kernel
theorem d_R_look_49 : decode b_R_look 49 = .ok (.iaload, 1) := by decide +kernel
theorem d_R_look_50 : decode b_R_look 50 = .ok (.istore_n 3, 1) := by decide +kernel
theorem d_R_look_51 : decode b_R_look 51 = .ok (.iload_n 2, 1) := by decide +kernel
theorem d_R_look_52 : decode b_R_look 52 = .ok (.iconst 3, 1) := by decide +kernel
theorem d_R_look_53 : decode b_R_look 53 = .ok (.if_icmp .ne 12, 3) := by decide +kernel
theorem d_R_look_56 : decode b_R_look 56 = .ok (.aload_n 0, 1) := by decide +kernel
theorem d_R_look_57 : decode b_R_look 57 = .ok (.getfield 29, 3) := by decide +kernel
theorem d_R_look_60 : decode b_R_look 60 = .ok (.iload_n 1, 1) := by decide +kernel
theorem d_R_look_61 : decode b_R_look 61 = .ok (.iaload, 1) := by decide +kernel
theorem d_R_look_62 : decode b_R_look 62 = .ok (.goto 23, 3) := by decide +kernel
theorem d_R_look_65 : decode b_R_look 65 = .ok (.iload_n 2, 1) := by decide +kernel
theorem d_R_look_66 : decode b_R_look 66 = .ok (.iconst 4, 1) := by decide +kernel
theorem d_R_look_67 : decode b_R_look 67 = .ok (.if_icmp .ne 12, 3) := by decide +kernel
theorem d_R_look_70 : decode b_R_look 70 = .ok (.aload_n 0, 1) := by decide +kernel
theorem d_R_look_71 : decode b_R_look 71 = .ok (.getfield 32, 3) := by decide +kernel
theorem d_R_look_74 : decode b_R_look 74 = .ok (.iload_n 1, 1) := by decide +kernel
theorem d_R_look_75 : decode b_R_look 75 = .ok (.iaload, 1) := by decide +kernel
theorem d_R_look_76 : decode b_R_look 76 = .ok (.goto 9, 3) := by decide +kernel
theorem d_R_look_79 : decode b_R_look 79 = .ok (.aload_n 0, 1) := by decide +kernel
theorem d_R_look_80 : decode b_R_look 80 = .ok (.getfield 26, 3) := by decide +kernel
theorem d_R_look_83 : decode b_R_look 83 = .ok (.iload_n 1, 1) := by decide +kernel
theorem d_R_look_84 : decode b_R_look 84 = .ok (.iaload, 1) := by decide +kernel
theorem d_R_look_85 : decode b_R_look 85 = .ok (.istore 4, 2) := by decide +kernel
theorem d_R_look_87 : decode b_R_look 87 = .ok (.iload_n 2, 1) := by decide +kernel
theorem d_R_look_88 : decode b_R_look 88 = .ok (.ifCond .ne 20, 3) := by decide +kernel
theorem d_R_look_91 : decode b_R_look 91 = .ok (.aload_n 0, 1) := by decide +kernel
theorem d_R_look_92 : decode b_R_look 92 = .ok (.getfield 17, 3) := by decide +kernel
theorem d_R_look_95 : decode b_R_look 95 = .ok (.iload_n 1, 1) := by decide +kernel
theorem d_R_look_96 : decode b_R_look 96 = .ok (.baload, 1) := by decide +kernel
theorem d_R_look_97 : decode b_R_look 97 = .ok (.ifCond .eq 7, 3) := by decide +kernel
theorem d_R_look_100 : decode b_R_look 100 = .ok (.iconst 1, 1) := by decide +kernel
theorem d_R_look_101 : decode b_R_look 101 = .ok (.goto 18, 3) := by decide +kernel
theorem d_R_look_104 : decode b_R_look 104 = .ok (.iconst 0, 1) := by decide +kernel
theorem d_R_look_105 : decode b_R_look 105 = .ok (.goto 14, 3) := by decide +kernel
theorem d_R_look_108 : decode b_R_look 108 = .ok (.iload_n 2, 1) := by decide +kernel
theorem d_R_look_109 : decode b_R_look 109 = .ok (.iconst 3, 1) := by decide +kernel
theorem d_R_look_110 : decode b_R_look 110 = .ok (.if_icmp .ge 7, 3) := by decide +kernel
theorem d_R_look_113 : decode b_R_look 113 = .ok (.iload_n 3, 1) := by decide +kernel
theorem d_R_look_114 : decode b_R_look 114 = .ok (.goto 5, 3) := by decide +kernel
theorem d_R_look_117 : decode b_R_look 117 = .ok (.iload 4, 2) := by decide +kernel
theorem d_R_look_119 : decode b_R_look 119 = .ok (.ireturn, 1) := by decide +kernel
theorem d_R_loose_0 : decode b_R_loose 0 = .ok (.aload_n 0, 1) := by decide +kernel
theorem d_R_loose_1 : decode b_R_loose 1 = .ok (.getfield 17, 3) := by decide +kernel
theorem d_R_loose_4 : decode b_R_loose 4 = .ok (.iload_n 1, 1) := by decide +kernel
theorem d_R_loose_5 : decode b_R_loose 5 = .ok (.baload, 1) := by decide +kernel
theorem d_R_loose_6 : decode b_R_loose 6 = .ok (.ifCond .eq 16, 3) := by decide +kernel
theorem d_R_loose_9 : decode b_R_loose 9 = .ok (.aload_n 0, 1) := by decide +kernel
theorem d_R_loose_10 : decode b_R_loose 10 = .ok (.getfield 32, 3) := by decide +kernel
theorem d_R_loose_13 : decode b_R_loose 13 = .ok (.iload_n 1, 1) := by decide +kernel
theorem d_R_loose_14 : decode b_R_loose 14 = .ok (.iaload, 1) := by decide +kernel
theorem d_R_loose_15 : decode b_R_loose 15 = .ok (.ifCond .le 7, 3) := by decide +kernel
theorem d_R_loose_18 : decode b_R_loose 18 = .ok (.iconst 2, 1) := by decide +kernel
theorem d_R_loose_19 : decode b_R_loose 19 = .ok (.goto 4, 3) := by decide +kernel
theorem d_R_loose_22 : decode b_R_loose 22 = .ok (.iconst 0, 1) := by decide +kernel
theorem d_R_loose_23 : decode b_R_loose 23 = .ok (.ireturn, 1) := by decide +kernel
theorem d_R_may_0 : decode b_R_may 0 = .ok (.aload_n 0, 1) := by decide +kernel
theorem d_R_may_1 : decode b_R_may 1 = .ok (.getfield 29, 3) := by decide +kernel
theorem d_R_may_4 : decode b_R_may 4 = .ok (.iload_n 1, 1) := by decide +kernel
theorem d_R_may_5 : decode b_R_may 5 = .ok (.iaload, 1) := by decide +kernel
theorem d_R_may_6 : decode b_R_may 6 = .ok (.iload_n 2, 1) := by decide +kernel
theorem d_R_may_7 : decode b_R_may 7 = .ok (.iand, 1) := by decide +kernel
theorem d_R_may_8 : decode b_R_may 8 = .ok (.iload_n 2, 1) := by decide +kernel
theorem d_R_may_9 : decode b_R_may 9 = .ok (.if_icmp .ne 7, 3) := by decide +kernel
theorem d_R_may_12 : decode b_R_may 12 = .ok (.iconst 1, 1) := by decide +kernel
theorem d_R_may_13 : decode b_R_may 13 = .ok (.goto 4, 3) := by decide +kernel
theorem d_R_may_16 : decode b_R_may 16 = .ok (.iconst 0, 1) := by decide +kernel
theorem d_R_may_17 : decode b_R_may 17 = .ok (.ireturn, 1) := by decide +kernel
theorem d_R_move_0 : decode b_R_move 0 = .ok (.aload_n 0, 1) := by decide +kernel
theorem d_R_move_1 : decode b_R_move 1 = .ok (.getfield 17, 3) := by decide +kernel
theorem d_R_move_4 : decode b_R_move 4 = .ok (.iload_n 1, 1) := by decide +kernel
theorem d_R_move_5 : decode b_R_move 5 = .ok (.aload_n 0, 1) := by decide +kernel
theorem d_R_move_6 : decode b_R_move 6 = .ok (.getfield 17, 3) := by decide +kernel
theorem d_R_move_9 : decode b_R_move 9 = .ok (.iload_n 1, 1) := by decide +kernel
theorem d_R_move_10 : decode b_R_move 10 = .ok (.baload, 1) := by decide +kernel
theorem d_R_move_11 : decode b_R_move 11 = .ok (.ifCond .eq 32, 3) := by decide +kernel
theorem d_R_move_14 : decode b_R_move 14 = .ok (.iload_n 2, 1) := by decide +kernel
theorem d_R_move_15 : decode b_R_move 15 = .ok (.aload_n 0, 1) := by decide +kernel
theorem d_R_move_16 : decode b_R_move 16 = .ok (.getfield 20, 3) := by decide +kernel
theorem d_R_move_19 : decode b_R_move 19 = .ok (.iload_n 1, 1) := by decide +kernel
theorem d_R_move_20 : decode b_R_move 20 = .ok (.iaload, 1) := by decide +kernel
theorem d_R_move_21 : decode b_R_move 21 = .ok (.bipush 64, 2) := by decide +kernel
theorem d_R_move_23 : decode b_R_move 23 = .ok (.isub, 1) := by decide +kernel
theorem d_R_move_24 : decode b_R_move 24 = .ok (.aload_n 0, 1) := by decide +kernel
theorem d_R_move_25 : decode b_R_move 25 = .ok (.getfield 23, 3) := by decide +kernel
theorem d_R_move_28 : decode b_R_move 28 = .ok (.iload_n 1, 1) := by decide +kernel
theorem d_R_move_29 : decode b_R_move 29 = .ok (.iaload, 1) := by decide +kernel
theorem d_R_move_30 : decode b_R_move 30 = .ok (.bipush 63, 2) := by decide +kernel
theorem d_R_move_32 : decode b_R_move 32 = .ok (.iadd, 1) := by decide +kernel
theorem d_R_move_33 : decode b_R_move 33 = .ok (.invokestatic 43, 3) := by decide +kernel
theorem d_R_move_36 : decode b_R_move 36 = .ok (.ifCond .ne 7, 3) := by decide +kernel
theorem d_R_move_39 : decode b_R_move 39 = .ok (.iconst 1, 1) := by decide +kernel
theorem d_R_move_40 : decode b_R_move 40 = .ok (.goto 4, 3) := by decide +kernel
theorem d_R_move_43 : decode b_R_move 43 = .ok (.iconst 0, 1) := by decide +kernel
theorem d_R_move_44 : decode b_R_move 44 = .ok (.bastore, 1) := by decide +kernel
theorem d_R_move_45 : decode b_R_move 45 = .ok (.aload_n 0, 1) := by decide +kernel
theorem d_R_move_46 : decode b_R_move 46 = .ok (.getfield 26, 3) := by decide +kernel
theorem d_R_move_49 : decode b_R_move 49 = .ok (.iload_n 1, 1) := by decide +kernel
theorem d_R_move_50 : decode b_R_move 50 = .ok (.iload_n 2, 1) := by decide +kernel
theorem d_R_move_51 : decode b_R_move 51 = .ok (.iastore, 1) := by decide +kernel
theorem d_R_move_52 : decode b_R_move 52 = .ok (.return_, 1) := by decide +kernel
theorem d_R_number_0 : decode b_R_number 0 = .ok (.aload_n 0, 1) := by decide +kernel
theorem d_R_number_1 : decode b_R_number 1 = .ok (.iload_n 1, 1) := by decide +kernel
theorem d_R_number_2 : decode b_R_number 2 = .ok (.iconst 0, 1) := by decide +kernel
theorem d_R_number_3 : decode b_R_number 3 = .ok (.iconst 0, 1) := by decide +kernel
theorem d_R_number_4 : decode b_R_number 4 = .ok (.iload_n 2, 1) := by decide +kernel
theorem d_R_number_5 : decode b_R_number 5 = .ok (.iconst 0, 1) := by decide +kernel
theorem d_R_number_6 : decode b_R_number 6 = .ok (.invokevirtual 35, 3) := by decide +kernel
theorem d_R_number_9 : decode b_R_number 9 = .ok (.aload_n 0, 1) := by decide +kernel
theorem d_R_number_10 : decode b_R_number 10 = .ok (.getfield 17, 3) := by decide +kernel
theorem d_R_number_13 : decode b_R_number 13 = .ok (.iload_n 1, 1) := by decide +kernel
theorem d_R_number_14 : decode b_R_number 14 = .ok (.iconst 0, 1) := by decide +kernel
theorem d_R_number_15 : decode b_R_number 15 = .ok (.bastore, 1) := by decide +kernel
theorem d_R_number_16 : decode b_R_number 16 = .ok (.return_, 1) := by decide +kernel
theorem d_R_outside_0 : decode b_R_outside 0 = .ok (.iload_n 0, 1) := by decide +kernel
theorem d_R_outside_1 : decode b_R_outside 1 = .ok (.iload_n 1, 1) := by decide +kernel
theorem d_R_outside_2 : decode b_R_outside 2 = .ok (.if_icmp .lt 8, 3) := by decide +kernel
theorem d_R_outside_5 : decode b_R_outside 5 = .ok (.iload_n 0, 1) := by decide +kernel
theorem d_R_outside_6 : decode b_R_outside 6 = .ok (.iload_n 2, 1) := by decide +kernel
theorem d_R_outside_7 : decode b_R_outside 7 = .ok (.if_icmp .le 7, 3) := by decide +kernel
theorem d_R_outside_10 : decode b_R_outside 10 = .ok (.iconst 1, 1) := by decide +kernel
theorem d_R_outside_11 : decode b_R_outside 11 = .ok (.goto 4, 3) := by decide +kernel
theorem d_R_outside_14 : decode b_R_outside 14 = .ok (.iconst 0, 1) := by decide +kernel
theorem d_R_outside_15 : decode b_R_outside 15 = .ok (.ireturn, 1) := by decide +kernel
theorem d_R_peek_0 : decode b_R_peek 0 = .ok (.iload_n 1, 1) := by decide +kernel
theorem d_R_peek_1 : decode b_R_peek 1 = .ok (.iconst 0, 1) := by decide +kernel
theorem d_R_peek_2 : decode b_R_peek 2 = .ok (.sipush 511, 3) := by decide +kernel
theorem d_R_peek_5 : decode b_R_peek 5 = .ok (.invokestatic 43, 3) := by decide +kernel
theorem d_R_peek_8 : decode b_R_peek 8 = .ok (.ifCond .eq 9, 3) := by decide +kernel
theorem d_R_peek_11 : decode b_R_peek 11 = .ok (.aload_n 0, 1) := by decide +kernel
theorem d_R_peek_12 : decode b_R_peek 12 = .ok (.iconst 1, 1) := by decide +kernel
theorem d_R_peek_13 : decode b_R_peek 13 = .ok (.invokevirtual 180, 3) := by decide +kernel
theorem d_R_peek_16 : decode b_R_peek 16 = .ok (.ireturn, 1) := by decide +kernel
theorem d_R_peek_17 : decode b_R_peek 17 = .ok (.aload_n 0, 1) := by decide +kernel
theorem d_R_peek_18 : decode b_R_peek 18 = .ok (.iconst 0, 1) := by decide +kernel
theorem d_R_peek_19 : decode b_R_peek 19 = .ok (.putfield 39, 3) := by decide +kernel
theorem d_R_peek_22 : decode b_R_peek 22 = .ok (.aload_n 0, 1) := by decide +kernel
theorem d_R_peek_23 : decode b_R_peek 23 = .ok (.getfield 7, 3) := by decide +kernel
theorem d_R_peek_26 : decode b_R_peek 26 = .ok (.iload_n 1, 1) := by decide +kernel
theorem d_R_peek_27 : decode b_R_peek 27 = .ok (.iaload, 1) := by decide +kernel
theorem d_R_peek_28 : decode b_R_peek 28 = .ok (.ireturn, 1) := by decide +kernel
theorem d_R_points_0 : decode b_R_points 0 = .ok (.aload_n 0, 1) := by decide +kernel
theorem d_R_points_1 : decode b_R_points 1 = .ok (.getfield 26, 3) := by decide +kernel
theorem d_R_points_4 : decode b_R_points 4 = .ok (.iload_n 1, 1) := by decide +kernel
theorem d_R_points_5 : decode b_R_points 5 = .ok (.iaload, 1) := by decide +kernel
theorem d_R_points_6 : decode b_R_points 6 = .ok (.aload_n 0, 1) := by decide +kernel
theorem d_R_points_7 : decode b_R_points 7 = .ok (.getfield 20, 3) := by decide +kernel
theorem d_R_points_10 : decode b_R_points 10 = .ok (.iload_n 1, 1) := by decide +kernel
theorem d_R_points_11 : decode b_R_points 11 = .ok (.iaload, 1) := by decide +kernel
theorem d_R_points_12 : decode b_R_points 12 = .ok (.if_icmp .lt 22, 3) := by decide +kernel
theorem d_R_points_15 : decode b_R_points 15 = .ok (.aload_n 0, 1) := by decide +kernel
theorem d_R_points_16 : decode b_R_points 16 = .ok (.getfield 26, 3) := by decide +kernel
theorem d_R_points_19 : decode b_R_points 19 = .ok (.iload_n 1, 1) := by decide +kernel
theorem d_R_points_20 : decode b_R_points 20 = .ok (.iaload, 1) := by decide +kernel
theorem d_R_points_21 : decode b_R_points 21 = .ok (.aload_n 0, 1) := by decide +kernel
theorem d_R_points_22 : decode b_R_points 22 = .ok (.getfield 23, 3) := by decide +kernel
theorem d_R_points_25 : decode b_R_points 25 = .ok (.iload_n 1, 1) := by decide +kernel
theorem d_R_points_26 : decode b_R_points 26 = .ok (.iaload, 1) := by decide +kernel
theorem d_R_points_27 : decode b_R_points 27 = .ok (.if_icmp .ge 7, 3) := by decide +kernel
theorem d_R_points_30 : decode b_R_points 30 = .ok (.iconst 1, 1) := by decide +kernel
theorem d_R_points_31 : decode b_R_points 31 = .ok (.goto 4, 3) := by decide +kernel
theorem d_R_points_34 : decode b_R_points 34 = .ok (.iconst 0, 1) := by decide +kernel
theorem d_R_points_35 : decode b_R_points 35 = .ok (.ireturn, 1) := by decide +kernel
theorem d_R_poke_0 : decode b_R_poke 0 = .ok (.aload_n 0, 1) := by decide +kernel
theorem d_R_poke_1 : decode b_R_poke 1 = .ok (.iload_n 3, 1) := by decide +kernel
theorem d_R_poke_2 : decode b_R_poke 2 = .ok (.iconst 1, 1) := by decide +kernel
theorem d_R_poke_3 : decode b_R_poke 3 = .ok (.iconst 4, 1) := by decide +kernel
theorem d_R_poke_4 : decode b_R_poke 4 = .ok (.invokestatic 43, 3) := by decide +kernel
theorem d_R_poke_7 : decode b_R_poke 7 = .ok (.ifCond .ne 16, 3) := by decide +kernel
theorem d_R_poke_10 : decode b_R_poke 10 = .ok (.iload_n 1, 1) := by decide +kernel
theorem d_R_poke_11 : decode b_R_poke 11 = .ok (.ifCond .lt 12, 3) := by decide +kernel
theorem d_R_poke_14 : decode b_R_poke 14 = .ok (.iload_n 1, 1) := by decide +kernel
theorem d_R_poke_15 : decode b_R_poke 15 = .ok (.sipush 512, 3) := by decide +kernel
theorem d_R_poke_18 : decode b_R_poke 18 = .ok (.iload_n 3, 1) := by decide +kernel
theorem d_R_poke_19 : decode b_R_poke 19 = .ok (.isub, 1) := by decide +kernel
theorem d_R_poke_20 : decode b_R_poke 20 = .ok (.if_icmp .le 7, 3) := by decide +kernel
theorem d_R_poke_23 : decode b_R_poke 23 = .ok (.iconst 1, 1) := by decide +kernel
theorem d_R_poke_24 : decode b_R_poke 24 = .ok (.goto 4, 3) := by decide +kernel
theorem d_R_poke_27 : decode b_R_poke 27 = .ok (.iconst 0, 1) := by decide +kernel
theorem d_R_poke_28 : decode b_R_poke 28 = .ok (.putfield 39, 3) := by decide +kernel
theorem d_R_poke_31 : decode b_R_poke 31 = .ok (.aload_n 0, 1) := by decide +kernel
theorem d_R_poke_32 : decode b_R_poke 32 = .ok (.getfield 39, 3) := by decide +kernel
theorem d_R_poke_35 : decode b_R_poke 35 = .ok (.ifCond .ne 10, 3) := by decide +kernel
theorem d_R_poke_38 : decode b_R_poke 38 = .ok (.aload_n 0, 1) := by decide +kernel
theorem d_R_poke_39 : decode b_R_poke 39 = .ok (.iload_n 1, 1) := by decide +kernel
theorem d_R_poke_40 : decode b_R_poke 40 = .ok (.iload_n 2, 1) := by decide +kernel
theorem d_R_poke_41 : decode b_R_poke 41 = .ok (.iload_n 3, 1) := by decide +kernel
theorem d_R_poke_42 : decode b_R_poke 42 = .ok (.invokevirtual 122, 3) := by decide +kernel
theorem d_R_poke_45 : decode b_R_poke 45 = .ok (.return_, 1) := by decide +kernel
theorem d_R_reckon_0 : decode b_R_reckon 0 = .ok (.aload_n 0, 1) := by decide +kernel
theorem d_R_reckon_1 : decode b_R_reckon 1 = .ok (.getfield 72, 3) := by decide +kernel
theorem d_R_reckon_4 : decode b_R_reckon 4 = .ok (.tableswitch 241 1 28 #[128, 133, 153, 241, 241, 241, 241, 241, 241, 241, 241, 241, 241, 241, 241, 241, 241, 241, 241, 241, 241, 241, 173, 191, 201, 211, 221, 231], 128) := by decide +kernel
theorem d_R_reckon_132 : decode b_R_reckon 132 = .ok (.aload_n 0, 1) := by decide +kernel
theorem d_R_reckon_133 : decode b_R_reckon 133 = .ok (.getfield 127, 3) := by decide +kernel
theorem d_R_reckon_136 : decode b_R_reckon 136 = .ok (.ireturn, 1) := by decide +kernel
theorem d_R_reckon_137 : decode b_R_reckon 137 = .ok (.aload_n 0, 1) := by decide +kernel
theorem d_R_reckon_138 : decode b_R_reckon 138 = .ok (.getfield 26, 3) := by decide +kernel
theorem d_R_reckon_141 : decode b_R_reckon 141 = .ok (.aload_n 0, 1) := by decide +kernel
theorem d_R_reckon_142 : decode b_R_reckon 142 = .ok (.getfield 57, 3) := by decide +kernel
theorem d_R_reckon_145 : decode b_R_reckon 145 = .ok (.iaload, 1) := by decide +kernel
theorem d_R_reckon_146 : decode b_R_reckon 146 = .ok (.aload_n 0, 1) := by decide +kernel
theorem d_R_reckon_147 : decode b_R_reckon 147 = .ok (.getfield 26, 3) := by decide +kernel
theorem d_R_reckon_150 : decode b_R_reckon 150 = .ok (.aload_n 0, 1) := by decide +kernel
theorem d_R_reckon_151 : decode b_R_reckon 151 = .ok (.getfield 60, 3) := by decide +kernel
theorem d_R_reckon_154 : decode b_R_reckon 154 = .ok (.iaload, 1) := by decide +kernel
theorem d_R_reckon_155 : decode b_R_reckon 155 = .ok (.iadd, 1) := by decide +kernel
theorem d_R_reckon_156 : decode b_R_reckon 156 = .ok (.ireturn, 1) := by decide +kernel
theorem d_R_reckon_157 : decode b_R_reckon 157 = .ok (.aload_n 0, 1) := by decide +kernel
theorem d_R_reckon_158 : decode b_R_reckon 158 = .ok (.getfield 26, 3) := by decide +kernel
theorem d_R_reckon_161 : decode b_R_reckon 161 = .ok (.aload_n 0, 1) := by decide +kernel
theorem d_R_reckon_162 : decode b_R_reckon 162 = .ok (.getfield 57, 3) := by decide +kernel
theorem d_R_reckon_165 : decode b_R_reckon 165 = .ok (.iaload, 1) := by decide +kernel
theorem d_R_reckon_166 : decode b_R_reckon 166 = .ok (.aload_n 0, 1) := by decide +kernel
theorem d_R_reckon_167 : decode b_R_reckon 167 = .ok (.getfield 26, 3) := by decide +kernel
theorem d_R_reckon_170 : decode b_R_reckon 170 = .ok (.aload_n 0, 1) := by decide +kernel
theorem d_R_reckon_171 : decode b_R_reckon 171 = .ok (.getfield 60, 3) := by decide +kernel
theorem d_R_reckon_174 : decode b_R_reckon 174 = .ok (.iaload, 1) := by decide +kernel
theorem d_R_reckon_175 : decode b_R_reckon 175 = .ok (.isub, 1) := by decide +kernel
theorem d_R_reckon_176 : decode b_R_reckon 176 = .ok (.ireturn, 1) := by decide +kernel
theorem d_R_reckon_177 : decode b_R_reckon 177 = .ok (.aload_n 0, 1) := by decide +kernel
theorem d_R_reckon_178 : decode b_R_reckon 178 = .ok (.getfield 17, 3) := by decide +kernel
theorem d_R_reckon_181 : decode b_R_reckon 181 = .ok (.aload_n 0, 1) := by decide +kernel
theorem d_R_reckon_182 : decode b_R_reckon 182 = .ok (.getfield 57, 3) := by decide +kernel
theorem d_R_reckon_185 : decode b_R_reckon 185 = .ok (.baload, 1) := by decide +kernel
theorem d_R_reckon_186 : decode b_R_reckon 186 = .ok (.ifCond .eq 7, 3) := by decide +kernel
theorem d_R_reckon_189 : decode b_R_reckon 189 = .ok (.iconst 1, 1) := by decide +kernel
theorem d_R_reckon_190 : decode b_R_reckon 190 = .ok (.goto 4, 3) := by decide +kernel
theorem d_R_reckon_193 : decode b_R_reckon 193 = .ok (.iconst 0, 1) := by decide +kernel
theorem d_R_reckon_194 : decode b_R_reckon 194 = .ok (.ireturn, 1) := by decide +kernel
theorem d_R_reckon_195 : decode b_R_reckon 195 = .ok (.aload_n 0, 1) := by decide +kernel
theorem d_R_reckon_196 : decode b_R_reckon 196 = .ok (.getfield 20, 3) := by decide +kernel
theorem d_R_reckon_199 : decode b_R_reckon 199 = .ok (.aload_n 0, 1) := by decide +kernel
theorem d_R_reckon_200 : decode b_R_reckon 200 = .ok (.getfield 57, 3) := by decide +kernel
theorem d_R_reckon_203 : decode b_R_reckon 203 = .ok (.iaload, 1) := by decide +kernel
theorem d_R_reckon_204 : decode b_R_reckon 204 = .ok (.ireturn, 1) := by decide +kernel
theorem d_R_reckon_205 : decode b_R_reckon 205 = .ok (.aload_n 0, 1) := by decide +kernel
theorem d_R_reckon_206 : decode b_R_reckon 206 = .ok (.getfield 23, 3) := by decide +kernel
theorem d_R_reckon_209 : decode b_R_reckon 209 = .ok (.aload_n 0, 1) := by decide +kernel
theorem d_R_reckon_210 : decode b_R_reckon 210 = .ok (.getfield 57, 3) := by decide +kernel
theorem d_R_reckon_213 : decode b_R_reckon 213 = .ok (.iaload, 1) := by decide +kernel
theorem d_R_reckon_214 : decode b_R_reckon 214 = .ok (.ireturn, 1) := by decide +kernel
theorem d_R_reckon_215 : decode b_R_reckon 215 = .ok (.aload_n 0, 1) := by decide +kernel
theorem d_R_reckon_216 : decode b_R_reckon 216 = .ok (.getfield 29, 3) := by decide +kernel
theorem d_R_reckon_219 : decode b_R_reckon 219 = .ok (.aload_n 0, 1) := by decide +kernel
theorem d_R_reckon_220 : decode b_R_reckon 220 = .ok (.getfield 57, 3) := by decide +kernel
theorem d_R_reckon_223 : decode b_R_reckon 223 = .ok (.iaload, 1) := by decide +kernel
theorem d_R_reckon_224 : decode b_R_reckon 224 = .ok (.ireturn, 1) := by decide +kernel
theorem d_R_reckon_225 : decode b_R_reckon 225 = .ok (.aload_n 0, 1) := by decide +kernel
theorem d_R_reckon_226 : decode b_R_reckon 226 = .ok (.getfield 32, 3) := by decide +kernel
theorem d_R_reckon_229 : decode b_R_reckon 229 = .ok (.aload_n 0, 1) := by decide +kernel
theorem d_R_reckon_230 : decode b_R_reckon 230 = .ok (.getfield 57, 3) := by decide +kernel
theorem d_R_reckon_233 : decode b_R_reckon 233 = .ok (.iaload, 1) := by decide +kernel
theorem d_R_reckon_234 : decode b_R_reckon 234 = .ok (.ireturn, 1) := by decide +kernel
theorem d_R_reckon_235 : decode b_R_reckon 235 = .ok (.aload_n 0, 1) := by decide +kernel
theorem d_R_reckon_236 : decode b_R_reckon 236 = .ok (.getfield 26, 3) := by decide +kernel
theorem d_R_reckon_239 : decode b_R_reckon 239 = .ok (.aload_n 0, 1) := by decide +kernel
theorem d_R_reckon_240 : decode b_R_reckon 240 = .ok (.getfield 57, 3) := by decide +kernel
theorem d_R_reckon_243 : decode b_R_reckon 243 = .ok (.iaload, 1) := by decide +kernel
theorem d_R_reckon_244 : decode b_R_reckon 244 = .ok (.ireturn, 1) := by decide +kernel
theorem d_R_reckon_245 : decode b_R_reckon 245 = .ok (.aload_n 0, 1) := by decide +kernel
theorem d_R_reckon_246 : decode b_R_reckon 246 = .ok (.invokevirtual 130, 3) := by decide +kernel
theorem d_R_reckon_249 : decode b_R_reckon 249 = .ok (.ifCond .eq 7, 3) := by decide +kernel
theorem d_R_reckon_252 : decode b_R_reckon 252 = .ok (.iconst 1, 1) := by decide +kernel
theorem d_R_reckon_253 : decode b_R_reckon 253 = .ok (.goto 4, 3) := by decide +kernel
theorem d_R_reckon_256 : decode b_R_reckon 256 = .ok (.iconst 0, 1) := by decide +kernel
theorem d_R_reckon_257 : decode b_R_reckon 257 = .ok (.ireturn, 1) := by decide +kernel
theorem d_R_refuse_0 : decode b_R_refuse 0 = .ok (.aload_n 0, 1) := by decide +kernel
theorem d_R_refuse_1 : decode b_R_refuse 1 = .ok (.iload_n 1, 1) := by decide +kernel
theorem d_R_refuse_2 : decode b_R_refuse 2 = .ok (.putfield 39, 3) := by decide +kernel
theorem d_R_refuse_5 : decode b_R_refuse 5 = .ok (.iconst 0, 1) := by decide +kernel
theorem d_R_refuse_6 : decode b_R_refuse 6 = .ok (.ireturn, 1) := by decide +kernel
theorem d_R_run_0 : decode b_R_run 0 = .ok (.aload_n 0, 1) := by decide +kernel
theorem d_R_run_1 : decode b_R_run 1 = .ok (.iconst 0, 1) := by decide +kernel
theorem d_R_run_2 : decode b_R_run 2 = .ok (.putfield 39, 3) := by decide +kernel
theorem d_R_run_5 : decode b_R_run 5 = .ok (.iconst 0, 1) := by decide +kernel
theorem d_R_run_6 : decode b_R_run 6 = .ok (.istore_n 2, 1) := by decide +kernel
theorem d_R_run_7 : decode b_R_run 7 = .ok (.aload_n 0, 1) := by decide +kernel
theorem d_R_run_8 : decode b_R_run 8 = .ok (.iconst 0, 1) := by decide +kernel
theorem d_R_run_9 : decode b_R_run 9 = .ok (.putfield 161, 3) := by decide +kernel
theorem d_R_run_12 : decode b_R_run 12 = .ok (.iconst 0, 1) := by decide +kernel
theorem d_R_run_13 : decode b_R_run 13 = .ok (.istore_n 3, 1) := by decide +kernel
theorem d_R_run_14 : decode b_R_run 14 = .ok (.iload_n 3, 1) := by decide +kernel
theorem d_R_run_15 : decode b_R_run 15 = .ok (.iload_n 1, 1) := by decide +kernel
theorem d_R_run_16 : decode b_R_run 16 = .ok (.if_icmp .ge 37, 3) := by decide +kernel
theorem d_R_run_19 : decode b_R_run 19 = .ok (.iload_n 3, 1) := by decide +kernel
theorem d_R_run_20 : decode b_R_run 20 = .ok (.sipush 2000, 3) := by decide +kernel
theorem d_R_run_23 : decode b_R_run 23 = .ok (.if_icmp .ge 30, 3) := by decide +kernel
theorem d_R_run_26 : decode b_R_run 26 = .ok (.aload_n 0, 1) := by decide +kernel
theorem d_R_run_27 : decode b_R_run 27 = .ok (.getfield 168, 3) := by decide +kernel
theorem d_R_run_30 : decode b_R_run 30 = .ok (.ifCond .ne 23, 3) := by decide +kernel
theorem d_R_run_33 : decode b_R_run 33 = .ok (.aload_n 0, 1) := by decide +kernel
theorem d_R_run_34 : decode b_R_run 34 = .ok (.getfield 161, 3) := by decide +kernel
theorem d_R_run_37 : decode b_R_run 37 = .ok (.ifCond .ne 16, 3) := by decide +kernel
theorem d_R_run_40 : decode b_R_run 40 = .ok (.aload_n 0, 1) := by decide +kernel
theorem d_R_run_41 : decode b_R_run 41 = .ok (.invokevirtual 177, 3) := by decide +kernel
theorem d_R_run_44 : decode b_R_run 44 = .ok (.iinc 2 1, 3) := by decide +kernel
theorem d_R_run_47 : decode b_R_run 47 = .ok (.iinc 3 1, 3) := by decide +kernel
theorem d_R_run_50 : decode b_R_run 50 = .ok (.goto (-36), 3) := by decide +kernel
theorem d_R_run_53 : decode b_R_run 53 = .ok (.iload_n 2, 1) := by decide +kernel
theorem d_R_run_54 : decode b_R_run 54 = .ok (.ireturn, 1) := by decide +kernel
theorem d_R_set_0 : decode b_R_set 0 = .ok (.aload_n 0, 1) := by decide +kernel
theorem d_R_set_1 : decode b_R_set 1 = .ok (.getfield 17, 3) := by decide +kernel
theorem d_R_set_4 : decode b_R_set 4 = .ok (.iload_n 1, 1) := by decide +kernel
theorem d_R_set_5 : decode b_R_set 5 = .ok (.iconst 1, 1) := by decide +kernel
theorem d_R_set_6 : decode b_R_set 6 = .ok (.bastore, 1) := by decide +kernel
theorem d_R_set_7 : decode b_R_set 7 = .ok (.aload_n 0, 1) := by decide +kernel
theorem d_R_set_8 : decode b_R_set 8 = .ok (.getfield 20, 3) := by decide +kernel
theorem d_R_set_11 : decode b_R_set 11 = .ok (.iload_n 1, 1) := by decide +kernel
theorem d_R_set_12 : decode b_R_set 12 = .ok (.iload_n 2, 1) := by decide +kernel
theorem d_R_set_13 : decode b_R_set 13 = .ok (.iastore, 1) := by decide +kernel
theorem d_R_set_14 : decode b_R_set 14 = .ok (.aload_n 0, 1) := by decide +kernel
theorem d_R_set_15 : decode b_R_set 15 = .ok (.getfield 23, 3) := by decide +kernel
theorem d_R_set_18 : decode b_R_set 18 = .ok (.iload_n 1, 1) := by decide +kernel
theorem d_R_set_19 : decode b_R_set 19 = .ok (.iload_n 3, 1) := by decide +kernel
theorem d_R_set_20 : decode b_R_set 20 = .ok (.iastore, 1) := by decide +kernel
theorem d_R_set_21 : decode b_R_set 21 = .ok (.aload_n 0, 1) := by decide +kernel
theorem d_R_set_22 : decode b_R_set 22 = .ok (.getfield 26, 3) := by decide +kernel
theorem d_R_set_25 : decode b_R_set 25 = .ok (.iload_n 1, 1) := by decide +kernel
theorem d_R_set_26 : decode b_R_set 26 = .ok (.iload 4, 2) := by decide +kernel
theorem d_R_set_28 : decode b_R_set 28 = .ok (.iastore, 1) := by decide +kernel
theorem d_R_set_29 : decode b_R_set 29 = .ok (.aload_n 0, 1) := by decide +kernel
theorem d_R_set_30 : decode b_R_set 30 = .ok (.getfield 29, 3) := by decide +kernel
theorem d_R_set_33 : decode b_R_set 33 = .ok (.iload_n 1, 1) := by decide +kernel
theorem d_R_set_34 : decode b_R_set 34 = .ok (.iload 5, 2) := by decide +kernel
theorem d_R_set_36 : decode b_R_set 36 = .ok (.iastore, 1) := by decide +kernel
theorem d_R_set_37 : decode b_R_set 37 = .ok (.aload_n 0, 1) := by decide +kernel
theorem d_R_set_38 : decode b_R_set 38 = .ok (.getfield 32, 3) := by decide +kernel
theorem d_R_set_41 : decode b_R_set 41 = .ok (.iload_n 1, 1) := by decide +kernel
theorem d_R_set_42 : decode b_R_set 42 = .ok (.iconst 0, 1) := by decide +kernel
theorem d_R_set_43 : decode b_R_set 43 = .ok (.iastore, 1) := by decide +kernel
theorem d_R_set_44 : decode b_R_set 44 = .ok (.return_, 1) := by decide +kernel
theorem d_R_size_0 : decode b_R_size 0 = .ok (.aload_n 0, 1) := by decide +kernel
theorem d_R_size_1 : decode b_R_size 1 = .ok (.getfield 72, 3) := by decide +kernel
theorem d_R_size_4 : decode b_R_size 4 = .ok (.bipush 17, 2) := by decide +kernel
theorem d_R_size_6 : decode b_R_size 6 = .ok (.if_icmp .eq 12, 3) := by decide +kernel
theorem d_R_size_9 : decode b_R_size 9 = .ok (.aload_n 0, 1) := by decide +kernel
theorem d_R_size_10 : decode b_R_size 10 = .ok (.getfield 72, 3) := by decide +kernel
theorem d_R_size_13 : decode b_R_size 13 = .ok (.bipush 20, 2) := by decide +kernel
theorem d_R_size_15 : decode b_R_size 15 = .ok (.if_icmp .ne 7, 3) := by decide +kernel
theorem d_R_size_18 : decode b_R_size 18 = .ok (.iconst 1, 1) := by decide +kernel
theorem d_R_size_19 : decode b_R_size 19 = .ok (.goto 27, 3) := by decide +kernel
theorem d_R_size_22 : decode b_R_size 22 = .ok (.aload_n 0, 1) := by decide +kernel
theorem d_R_size_23 : decode b_R_size 23 = .ok (.getfield 72, 3) := by decide +kernel
theorem d_R_size_26 : decode b_R_size 26 = .ok (.bipush 18, 2) := by decide +kernel
theorem d_R_size_28 : decode b_R_size 28 = .ok (.if_icmp .eq 12, 3) := by decide +kernel
theorem d_R_size_31 : decode b_R_size 31 = .ok (.aload_n 0, 1) := by decide +kernel
theorem d_R_size_32 : decode b_R_size 32 = .ok (.getfield 72, 3) := by decide +kernel
theorem d_R_size_35 : decode b_R_size 35 = .ok (.bipush 21, 2) := by decide +kernel
theorem d_R_size_37 : decode b_R_size 37 = .ok (.if_icmp .ne 7, 3) := by decide +kernel
theorem d_R_size_40 : decode b_R_size 40 = .ok (.iconst 4, 1) := by decide +kernel
theorem d_R_size_41 : decode b_R_size 41 = .ok (.goto 5, 3) := by decide +kernel
theorem d_R_size_44 : decode b_R_size 44 = .ok (.bipush 8, 2) := by decide +kernel
theorem d_R_size_46 : decode b_R_size 46 = .ok (.ireturn, 1) := by decide +kernel
theorem d_R_state_0 : decode b_R_state 0 = .ok (.aload_n 0, 1) := by decide +kernel
theorem d_R_state_1 : decode b_R_state 1 = .ok (.iconst 0, 1) := by decide +kernel
theorem d_R_state_2 : decode b_R_state 2 = .ok (.putfield 39, 3) := by decide +kernel
theorem d_R_state_5 : decode b_R_state 5 = .ok (.aload_n 0, 1) := by decide +kernel
theorem d_R_state_6 : decode b_R_state 6 = .ok (.getfield 168, 3) := by decide +kernel
theorem d_R_state_9 : decode b_R_state 9 = .ok (.ireturn, 1) := by decide +kernel
theorem d_R_step_0 : decode b_R_step 0 = .ok (.aload_n 0, 1) := by decide +kernel
theorem d_R_step_1 : decode b_R_step 1 = .ok (.bipush 8, 2) := by decide +kernel
theorem d_R_step_3 : decode b_R_step 3 = .ok (.aload_n 0, 1) := by decide +kernel
theorem d_R_step_4 : decode b_R_step 4 = .ok (.getfield 26, 3) := by decide +kernel
theorem d_R_step_7 : decode b_R_step 7 = .ok (.bipush 8, 2) := by decide +kernel
theorem d_R_step_9 : decode b_R_step 9 = .ok (.iaload, 1) := by decide +kernel
theorem d_R_step_10 : decode b_R_step 10 = .ok (.i2l, 1) := by decide +kernel
theorem d_R_step_11 : decode b_R_step 11 = .ok (.iconst 4, 1) := by decide +kernel
theorem d_R_step_12 : decode b_R_step 12 = .ok (.iconst 4, 1) := by decide +kernel
theorem d_R_step_13 : decode b_R_step 13 = .ok (.invokevirtual 89, 3) := by decide +kernel
theorem d_R_step_16 : decode b_R_step 16 = .ok (.istore_n 1, 1) := by decide +kernel
theorem d_R_step_17 : decode b_R_step 17 = .ok (.iload_n 1, 1) := by decide +kernel
theorem d_R_step_18 : decode b_R_step 18 = .ok (.ifCond .ne 19, 3) := by decide +kernel
theorem d_R_step_21 : decode b_R_step 21 = .ok (.aload_n 0, 1) := by decide +kernel
theorem d_R_step_22 : decode b_R_step 22 = .ok (.aload_n 0, 1) := by decide +kernel
theorem d_R_step_23 : decode b_R_step 23 = .ok (.getfield 26, 3) := by decide +kernel
theorem d_R_step_26 : decode b_R_step 26 = .ok (.bipush 8, 2) := by decide +kernel
theorem d_R_step_28 : decode b_R_step 28 = .ok (.iaload, 1) := by decide +kernel
theorem d_R_step_29 : decode b_R_step 29 = .ok (.invokevirtual 155, 3) := by decide +kernel
theorem d_R_step_32 : decode b_R_step 32 = .ok (.aload_n 0, 1) := by decide +kernel
theorem d_R_step_33 : decode b_R_step 33 = .ok (.invokevirtual 158, 3) := by decide +kernel
theorem d_R_step_36 : decode b_R_step 36 = .ok (.istore_n 1, 1) := by decide +kernel
theorem d_R_step_37 : decode b_R_step 37 = .ok (.aload_n 0, 1) := by decide +kernel
theorem d_R_step_38 : decode b_R_step 38 = .ok (.iload_n 1, 1) := by decide +kernel
theorem d_R_step_39 : decode b_R_step 39 = .ok (.ifCond .le 7, 3) := by decide +kernel
theorem d_R_step_42 : decode b_R_step 42 = .ok (.iconst 1, 1) := by decide +kernel
theorem d_R_step_43 : decode b_R_step 43 = .ok (.goto 4, 3) := by decide +kernel
theorem d_R_step_46 : decode b_R_step 46 = .ok (.iconst 0, 1) := by decide +kernel
theorem d_R_step_47 : decode b_R_step 47 = .ok (.putfield 161, 3) := by decide +kernel
theorem d_R_step_50 : decode b_R_step 50 = .ok (.aload_n 0, 1) := by decide +kernel
theorem d_R_step_51 : decode b_R_step 51 = .ok (.getfield 161, 3) := by decide +kernel
theorem d_R_step_54 : decode b_R_step 54 = .ok (.ifCond .eq 45, 3) := by decide +kernel
theorem d_R_step_57 : decode b_R_step 57 = .ok (.aload_n 0, 1) := by decide +kernel
theorem d_R_step_58 : decode b_R_step 58 = .ok (.iload_n 1, 1) := by decide +kernel
theorem d_R_step_59 : decode b_R_step 59 = .ok (.putfield 165, 3) := by decide +kernel
theorem d_R_step_62 : decode b_R_step 62 = .ok (.aload_n 0, 1) := by decide +kernel
theorem d_R_step_63 : decode b_R_step 63 = .ok (.bipush 8, 2) := by decide +kernel
theorem d_R_step_65 : decode b_R_step 65 = .ok (.bipush 10, 2) := by decide +kernel
theorem d_R_step_67 : decode b_R_step 67 = .ok (.invokevirtual 134, 3) := by decide +kernel
theorem d_R_step_70 : decode b_R_step 70 = .ok (.aload_n 0, 1) := by decide +kernel
theorem d_R_step_71 : decode b_R_step 71 = .ok (.getfield 17, 3) := by decide +kernel
theorem d_R_step_74 : decode b_R_step 74 = .ok (.bipush 9, 2) := by decide +kernel
theorem d_R_step_76 : decode b_R_step 76 = .ok (.baload, 1) := by decide +kernel
theorem d_R_step_77 : decode b_R_step 77 = .ok (.ifCond .eq 14, 3) := by decide +kernel
theorem d_R_step_80 : decode b_R_step 80 = .ok (.aload_n 0, 1) := by decide +kernel
theorem d_R_step_81 : decode b_R_step 81 = .ok (.bipush 9, 2) := by decide +kernel
theorem d_R_step_83 : decode b_R_step 83 = .ok (.bipush 8, 2) := by decide +kernel
theorem d_R_step_85 : decode b_R_step 85 = .ok (.invokevirtual 134, 3) := by decide +kernel
theorem d_R_step_88 : decode b_R_step 88 = .ok (.goto 46, 3) := by decide +kernel
theorem d_R_step_91 : decode b_R_step 91 = .ok (.aload_n 0, 1) := by decide +kernel
theorem d_R_step_92 : decode b_R_step 92 = .ok (.iconst 2, 1) := by decide +kernel
theorem d_R_step_93 : decode b_R_step 93 = .ok (.putfield 168, 3) := by decide +kernel
theorem d_R_step_96 : decode b_R_step 96 = .ok (.goto 38, 3) := by decide +kernel
theorem d_R_step_99 : decode b_R_step 99 = .ok (.aload_n 0, 1) := by decide +kernel
theorem d_R_step_100 : decode b_R_step 100 = .ok (.getfield 72, 3) := by decide +kernel
theorem d_R_step_103 : decode b_R_step 103 = .ok (.ifCond .ne 11, 3) := by decide +kernel
theorem d_R_step_106 : decode b_R_step 106 = .ok (.aload_n 0, 1) := by decide +kernel
theorem d_R_step_107 : decode b_R_step 107 = .ok (.iconst 1, 1) := by decide +kernel
theorem d_R_step_108 : decode b_R_step 108 = .ok (.putfield 168, 3) := by decide +kernel
theorem d_R_step_111 : decode b_R_step 111 = .ok (.goto 23, 3) := by decide +kernel
theorem d_R_step_114 : decode b_R_step 114 = .ok (.aload_n 0, 1) := by decide +kernel
theorem d_R_step_115 : decode b_R_step 115 = .ok (.getfield 72, 3) := by decide +kernel
theorem d_R_step_118 : decode b_R_step 118 = .ok (.bipush 16, 2) := by decide +kernel
theorem d_R_step_120 : decode b_R_step 120 = .ok (.if_icmp .ne 10, 3) := by decide +kernel
theorem d_R_step_123 : decode b_R_step 123 = .ok (.aload_n 0, 1) := by decide +kernel
theorem d_R_step_124 : decode b_R_step 124 = .ok (.invokevirtual 171, 3) := by decide +kernel
theorem d_R_step_127 : decode b_R_step 127 = .ok (.goto 7, 3) := by decide +kernel
theorem d_R_step_130 : decode b_R_step 130 = .ok (.aload_n 0, 1) := by decide +kernel
theorem d_R_step_131 : decode b_R_step 131 = .ok (.invokevirtual 174, 3) := by decide +kernel
theorem d_R_step_134 : decode b_R_step 134 = .ok (.return_, 1) := by decide +kernel
theorem d_R_store_0 : decode b_R_store 0 = .ok (.iconst 0, 1) := by decide +kernel
theorem d_R_store_1 : decode b_R_store 1 = .ok (.istore 4, 2) := by decide +kernel
theorem d_R_store_3 : decode b_R_store 3 = .ok (.iload 4, 2) := by decide +kernel
theorem d_R_store_5 : decode b_R_store 5 = .ok (.iload_n 3, 1) := by decide +kernel
theorem d_R_store_6 : decode b_R_store 6 = .ok (.if_icmp .ge 42, 3) := by decide +kernel
theorem d_R_store_9 : decode b_R_store 9 = .ok (.aload_n 0, 1) := by decide +kernel
theorem d_R_store_10 : decode b_R_store 10 = .ok (.getfield 7, 3) := by decide +kernel
theorem d_R_store_13 : decode b_R_store 13 = .ok (.iload_n 1, 1) := by decide +kernel
theorem d_R_store_14 : decode b_R_store 14 = .ok (.iload 4, 2) := by decide +kernel
theorem d_R_store_16 : decode b_R_store 16 = .ok (.iadd, 1) := by decide +kernel
theorem d_R_store_17 : decode b_R_store 17 = .ok (.iload_n 2, 1) := by decide +kernel
theorem d_R_store_18 : decode b_R_store 18 = .ok (.bipush 8, 2) := by decide +kernel
theorem d_R_store_20 : decode b_R_store 20 = .ok (.iload 4, 2) := by decide +kernel
theorem d_R_store_22 : decode b_R_store 22 = .ok (.imul, 1) := by decide +kernel
theorem d_R_store_23 : decode b_R_store 23 = .ok (.ishr, 1) := by decide +kernel
theorem d_R_store_24 : decode b_R_store 24 = .ok (.sipush 255, 3) := by decide +kernel
theorem d_R_store_27 : decode b_R_store 27 = .ok (.iand, 1) := by decide +kernel
theorem d_R_store_28 : decode b_R_store 28 = .ok (.iastore, 1) := by decide +kernel
theorem d_R_store_29 : decode b_R_store 29 = .ok (.aload_n 0, 1) := by decide +kernel
theorem d_R_store_30 : decode b_R_store 30 = .ok (.getfield 13, 3) := by decide +kernel
theorem d_R_store_33 : decode b_R_store 33 = .ok (.iload_n 1, 1) := by decide +kernel
theorem d_R_store_34 : decode b_R_store 34 = .ok (.iload 4, 2) := by decide +kernel
theorem d_R_store_36 : decode b_R_store 36 = .ok (.iadd, 1) := by decide +kernel
theorem d_R_store_37 : decode b_R_store 37 = .ok (.bipush 8, 2) := by decide +kernel
theorem d_R_store_39 : decode b_R_store 39 = .ok (.idiv, 1) := by decide +kernel
theorem d_R_store_40 : decode b_R_store 40 = .ok (.iconst 0, 1) := by decide +kernel
theorem d_R_store_41 : decode b_R_store 41 = .ok (.bastore, 1) := by decide +kernel
theorem d_R_store_42 : decode b_R_store 42 = .ok (.iinc 4 1, 3) := by decide +kernel
theorem d_R_store_45 : decode b_R_store 45 = .ok (.goto (-42), 3) := by decide +kernel
theorem d_R_store_48 : decode b_R_store 48 = .ok (.return_, 1) := by decide +kernel
theorem d_R_tagged_0 : decode b_R_tagged 0 = .ok (.aload_n 0, 1) := by decide +kernel
theorem d_R_tagged_1 : decode b_R_tagged 1 = .ok (.iconst 0, 1) := by decide +kernel
theorem d_R_tagged_2 : decode b_R_tagged 2 = .ok (.putfield 39, 3) := by decide +kernel
theorem d_R_tagged_5 : decode b_R_tagged 5 = .ok (.iload_n 1, 1) := by decide +kernel
theorem d_R_tagged_6 : decode b_R_tagged 6 = .ok (.iconst 0, 1) := by decide +kernel
theorem d_R_tagged_7 : decode b_R_tagged 7 = .ok (.bipush 63, 2) := by decide +kernel
theorem d_R_tagged_9 : decode b_R_tagged 9 = .ok (.invokestatic 43, 3) := by decide +kernel
theorem d_R_tagged_12 : decode b_R_tagged 12 = .ok (.ifCond .ne 16, 3) := by decide +kernel
theorem d_R_tagged_15 : decode b_R_tagged 15 = .ok (.aload_n 0, 1) := by decide +kernel
theorem d_R_tagged_16 : decode b_R_tagged 16 = .ok (.getfield 13, 3) := by decide +kernel
theorem d_R_tagged_19 : decode b_R_tagged 19 = .ok (.iload_n 1, 1) := by decide +kernel
theorem d_R_tagged_20 : decode b_R_tagged 20 = .ok (.baload, 1) := by decide +kernel
theorem d_R_tagged_21 : decode b_R_tagged 21 = .ok (.ifCond .eq 7, 3) := by decide +kernel
theorem d_R_tagged_24 : decode b_R_tagged 24 = .ok (.iconst 1, 1) := by decide +kernel
theorem d_R_tagged_25 : decode b_R_tagged 25 = .ok (.goto 4, 3) := by decide +kernel
theorem d_R_tagged_28 : decode b_R_tagged 28 = .ok (.iconst 0, 1) := by decide +kernel
theorem d_R_tagged_29 : decode b_R_tagged 29 = .ok (.ireturn, 1) := by decide +kernel
theorem d_R_thrown_0 : decode b_R_thrown 0 = .ok (.aload_n 0, 1) := by decide +kernel
theorem d_R_thrown_1 : decode b_R_thrown 1 = .ok (.getfield 39, 3) := by decide +kernel
theorem d_R_thrown_4 : decode b_R_thrown 4 = .ok (.ireturn, 1) := by decide +kernel
theorem d_R_up_0 : decode b_R_up 0 = .ok (.iload_n 1, 1) := by decide +kernel
theorem d_R_up_1 : decode b_R_up 1 = .ok (.bipush 8, 2) := by decide +kernel
theorem d_R_up_3 : decode b_R_up 3 = .ok (.irem, 1) := by decide +kernel
theorem d_R_up_4 : decode b_R_up 4 = .ok (.ifCond .ne 7, 3) := by decide +kernel
theorem d_R_up_7 : decode b_R_up 7 = .ok (.iload_n 1, 1) := by decide +kernel
theorem d_R_up_8 : decode b_R_up 8 = .ok (.goto 12, 3) := by decide +kernel
theorem d_R_up_11 : decode b_R_up 11 = .ok (.iload_n 1, 1) := by decide +kernel
theorem d_R_up_12 : decode b_R_up 12 = .ok (.bipush 8, 2) := by decide +kernel
theorem d_R_up_14 : decode b_R_up 14 = .ok (.iadd, 1) := by decide +kernel
theorem d_R_up_15 : decode b_R_up 15 = .ok (.iload_n 1, 1) := by decide +kernel
theorem d_R_up_16 : decode b_R_up 16 = .ok (.bipush 8, 2) := by decide +kernel
theorem d_R_up_18 : decode b_R_up 18 = .ok (.irem, 1) := by decide +kernel
theorem d_R_up_19 : decode b_R_up 19 = .ok (.isub, 1) := by decide +kernel
theorem d_R_up_20 : decode b_R_up 20 = .ok (.ireturn, 1) := by decide +kernel
theorem d_R_usable_0 : decode b_R_usable 0 = .ok (.aload_n 0, 1) := by decide +kernel
theorem d_R_usable_1 : decode b_R_usable 1 = .ok (.getfield 17, 3) := by decide +kernel
theorem d_R_usable_4 : decode b_R_usable 4 = .ok (.iload_n 1, 1) := by decide +kernel
theorem d_R_usable_5 : decode b_R_usable 5 = .ok (.baload, 1) := by decide +kernel
theorem d_R_usable_6 : decode b_R_usable 6 = .ok (.ifCond .ne 7, 3) := by decide +kernel
theorem d_R_usable_9 : decode b_R_usable 9 = .ok (.iconst 1, 1) := by decide +kernel
theorem d_R_usable_10 : decode b_R_usable 10 = .ok (.goto 17, 3) := by decide +kernel
theorem d_R_usable_13 : decode b_R_usable 13 = .ok (.aload_n 0, 1) := by decide +kernel
theorem d_R_usable_14 : decode b_R_usable 14 = .ok (.getfield 32, 3) := by decide +kernel
theorem d_R_usable_17 : decode b_R_usable 17 = .ok (.iload_n 1, 1) := by decide +kernel
theorem d_R_usable_18 : decode b_R_usable 18 = .ok (.iaload, 1) := by decide +kernel
theorem d_R_usable_19 : decode b_R_usable 19 = .ok (.ifCond .le 7, 3) := by decide +kernel
theorem d_R_usable_22 : decode b_R_usable 22 = .ok (.iconst 2, 1) := by decide +kernel
theorem d_R_usable_23 : decode b_R_usable 23 = .ok (.goto 4, 3) := by decide +kernel
theorem d_R_usable_26 : decode b_R_usable 26 = .ok (.iconst 0, 1) := by decide +kernel
theorem d_R_usable_27 : decode b_R_usable 27 = .ok (.ireturn, 1) := by decide +kernel
theorem d_R_within_0 : decode b_R_within 0 = .ok (.aload_n 0, 1) := by decide +kernel
theorem d_R_within_1 : decode b_R_within 1 = .ok (.getfield 17, 3) := by decide +kernel
theorem d_R_within_4 : decode b_R_within 4 = .ok (.aload_n 0, 1) := by decide +kernel
theorem d_R_within_5 : decode b_R_within 5 = .ok (.getfield 57, 3) := by decide +kernel
theorem d_R_within_8 : decode b_R_within 8 = .ok (.baload, 1) := by decide +kernel
theorem d_R_within_9 : decode b_R_within 9 = .ok (.aload_n 0, 1) := by decide +kernel
theorem d_R_within_10 : decode b_R_within 10 = .ok (.getfield 17, 3) := by decide +kernel
theorem d_R_within_13 : decode b_R_within 13 = .ok (.aload_n 0, 1) := by decide +kernel
theorem d_R_within_14 : decode b_R_within 14 = .ok (.getfield 60, 3) := by decide +kernel
theorem d_R_within_17 : decode b_R_within 17 = .ok (.baload, 1) := by decide +kernel
theorem d_R_within_18 : decode b_R_within 18 = .ok (.if_icmp .ne 80, 3) := by decide +kernel
theorem d_R_within_21 : decode b_R_within 21 = .ok (.aload_n 0, 1) := by decide +kernel
theorem d_R_within_22 : decode b_R_within 22 = .ok (.getfield 20, 3) := by decide +kernel
theorem d_R_within_25 : decode b_R_within 25 = .ok (.aload_n 0, 1) := by decide +kernel
theorem d_R_within_26 : decode b_R_within 26 = .ok (.getfield 57, 3) := by decide +kernel
theorem d_R_within_29 : decode b_R_within 29 = .ok (.iaload, 1) := by decide +kernel
theorem d_R_within_30 : decode b_R_within 30 = .ok (.aload_n 0, 1) := by decide +kernel
theorem d_R_within_31 : decode b_R_within 31 = .ok (.getfield 20, 3) := by decide +kernel
theorem d_R_within_34 : decode b_R_within 34 = .ok (.aload_n 0, 1) := by decide +kernel
theorem d_R_within_35 : decode b_R_within 35 = .ok (.getfield 60, 3) := by decide +kernel
theorem d_R_within_38 : decode b_R_within 38 = .ok (.iaload, 1) := by decide +kernel
theorem d_R_within_39 : decode b_R_within 39 = .ok (.if_icmp .lt 59, 3) := by decide +kernel
theorem d_R_within_42 : decode b_R_within 42 = .ok (.aload_n 0, 1) := by decide +kernel
theorem d_R_within_43 : decode b_R_within 43 = .ok (.getfield 23, 3) := by decide +kernel
theorem d_R_within_46 : decode b_R_within 46 = .ok (.aload_n 0, 1) := by decide +kernel
theorem d_R_within_47 : decode b_R_within 47 = .ok (.getfield 57, 3) := by decide +kernel
theorem d_R_within_50 : decode b_R_within 50 = .ok (.iaload, 1) := by decide +kernel
theorem d_R_within_51 : decode b_R_within 51 = .ok (.aload_n 0, 1) := by decide +kernel
theorem d_R_within_52 : decode b_R_within 52 = .ok (.getfield 23, 3) := by decide +kernel
theorem d_R_within_55 : decode b_R_within 55 = .ok (.aload_n 0, 1) := by decide +kernel
theorem d_R_within_56 : decode b_R_within 56 = .ok (.getfield 60, 3) := by decide +kernel
theorem d_R_within_59 : decode b_R_within 59 = .ok (.iaload, 1) := by decide +kernel
theorem d_R_within_60 : decode b_R_within 60 = .ok (.if_icmp .gt 38, 3) := by decide +kernel
theorem d_R_within_63 : decode b_R_within 63 = .ok (.aload_n 0, 1) := by decide +kernel
theorem d_R_within_64 : decode b_R_within 64 = .ok (.getfield 29, 3) := by decide +kernel
theorem d_R_within_67 : decode b_R_within 67 = .ok (.aload_n 0, 1) := by decide +kernel
theorem d_R_within_68 : decode b_R_within 68 = .ok (.getfield 57, 3) := by decide +kernel
theorem d_R_within_71 : decode b_R_within 71 = .ok (.iaload, 1) := by decide +kernel
theorem d_R_within_72 : decode b_R_within 72 = .ok (.aload_n 0, 1) := by decide +kernel
theorem d_R_within_73 : decode b_R_within 73 = .ok (.getfield 29, 3) := by decide +kernel
theorem d_R_within_76 : decode b_R_within 76 = .ok (.aload_n 0, 1) := by decide +kernel
theorem d_R_within_77 : decode b_R_within 77 = .ok (.getfield 60, 3) := by decide +kernel
theorem d_R_within_80 : decode b_R_within 80 = .ok (.iaload, 1) := by decide +kernel
theorem d_R_within_81 : decode b_R_within 81 = .ok (.ior, 1) := by decide +kernel
theorem d_R_within_82 : decode b_R_within 82 = .ok (.aload_n 0, 1) := by decide +kernel
theorem d_R_within_83 : decode b_R_within 83 = .ok (.getfield 29, 3) := by decide +kernel
theorem d_R_within_86 : decode b_R_within 86 = .ok (.aload_n 0, 1) := by decide +kernel
theorem d_R_within_87 : decode b_R_within 87 = .ok (.getfield 60, 3) := by decide +kernel
theorem d_R_within_90 : decode b_R_within 90 = .ok (.iaload, 1) := by decide +kernel
theorem d_R_within_91 : decode b_R_within 91 = .ok (.if_icmp .ne 7, 3) := by decide +kernel
theorem d_R_within_94 : decode b_R_within 94 = .ok (.iconst 1, 1) := by decide +kernel
theorem d_R_within_95 : decode b_R_within 95 = .ok (.goto 4, 3) := by decide +kernel
theorem d_R_within_98 : decode b_R_within 98 = .ok (.iconst 0, 1) := by decide +kernel
theorem d_R_within_99 : decode b_R_within 99 = .ok (.ireturn, 1) := by decide +kernel
theorem d_R_word_0 : decode b_R_word 0 = .ok (.aload_n 0, 1) := by decide +kernel
theorem d_R_word_1 : decode b_R_word 1 = .ok (.getfield 7, 3) := by decide +kernel
theorem d_R_word_4 : decode b_R_word 4 = .ok (.iload_n 1, 1) := by decide +kernel
theorem d_R_word_5 : decode b_R_word 5 = .ok (.iaload, 1) := by decide +kernel
theorem d_R_word_6 : decode b_R_word 6 = .ok (.aload_n 0, 1) := by decide +kernel
theorem d_R_word_7 : decode b_R_word 7 = .ok (.getfield 7, 3) := by decide +kernel
theorem d_R_word_10 : decode b_R_word 10 = .ok (.iload_n 1, 1) := by decide +kernel
theorem d_R_word_11 : decode b_R_word 11 = .ok (.iconst 1, 1) := by decide +kernel
theorem d_R_word_12 : decode b_R_word 12 = .ok (.iadd, 1) := by decide +kernel
theorem d_R_word_13 : decode b_R_word 13 = .ok (.iaload, 1) := by decide +kernel
theorem d_R_word_14 : decode b_R_word 14 = .ok (.bipush 8, 2) := by decide +kernel
theorem d_R_word_16 : decode b_R_word 16 = .ok (.ishl, 1) := by decide +kernel
theorem d_R_word_17 : decode b_R_word 17 = .ok (.iadd, 1) := by decide +kernel
theorem d_R_word_18 : decode b_R_word 18 = .ok (.aload_n 0, 1) := by decide +kernel
theorem d_R_word_19 : decode b_R_word 19 = .ok (.getfield 7, 3) := by decide +kernel
theorem d_R_word_22 : decode b_R_word 22 = .ok (.iload_n 1, 1) := by decide +kernel
theorem d_R_word_23 : decode b_R_word 23 = .ok (.iconst 2, 1) := by decide +kernel
theorem d_R_word_24 : decode b_R_word 24 = .ok (.iadd, 1) := by decide +kernel
theorem d_R_word_25 : decode b_R_word 25 = .ok (.iaload, 1) := by decide +kernel
theorem d_R_word_26 : decode b_R_word 26 = .ok (.bipush 16, 2) := by decide +kernel
theorem d_R_word_28 : decode b_R_word 28 = .ok (.ishl, 1) := by decide +kernel
theorem d_R_word_29 : decode b_R_word 29 = .ok (.iadd, 1) := by decide +kernel
theorem d_R_word_30 : decode b_R_word 30 = .ok (.aload_n 0, 1) := by decide +kernel
theorem d_R_word_31 : decode b_R_word 31 = .ok (.getfield 7, 3) := by decide +kernel
theorem d_R_word_34 : decode b_R_word 34 = .ok (.iload_n 1, 1) := by decide +kernel
theorem d_R_word_35 : decode b_R_word 35 = .ok (.iconst 3, 1) := by decide +kernel
theorem d_R_word_36 : decode b_R_word 36 = .ok (.iadd, 1) := by decide +kernel
theorem d_R_word_37 : decode b_R_word 37 = .ok (.iaload, 1) := by decide +kernel
theorem d_R_word_38 : decode b_R_word 38 = .ok (.bipush 24, 2) := by decide +kernel
theorem d_R_word_40 : decode b_R_word 40 = .ok (.ishl, 1) := by decide +kernel
theorem d_R_word_41 : decode b_R_word 41 = .ok (.iadd, 1) := by decide +kernel
theorem d_R_word_42 : decode b_R_word 42 = .ok (.ireturn, 1) := by decide +kernel
end
section
theorem mf_K_becomeNumber : MFv y_K_becomeNumber b_K_becomeNumber 2 none 1 := ⟨tbT 141 (by decide +kernel) rfl, tbT 2 (by decide +kernel) rfl, tbT 140 (by decide +kernel) rfl, tbS (q := (y_K_becomeNumber, 6)) 9 (by decide +kernel), by decide, by decide, by decide +kernel⟩
theorem mf_K_becomeGranted : MFv y_K_becomeGranted b_K_becomeGranted 5 none 4 := ⟨tbT 71 (by decide +kernel) rfl, tbT 2 (by decide +kernel) rfl, tbT 70 (by decide +kernel) rfl, tbS (q := (y_K_becomeGranted, 6)) 0 (by decide +kernel), by decide, by decide, by decide +kernel⟩
theorem mf_K_become : MFv y_K_become b_K_become 2 none 1 := ⟨tbT 137 (by decide +kernel) rfl, tbT 2 (by decide +kernel) rfl, tbT 136 (by decide +kernel) rfl, tbS (q := (y_K_become, 6)) 8 (by decide +kernel), by decide, by decide, by decide +kernel⟩
theorem mf_K_becomeUnpacked : MFv y_K_becomeUnpacked b_K_becomeUnpacked 4 none 3 := ⟨tbT 173 (by decide +kernel) rfl, tbT 2 (by decide +kernel) rfl, tbT 172 (by decide +kernel) rfl, tbS (q := (y_K_becomeUnpacked, 6)) 15 (by decide +kernel), by decide, by decide, by decide +kernel⟩
theorem mf_K_packed : MFv y_K_packed b_K_packed 1 (some .int) 0 := ⟨tbT 185 (by decide +kernel) rfl, tbT 2 (by decide +kernel) rfl, tbT 184 (by decide +kernel) rfl, tbS (q := (y_K_packed, 6)) 18 (by decide +kernel), by decide, by decide, by decide +kernel⟩
theorem mf_K_moveTo : MFv y_K_moveTo b_K_moveTo 3 none 1 := ⟨tbT 128 (by decide +kernel) rfl, tbT 2 (by decide +kernel) rfl, tbT 127 (by decide +kernel) rfl, tbS (q := (y_K_moveTo, 6)) 6 (by decide +kernel), by decide, by decide, by decide +kernel⟩
theorem mf_K_part : MFv y_K_part b_K_part 2 (some .int) 1 := ⟨tbT 190 (by decide +kernel) rfl, tbT 2 (by decide +kernel) rfl, tbT 189 (by decide +kernel) rfl, tbS (q := (y_K_part, 6)) 19 (by decide +kernel), by decide, by decide, by decide +kernel⟩
theorem mf_K_permits : MFv y_K_permits b_K_permits 2 (some .boolean) 1 := ⟨tbT 115 (by decide +kernel) rfl, tbT 2 (by decide +kernel) rfl, tbT 114 (by decide +kernel) rfl, tbS (q := (y_K_permits, 6)) 3 (by decide +kernel), by decide, by decide, by decide +kernel⟩
theorem mf_K_hasAddressInBounds : MFv y_K_hasAddressInBounds b_K_hasAddressInBounds 1 (some .boolean) 0 := ⟨tbT 221 (by decide +kernel) rfl, tbT 2 (by decide +kernel) rfl, tbT 220 (by decide +kernel) rfl, tbS (q := (y_K_hasAddressInBounds, 6)) 20 (by decide +kernel), by decide, by decide, by decide +kernel⟩
theorem mf_K_isWithin : MFv y_K_isWithin b_K_isWithin 2 (some .boolean) 1 := ⟨tbT 234 (by decide +kernel) rfl, tbT 2 (by decide +kernel) rfl, tbT 233 (by decide +kernel) rfl, tbS (q := (y_K_isWithin, 6)) 21 (by decide +kernel), by decide, by decide, by decide +kernel⟩
theorem mf_K_refusal : MFv y_K_refusal b_K_refusal 5 (some .int) 3 := ⟨tbT 111 (by decide +kernel) rfl, tbT 2 (by decide +kernel) rfl, tbT 110 (by decide +kernel) rfl, tbS (q := (y_K_refusal, 6)) 2 (by decide +kernel), by decide, by decide, by decide +kernel⟩
theorem mf_E_byteAt : MFv y_E_byteAt b_E_byteAt 2 (some .int) 1 := ⟨tbT 120 (by decide +kernel) rfl, tbT 3 (by decide +kernel) rfl, tbT 119 (by decide +kernel) rfl, tbS (q := (y_E_byteAt, 2)) 4 (by decide +kernel), by decide, by decide, by decide +kernel⟩
theorem mf_E_wordAt : MFv y_E_wordAt b_E_wordAt 2 (some .int) 1 := ⟨tbT 163 (by decide +kernel) rfl, tbT 3 (by decide +kernel) rfl, tbT 162 (by decide +kernel) rfl, tbS (q := (y_E_wordAt, 2)) 13 (by decide +kernel), by decide, by decide, by decide +kernel⟩
theorem mf_E_loadCapability : MFv y_E_loadCapability b_E_loadCapability 3 none 2 := ⟨tbT 168 (by decide +kernel) rfl, tbT 3 (by decide +kernel) rfl, tbT 167 (by decide +kernel) rfl, tbS (q := (y_E_loadCapability, 2)) 14 (by decide +kernel), by decide, by decide, by decide +kernel⟩
theorem mf_E_storeCapability : MFv y_E_storeCapability b_E_storeCapability 3 none 2 := ⟨tbT 177 (by decide +kernel) rfl, tbT 3 (by decide +kernel) rfl, tbT 176 (by decide +kernel) rfl, tbS (q := (y_E_storeCapability, 2)) 16 (by decide +kernel), by decide, by decide, by decide +kernel⟩
theorem mf_M_state : MFv y_M_state b_M_state 1 (some .int) 0 := ⟨tbT 246 (by decide +kernel) rfl, tbT 1 (by decide +kernel) rfl, tbT 244 (by decide +kernel) rfl, tbT 245 (by decide +kernel) rfl, by decide, by decide, by decide +kernel⟩
theorem mf_M_cause : MFv y_M_cause b_M_cause 1 (some .int) 0 := ⟨tbT 250 (by decide +kernel) rfl, tbT 1 (by decide +kernel) rfl, tbT 248 (by decide +kernel) rfl, tbT 249 (by decide +kernel) rfl, by decide, by decide, by decide +kernel⟩
theorem mf_M_number : MFs y_M_number b_M_number 2 (some .int) 2 := ⟨tbT 193 (by decide +kernel) rfl, tbT 1 (by decide +kernel) rfl, tbT 192 (by decide +kernel) rfl, by decide, by decide, by decide +kernel⟩
theorem mf_M_copy : MFs y_M_copy b_M_copy 2 (some .int) 2 := ⟨tbT 196 (by decide +kernel) rfl, tbT 1 (by decide +kernel) rfl, tbT 195 (by decide +kernel) rfl, by decide, by decide, by decide +kernel⟩
theorem mf_M_withoutTag : MFs y_M_withoutTag b_M_withoutTag 2 (some .int) 2 := ⟨tbT 230 (by decide +kernel) rfl, tbT 1 (by decide +kernel) rfl, tbT 229 (by decide +kernel) rfl, by decide, by decide, by decide +kernel⟩
theorem mf_M_withAddress : MFs y_M_withAddress b_M_withAddress 3 (some .int) 3 := ⟨tbT 199 (by decide +kernel) rfl, tbT 1 (by decide +kernel) rfl, tbT 198 (by decide +kernel) rfl, by decide, by decide, by decide +kernel⟩
theorem mf_M_withPermissions : MFs y_M_withPermissions b_M_withPermissions 3 (some .int) 3 := ⟨tbT 214 (by decide +kernel) rfl, tbT 1 (by decide +kernel) rfl, tbT 213 (by decide +kernel) rfl, by decide, by decide, by decide +kernel⟩
theorem mf_M_multipleNotAbove : MFs y_M_multipleNotAbove b_M_multipleNotAbove 1 (some .int) 1 := ⟨tbT 208 (by decide +kernel) rfl, tbT 1 (by decide +kernel) rfl, tbT 207 (by decide +kernel) rfl, by decide, by decide, by decide +kernel⟩
theorem mf_M_multipleNotBelow : MFs y_M_multipleNotBelow b_M_multipleNotBelow 1 (some .int) 1 := ⟨tbT 211 (by decide +kernel) rfl, tbT 1 (by decide +kernel) rfl, tbT 210 (by decide +kernel) rfl, by decide, by decide, by decide +kernel⟩
theorem mf_M_areExact : MFs y_M_areExact b_M_areExact 3 (some .boolean) 2 := ⟨tbT 205 (by decide +kernel) rfl, tbT 1 (by decide +kernel) rfl, tbT 204 (by decide +kernel) rfl, by decide, by decide, by decide +kernel⟩
theorem mf_M_withBounds : MFs y_M_withBounds b_M_withBounds 9 (some .int) 4 := ⟨tbT 202 (by decide +kernel) rfl, tbT 1 (by decide +kernel) rfl, tbT 201 (by decide +kernel) rfl, by decide, by decide, by decide +kernel⟩
theorem mf_M_seal : MFs y_M_seal b_M_seal 4 (some .int) 3 := ⟨tbT 217 (by decide +kernel) rfl, tbT 1 (by decide +kernel) rfl, tbT 216 (by decide +kernel) rfl, by decide, by decide, by decide +kernel⟩
theorem mf_M_unseal : MFs y_M_unseal b_M_unseal 3 (some .int) 3 := ⟨tbT 224 (by decide +kernel) rfl, tbT 1 (by decide +kernel) rfl, tbT 223 (by decide +kernel) rfl, by decide, by decide, by decide +kernel⟩
theorem mf_M_makeEntry : MFs y_M_makeEntry b_M_makeEntry 2 (some .int) 2 := ⟨tbT 227 (by decide +kernel) rfl, tbT 1 (by decide +kernel) rfl, tbT 226 (by decide +kernel) rfl, by decide, by decide, by decide +kernel⟩
theorem mf_M_setHandler : MFv y_M_setHandler b_M_setHandler 2 (some .int) 1 := ⟨tbT 238 (by decide +kernel) rfl, tbT 1 (by decide +kernel) rfl, tbT 237 (by decide +kernel) rfl, tbS (q := (y_M_setHandler, 8)) 22 (by decide +kernel), by decide, by decide, by decide +kernel⟩
theorem mf_M_permissionsFor : MFs y_M_permissionsFor b_M_permissionsFor 2 (some .int) 2 := ⟨tbT 156 (by decide +kernel) rfl, tbT 1 (by decide +kernel) rfl, tbT 155 (by decide +kernel) rfl, by decide, by decide, by decide +kernel⟩
theorem mf_M_bytesOf : MFs y_M_bytesOf b_M_bytesOf 1 (some .int) 1 := ⟨tbT 159 (by decide +kernel) rfl, tbT 1 (by decide +kernel) rfl, tbT 158 (by decide +kernel) rfl, by decide, by decide, by decide +kernel⟩
theorem mf_M_access : MFv y_M_access b_M_access 8 (some .int) 4 := ⟨tbT 153 (by decide +kernel) rfl, tbT 1 (by decide +kernel) rfl, tbT 152 (by decide +kernel) rfl, tbS (q := (y_M_access, 8)) 12 (by decide +kernel), by decide, by decide, by decide +kernel⟩
theorem mf_M_compute : MFv y_M_compute b_M_compute 6 (some .int) 5 := ⟨tbT 149 (by decide +kernel) rfl, tbT 1 (by decide +kernel) rfl, tbT 148 (by decide +kernel) rfl, tbS (q := (y_M_compute, 8)) 11 (by decide +kernel), by decide, by decide, by decide +kernel⟩
theorem mf_M_jump : MFv y_M_jump b_M_jump 3 (some .int) 2 := ⟨tbT 132 (by decide +kernel) rfl, tbT 1 (by decide +kernel) rfl, tbT 131 (by decide +kernel) rfl, tbS (q := (y_M_jump, 8)) 7 (by decide +kernel), by decide, by decide, by decide +kernel⟩
theorem mf_M_branch : MFv y_M_branch b_M_branch 4 (some .int) 2 := ⟨tbT 124 (by decide +kernel) rfl, tbT 1 (by decide +kernel) rfl, tbT 123 (by decide +kernel) rfl, tbS (q := (y_M_branch, 8)) 5 (by decide +kernel), by decide, by decide, by decide +kernel⟩
theorem mf_M_advance : MFv y_M_advance b_M_advance 2 (some .int) 1 := ⟨tbT 145 (by decide +kernel) rfl, tbT 1 (by decide +kernel) rfl, tbT 144 (by decide +kernel) rfl, tbS (q := (y_M_advance, 8)) 10 (by decide +kernel), by decide, by decide, by decide +kernel⟩
theorem mf_M_takeException : MFv y_M_takeException b_M_takeException 2 none 1 := ⟨tbT 242 (by decide +kernel) rfl, tbT 1 (by decide +kernel) rfl, tbT 241 (by decide +kernel) rfl, tbS (q := (y_M_takeException, 8)) 23 (by decide +kernel), by decide, by decide, by decide +kernel⟩
theorem mf_M_tagged : MFv y_M_tagged b_M_tagged 2 (some .boolean) 1 := ⟨tbT 254 (by decide +kernel) rfl, tbT 1 (by decide +kernel) rfl, tbT 252 (by decide +kernel) rfl, tbT 253 (by decide +kernel) rfl, by decide, by decide, by decide +kernel⟩
theorem mf_M_step : MFv y_M_step b_M_step 8 (some .int) 0 := ⟨tbT 107 (by decide +kernel) rfl, tbT 1 (by decide +kernel) rfl, tbT 106 (by decide +kernel) rfl, tbS (q := (y_M_step, 8)) 1 (by decide +kernel), by decide, by decide, by decide +kernel⟩
theorem mf_R_thrown : MFv y_R_thrown b_R_thrown 1 (some .int) 0 := ⟨tbT 414 (by decide +kernel) rfl, tbT 4 (by decide +kernel) rfl, tbT 412 (by decide +kernel) rfl, tbT 413 (by decide +kernel) rfl, by decide, by decide, by decide +kernel⟩
theorem mf_R_refuse : MFv y_R_refuse b_R_refuse 2 (some .int) 1 := ⟨tbT 571 (by decide +kernel) rfl, tbT 4 (by decide +kernel) rfl, tbT 570 (by decide +kernel) rfl, tbS (q := (y_R_refuse, 18)) 57 (by decide +kernel), by decide, by decide, by decide +kernel⟩
theorem mf_R_outside : MFs y_R_outside b_R_outside 3 (some .boolean) 3 := ⟨tbT 421 (by decide +kernel) rfl, tbT 4 (by decide +kernel) rfl, tbT 420 (by decide +kernel) rfl, by decide, by decide, by decide +kernel⟩
theorem mf_R_set : MFv y_R_set b_R_set 6 none 5 := ⟨tbT 354 (by decide +kernel) rfl, tbT 4 (by decide +kernel) rfl, tbT 353 (by decide +kernel) rfl, tbS (q := (y_R_set, 18)) 25 (by decide +kernel), by decide, by decide, by decide +kernel⟩
theorem mf_R_number : MFv y_R_number b_R_number 3 none 2 := ⟨tbT 534 (by decide +kernel) rfl, tbT 4 (by decide +kernel) rfl, tbT 533 (by decide +kernel) rfl, tbS (q := (y_R_number, 18)) 51 (by decide +kernel), by decide, by decide, by decide +kernel⟩
theorem mf_R_copy : MFv y_R_copy b_R_copy 3 none 2 := ⟨tbT 506 (by decide +kernel) rfl, tbT 4 (by decide +kernel) rfl, tbT 505 (by decide +kernel) rfl, tbS (q := (y_R_copy, 18)) 44 (by decide +kernel), by decide, by decide, by decide +kernel⟩
theorem mf_R_move : MFv y_R_move b_R_move 3 none 2 := ⟨tbT 514 (by decide +kernel) rfl, tbT 4 (by decide +kernel) rfl, tbT 513 (by decide +kernel) rfl, tbS (q := (y_R_move, 18)) 46 (by decide +kernel), by decide, by decide, by decide +kernel⟩
theorem mf_R_may : MFv y_R_may b_R_may 3 (some .boolean) 2 := ⟨tbT 449 (by decide +kernel) rfl, tbT 4 (by decide +kernel) rfl, tbT 448 (by decide +kernel) rfl, tbS (q := (y_R_may, 18)) 30 (by decide +kernel), by decide, by decide, by decide +kernel⟩
theorem mf_R_usable : MFv y_R_usable b_R_usable 2 (some .int) 1 := ⟨tbT 445 (by decide +kernel) rfl, tbT 4 (by decide +kernel) rfl, tbT 444 (by decide +kernel) rfl, tbS (q := (y_R_usable, 18)) 29 (by decide +kernel), by decide, by decide, by decide +kernel⟩
theorem mf_R_loose : MFv y_R_loose b_R_loose 2 (some .int) 1 := ⟨tbT 462 (by decide +kernel) rfl, tbT 4 (by decide +kernel) rfl, tbT 461 (by decide +kernel) rfl, tbS (q := (y_R_loose, 18)) 33 (by decide +kernel), by decide, by decide, by decide +kernel⟩
theorem mf_R_allow : MFv y_R_allow b_R_allow 9 (some .int) 4 := ⟨tbT 441 (by decide +kernel) rfl, tbT 4 (by decide +kernel) rfl, tbT 440 (by decide +kernel) rfl, tbS (q := (y_R_allow, 18)) 28 (by decide +kernel), by decide, by decide, by decide +kernel⟩
theorem mf_R_exact : MFv y_R_exact b_R_exact 3 (some .boolean) 2 := ⟨tbT 470 (by decide +kernel) rfl, tbT 4 (by decide +kernel) rfl, tbT 469 (by decide +kernel) rfl, tbS (q := (y_R_exact, 18)) 35 (by decide +kernel), by decide, by decide, by decide +kernel⟩
theorem mf_R_down : MFv y_R_down b_R_down 2 (some .int) 1 := ⟨tbT 474 (by decide +kernel) rfl, tbT 4 (by decide +kernel) rfl, tbT 473 (by decide +kernel) rfl, tbS (q := (y_R_down, 18)) 36 (by decide +kernel), by decide, by decide, by decide +kernel⟩
theorem mf_R_up : MFv y_R_up b_R_up 2 (some .int) 1 := ⟨tbT 478 (by decide +kernel) rfl, tbT 4 (by decide +kernel) rfl, tbT 477 (by decide +kernel) rfl, tbS (q := (y_R_up, 18)) 37 (by decide +kernel), by decide, by decide, by decide +kernel⟩
theorem mf_R_forBounds : MFv y_R_forBounds b_R_forBounds 4 (some .int) 0 := ⟨tbT 466 (by decide +kernel) rfl, tbT 4 (by decide +kernel) rfl, tbT 465 (by decide +kernel) rfl, tbS (q := (y_R_forBounds, 18)) 34 (by decide +kernel), by decide, by decide, by decide +kernel⟩
theorem mf_R_points : MFv y_R_points b_R_points 2 (some .boolean) 1 := ⟨tbT 486 (by decide +kernel) rfl, tbT 4 (by decide +kernel) rfl, tbT 485 (by decide +kernel) rfl, tbS (q := (y_R_points, 18)) 39 (by decide +kernel), by decide, by decide, by decide +kernel⟩
theorem mf_R_forSeal : MFv y_R_forSeal b_R_forSeal 1 (some .int) 0 := ⟨tbT 482 (by decide +kernel) rfl, tbT 4 (by decide +kernel) rfl, tbT 481 (by decide +kernel) rfl, tbS (q := (y_R_forSeal, 18)) 38 (by decide +kernel), by decide, by decide, by decide +kernel⟩
theorem mf_R_forUnseal : MFv y_R_forUnseal b_R_forUnseal 1 (some .int) 0 := ⟨tbT 490 (by decide +kernel) rfl, tbT 4 (by decide +kernel) rfl, tbT 489 (by decide +kernel) rfl, tbS (q := (y_R_forUnseal, 18)) 40 (by decide +kernel), by decide, by decide, by decide +kernel⟩
theorem mf_R_size : MFv y_R_size b_R_size 1 (some .int) 0 := ⟨tbT 502 (by decide +kernel) rfl, tbT 4 (by decide +kernel) rfl, tbT 501 (by decide +kernel) rfl, tbS (q := (y_R_size, 18)) 43 (by decide +kernel), by decide, by decide, by decide +kernel⟩
theorem mf_R_forAccess : MFv y_R_forAccess b_R_forAccess 2 (some .int) 0 := ⟨tbT 498 (by decide +kernel) rfl, tbT 4 (by decide +kernel) rfl, tbT 497 (by decide +kernel) rfl, tbS (q := (y_R_forAccess, 18)) 42 (by decide +kernel), by decide, by decide, by decide +kernel⟩
theorem mf_R_forJump : MFv y_R_forJump b_R_forJump 1 (some .int) 0 := ⟨tbT 494 (by decide +kernel) rfl, tbT 4 (by decide +kernel) rfl, tbT 493 (by decide +kernel) rfl, tbS (q := (y_R_forJump, 18)) 41 (by decide +kernel), by decide, by decide, by decide +kernel⟩
theorem mf_R_exception : MFv y_R_exception b_R_exception 1 (some .int) 0 := ⟨tbT 458 (by decide +kernel) rfl, tbT 4 (by decide +kernel) rfl, tbT 457 (by decide +kernel) rfl, tbS (q := (y_R_exception, 18)) 32 (by decide +kernel), by decide, by decide, by decide +kernel⟩
theorem mf_R_word : MFv y_R_word b_R_word 2 (some .int) 1 := ⟨tbT 542 (by decide +kernel) rfl, tbT 4 (by decide +kernel) rfl, tbT 541 (by decide +kernel) rfl, tbS (q := (y_R_word, 18)) 53 (by decide +kernel), by decide, by decide, by decide +kernel⟩
theorem mf_R_load : MFv y_R_load b_R_load 4 none 1 := ⟨tbT 546 (by decide +kernel) rfl, tbT 4 (by decide +kernel) rfl, tbT 545 (by decide +kernel) rfl, tbS (q := (y_R_load, 18)) 54 (by decide +kernel), by decide, by decide, by decide +kernel⟩
theorem mf_R_access : MFv y_R_access b_R_access 2 none 0 := ⟨tbT 538 (by decide +kernel) rfl, tbT 4 (by decide +kernel) rfl, tbT 537 (by decide +kernel) rfl, tbS (q := (y_R_access, 18)) 52 (by decide +kernel), by decide, by decide, by decide +kernel⟩
theorem mf_R_within : MFv y_R_within b_R_within 1 (some .boolean) 0 := ⟨tbT 530 (by decide +kernel) rfl, tbT 4 (by decide +kernel) rfl, tbT 529 (by decide +kernel) rfl, tbS (q := (y_R_within, 18)) 50 (by decide +kernel), by decide, by decide, by decide +kernel⟩
theorem mf_R_reckon : MFv y_R_reckon b_R_reckon 1 (some .int) 0 := ⟨tbT 526 (by decide +kernel) rfl, tbT 4 (by decide +kernel) rfl, tbT 525 (by decide +kernel) rfl, tbS (q := (y_R_reckon, 18)) 49 (by decide +kernel), by decide, by decide, by decide +kernel⟩
theorem mf_R_bound : MFv y_R_bound b_R_bound 4 none 0 := ⟨tbT 555 (by decide +kernel) rfl, tbT 4 (by decide +kernel) rfl, tbT 554 (by decide +kernel) rfl, tbS (q := (y_R_bound, 18)) 56 (by decide +kernel), by decide, by decide, by decide +kernel⟩
theorem mf_R_derive : MFv y_R_derive b_R_derive 1 none 0 := ⟨tbT 551 (by decide +kernel) rfl, tbT 4 (by decide +kernel) rfl, tbT 550 (by decide +kernel) rfl, tbS (q := (y_R_derive, 18)) 55 (by decide +kernel), by decide, by decide, by decide +kernel⟩
theorem mf_R_jump : MFv y_R_jump b_R_jump 1 none 0 := ⟨tbT 510 (by decide +kernel) rfl, tbT 4 (by decide +kernel) rfl, tbT 509 (by decide +kernel) rfl, tbS (q := (y_R_jump, 18)) 45 (by decide +kernel), by decide, by decide, by decide +kernel⟩
theorem mf_R_goes : MFv y_R_goes b_R_goes 1 (some .boolean) 0 := ⟨tbT 522 (by decide +kernel) rfl, tbT 4 (by decide +kernel) rfl, tbT 521 (by decide +kernel) rfl, tbS (q := (y_R_goes, 18)) 48 (by decide +kernel), by decide, by decide, by decide +kernel⟩
theorem mf_R_doIt : MFv y_R_doIt b_R_doIt 4 none 0 := ⟨tbT 518 (by decide +kernel) rfl, tbT 4 (by decide +kernel) rfl, tbT 517 (by decide +kernel) rfl, tbS (q := (y_R_doIt, 18)) 47 (by decide +kernel), by decide, by decide, by decide +kernel⟩
theorem mf_R_fetch : MFv y_R_fetch b_R_fetch 2 none 1 := ⟨tbT 454 (by decide +kernel) rfl, tbT 4 (by decide +kernel) rfl, tbT 453 (by decide +kernel) rfl, tbS (q := (y_R_fetch, 18)) 31 (by decide +kernel), by decide, by decide, by decide +kernel⟩
theorem mf_R_step : MFv y_R_step b_R_step 2 none 0 := ⟨tbT 437 (by decide +kernel) rfl, tbT 4 (by decide +kernel) rfl, tbT 436 (by decide +kernel) rfl, tbS (q := (y_R_step, 18)) 27 (by decide +kernel), by decide, by decide, by decide +kernel⟩
theorem mf_R_grant : MFv y_R_grant b_R_grant 6 none 5 := ⟨tbT 418 (by decide +kernel) rfl, tbT 4 (by decide +kernel) rfl, tbT 416 (by decide +kernel) rfl, tbT 417 (by decide +kernel) rfl, by decide, by decide, by decide +kernel⟩
theorem mf_R_poke : MFv y_R_poke b_R_poke 4 none 3 := ⟨tbT 425 (by decide +kernel) rfl, tbT 4 (by decide +kernel) rfl, tbT 423 (by decide +kernel) rfl, tbT 424 (by decide +kernel) rfl, by decide, by decide, by decide +kernel⟩
theorem mf_R_state : MFv y_R_state b_R_state 1 (some .int) 0 := ⟨tbT 559 (by decide +kernel) rfl, tbT 4 (by decide +kernel) rfl, tbT 557 (by decide +kernel) rfl, tbT 558 (by decide +kernel) rfl, by decide, by decide, by decide +kernel⟩
theorem mf_R_cause : MFv y_R_cause b_R_cause 1 (some .int) 0 := ⟨tbT 563 (by decide +kernel) rfl, tbT 4 (by decide +kernel) rfl, tbT 561 (by decide +kernel) rfl, tbT 562 (by decide +kernel) rfl, by decide, by decide, by decide +kernel⟩
theorem mf_R_look : MFv y_R_look b_R_look 5 (some .int) 2 := ⟨tbT 567 (by decide +kernel) rfl, tbT 4 (by decide +kernel) rfl, tbT 565 (by decide +kernel) rfl, tbT 566 (by decide +kernel) rfl, by decide, by decide, by decide +kernel⟩
theorem mf_R_peek : MFv y_R_peek b_R_peek 2 (some .int) 1 := ⟨tbT 575 (by decide +kernel) rfl, tbT 4 (by decide +kernel) rfl, tbT 573 (by decide +kernel) rfl, tbT 574 (by decide +kernel) rfl, by decide, by decide, by decide +kernel⟩
theorem mf_R_tagged : MFv y_R_tagged b_R_tagged 2 (some .boolean) 1 := ⟨tbT 579 (by decide +kernel) rfl, tbT 4 (by decide +kernel) rfl, tbT 577 (by decide +kernel) rfl, tbT 578 (by decide +kernel) rfl, by decide, by decide, by decide +kernel⟩
theorem mf_E_store : MFv y_E_store b_E_store 5 none 3 := ⟨tbT 181 (by decide +kernel) rfl, tbT 3 (by decide +kernel) rfl, tbT 180 (by decide +kernel) rfl, tbS (q := (y_E_store, 2)) 17 (by decide +kernel), by decide, by decide, by decide +kernel⟩
theorem mf_R_store : MFv y_R_store b_R_store 5 none 3 := ⟨tbT 429 (by decide +kernel) rfl, tbT 4 (by decide +kernel) rfl, tbT 428 (by decide +kernel) rfl, tbS (q := (y_R_store, 18)) 26 (by decide +kernel), by decide, by decide, by decide +kernel⟩
theorem fl_K_9 : Cond.fieldLink "CapMachine$Capability" 9 "CapMachine$Capability" "valid" "Z" ∈ TB := tbT 25 (by decide +kernel) rfl
theorem fl_K_15 : Cond.fieldLink "CapMachine$Capability" 15 "CapMachine$Capability" "base" "I" ∈ TB := tbT 28 (by decide +kernel) rfl
theorem fl_K_19 : Cond.fieldLink "CapMachine$Capability" 19 "CapMachine$Capability" "top" "I" ∈ TB := tbT 30 (by decide +kernel) rfl
theorem fl_K_22 : Cond.fieldLink "CapMachine$Capability" 22 "CapMachine$Capability" "permissions" "I" ∈ TB := tbT 32 (by decide +kernel) rfl
theorem fl_K_25 : Cond.fieldLink "CapMachine$Capability" 25 "CapMachine$Capability" "type" "I" ∈ TB := tbT 34 (by decide +kernel) rfl
theorem fl_K_28 : Cond.fieldLink "CapMachine$Capability" 28 "CapMachine$Capability" "address" "I" ∈ TB := tbT 36 (by decide +kernel) rfl
theorem ml_K_31 : Cond.methodLink "CapMachine$Capability" 31 y_K_permits ∈ TB := tbT 112 (by decide +kernel) rfl
theorem kl_K_35 : Cond.constantLong "CapMachine$Capability" 35 (512 : Int64) ∈ TB := tbT 116 (by decide +kernel) rfl
theorem fl_E_9 : Cond.fieldLink "CapMachine$Memory" 9 "CapMachine$Memory" "bytes" "[B" ∈ TB := tbT 58 (by decide +kernel) rfl
theorem ml_E_19 : Cond.methodLink "CapMachine$Memory" 19 y_E_byteAt ∈ TB := tbT 164 (by decide +kernel) rfl
theorem fl_E_15 : Cond.fieldLink "CapMachine$Memory" 15 "CapMachine$Memory" "tags" "[Z" ∈ TB := tbT 59 (by decide +kernel) rfl
theorem ml_E_23 : Cond.methodLink "CapMachine$Memory" 23 y_E_wordAt ∈ TB := tbT 169 (by decide +kernel) rfl
theorem mn_E_26 : Cond.methodLinkNest "CapMachine$Memory" 26 y_K_becomeUnpacked "CapMachine" ∈ NW := nwT 170 (by decide +kernel) rfl
theorem fn_E_32 : Cond.fieldLinkNest "CapMachine$Memory" 32 "CapMachine$Capability" "address" "I" "CapMachine" ∈ NW := nwT 37 (by decide +kernel) rfl
theorem ml_E_36 : Cond.methodLink "CapMachine$Memory" 36 y_E_store ∈ TB := tbT 178 (by decide +kernel) rfl
theorem mn_E_40 : Cond.methodLinkNest "CapMachine$Memory" 40 y_K_packed "CapMachine" ∈ NW := nwT 182 (by decide +kernel) rfl
theorem fn_E_44 : Cond.fieldLinkNest "CapMachine$Memory" 44 "CapMachine$Capability" "valid" "Z" "CapMachine" ∈ NW := nwT 26 (by decide +kernel) rfl
theorem fl_M_40 : Cond.fieldLink "CapMachine" 40 "CapMachine" "state" "I" ∈ TB := tbT 78 (by decide +kernel) rfl
theorem fl_M_44 : Cond.fieldLink "CapMachine" 44 "CapMachine" "cause" "I" ∈ TB := tbT 79 (by decide +kernel) rfl
theorem mn_M_102 : Cond.methodLinkNest "CapMachine" 102 y_K_becomeNumber "CapMachine" ∈ NW := nwT 138 (by decide +kernel) rfl
theorem mn_M_79 : Cond.methodLinkNest "CapMachine" 79 y_K_become "CapMachine" ∈ NW := nwT 134 (by decide +kernel) rfl
theorem fn_M_83 : Cond.fieldLinkNest "CapMachine" 83 "CapMachine$Capability" "valid" "Z" "CapMachine" ∈ NW := nwT 27 (by decide +kernel) rfl
theorem mn_M_112 : Cond.methodLinkNest "CapMachine" 112 y_K_moveTo "CapMachine" ∈ NW := nwT 125 (by decide +kernel) rfl
theorem fn_M_115 : Cond.fieldLinkNest "CapMachine" 115 "CapMachine$Capability" "type" "I" "CapMachine" ∈ NW := nwT 35 (by decide +kernel) rfl
theorem fn_M_165 : Cond.fieldLinkNest "CapMachine" 165 "CapMachine$Capability" "permissions" "I" "CapMachine" ∈ NW := nwT 33 (by decide +kernel) rfl
theorem ml_M_178 : Cond.methodLink "CapMachine" 178 y_M_multipleNotAbove ∈ TB := tbT 206 (by decide +kernel) rfl
theorem fn_M_87 : Cond.fieldLinkNest "CapMachine" 87 "CapMachine$Capability" "address" "I" "CapMachine" ∈ NW := nwT 38 (by decide +kernel) rfl
theorem fn_M_168 : Cond.fieldLinkNest "CapMachine" 168 "CapMachine$Capability" "base" "I" "CapMachine" ∈ NW := nwT 29 (by decide +kernel) rfl
theorem fn_M_171 : Cond.fieldLinkNest "CapMachine" 171 "CapMachine$Capability" "top" "I" "CapMachine" ∈ NW := nwT 31 (by decide +kernel) rfl
theorem ml_M_174 : Cond.methodLink "CapMachine" 174 y_M_areExact ∈ TB := tbT 203 (by decide +kernel) rfl
theorem ml_M_181 : Cond.methodLink "CapMachine" 181 y_M_multipleNotBelow ∈ TB := tbT 209 (by decide +kernel) rfl
theorem mn_M_118 : Cond.methodLinkNest "CapMachine" 118 y_K_permits "CapMachine" ∈ NW := nwT 133 (by decide +kernel) rfl
theorem mn_M_184 : Cond.methodLinkNest "CapMachine" 184 y_K_hasAddressInBounds "CapMachine" ∈ NW := nwT 218 (by decide +kernel) rfl
theorem fl_M_20 : Cond.fieldLink "CapMachine" 20 "CapMachine" "handler" "LCapMachine$Capability;" ∈ TB := tbT 74 (by decide +kernel) rfl
theorem ml_M_188 : Cond.methodLink "CapMachine" 188 y_M_permissionsFor ∈ TB := tbT 154 (by decide +kernel) rfl
theorem ml_M_192 : Cond.methodLink "CapMachine" 192 y_M_bytesOf ∈ TB := tbT 157 (by decide +kernel) rfl
theorem mn_M_90 : Cond.methodLinkNest "CapMachine" 90 y_K_refusal "CapMachine" ∈ NW := nwT 108 (by decide +kernel) rfl
theorem fl_M_32 : Cond.fieldLink "CapMachine" 32 "CapMachine" "memory" "LCapMachine$Memory;" ∈ TB := tbT 77 (by decide +kernel) rfl
theorem mn_M_72 : Cond.methodLinkNest "CapMachine" 72 y_E_byteAt "CapMachine" ∈ NW := nwT 117 (by decide +kernel) rfl
theorem mn_M_195 : Cond.methodLinkNest "CapMachine" 195 y_E_wordAt "CapMachine" ∈ NW := nwT 160 (by decide +kernel) rfl
theorem mn_M_198 : Cond.methodLinkNest "CapMachine" 198 y_E_loadCapability "CapMachine" ∈ NW := nwT 165 (by decide +kernel) rfl
theorem mn_M_202 : Cond.methodLinkNest "CapMachine" 202 y_E_storeCapability "CapMachine" ∈ NW := nwT 174 (by decide +kernel) rfl
theorem mn_M_50 : Cond.methodLinkNest "CapMachine" 50 y_E_store "CapMachine" ∈ NW := nwT 186 (by decide +kernel) rfl
theorem ml_M_126 : Cond.methodLink "CapMachine" 126 y_M_number ∈ TB := tbT 191 (by decide +kernel) rfl
theorem ml_M_130 : Cond.methodLink "CapMachine" 130 y_M_copy ∈ TB := tbT 194 (by decide +kernel) rfl
theorem ml_M_133 : Cond.methodLink "CapMachine" 133 y_M_withAddress ∈ TB := tbT 197 (by decide +kernel) rfl
theorem ml_M_137 : Cond.methodLink "CapMachine" 137 y_M_withBounds ∈ TB := tbT 200 (by decide +kernel) rfl
theorem ml_M_141 : Cond.methodLink "CapMachine" 141 y_M_withPermissions ∈ TB := tbT 212 (by decide +kernel) rfl
theorem ml_M_144 : Cond.methodLink "CapMachine" 144 y_M_seal ∈ TB := tbT 215 (by decide +kernel) rfl
theorem ml_M_148 : Cond.methodLink "CapMachine" 148 y_M_unseal ∈ TB := tbT 222 (by decide +kernel) rfl
theorem ml_M_151 : Cond.methodLink "CapMachine" 151 y_M_makeEntry ∈ TB := tbT 225 (by decide +kernel) rfl
theorem ml_M_154 : Cond.methodLink "CapMachine" 154 y_M_withoutTag ∈ TB := tbT 228 (by decide +kernel) rfl
theorem mn_M_157 : Cond.methodLinkNest "CapMachine" 157 y_K_isWithin "CapMachine" ∈ NW := nwT 231 (by decide +kernel) rfl
theorem fl_M_16 : Cond.fieldLink "CapMachine" 16 "CapMachine" "pc" "LCapMachine$Capability;" ∈ TB := tbT 73 (by decide +kernel) rfl
theorem ml_M_161 : Cond.methodLink "CapMachine" 161 y_M_setHandler ∈ TB := tbT 235 (by decide +kernel) rfl
theorem mn_M_68 : Cond.methodLinkNest "CapMachine" 68 y_K_part "CapMachine" ∈ NW := nwT 187 (by decide +kernel) rfl
theorem ml_M_122 : Cond.methodLink "CapMachine" 122 y_M_access ∈ TB := tbT 150 (by decide +kernel) rfl
theorem fl_M_26 : Cond.fieldLink "CapMachine" 26 "CapMachine" "link" "LCapMachine$Capability;" ∈ TB := tbT 76 (by decide +kernel) rfl
theorem fl_M_23 : Cond.fieldLink "CapMachine" 23 "CapMachine" "fault" "LCapMachine$Capability;" ∈ TB := tbT 75 (by decide +kernel) rfl
theorem fn_M_75 : Cond.fieldLinkNest "CapMachine" 75 "CapMachine$Memory" "tags" "[Z" "CapMachine" ∈ NW := nwT 60 (by decide +kernel) rfl
theorem fl_M_11 : Cond.fieldLink "CapMachine" 11 "CapMachine" "slots" "[LCapMachine$Capability;" ∈ TB := tbT 72 (by decide +kernel) rfl
theorem ml_M_105 : Cond.methodLink "CapMachine" 105 y_M_advance ∈ TB := tbT 142 (by decide +kernel) rfl
theorem ml_M_94 : Cond.methodLink "CapMachine" 94 y_M_branch ∈ TB := tbT 121 (by decide +kernel) rfl
theorem ml_M_98 : Cond.methodLink "CapMachine" 98 y_M_jump ∈ TB := tbT 129 (by decide +kernel) rfl
theorem ml_M_108 : Cond.methodLink "CapMachine" 108 y_M_compute ∈ TB := tbT 146 (by decide +kernel) rfl
theorem fl_R_39 : Cond.fieldLink "CapMachineModel" 39 "CapMachineModel" "thrown" "I" ∈ TB := tbT 355 (by decide +kernel) rfl
theorem fl_R_17 : Cond.fieldLink "CapMachineModel" 17 "CapMachineModel" "valid" "[Z" ∈ TB := tbT 358 (by decide +kernel) rfl
theorem fl_R_20 : Cond.fieldLink "CapMachineModel" 20 "CapMachineModel" "base" "[I" ∈ TB := tbT 359 (by decide +kernel) rfl
theorem fl_R_23 : Cond.fieldLink "CapMachineModel" 23 "CapMachineModel" "top" "[I" ∈ TB := tbT 360 (by decide +kernel) rfl
theorem fl_R_26 : Cond.fieldLink "CapMachineModel" 26 "CapMachineModel" "address" "[I" ∈ TB := tbT 361 (by decide +kernel) rfl
theorem fl_R_29 : Cond.fieldLink "CapMachineModel" 29 "CapMachineModel" "permissions" "[I" ∈ TB := tbT 362 (by decide +kernel) rfl
theorem fl_R_32 : Cond.fieldLink "CapMachineModel" 32 "CapMachineModel" "type" "[I" ∈ TB := tbT 363 (by decide +kernel) rfl
theorem ml_R_35 : Cond.methodLink "CapMachineModel" 35 y_R_set ∈ TB := tbT 351 (by decide +kernel) rfl
theorem ml_R_43 : Cond.methodLink "CapMachineModel" 43 y_R_outside ∈ TB := tbT 419 (by decide +kernel) rfl
theorem ml_R_47 : Cond.methodLink "CapMachineModel" 47 y_R_usable ∈ TB := tbT 442 (by decide +kernel) rfl
theorem ml_R_51 : Cond.methodLink "CapMachineModel" 51 y_R_may ∈ TB := tbT 446 (by decide +kernel) rfl
theorem kl_R_55 : Cond.constantLong "CapMachineModel" 55 (512 : Int64) ∈ TB := tbT 450 (by decide +kernel) rfl
theorem fl_R_57 : Cond.fieldLink "CapMachineModel" 57 "CapMachineModel" "b" "I" ∈ TB := tbT 368 (by decide +kernel) rfl
theorem fl_R_60 : Cond.fieldLink "CapMachineModel" 60 "CapMachineModel" "c" "I" ∈ TB := tbT 369 (by decide +kernel) rfl
theorem ml_R_63 : Cond.methodLink "CapMachineModel" 63 y_R_exact ∈ TB := tbT 467 (by decide +kernel) rfl
theorem ml_R_66 : Cond.methodLink "CapMachineModel" 66 y_R_down ∈ TB := tbT 471 (by decide +kernel) rfl
theorem ml_R_69 : Cond.methodLink "CapMachineModel" 69 y_R_up ∈ TB := tbT 475 (by decide +kernel) rfl
theorem fl_R_72 : Cond.fieldLink "CapMachineModel" 72 "CapMachineModel" "code" "I" ∈ TB := tbT 366 (by decide +kernel) rfl
theorem ml_R_75 : Cond.methodLink "CapMachineModel" 75 y_R_points ∈ TB := tbT 483 (by decide +kernel) rfl
theorem fl_R_79 : Cond.fieldLink "CapMachineModel" 79 "CapMachineModel" "a" "I" ∈ TB := tbT 367 (by decide +kernel) rfl
theorem fl_R_82 : Cond.fieldLink "CapMachineModel" 82 "CapMachineModel" "imm" "I" ∈ TB := tbT 370 (by decide +kernel) rfl
theorem ml_R_85 : Cond.methodLink "CapMachineModel" 85 y_R_size ∈ TB := tbT 499 (by decide +kernel) rfl
theorem ml_R_89 : Cond.methodLink "CapMachineModel" 89 y_R_allow ∈ TB := tbT 438 (by decide +kernel) rfl
theorem ml_R_93 : Cond.methodLink "CapMachineModel" 93 y_R_loose ∈ TB := tbT 459 (by decide +kernel) rfl
theorem ml_R_96 : Cond.methodLink "CapMachineModel" 96 y_R_forBounds ∈ TB := tbT 463 (by decide +kernel) rfl
theorem ml_R_108 : Cond.methodLink "CapMachineModel" 108 y_R_forAccess ∈ TB := tbT 495 (by decide +kernel) rfl
theorem ml_R_105 : Cond.methodLink "CapMachineModel" 105 y_R_forJump ∈ TB := tbT 491 (by decide +kernel) rfl
theorem ml_R_102 : Cond.methodLink "CapMachineModel" 102 y_R_forUnseal ∈ TB := tbT 487 (by decide +kernel) rfl
theorem ml_R_99 : Cond.methodLink "CapMachineModel" 99 y_R_forSeal ∈ TB := tbT 479 (by decide +kernel) rfl
theorem fl_R_7 : Cond.fieldLink "CapMachineModel" 7 "CapMachineModel" "memory" "[I" ∈ TB := tbT 356 (by decide +kernel) rfl
theorem ml_R_111 : Cond.methodLink "CapMachineModel" 111 y_R_word ∈ TB := tbT 539 (by decide +kernel) rfl
theorem fl_R_13 : Cond.fieldLink "CapMachineModel" 13 "CapMachineModel" "tags" "[Z" ∈ TB := tbT 357 (by decide +kernel) rfl
theorem ml_R_114 : Cond.methodLink "CapMachineModel" 114 y_R_number ∈ TB := tbT 531 (by decide +kernel) rfl
theorem ml_R_118 : Cond.methodLink "CapMachineModel" 118 y_R_load ∈ TB := tbT 543 (by decide +kernel) rfl
theorem ml_R_122 : Cond.methodLink "CapMachineModel" 122 y_R_store ∈ TB := tbT 426 (by decide +kernel) rfl
theorem ki_R_126 : Cond.constant "CapMachineModel" 126 (1048576 : Int32) ∈ TB := tbT 547 (by decide +kernel) rfl
theorem fl_R_127 : Cond.fieldLink "CapMachineModel" 127 "CapMachineModel" "half" "I" ∈ TB := tbT 371 (by decide +kernel) rfl
theorem ml_R_130 : Cond.methodLink "CapMachineModel" 130 y_R_within ∈ TB := tbT 527 (by decide +kernel) rfl
theorem ml_R_134 : Cond.methodLink "CapMachineModel" 134 y_R_copy ∈ TB := tbT 503 (by decide +kernel) rfl
theorem ml_R_137 : Cond.methodLink "CapMachineModel" 137 y_R_move ∈ TB := tbT 511 (by decide +kernel) rfl
theorem ml_R_140 : Cond.methodLink "CapMachineModel" 140 y_R_bound ∈ TB := tbT 552 (by decide +kernel) rfl
theorem ml_R_143 : Cond.methodLink "CapMachineModel" 143 y_R_goes ∈ TB := tbT 519 (by decide +kernel) rfl
theorem ml_R_152 : Cond.methodLink "CapMachineModel" 152 y_R_derive ∈ TB := tbT 548 (by decide +kernel) rfl
theorem ml_R_149 : Cond.methodLink "CapMachineModel" 149 y_R_access ∈ TB := tbT 535 (by decide +kernel) rfl
theorem ml_R_146 : Cond.methodLink "CapMachineModel" 146 y_R_reckon ∈ TB := tbT 523 (by decide +kernel) rfl
theorem ml_R_155 : Cond.methodLink "CapMachineModel" 155 y_R_fetch ∈ TB := tbT 451 (by decide +kernel) rfl
theorem ml_R_158 : Cond.methodLink "CapMachineModel" 158 y_R_exception ∈ TB := tbT 455 (by decide +kernel) rfl
theorem fl_R_161 : Cond.fieldLink "CapMachineModel" 161 "CapMachineModel" "raised" "Z" ∈ TB := tbT 372 (by decide +kernel) rfl
theorem fl_R_165 : Cond.fieldLink "CapMachineModel" 165 "CapMachineModel" "cause" "I" ∈ TB := tbT 364 (by decide +kernel) rfl
theorem fl_R_168 : Cond.fieldLink "CapMachineModel" 168 "CapMachineModel" "state" "I" ∈ TB := tbT 365 (by decide +kernel) rfl
theorem ml_R_174 : Cond.methodLink "CapMachineModel" 174 y_R_doIt ∈ TB := tbT 515 (by decide +kernel) rfl
theorem ml_R_171 : Cond.methodLink "CapMachineModel" 171 y_R_jump ∈ TB := tbT 507 (by decide +kernel) rfl
theorem ml_R_180 : Cond.methodLink "CapMachineModel" 180 y_R_refuse ∈ TB := tbT 568 (by decide +kernel) rfl
end
section
def f_K_becomeNumber (cK : Nat → Cp) (i0 : Nat) (nu : Int32) : (Nat → Cp) :=
  va_up cK i0 (s_a (s_y (s_p (s_t (s_b (s_v (cK i0) false) (0 : Int32)) (0 : Int32)) (0 : Int32)) (0 : Int32)) nu)
set_option maxHeartbeats 4000000 in
set_option maxRecDepth 100000 in
theorem c_K_becomeNumber (l : Launch) (D : va_G) (q : Nat → ClassId) (xa ad : Nat → Nat) (sS : Int32) (sC : Int32) (fB : Nat → Int32) (gT : Nat → Bool) (cK : Nat → Cp) (A : Nat → Prop) (hD : va_D A (mW q xa ad sS sC fB gT cK)) (i0 : Nat) (hi0 : i0 < 12) (nu : Int32) : WMv l y_K_becomeNumber b_K_becomeNumber 2 none ({ frames := 0, cells := 0, slots := 0, locals := 0 }) [.ref (ad i0), .int nu] D (tyM q) (mW q xa ad sS sC fB gT cK) (mW q xa ad sS sC fB gT (f_K_becomeNumber cK i0 nu)) A := by
  refine ofV (by decide) (Nat.le_of_ble_eq_true rfl) ?_
  intro p e s m below meth c ls S hr hlocks hK hN hP hl
  have hx := S.1
  have hb := S.2.1
  have hS : va_S A s.heap s.heap [] := va_S.rf
  have hl : lv_has ls 2 [(0, .ref (ad i0)), (1, .int nu)] := hl
  refine lv_aload_n hx hb d_K_becomeNumber_0 rfl (lv_at hl 0 rfl) ?_
  refine lv_iconst (v := (0 : Int32)) hx hb d_K_becomeNumber_1 (by decide) ?_
  refine k_put S hK hP (mW_D hD) hS (by first | assumption | exact and7_lt _) 0 (by decide) fl_K_9 (s_v (cK i0) false) rfl (b2i_nar false) (b2i_fit false) d_K_becomeNumber_2 (fun H locs hP hS => ?_)
  refine lv_aload_n hx hb d_K_becomeNumber_5 rfl (lv_at hl 0 rfl) ?_
  refine lv_iconst (v := (0 : Int32)) hx hb d_K_becomeNumber_6 (by decide) ?_
  refine k_putO S hK hP (mW_D hD) hS (by first | assumption | exact and7_lt _) 1 (by decide) fl_K_15 (s_b (s_v (cK i0) false) (0 : Int32)) rfl rfl rfl d_K_becomeNumber_7 (fun H locs hP hS => ?_)
  refine lv_aload_n hx hb d_K_becomeNumber_10 rfl (lv_at hl 0 rfl) ?_
  refine lv_iconst (v := (0 : Int32)) hx hb d_K_becomeNumber_11 (by decide) ?_
  refine k_putO S hK hP (mW_D hD) hS (by first | assumption | exact and7_lt _) 2 (by decide) fl_K_19 (s_t (s_b (s_v (cK i0) false) (0 : Int32)) (0 : Int32)) rfl rfl rfl d_K_becomeNumber_12 (fun H locs hP hS => ?_)
  refine lv_aload_n hx hb d_K_becomeNumber_15 rfl (lv_at hl 0 rfl) ?_
  refine lv_iconst (v := (0 : Int32)) hx hb d_K_becomeNumber_16 (by decide) ?_
  refine k_putO S hK hP (mW_D hD) hS (by first | assumption | exact and7_lt _) 3 (by decide) fl_K_22 (s_p (s_t (s_b (s_v (cK i0) false) (0 : Int32)) (0 : Int32)) (0 : Int32)) rfl rfl rfl d_K_becomeNumber_17 (fun H locs hP hS => ?_)
  refine lv_aload_n hx hb d_K_becomeNumber_20 rfl (lv_at hl 0 rfl) ?_
  refine lv_iconst (v := (0 : Int32)) hx hb d_K_becomeNumber_21 (by decide) ?_
  refine k_putO S hK hP (mW_D hD) hS (by first | assumption | exact and7_lt _) 4 (by decide) fl_K_25 (s_y (s_p (s_t (s_b (s_v (cK i0) false) (0 : Int32)) (0 : Int32)) (0 : Int32)) (0 : Int32)) rfl rfl rfl d_K_becomeNumber_22 (fun H locs hP hS => ?_)
  refine lv_aload_n hx hb d_K_becomeNumber_25 rfl (lv_at hl 0 rfl) ?_
  refine lv_iload_n hx hb d_K_becomeNumber_26 rfl (lv_at hl 1 rfl) ?_
  refine k_putO S hK hP (mW_D hD) hS (by first | assumption | exact and7_lt _) 5 (by decide) fl_K_28 (s_a (s_y (s_p (s_t (s_b (s_v (cK i0) false) (0 : Int32)) (0 : Int32)) (0 : Int32)) (0 : Int32)) nu) rfl rfl rfl d_K_becomeNumber_27 (fun H locs hP hS => ?_)
  have hF : f_K_becomeNumber cK i0 nu = va_up cK i0 (s_a (s_y (s_p (s_t (s_b (s_v (cK i0) false) (0 : Int32)) (0 : Int32)) (0 : Int32)) (0 : Int32)) nu) := rfl
  exact e_wv S hr hlocks hP hS (congrArg (fun z => mW q xa ad sS sC fB gT z) hF.symm) d_K_becomeNumber_30
def f_K_becomeGranted (cK : Nat → Cp) (i0 : Nat) (nb : Int32) (nt : Int32) (na : Int32) (np : Int32) : (Nat → Cp) :=
  va_up cK i0 (s_a (s_y (s_p (s_t (s_b (s_v (cK i0) true) nb) nt) np) (0 : Int32)) na)
set_option maxHeartbeats 4000000 in
set_option maxRecDepth 100000 in
theorem c_K_becomeGranted (l : Launch) (D : va_G) (q : Nat → ClassId) (xa ad : Nat → Nat) (sS : Int32) (sC : Int32) (fB : Nat → Int32) (gT : Nat → Bool) (cK : Nat → Cp) (A : Nat → Prop) (hD : va_D A (mW q xa ad sS sC fB gT cK)) (i0 : Nat) (hi0 : i0 < 12) (nb : Int32) (nt : Int32) (na : Int32) (np : Int32) : WMv l y_K_becomeGranted b_K_becomeGranted 5 none ({ frames := 0, cells := 0, slots := 0, locals := 0 }) [.ref (ad i0), .int nb, .int nt, .int na, .int np] D (tyM q) (mW q xa ad sS sC fB gT cK) (mW q xa ad sS sC fB gT (f_K_becomeGranted cK i0 nb nt na np)) A := by
  refine ofV (by decide) (Nat.le_of_ble_eq_true rfl) ?_
  intro p e s m below meth c ls S hr hlocks hK hN hP hl
  have hx := S.1
  have hb := S.2.1
  have hS : va_S A s.heap s.heap [] := va_S.rf
  have hl : lv_has ls 5 [(0, .ref (ad i0)), (1, .int nb), (2, .int nt), (3, .int na), (4, .int np)] := hl
  refine lv_aload_n hx hb d_K_becomeGranted_0 rfl (lv_at hl 0 rfl) ?_
  refine lv_iconst (v := (1 : Int32)) hx hb d_K_becomeGranted_1 (by decide) ?_
  refine k_put S hK hP (mW_D hD) hS (by first | assumption | exact and7_lt _) 0 (by decide) fl_K_9 (s_v (cK i0) true) rfl (b2i_nar true) (b2i_fit true) d_K_becomeGranted_2 (fun H locs hP hS => ?_)
  refine lv_aload_n hx hb d_K_becomeGranted_5 rfl (lv_at hl 0 rfl) ?_
  refine lv_iload_n hx hb d_K_becomeGranted_6 rfl (lv_at hl 1 rfl) ?_
  refine k_putO S hK hP (mW_D hD) hS (by first | assumption | exact and7_lt _) 1 (by decide) fl_K_15 (s_b (s_v (cK i0) true) nb) rfl rfl rfl d_K_becomeGranted_7 (fun H locs hP hS => ?_)
  refine lv_aload_n hx hb d_K_becomeGranted_10 rfl (lv_at hl 0 rfl) ?_
  refine lv_iload_n hx hb d_K_becomeGranted_11 rfl (lv_at hl 2 rfl) ?_
  refine k_putO S hK hP (mW_D hD) hS (by first | assumption | exact and7_lt _) 2 (by decide) fl_K_19 (s_t (s_b (s_v (cK i0) true) nb) nt) rfl rfl rfl d_K_becomeGranted_12 (fun H locs hP hS => ?_)
  refine lv_aload_n hx hb d_K_becomeGranted_15 rfl (lv_at hl 0 rfl) ?_
  refine lv_iload hx hb d_K_becomeGranted_16 (lv_at hl 4 rfl) ?_
  refine k_putO S hK hP (mW_D hD) hS (by first | assumption | exact and7_lt _) 3 (by decide) fl_K_22 (s_p (s_t (s_b (s_v (cK i0) true) nb) nt) np) rfl rfl rfl d_K_becomeGranted_18 (fun H locs hP hS => ?_)
  refine lv_aload_n hx hb d_K_becomeGranted_21 rfl (lv_at hl 0 rfl) ?_
  refine lv_iconst (v := (0 : Int32)) hx hb d_K_becomeGranted_22 (by decide) ?_
  refine k_putO S hK hP (mW_D hD) hS (by first | assumption | exact and7_lt _) 4 (by decide) fl_K_25 (s_y (s_p (s_t (s_b (s_v (cK i0) true) nb) nt) np) (0 : Int32)) rfl rfl rfl d_K_becomeGranted_23 (fun H locs hP hS => ?_)
  refine lv_aload_n hx hb d_K_becomeGranted_26 rfl (lv_at hl 0 rfl) ?_
  refine lv_iload_n hx hb d_K_becomeGranted_27 rfl (lv_at hl 3 rfl) ?_
  refine k_putO S hK hP (mW_D hD) hS (by first | assumption | exact and7_lt _) 5 (by decide) fl_K_28 (s_a (s_y (s_p (s_t (s_b (s_v (cK i0) true) nb) nt) np) (0 : Int32)) na) rfl rfl rfl d_K_becomeGranted_28 (fun H locs hP hS => ?_)
  have hF : f_K_becomeGranted cK i0 nb nt na np = va_up cK i0 (s_a (s_y (s_p (s_t (s_b (s_v (cK i0) true) nb) nt) np) (0 : Int32)) na) := rfl
  exact e_wv S hr hlocks hP hS (congrArg (fun z => mW q xa ad sS sC fB gT z) hF.symm) d_K_becomeGranted_31
def f_K_become (cK : Nat → Cp) (i0 : Nat) (j0 : Nat) : (Nat → Cp) :=
  va_up cK i0 (s_a (s_y (s_p (s_t (s_b (s_v (cK i0) (k_v (cK j0))) (k_b (cK j0))) (k_t (cK j0))) (k_p (cK j0))) (k_y (cK j0))) (k_a (cK j0)))
set_option maxHeartbeats 4000000 in
set_option maxRecDepth 100000 in
theorem c_K_become (l : Launch) (D : va_G) (q : Nat → ClassId) (xa ad : Nat → Nat) (sS : Int32) (sC : Int32) (fB : Nat → Int32) (gT : Nat → Bool) (cK : Nat → Cp) (A : Nat → Prop) (hD : va_D A (mW q xa ad sS sC fB gT cK)) (i0 : Nat) (hi0 : i0 < 12) (j0 : Nat) (hj0 : j0 < 12) : WMv l y_K_become b_K_become 2 none ({ frames := 0, cells := 0, slots := 0, locals := 0 }) [.ref (ad i0), .ref (ad j0)] D (tyM q) (mW q xa ad sS sC fB gT cK) (mW q xa ad sS sC fB gT (f_K_become cK i0 j0)) A := by
  refine ofV (by decide) (Nat.le_of_ble_eq_true rfl) ?_
  intro p e s m below meth c ls S hr hlocks hK hN hP hl
  have hx := S.1
  have hb := S.2.1
  have hS : va_S A s.heap s.heap [] := va_S.rf
  have hl : lv_has ls 2 [(0, .ref (ad i0)), (1, .ref (ad j0))] := hl
  refine lv_aload_n hx hb d_K_become_0 rfl (lv_at hl 0 rfl) ?_
  refine lv_aload_n hx hb d_K_become_1 rfl (lv_at hl 1 rfl) ?_
  refine k_get (v := .int (b2i (k_v (cK j0)))) S hK hP (by first | assumption | exact and7_lt _) 0 (by decide) fl_K_9 rfl d_K_become_2 ?_
  refine k_put S hK hP (mW_D hD) hS (by first | assumption | exact and7_lt _) 0 (by decide) fl_K_9 (s_v (cK i0) (k_v (cK j0))) rfl (b2i_nar (k_v (cK j0))) (b2i_fit (k_v (cK j0))) d_K_become_5 (fun H locs hP hS => ?_)
  refine lv_aload_n hx hb d_K_become_8 rfl (lv_at hl 0 rfl) ?_
  refine lv_aload_n hx hb d_K_become_9 rfl (lv_at hl 1 rfl) ?_
  refine k_getX (v := .int (k_b (cK j0))) S hK hP (by first | assumption | exact and7_lt _) 1 (by decide) fl_K_15 rfl rfl d_K_become_10 ?_
  refine k_putO S hK hP (mW_D hD) hS (by first | assumption | exact and7_lt _) 1 (by decide) fl_K_15 (s_b (s_v (cK i0) (k_v (cK j0))) (k_b (cK j0))) rfl rfl rfl d_K_become_13 (fun H locs hP hS => ?_)
  refine lv_aload_n hx hb d_K_become_16 rfl (lv_at hl 0 rfl) ?_
  refine lv_aload_n hx hb d_K_become_17 rfl (lv_at hl 1 rfl) ?_
  refine k_getX (v := .int (k_t (cK j0))) S hK hP (by first | assumption | exact and7_lt _) 2 (by decide) fl_K_19 rfl rfl d_K_become_18 ?_
  refine k_putO S hK hP (mW_D hD) hS (by first | assumption | exact and7_lt _) 2 (by decide) fl_K_19 (s_t (s_b (s_v (cK i0) (k_v (cK j0))) (k_b (cK j0))) (k_t (cK j0))) rfl rfl rfl d_K_become_21 (fun H locs hP hS => ?_)
  refine lv_aload_n hx hb d_K_become_24 rfl (lv_at hl 0 rfl) ?_
  refine lv_aload_n hx hb d_K_become_25 rfl (lv_at hl 1 rfl) ?_
  refine k_getX (v := .int (k_p (cK j0))) S hK hP (by first | assumption | exact and7_lt _) 3 (by decide) fl_K_22 rfl rfl d_K_become_26 ?_
  refine k_putO S hK hP (mW_D hD) hS (by first | assumption | exact and7_lt _) 3 (by decide) fl_K_22 (s_p (s_t (s_b (s_v (cK i0) (k_v (cK j0))) (k_b (cK j0))) (k_t (cK j0))) (k_p (cK j0))) rfl rfl rfl d_K_become_29 (fun H locs hP hS => ?_)
  refine lv_aload_n hx hb d_K_become_32 rfl (lv_at hl 0 rfl) ?_
  refine lv_aload_n hx hb d_K_become_33 rfl (lv_at hl 1 rfl) ?_
  refine k_getX (v := .int (k_y (cK j0))) S hK hP (by first | assumption | exact and7_lt _) 4 (by decide) fl_K_25 rfl rfl d_K_become_34 ?_
  refine k_putO S hK hP (mW_D hD) hS (by first | assumption | exact and7_lt _) 4 (by decide) fl_K_25 (s_y (s_p (s_t (s_b (s_v (cK i0) (k_v (cK j0))) (k_b (cK j0))) (k_t (cK j0))) (k_p (cK j0))) (k_y (cK j0))) rfl rfl rfl d_K_become_37 (fun H locs hP hS => ?_)
  refine lv_aload_n hx hb d_K_become_40 rfl (lv_at hl 0 rfl) ?_
  refine lv_aload_n hx hb d_K_become_41 rfl (lv_at hl 1 rfl) ?_
  refine k_getX (v := .int (k_a (cK j0))) S hK hP (by first | assumption | exact and7_lt _) 5 (by decide) fl_K_28 rfl rfl d_K_become_42 ?_
  refine k_putO S hK hP (mW_D hD) hS (by first | assumption | exact and7_lt _) 5 (by decide) fl_K_28 (s_a (s_y (s_p (s_t (s_b (s_v (cK i0) (k_v (cK j0))) (k_b (cK j0))) (k_t (cK j0))) (k_p (cK j0))) (k_y (cK j0))) (k_a (cK j0))) rfl rfl rfl d_K_become_45 (fun H locs hP hS => ?_)
  have hF : f_K_become cK i0 j0 = va_up cK i0 (s_a (s_y (s_p (s_t (s_b (s_v (cK i0) (k_v (cK j0))) (k_b (cK j0))) (k_t (cK j0))) (k_p (cK j0))) (k_y (cK j0))) (k_a (cK j0))) := rfl
  exact e_wv S hr hlocks hP hS (congrArg (fun z => mW q xa ad sS sC fB gT z) hF.symm) d_K_become_48
def f_K_becomeUnpacked (cK : Nat → Cp) (i0 : Nat) (tg : Bool) (na : Int32) (pk : Int32) : (Nat → Cp) :=
  va_up cK i0 (s_a (s_p (s_y (s_t (s_b (s_v (cK i0) tg) (pk &&& (1023 : Int32))) (((pk.toUInt32 >>> ((10 : Int32).toUInt32 &&& Int32.toUInt32 31)).toInt32) &&& (1023 : Int32))) (((pk.toUInt32 >>> ((20 : Int32).toUInt32 &&& Int32.toUInt32 31)).toInt32) &&& (15 : Int32))) (((pk.toUInt32 >>> ((24 : Int32).toUInt32 &&& Int32.toUInt32 31)).toInt32) &&& (255 : Int32))) na)
set_option maxHeartbeats 4000000 in
set_option maxRecDepth 100000 in
theorem c_K_becomeUnpacked (l : Launch) (D : va_G) (q : Nat → ClassId) (xa ad : Nat → Nat) (sS : Int32) (sC : Int32) (fB : Nat → Int32) (gT : Nat → Bool) (cK : Nat → Cp) (A : Nat → Prop) (hD : va_D A (mW q xa ad sS sC fB gT cK)) (i0 : Nat) (hi0 : i0 < 12) (tg : Bool) (na : Int32) (pk : Int32) : WMv l y_K_becomeUnpacked b_K_becomeUnpacked 4 none ({ frames := 0, cells := 0, slots := 0, locals := 0 }) [.ref (ad i0), .int (b2i tg), .int na, .int pk] D (tyM q) (mW q xa ad sS sC fB gT cK) (mW q xa ad sS sC fB gT (f_K_becomeUnpacked cK i0 tg na pk)) A := by
  refine ofV (by decide) (Nat.le_of_ble_eq_true rfl) ?_
  intro p e s m below meth c ls S hr hlocks hK hN hP hl
  have hx := S.1
  have hb := S.2.1
  have hS : va_S A s.heap s.heap [] := va_S.rf
  have hl : lv_has ls 4 [(0, .ref (ad i0)), (1, .int (b2i tg)), (2, .int na), (3, .int pk)] := hl
  refine lv_aload_n hx hb d_K_becomeUnpacked_0 rfl (lv_at hl 0 rfl) ?_
  refine lv_iload_n hx hb d_K_becomeUnpacked_1 rfl (lv_at hl 1 rfl) ?_
  refine k_put S hK hP (mW_D hD) hS (by first | assumption | exact and7_lt _) 0 (by decide) fl_K_9 (s_v (cK i0) tg) rfl (b2i_nar tg) (b2i_fit tg) d_K_becomeUnpacked_2 (fun H locs hP hS => ?_)
  refine lv_aload_n hx hb d_K_becomeUnpacked_5 rfl (lv_at hl 0 rfl) ?_
  refine lv_iload_n hx hb d_K_becomeUnpacked_6 rfl (lv_at hl 3 rfl) ?_
  refine lv_sipush (v := (1023 : Int32)) hx hb d_K_becomeUnpacked_7 (by decide) ?_
  refine lv_iand hx hb d_K_becomeUnpacked_10 ?_
  refine k_putO S hK hP (mW_D hD) hS (by first | assumption | exact and7_lt _) 1 (by decide) fl_K_15 (s_b (s_v (cK i0) tg) (pk &&& (1023 : Int32))) rfl rfl rfl d_K_becomeUnpacked_11 (fun H locs hP hS => ?_)
  refine lv_aload_n hx hb d_K_becomeUnpacked_14 rfl (lv_at hl 0 rfl) ?_
  refine lv_iload_n hx hb d_K_becomeUnpacked_15 rfl (lv_at hl 3 rfl) ?_
  refine lv_bipush (v := (10 : Int32)) hx hb d_K_becomeUnpacked_16 (by decide) ?_
  refine lv_iushr (v := (pk.toUInt32 >>> ((10 : Int32).toUInt32 &&& Int32.toUInt32 31)).toInt32) hx hb d_K_becomeUnpacked_18 rfl ?_
  refine lv_sipush (v := (1023 : Int32)) hx hb d_K_becomeUnpacked_19 (by decide) ?_
  refine lv_iand hx hb d_K_becomeUnpacked_22 ?_
  refine k_putO S hK hP (mW_D hD) hS (by first | assumption | exact and7_lt _) 2 (by decide) fl_K_19 (s_t (s_b (s_v (cK i0) tg) (pk &&& (1023 : Int32))) (((pk.toUInt32 >>> ((10 : Int32).toUInt32 &&& Int32.toUInt32 31)).toInt32) &&& (1023 : Int32))) rfl rfl rfl d_K_becomeUnpacked_23 (fun H locs hP hS => ?_)
  refine lv_aload_n hx hb d_K_becomeUnpacked_26 rfl (lv_at hl 0 rfl) ?_
  refine lv_iload_n hx hb d_K_becomeUnpacked_27 rfl (lv_at hl 3 rfl) ?_
  refine lv_bipush (v := (20 : Int32)) hx hb d_K_becomeUnpacked_28 (by decide) ?_
  refine lv_iushr (v := (pk.toUInt32 >>> ((20 : Int32).toUInt32 &&& Int32.toUInt32 31)).toInt32) hx hb d_K_becomeUnpacked_30 rfl ?_
  refine lv_bipush (v := (15 : Int32)) hx hb d_K_becomeUnpacked_31 (by decide) ?_
  refine lv_iand hx hb d_K_becomeUnpacked_33 ?_
  refine k_putO S hK hP (mW_D hD) hS (by first | assumption | exact and7_lt _) 4 (by decide) fl_K_25 (s_y (s_t (s_b (s_v (cK i0) tg) (pk &&& (1023 : Int32))) (((pk.toUInt32 >>> ((10 : Int32).toUInt32 &&& Int32.toUInt32 31)).toInt32) &&& (1023 : Int32))) (((pk.toUInt32 >>> ((20 : Int32).toUInt32 &&& Int32.toUInt32 31)).toInt32) &&& (15 : Int32))) rfl rfl rfl d_K_becomeUnpacked_34 (fun H locs hP hS => ?_)
  refine lv_aload_n hx hb d_K_becomeUnpacked_37 rfl (lv_at hl 0 rfl) ?_
  refine lv_iload_n hx hb d_K_becomeUnpacked_38 rfl (lv_at hl 3 rfl) ?_
  refine lv_bipush (v := (24 : Int32)) hx hb d_K_becomeUnpacked_39 (by decide) ?_
  refine lv_iushr (v := (pk.toUInt32 >>> ((24 : Int32).toUInt32 &&& Int32.toUInt32 31)).toInt32) hx hb d_K_becomeUnpacked_41 rfl ?_
  refine lv_sipush (v := (255 : Int32)) hx hb d_K_becomeUnpacked_42 (by decide) ?_
  refine lv_iand hx hb d_K_becomeUnpacked_45 ?_
  refine k_putO S hK hP (mW_D hD) hS (by first | assumption | exact and7_lt _) 3 (by decide) fl_K_22 (s_p (s_y (s_t (s_b (s_v (cK i0) tg) (pk &&& (1023 : Int32))) (((pk.toUInt32 >>> ((10 : Int32).toUInt32 &&& Int32.toUInt32 31)).toInt32) &&& (1023 : Int32))) (((pk.toUInt32 >>> ((20 : Int32).toUInt32 &&& Int32.toUInt32 31)).toInt32) &&& (15 : Int32))) (((pk.toUInt32 >>> ((24 : Int32).toUInt32 &&& Int32.toUInt32 31)).toInt32) &&& (255 : Int32))) rfl rfl rfl d_K_becomeUnpacked_46 (fun H locs hP hS => ?_)
  refine lv_aload_n hx hb d_K_becomeUnpacked_49 rfl (lv_at hl 0 rfl) ?_
  refine lv_iload_n hx hb d_K_becomeUnpacked_50 rfl (lv_at hl 2 rfl) ?_
  refine k_putO S hK hP (mW_D hD) hS (by first | assumption | exact and7_lt _) 5 (by decide) fl_K_28 (s_a (s_p (s_y (s_t (s_b (s_v (cK i0) tg) (pk &&& (1023 : Int32))) (((pk.toUInt32 >>> ((10 : Int32).toUInt32 &&& Int32.toUInt32 31)).toInt32) &&& (1023 : Int32))) (((pk.toUInt32 >>> ((20 : Int32).toUInt32 &&& Int32.toUInt32 31)).toInt32) &&& (15 : Int32))) (((pk.toUInt32 >>> ((24 : Int32).toUInt32 &&& Int32.toUInt32 31)).toInt32) &&& (255 : Int32))) na) rfl rfl rfl d_K_becomeUnpacked_51 (fun H locs hP hS => ?_)
  have hF : f_K_becomeUnpacked cK i0 tg na pk = va_up cK i0 (s_a (s_p (s_y (s_t (s_b (s_v (cK i0) tg) (pk &&& (1023 : Int32))) (((pk.toUInt32 >>> ((10 : Int32).toUInt32 &&& Int32.toUInt32 31)).toInt32) &&& (1023 : Int32))) (((pk.toUInt32 >>> ((20 : Int32).toUInt32 &&& Int32.toUInt32 31)).toInt32) &&& (15 : Int32))) (((pk.toUInt32 >>> ((24 : Int32).toUInt32 &&& Int32.toUInt32 31)).toInt32) &&& (255 : Int32))) na) := rfl
  exact e_wv S hr hlocks hP hS (congrArg (fun z => mW q xa ad sS sC fB gT z) hF.symm) d_K_becomeUnpacked_54
def f_K_packed (cK : Nat → Cp) (i0 : Nat) : Int32 :=
  (((k_b (cK i0)) ||| ((k_t (cK i0)) <<< ((10 : Int32) &&& 31))) ||| ((k_y (cK i0)) <<< ((20 : Int32) &&& 31))) ||| ((k_p (cK i0)) <<< ((24 : Int32) &&& 31))
set_option maxHeartbeats 4000000 in
set_option maxRecDepth 100000 in
theorem c_K_packed (l : Launch) (D : va_G) (q : Nat → ClassId) (xa ad : Nat → Nat) (sS : Int32) (sC : Int32) (fB : Nat → Int32) (gT : Nat → Bool) (cK : Nat → Cp) (i0 : Nat) (hi0 : i0 < 12) : PMi l y_K_packed b_K_packed 1 (some .int) ({ frames := 0, cells := 0, slots := 0, locals := 0 }) [.ref (ad i0)] D (tyM q) (mW q xa ad sS sC fB gT cK) ((f_K_packed cK i0)) := by
  refine ofP (by decide) (Nat.le_of_ble_eq_true rfl) ?_
  intro p e s m below meth c ls S hr hlocks hK hN hP hl
  have hx := S.1
  have hb := S.2.1
  have hl : lv_has ls 1 [(0, .ref (ad i0))] := hl
  refine lv_aload_n hx hb d_K_packed_0 rfl (lv_at hl 0 rfl) ?_
  refine k_get (v := .int (k_b (cK i0))) S hK hP (by first | assumption | exact and7_lt _) 1 (by decide) fl_K_15 rfl d_K_packed_1 ?_
  refine lv_aload_n hx hb d_K_packed_4 rfl (lv_at hl 0 rfl) ?_
  refine k_get (v := .int (k_t (cK i0))) S hK hP (by first | assumption | exact and7_lt _) 2 (by decide) fl_K_19 rfl d_K_packed_5 ?_
  refine lv_bipush (v := (10 : Int32)) hx hb d_K_packed_8 (by decide) ?_
  refine lv_ishl hx hb d_K_packed_10 ?_
  refine lv_ior hx hb d_K_packed_11 ?_
  refine lv_aload_n hx hb d_K_packed_12 rfl (lv_at hl 0 rfl) ?_
  refine k_get (v := .int (k_y (cK i0))) S hK hP (by first | assumption | exact and7_lt _) 4 (by decide) fl_K_25 rfl d_K_packed_13 ?_
  refine lv_bipush (v := (20 : Int32)) hx hb d_K_packed_16 (by decide) ?_
  refine lv_ishl hx hb d_K_packed_18 ?_
  refine lv_ior hx hb d_K_packed_19 ?_
  refine lv_aload_n hx hb d_K_packed_20 rfl (lv_at hl 0 rfl) ?_
  refine k_get (v := .int (k_p (cK i0))) S hK hP (by first | assumption | exact and7_lt _) 3 (by decide) fl_K_22 rfl d_K_packed_21 ?_
  refine lv_bipush (v := (24 : Int32)) hx hb d_K_packed_24 (by decide) ?_
  refine lv_ishl hx hb d_K_packed_26 ?_
  refine lv_ior hx hb d_K_packed_27 ?_
  exact e_pi S hr hlocks (rfl : f_K_packed cK i0 = (((k_b (cK i0)) ||| ((k_t (cK i0)) <<< ((10 : Int32) &&& 31))) ||| ((k_y (cK i0)) <<< ((20 : Int32) &&& 31))) ||| ((k_p (cK i0)) <<< ((24 : Int32) &&& 31))).symm d_K_packed_28
def f_K_moveTo (cK : Nat → Cp) (i0 : Nat) (na : Int32) : (Nat → Cp) :=
  va_up cK i0 (s_v (s_a (cK i0) na) (if (k_v (cK i0)) = true then (if (if na < ((k_b (cK i0)) - (64 : Int32)) then false else (if ((k_t (cK i0)) + (64 : Int32)) ≤ na then false else true)) = true then true else false) else false))
set_option maxHeartbeats 4000000 in
set_option maxRecDepth 100000 in
theorem c_K_moveTo (l : Launch) (D : va_G) (q : Nat → ClassId) (xa ad : Nat → Nat) (sS : Int32) (sC : Int32) (fB : Nat → Int32) (gT : Nat → Bool) (cK : Nat → Cp) (A : Nat → Prop) (hD : va_D A (mW q xa ad sS sC fB gT cK)) (i0 : Nat) (hi0 : i0 < 12) (na : Int32) : WMv l y_K_moveTo b_K_moveTo 3 none ({ frames := 0, cells := 0, slots := 0, locals := 0 }) [.ref (ad i0), .int na] D (tyM q) (mW q xa ad sS sC fB gT cK) (mW q xa ad sS sC fB gT (f_K_moveTo cK i0 na)) A := by
  refine ofV (by decide) (Nat.le_of_ble_eq_true rfl) ?_
  intro p e s m below meth c ls S hr hlocks hK hN hP hl
  have hx := S.1
  have hb := S.2.1
  have hS : va_S A s.heap s.heap [] := va_S.rf
  have hl : lv_has ls 3 [(0, .ref (ad i0)), (1, .int na)] := hl
  refine lv_aload_n hx hb d_K_moveTo_0 rfl (lv_at hl 0 rfl) ?_
  refine lv_iload_n hx hb d_K_moveTo_1 rfl (lv_at hl 1 rfl) ?_
  refine k_put S hK hP (mW_D hD) hS (by first | assumption | exact and7_lt _) 5 (by decide) fl_K_28 (s_a (cK i0) na) rfl rfl rfl d_K_moveTo_2 (fun H locs hP hS => ?_)
  refine lv_iload_n hx hb d_K_moveTo_5 rfl (lv_at hl 1 rfl) ?_
  refine lv_aload_n hx hb d_K_moveTo_6 rfl (lv_at hl 0 rfl) ?_
  refine k_getO (v := .int (k_b (cK i0))) S hK hP (by first | assumption | exact and7_lt _) 1 (by decide) fl_K_15 rfl d_K_moveTo_7 ?_
  refine lv_bipush (v := (64 : Int32)) hx hb d_K_moveTo_10 (by decide) ?_
  refine lv_isub hx hb d_K_moveTo_12 ?_
  refine jn 32 ls [] (b2i (if na < ((k_b (cK i0)) - (64 : Int32)) then false else (if ((k_t (cK i0)) + (64 : Int32)) ≤ na then false else true))) ?_ (fun k_32 => ?_)
  · -- from 32 on
    refine lv_istore_n (lv' := [(2, .int _), (0, .ref _), (1, .int _)]) hx hb d_K_moveTo_32 rfl hl (by decide) rfl (fun ls hl => ?_)
    refine lv_aload_n hx hb d_K_moveTo_33 rfl (lv_at hl 1 rfl) ?_
    refine lv_aload_n hx hb d_K_moveTo_34 rfl (lv_at hl 1 rfl) ?_
    refine k_getO (v := .int (b2i (k_v (cK i0)))) S hK hP (by first | assumption | exact and7_lt _) 0 (by decide) fl_K_9 rfl d_K_moveTo_35 ?_
    refine jn 50 ls [.ref (ad i0)] (b2i (if (k_v (cK i0)) = true then (if (if na < ((k_b (cK i0)) - (64 : Int32)) then false else (if ((k_t (cK i0)) + (64 : Int32)) ≤ na then false else true)) = true then true else false) else false)) ?_ (fun k_50 => ?_)
    · -- from 50 on
      refine k_putO S hK hP (mW_D hD) hS (by first | assumption | exact and7_lt _) 0 (by decide) fl_K_9 (s_v (s_a (cK i0) na) (if (k_v (cK i0)) = true then (if (if na < ((k_b (cK i0)) - (64 : Int32)) then false else (if ((k_t (cK i0)) + (64 : Int32)) ≤ na then false else true)) = true then true else false) else false)) rfl (b2i_nar (if (k_v (cK i0)) = true then (if (if na < ((k_b (cK i0)) - (64 : Int32)) then false else (if ((k_t (cK i0)) + (64 : Int32)) ≤ na then false else true)) = true then true else false) else false)) (b2i_fit (if (k_v (cK i0)) = true then (if (if na < ((k_b (cK i0)) - (64 : Int32)) then false else (if ((k_t (cK i0)) + (64 : Int32)) ≤ na then false else true)) = true then true else false) else false)) d_K_moveTo_50 (fun H locs hP hS => ?_)
      have hF : f_K_moveTo cK i0 na = va_up cK i0 (s_v (s_a (cK i0) na) (if (k_v (cK i0)) = true then (if (if na < ((k_b (cK i0)) - (64 : Int32)) then false else (if ((k_t (cK i0)) + (64 : Int32)) ≤ na then false else true)) = true then true else false) else false)) := rfl
      exact e_wv S hr hlocks hP hS (congrArg (fun z => mW q xa ad sS sC fB gT z) hF.symm) d_K_moveTo_53
    · -- to 50
      refine zb_eq (tgt := 49) hx hb d_K_moveTo_38 rfl (fun h_38 => ?_) (fun h_38 => ?_)
      · -- 38: taken
        refine lv_iconst (v := (0 : Int32)) hx hb d_K_moveTo_49 (by decide) ?_
        exact k_50 _ (congrArg b2i ((if_neg (bn_f h_38)).trans (rfl) : (if (k_v (cK i0)) = true then (if (if na < ((k_b (cK i0)) - (64 : Int32)) then false else (if ((k_t (cK i0)) + (64 : Int32)) ≤ na then false else true)) = true then true else false) else false) = false).symm)
      · -- 38: not taken
        refine lv_iload_n hx hb d_K_moveTo_41 rfl (lv_at hl 0 rfl) ?_
        refine zb_eq (tgt := 49) hx hb d_K_moveTo_42 rfl (fun h_42 => ?_) (fun h_42 => ?_)
        · -- 42: taken
          refine lv_iconst (v := (0 : Int32)) hx hb d_K_moveTo_49 (by decide) ?_
          exact k_50 _ (congrArg b2i ((if_pos h_38).trans ((if_neg (bn_f h_42)).trans (rfl)) : (if (k_v (cK i0)) = true then (if (if na < ((k_b (cK i0)) - (64 : Int32)) then false else (if ((k_t (cK i0)) + (64 : Int32)) ≤ na then false else true)) = true then true else false) else false) = false).symm)
        · -- 42: not taken
          refine lv_iconst (v := (1 : Int32)) hx hb d_K_moveTo_45 (by decide) ?_
          refine lv_goto (tgt := 50) hx hb d_K_moveTo_46 rfl ?_
          exact k_50 _ (congrArg b2i ((if_pos h_38).trans ((if_pos h_42).trans (rfl)) : (if (k_v (cK i0)) = true then (if (if na < ((k_b (cK i0)) - (64 : Int32)) then false else (if ((k_t (cK i0)) + (64 : Int32)) ≤ na then false else true)) = true then true else false) else false) = true).symm)
  · -- to 32
    refine lv_icmp_lt (tgt := 31) hx hb d_K_moveTo_13 rfl (fun h_13 => ?_) (fun h_13 => ?_)
    · -- 13: taken
      refine lv_iconst (v := (0 : Int32)) hx hb d_K_moveTo_31 (by decide) ?_
      exact k_32 _ (congrArg b2i ((if_pos h_13).trans (rfl) : (if na < ((k_b (cK i0)) - (64 : Int32)) then false else (if ((k_t (cK i0)) + (64 : Int32)) ≤ na then false else true)) = false).symm)
    · -- 13: not taken
      refine lv_iload_n hx hb d_K_moveTo_16 rfl (lv_at hl 1 rfl) ?_
      refine lv_aload_n hx hb d_K_moveTo_17 rfl (lv_at hl 0 rfl) ?_
      refine k_getO (v := .int (k_t (cK i0))) S hK hP (by first | assumption | exact and7_lt _) 2 (by decide) fl_K_19 rfl d_K_moveTo_18 ?_
      refine lv_bipush (v := (64 : Int32)) hx hb d_K_moveTo_21 (by decide) ?_
      refine lv_iadd hx hb d_K_moveTo_23 ?_
      refine lv_icmp_ge (tgt := 31) hx hb d_K_moveTo_24 rfl (fun h_24 => ?_) (fun h_24 => ?_)
      · -- 24: taken
        refine lv_iconst (v := (0 : Int32)) hx hb d_K_moveTo_31 (by decide) ?_
        exact k_32 _ (congrArg b2i ((if_neg h_13).trans ((if_pos h_24).trans (rfl)) : (if na < ((k_b (cK i0)) - (64 : Int32)) then false else (if ((k_t (cK i0)) + (64 : Int32)) ≤ na then false else true)) = false).symm)
      · -- 24: not taken
        refine lv_iconst (v := (1 : Int32)) hx hb d_K_moveTo_27 (by decide) ?_
        refine lv_goto (tgt := 32) hx hb d_K_moveTo_28 rfl ?_
        exact k_32 _ (congrArg b2i ((if_neg h_13).trans ((if_neg h_24).trans (rfl)) : (if na < ((k_b (cK i0)) - (64 : Int32)) then false else (if ((k_t (cK i0)) + (64 : Int32)) ≤ na then false else true)) = true).symm)
def f_K_part (cK : Nat → Cp) (i0 : Nat) (wh : Int32) : Int32 :=
  if wh = (0 : Int32) then (b2i (if (k_v (cK i0)) = true then true else false))
  else if wh = (1 : Int32) then (k_b (cK i0))
  else if wh = (2 : Int32) then (k_t (cK i0))
  else if wh = (3 : Int32) then (k_p (cK i0))
  else if wh = (4 : Int32) then (k_y (cK i0))
  else (k_a (cK i0))
set_option maxHeartbeats 4000000 in
set_option maxRecDepth 100000 in
theorem c_K_part (l : Launch) (D : va_G) (q : Nat → ClassId) (xa ad : Nat → Nat) (sS : Int32) (sC : Int32) (fB : Nat → Int32) (gT : Nat → Bool) (cK : Nat → Cp) (i0 : Nat) (hi0 : i0 < 12) (wh : Int32) : PMi l y_K_part b_K_part 2 (some .int) ({ frames := 0, cells := 0, slots := 0, locals := 0 }) [.ref (ad i0), .int wh] D (tyM q) (mW q xa ad sS sC fB gT cK) ((f_K_part cK i0 wh)) := by
  refine ofP (by decide) (Nat.le_of_ble_eq_true rfl) ?_
  intro p e s m below meth c ls S hr hlocks hK hN hP hl
  have hx := S.1
  have hb := S.2.1
  have hl : lv_has ls 2 [(0, .ref (ad i0)), (1, .int wh)] := hl
  refine lv_iload_n hx hb d_K_part_0 rfl (lv_at hl 1 rfl) ?_
  by_cases h_1_0 : wh = (0 : Int32)
  · -- 1: case 0
    refine t_in (0 : Int32) (off := 35) (tgt := 36) hx hb d_K_part_1 h_1_0 (by decide) (by decide) (by decide) rfl ?_
    refine lv_aload_n hx hb d_K_part_36 rfl (lv_at hl 0 rfl) ?_
    refine k_get (v := .int (b2i (k_v (cK i0)))) S hK hP (by first | assumption | exact and7_lt _) 0 (by decide) fl_K_9 rfl d_K_part_37 ?_
    refine jn 48 ls [] (b2i (if (k_v (cK i0)) = true then true else false)) ?_ (fun k_48 => ?_)
    · -- from 48 on
      exact e_pi S hr hlocks ((if_pos h_1_0).trans (rfl) : f_K_part cK i0 wh = b2i (if (k_v (cK i0)) = true then true else false)).symm d_K_part_48
    · -- to 48
      refine zb_eq (tgt := 47) hx hb d_K_part_40 rfl (fun h_40 => ?_) (fun h_40 => ?_)
      · -- 40: taken
        refine lv_iconst (v := (0 : Int32)) hx hb d_K_part_47 (by decide) ?_
        exact k_48 _ (congrArg b2i ((if_neg (bn_f h_40)).trans (rfl) : (if (k_v (cK i0)) = true then true else false) = false).symm)
      · -- 40: not taken
        refine lv_iconst (v := (1 : Int32)) hx hb d_K_part_43 (by decide) ?_
        refine lv_goto (tgt := 48) hx hb d_K_part_44 rfl ?_
        exact k_48 _ (congrArg b2i ((if_pos h_40).trans (rfl) : (if (k_v (cK i0)) = true then true else false) = true).symm)
  by_cases h_1_1 : wh = (1 : Int32)
  · -- 1: case 1
    refine t_in (1 : Int32) (off := 48) (tgt := 49) hx hb d_K_part_1 h_1_1 (by decide) (by decide) (by decide) rfl ?_
    refine lv_aload_n hx hb d_K_part_49 rfl (lv_at hl 0 rfl) ?_
    refine k_get (v := .int (k_b (cK i0))) S hK hP (by first | assumption | exact and7_lt _) 1 (by decide) fl_K_15 rfl d_K_part_50 ?_
    exact e_pi S hr hlocks ((if_neg h_1_0).trans ((if_pos h_1_1).trans (rfl)) : f_K_part cK i0 wh = k_b (cK i0)).symm d_K_part_53
  by_cases h_1_2 : wh = (2 : Int32)
  · -- 1: case 2
    refine t_in (2 : Int32) (off := 53) (tgt := 54) hx hb d_K_part_1 h_1_2 (by decide) (by decide) (by decide) rfl ?_
    refine lv_aload_n hx hb d_K_part_54 rfl (lv_at hl 0 rfl) ?_
    refine k_get (v := .int (k_t (cK i0))) S hK hP (by first | assumption | exact and7_lt _) 2 (by decide) fl_K_19 rfl d_K_part_55 ?_
    exact e_pi S hr hlocks ((if_neg h_1_0).trans ((if_neg h_1_1).trans ((if_pos h_1_2).trans (rfl))) : f_K_part cK i0 wh = k_t (cK i0)).symm d_K_part_58
  by_cases h_1_3 : wh = (3 : Int32)
  · -- 1: case 3
    refine t_in (3 : Int32) (off := 58) (tgt := 59) hx hb d_K_part_1 h_1_3 (by decide) (by decide) (by decide) rfl ?_
    refine lv_aload_n hx hb d_K_part_59 rfl (lv_at hl 0 rfl) ?_
    refine k_get (v := .int (k_p (cK i0))) S hK hP (by first | assumption | exact and7_lt _) 3 (by decide) fl_K_22 rfl d_K_part_60 ?_
    exact e_pi S hr hlocks ((if_neg h_1_0).trans ((if_neg h_1_1).trans ((if_neg h_1_2).trans ((if_pos h_1_3).trans (rfl)))) : f_K_part cK i0 wh = k_p (cK i0)).symm d_K_part_63
  by_cases h_1_4 : wh = (4 : Int32)
  · -- 1: case 4
    refine t_in (4 : Int32) (off := 63) (tgt := 64) hx hb d_K_part_1 h_1_4 (by decide) (by decide) (by decide) rfl ?_
    refine lv_aload_n hx hb d_K_part_64 rfl (lv_at hl 0 rfl) ?_
    refine k_get (v := .int (k_y (cK i0))) S hK hP (by first | assumption | exact and7_lt _) 4 (by decide) fl_K_25 rfl d_K_part_65 ?_
    exact e_pi S hr hlocks ((if_neg h_1_0).trans ((if_neg h_1_1).trans ((if_neg h_1_2).trans ((if_neg h_1_3).trans ((if_pos h_1_4).trans (rfl))))) : f_K_part cK i0 wh = k_y (cK i0)).symm d_K_part_68
  refine t_no [0, 1, 2, 3, 4] (tgt := 69) hx hb d_K_part_1 (List.forall_mem_cons.mpr ⟨lv_neT h_1_0 (by decide), List.forall_mem_cons.mpr ⟨lv_neT h_1_1 (by decide), List.forall_mem_cons.mpr ⟨lv_neT h_1_2 (by decide), List.forall_mem_cons.mpr ⟨lv_neT h_1_3 (by decide), List.forall_mem_cons.mpr ⟨lv_neT h_1_4 (by decide), fun _ h => absurd h List.not_mem_nil⟩⟩⟩⟩⟩) (by decide) rfl ?_
  refine lv_aload_n hx hb d_K_part_69 rfl (lv_at hl 0 rfl) ?_
  refine k_get (v := .int (k_a (cK i0))) S hK hP (by first | assumption | exact and7_lt _) 5 (by decide) fl_K_28 rfl d_K_part_70 ?_
  exact e_pi S hr hlocks ((if_neg h_1_0).trans ((if_neg h_1_1).trans ((if_neg h_1_2).trans ((if_neg h_1_3).trans ((if_neg h_1_4).trans (rfl))))) : f_K_part cK i0 wh = k_a (cK i0)).symm d_K_part_73
def f_K_permits (cK : Nat → Cp) (i0 : Nat) (nd : Int32) : Bool :=
  if ((k_p (cK i0)) &&& nd) = nd then true else false
set_option maxHeartbeats 4000000 in
set_option maxRecDepth 100000 in
theorem c_K_permits (l : Launch) (D : va_G) (q : Nat → ClassId) (xa ad : Nat → Nat) (sS : Int32) (sC : Int32) (fB : Nat → Int32) (gT : Nat → Bool) (cK : Nat → Cp) (i0 : Nat) (hi0 : i0 < 12) (nd : Int32) : PMi l y_K_permits b_K_permits 2 (some .boolean) ({ frames := 0, cells := 0, slots := 0, locals := 0 }) [.ref (ad i0), .int nd] D (tyM q) (mW q xa ad sS sC fB gT cK) (b2i (f_K_permits cK i0 nd)) := by
  refine ofP (by decide) (Nat.le_of_ble_eq_true rfl) ?_
  intro p e s m below meth c ls S hr hlocks hK hN hP hl
  have hx := S.1
  have hb := S.2.1
  have hl : lv_has ls 2 [(0, .ref (ad i0)), (1, .int nd)] := hl
  refine lv_aload_n hx hb d_K_permits_0 rfl (lv_at hl 0 rfl) ?_
  refine k_get (v := .int (k_p (cK i0))) S hK hP (by first | assumption | exact and7_lt _) 3 (by decide) fl_K_22 rfl d_K_permits_1 ?_
  refine lv_iload_n hx hb d_K_permits_4 rfl (lv_at hl 1 rfl) ?_
  refine lv_iand hx hb d_K_permits_5 ?_
  refine lv_iload_n hx hb d_K_permits_6 rfl (lv_at hl 1 rfl) ?_
  refine jn 15 ls [] (b2i (if ((k_p (cK i0)) &&& nd) = nd then true else false)) ?_ (fun k_15 => ?_)
  · -- from 15 on
    exact e_pz (z := if ((k_p (cK i0)) &&& nd) = nd then true else false) S hr hlocks (congrArg b2i (rfl : f_K_permits cK i0 nd = if ((k_p (cK i0)) &&& nd) = nd then true else false).symm) d_K_permits_15
  · -- to 15
    refine lv_icmp_ne (tgt := 14) hx hb d_K_permits_7 rfl (fun h_7 => ?_) (fun h_7 => ?_)
    · -- 7: taken
      refine lv_iconst (v := (0 : Int32)) hx hb d_K_permits_14 (by decide) ?_
      exact k_15 _ (congrArg b2i ((if_neg h_7).trans (rfl) : (if ((k_p (cK i0)) &&& nd) = nd then true else false) = false).symm)
    · -- 7: not taken
      refine lv_iconst (v := (1 : Int32)) hx hb d_K_permits_10 (by decide) ?_
      refine lv_goto (tgt := 15) hx hb d_K_permits_11 rfl ?_
      exact k_15 _ (congrArg b2i ((if_pos h_7).trans (rfl) : (if ((k_p (cK i0)) &&& nd) = nd then true else false) = true).symm)
def f_K_hasAddressInBounds (cK : Nat → Cp) (i0 : Nat) : Bool :=
  if (k_a (cK i0)) < (k_b (cK i0)) then false else (if (k_t (cK i0)) ≤ (k_a (cK i0)) then false else true)
set_option maxHeartbeats 4000000 in
set_option maxRecDepth 100000 in
theorem c_K_hasAddressInBounds (l : Launch) (D : va_G) (q : Nat → ClassId) (xa ad : Nat → Nat) (sS : Int32) (sC : Int32) (fB : Nat → Int32) (gT : Nat → Bool) (cK : Nat → Cp) (i0 : Nat) (hi0 : i0 < 12) : PMi l y_K_hasAddressInBounds b_K_hasAddressInBounds 1 (some .boolean) ({ frames := 0, cells := 0, slots := 0, locals := 0 }) [.ref (ad i0)] D (tyM q) (mW q xa ad sS sC fB gT cK) (b2i (f_K_hasAddressInBounds cK i0)) := by
  refine ofP (by decide) (Nat.le_of_ble_eq_true rfl) ?_
  intro p e s m below meth c ls S hr hlocks hK hN hP hl
  have hx := S.1
  have hb := S.2.1
  have hl : lv_has ls 1 [(0, .ref (ad i0))] := hl
  refine lv_aload_n hx hb d_K_hasAddressInBounds_0 rfl (lv_at hl 0 rfl) ?_
  refine k_get (v := .int (k_a (cK i0))) S hK hP (by first | assumption | exact and7_lt _) 5 (by decide) fl_K_28 rfl d_K_hasAddressInBounds_1 ?_
  refine lv_aload_n hx hb d_K_hasAddressInBounds_4 rfl (lv_at hl 0 rfl) ?_
  refine k_get (v := .int (k_b (cK i0))) S hK hP (by first | assumption | exact and7_lt _) 1 (by decide) fl_K_15 rfl d_K_hasAddressInBounds_5 ?_
  refine jn 27 ls [] (b2i (if (k_a (cK i0)) < (k_b (cK i0)) then false else (if (k_t (cK i0)) ≤ (k_a (cK i0)) then false else true))) ?_ (fun k_27 => ?_)
  · -- from 27 on
    exact e_pz (z := if (k_a (cK i0)) < (k_b (cK i0)) then false else (if (k_t (cK i0)) ≤ (k_a (cK i0)) then false else true)) S hr hlocks (congrArg b2i (rfl : f_K_hasAddressInBounds cK i0 = if (k_a (cK i0)) < (k_b (cK i0)) then false else (if (k_t (cK i0)) ≤ (k_a (cK i0)) then false else true)).symm) d_K_hasAddressInBounds_27
  · -- to 27
    refine lv_icmp_lt (tgt := 26) hx hb d_K_hasAddressInBounds_8 rfl (fun h_8 => ?_) (fun h_8 => ?_)
    · -- 8: taken
      refine lv_iconst (v := (0 : Int32)) hx hb d_K_hasAddressInBounds_26 (by decide) ?_
      exact k_27 _ (congrArg b2i ((if_pos h_8).trans (rfl) : (if (k_a (cK i0)) < (k_b (cK i0)) then false else (if (k_t (cK i0)) ≤ (k_a (cK i0)) then false else true)) = false).symm)
    · -- 8: not taken
      refine lv_aload_n hx hb d_K_hasAddressInBounds_11 rfl (lv_at hl 0 rfl) ?_
      refine k_get (v := .int (k_a (cK i0))) S hK hP (by first | assumption | exact and7_lt _) 5 (by decide) fl_K_28 rfl d_K_hasAddressInBounds_12 ?_
      refine lv_aload_n hx hb d_K_hasAddressInBounds_15 rfl (lv_at hl 0 rfl) ?_
      refine k_get (v := .int (k_t (cK i0))) S hK hP (by first | assumption | exact and7_lt _) 2 (by decide) fl_K_19 rfl d_K_hasAddressInBounds_16 ?_
      refine lv_icmp_ge (tgt := 26) hx hb d_K_hasAddressInBounds_19 rfl (fun h_19 => ?_) (fun h_19 => ?_)
      · -- 19: taken
        refine lv_iconst (v := (0 : Int32)) hx hb d_K_hasAddressInBounds_26 (by decide) ?_
        exact k_27 _ (congrArg b2i ((if_neg h_8).trans ((if_pos h_19).trans (rfl)) : (if (k_a (cK i0)) < (k_b (cK i0)) then false else (if (k_t (cK i0)) ≤ (k_a (cK i0)) then false else true)) = false).symm)
      · -- 19: not taken
        refine lv_iconst (v := (1 : Int32)) hx hb d_K_hasAddressInBounds_22 (by decide) ?_
        refine lv_goto (tgt := 27) hx hb d_K_hasAddressInBounds_23 rfl ?_
        exact k_27 _ (congrArg b2i ((if_neg h_8).trans ((if_neg h_19).trans (rfl)) : (if (k_a (cK i0)) < (k_b (cK i0)) then false else (if (k_t (cK i0)) ≤ (k_a (cK i0)) then false else true)) = true).symm)
def f_K_isWithin (cK : Nat → Cp) (i0 : Nat) (j0 : Nat) : Bool :=
  if (k_v (cK i0)) = (k_v (cK j0)) then (if (k_b (cK i0)) < (k_b (cK j0)) then false else (if (k_t (cK j0)) < (k_t (cK i0)) then false else (if (f_K_permits cK j0 (k_p (cK i0))) = true then true else false))) else false
set_option maxHeartbeats 4000000 in
set_option maxRecDepth 100000 in
theorem c_K_isWithin (l : Launch) (D : va_G) (q : Nat → ClassId) (xa ad : Nat → Nat) (sS : Int32) (sC : Int32) (fB : Nat → Int32) (gT : Nat → Bool) (cK : Nat → Cp) (i0 : Nat) (hi0 : i0 < 12) (j0 : Nat) (hj0 : j0 < 12) : PMi l y_K_isWithin b_K_isWithin 2 (some .boolean) ({ frames := 1, cells := 0, slots := 0, locals := 21 }) [.ref (ad i0), .ref (ad j0)] D (tyM q) (mW q xa ad sS sC fB gT cK) (b2i (f_K_isWithin cK i0 j0)) := by
  refine ofP (by decide) (Nat.le_of_ble_eq_true rfl) ?_
  intro p e s m below meth c ls S hr hlocks hK hN hP hl
  have hx := S.1
  have hb := S.2.1
  have hl : lv_has ls 2 [(0, .ref (ad i0)), (1, .ref (ad j0))] := hl
  refine lv_aload_n hx hb d_K_isWithin_0 rfl (lv_at hl 0 rfl) ?_
  refine k_get (v := .int (b2i (k_v (cK i0)))) S hK hP (by first | assumption | exact and7_lt _) 0 (by decide) fl_K_9 rfl d_K_isWithin_1 ?_
  refine lv_aload_n hx hb d_K_isWithin_4 rfl (lv_at hl 1 rfl) ?_
  refine k_get (v := .int (b2i (k_v (cK j0)))) S hK hP (by first | assumption | exact and7_lt _) 0 (by decide) fl_K_9 rfl d_K_isWithin_5 ?_
  refine jn 49 ls [] (b2i (if (k_v (cK i0)) = (k_v (cK j0)) then (if (k_b (cK i0)) < (k_b (cK j0)) then false else (if (k_t (cK j0)) < (k_t (cK i0)) then false else (if (f_K_permits cK j0 (k_p (cK i0))) = true then true else false))) else false)) ?_ (fun k_49 => ?_)
  · -- from 49 on
    exact e_pz (z := if (k_v (cK i0)) = (k_v (cK j0)) then (if (k_b (cK i0)) < (k_b (cK j0)) then false else (if (k_t (cK j0)) < (k_t (cK i0)) then false else (if (f_K_permits cK j0 (k_p (cK i0))) = true then true else false))) else false) S hr hlocks (congrArg b2i (rfl : f_K_isWithin cK i0 j0 = if (k_v (cK i0)) = (k_v (cK j0)) then (if (k_b (cK i0)) < (k_b (cK j0)) then false else (if (k_t (cK j0)) < (k_t (cK i0)) then false else (if (f_K_permits cK j0 (k_p (cK i0))) = true then true else false))) else false).symm) d_K_isWithin_49
  · -- to 49
    refine zc_ne (tgt := 48) hx hb d_K_isWithin_8 rfl (fun h_8 => ?_) (fun h_8 => ?_)
    · -- 8: taken
      refine lv_iconst (v := (0 : Int32)) hx hb d_K_isWithin_48 (by decide) ?_
      exact k_49 _ (congrArg b2i ((if_neg h_8).trans (rfl) : (if (k_v (cK i0)) = (k_v (cK j0)) then (if (k_b (cK i0)) < (k_b (cK j0)) then false else (if (k_t (cK j0)) < (k_t (cK i0)) then false else (if (f_K_permits cK j0 (k_p (cK i0))) = true then true else false))) else false) = false).symm)
    · -- 8: not taken
      refine lv_aload_n hx hb d_K_isWithin_11 rfl (lv_at hl 0 rfl) ?_
      refine k_get (v := .int (k_b (cK i0))) S hK hP (by first | assumption | exact and7_lt _) 1 (by decide) fl_K_15 rfl d_K_isWithin_12 ?_
      refine lv_aload_n hx hb d_K_isWithin_15 rfl (lv_at hl 1 rfl) ?_
      refine k_get (v := .int (k_b (cK j0))) S hK hP (by first | assumption | exact and7_lt _) 1 (by decide) fl_K_15 rfl d_K_isWithin_16 ?_
      refine lv_icmp_lt (tgt := 48) hx hb d_K_isWithin_19 rfl (fun h_19 => ?_) (fun h_19 => ?_)
      · -- 19: taken
        refine lv_iconst (v := (0 : Int32)) hx hb d_K_isWithin_48 (by decide) ?_
        exact k_49 _ (congrArg b2i ((if_pos h_8).trans ((if_pos h_19).trans (rfl)) : (if (k_v (cK i0)) = (k_v (cK j0)) then (if (k_b (cK i0)) < (k_b (cK j0)) then false else (if (k_t (cK j0)) < (k_t (cK i0)) then false else (if (f_K_permits cK j0 (k_p (cK i0))) = true then true else false))) else false) = false).symm)
      · -- 19: not taken
        refine lv_aload_n hx hb d_K_isWithin_22 rfl (lv_at hl 0 rfl) ?_
        refine k_get (v := .int (k_t (cK i0))) S hK hP (by first | assumption | exact and7_lt _) 2 (by decide) fl_K_19 rfl d_K_isWithin_23 ?_
        refine lv_aload_n hx hb d_K_isWithin_26 rfl (lv_at hl 1 rfl) ?_
        refine k_get (v := .int (k_t (cK j0))) S hK hP (by first | assumption | exact and7_lt _) 2 (by decide) fl_K_19 rfl d_K_isWithin_27 ?_
        refine lv_icmp_gt (tgt := 48) hx hb d_K_isWithin_30 rfl (fun h_30 => ?_) (fun h_30 => ?_)
        · -- 30: taken
          refine lv_iconst (v := (0 : Int32)) hx hb d_K_isWithin_48 (by decide) ?_
          exact k_49 _ (congrArg b2i ((if_pos h_8).trans ((if_neg h_19).trans ((if_pos h_30).trans (rfl))) : (if (k_v (cK i0)) = (k_v (cK j0)) then (if (k_b (cK i0)) < (k_b (cK j0)) then false else (if (k_t (cK j0)) < (k_t (cK i0)) then false else (if (f_K_permits cK j0 (k_p (cK i0))) = true then true else false))) else false) = false).symm)
        · -- 30: not taken
          refine lv_aload_n hx hb d_K_isWithin_33 rfl (lv_at hl 1 rfl) ?_
          refine lv_aload_n hx hb d_K_isWithin_34 rfl (lv_at hl 0 rfl) ?_
          refine k_get (v := .int (k_p (cK i0))) S hK hP (by first | assumption | exact and7_lt _) 3 (by decide) fl_K_22 rfl d_K_isWithin_35 ?_
          refine c_pV [] S (c_K_permits l _ _ _ _ _ _ _ _ _ j0 (by first | assumption | exact and7_lt _) (k_p (cK i0))) mf_K_permits ml_K_31 hK hN hP (5 + j0) 0 (mW_get (by first | assumption | exact and7_lt _)) rfl ⟨rfl, rfl, Nat.le_of_ble_eq_true rfl, Nat.le_of_ble_eq_true rfl⟩ rfl hl.1 rfl (Nat.le_of_ble_eq_true rfl) d_K_isWithin_38 ⟨Nat.zero_le _, Nat.zero_le _⟩ ?_
          refine zb_eq (tgt := 48) hx hb d_K_isWithin_41 rfl (fun h_41 => ?_) (fun h_41 => ?_)
          · -- 41: taken
            refine lv_iconst (v := (0 : Int32)) hx hb d_K_isWithin_48 (by decide) ?_
            exact k_49 _ (congrArg b2i ((if_pos h_8).trans ((if_neg h_19).trans ((if_neg h_30).trans ((if_neg (bn_f h_41)).trans (rfl)))) : (if (k_v (cK i0)) = (k_v (cK j0)) then (if (k_b (cK i0)) < (k_b (cK j0)) then false else (if (k_t (cK j0)) < (k_t (cK i0)) then false else (if (f_K_permits cK j0 (k_p (cK i0))) = true then true else false))) else false) = false).symm)
          · -- 41: not taken
            refine lv_iconst (v := (1 : Int32)) hx hb d_K_isWithin_44 (by decide) ?_
            refine lv_goto (tgt := 49) hx hb d_K_isWithin_45 rfl ?_
            exact k_49 _ (congrArg b2i ((if_pos h_8).trans ((if_neg h_19).trans ((if_neg h_30).trans ((if_pos h_41).trans (rfl)))) : (if (k_v (cK i0)) = (k_v (cK j0)) then (if (k_b (cK i0)) < (k_b (cK j0)) then false else (if (k_t (cK j0)) < (k_t (cK i0)) then false else (if (f_K_permits cK j0 (k_p (cK i0))) = true then true else false))) else false) = true).symm)
def f_K_refusal (cK : Nat → Cp) (i0 : Nat) (nd : Int32) (xl : Int64) (bt : Int32) : Int32 :=
  if (k_v (cK i0)) = true then (if (k_y (cK i0)) = (0 : Int32) then (if (f_K_permits cK i0 nd) = true then (if (lg_cmp xl ((k_b (cK i0)).toInt64)) < (0 : Int32) then (4 : Int32)
        else if (0 : Int32) < (lg_cmp (xl + bt.toInt64) ((k_t (cK i0)).toInt64)) then (4 : Int32)
        else if (lg_cmp (xl + bt.toInt64) (512 : Int64)) ≤ (0 : Int32) then (if (lg_cmp (xl &&& ((bt - (1 : Int32)).toInt64)) (0 : Int64)) = (0 : Int32) then (0 : Int32) else (5 : Int32))
        else (4 : Int32))
      else (3 : Int32))
    else (2 : Int32))
  else (1 : Int32)
set_option maxHeartbeats 4000000 in
set_option maxRecDepth 100000 in
theorem c_K_refusal (l : Launch) (D : va_G) (q : Nat → ClassId) (xa ad : Nat → Nat) (sS : Int32) (sC : Int32) (fB : Nat → Int32) (gT : Nat → Bool) (cK : Nat → Cp) (i0 : Nat) (hi0 : i0 < 12) (nd : Int32) (xl : Int64) (bt : Int32) : PMi l y_K_refusal b_K_refusal 5 (some .int) ({ frames := 1, cells := 0, slots := 0, locals := 21 }) [.ref (ad i0), .int nd, .long xl, .int bt] D (tyM q) (mW q xa ad sS sC fB gT cK) ((f_K_refusal cK i0 nd xl bt)) := by
  refine ofP (by decide) (Nat.le_of_ble_eq_true rfl) ?_
  intro p e s m below meth c ls S hr hlocks hK hN hP hl
  have hx := S.1
  have hb := S.2.1
  have hl : lv_has ls 5 [(0, .ref (ad i0)), (1, .int nd), (2, .long xl), (4, .int bt)] := hl
  refine lv_aload_n hx hb d_K_refusal_0 rfl (lv_at hl 0 rfl) ?_
  refine k_get (v := .int (b2i (k_v (cK i0)))) S hK hP (by first | assumption | exact and7_lt _) 0 (by decide) fl_K_9 rfl d_K_refusal_1 ?_
  refine zb_ne (tgt := 9) hx hb d_K_refusal_4 rfl (fun h_4 => ?_) (fun h_4 => ?_)
  · -- 4: taken
    refine lv_aload_n hx hb d_K_refusal_9 rfl (lv_at hl 0 rfl) ?_
    refine k_get (v := .int (k_y (cK i0))) S hK hP (by first | assumption | exact and7_lt _) 4 (by decide) fl_K_25 rfl d_K_refusal_10 ?_
    refine lv_if_eq (tgt := 18) hx hb d_K_refusal_13 rfl (fun h_13 => ?_) (fun h_13 => ?_)
    · -- 13: taken
      refine lv_aload_n hx hb d_K_refusal_18 rfl (lv_at hl 0 rfl) ?_
      refine lv_iload_n hx hb d_K_refusal_19 rfl (lv_at hl 1 rfl) ?_
      refine c_pV [] S (c_K_permits l _ _ _ _ _ _ _ _ _ i0 (by first | assumption | exact and7_lt _) nd) mf_K_permits ml_K_31 hK hN hP (5 + i0) 0 (mW_get (by first | assumption | exact and7_lt _)) rfl ⟨rfl, rfl, Nat.le_of_ble_eq_true rfl, Nat.le_of_ble_eq_true rfl⟩ rfl hl.1 rfl (Nat.le_of_ble_eq_true rfl) d_K_refusal_20 ⟨Nat.zero_le _, Nat.zero_le _⟩ ?_
      refine zb_ne (tgt := 28) hx hb d_K_refusal_23 rfl (fun h_23 => ?_) (fun h_23 => ?_)
      · -- 23: taken
        refine lv_lload_n hx hb d_K_refusal_28 rfl (lv_at hl 2 rfl) ?_
        refine lv_aload_n hx hb d_K_refusal_29 rfl (lv_at hl 0 rfl) ?_
        refine k_get (v := .int (k_b (cK i0))) S hK hP (by first | assumption | exact and7_lt _) 1 (by decide) fl_K_15 rfl d_K_refusal_30 ?_
        refine lv_i2l (v := (k_b (cK i0)).toInt64) hx hb d_K_refusal_33 rfl ?_
        refine W.lcmp hx hb d_K_refusal_34 ?_
        refine lv_if_lt (tgt := 64) hx hb d_K_refusal_35 rfl (fun h_35 => ?_) (fun h_35 => ?_)
        · -- 35: taken
          refine lv_iconst (v := (4 : Int32)) hx hb d_K_refusal_64 (by decide) ?_
          exact e_pi S hr hlocks ((if_pos h_4).trans ((if_pos h_13).trans ((if_pos h_23).trans ((if_pos h_35).trans (rfl)))) : f_K_refusal cK i0 nd xl bt = (4 : Int32)).symm d_K_refusal_65
        · -- 35: not taken
          refine lv_lload_n hx hb d_K_refusal_38 rfl (lv_at hl 2 rfl) ?_
          refine lv_iload hx hb d_K_refusal_39 (lv_at hl 3 rfl) ?_
          refine lv_i2l (v := bt.toInt64) hx hb d_K_refusal_41 rfl ?_
          refine lv_ladd hx hb d_K_refusal_42 ?_
          refine lv_aload_n hx hb d_K_refusal_43 rfl (lv_at hl 0 rfl) ?_
          refine k_get (v := .int (k_t (cK i0))) S hK hP (by first | assumption | exact and7_lt _) 2 (by decide) fl_K_19 rfl d_K_refusal_44 ?_
          refine lv_i2l (v := (k_t (cK i0)).toInt64) hx hb d_K_refusal_47 rfl ?_
          refine W.lcmp hx hb d_K_refusal_48 ?_
          refine lv_if_gt (tgt := 64) hx hb d_K_refusal_49 rfl (fun h_49 => ?_) (fun h_49 => ?_)
          · -- 49: taken
            refine lv_iconst (v := (4 : Int32)) hx hb d_K_refusal_64 (by decide) ?_
            exact e_pi S hr hlocks ((if_pos h_4).trans ((if_pos h_13).trans ((if_pos h_23).trans ((if_neg h_35).trans ((if_pos h_49).trans (rfl))))) : f_K_refusal cK i0 nd xl bt = (4 : Int32)).symm d_K_refusal_65
          · -- 49: not taken
            refine lv_lload_n hx hb d_K_refusal_52 rfl (lv_at hl 2 rfl) ?_
            refine lv_iload hx hb d_K_refusal_53 (lv_at hl 3 rfl) ?_
            refine lv_i2l (v := bt.toInt64) hx hb d_K_refusal_55 rfl ?_
            refine lv_ladd hx hb d_K_refusal_56 ?_
            refine lv_ldc2 (v := (512 : Int64)) hx hb S.2.2.2.1 (S.2.2.2.2 _ kl_K_35) d_K_refusal_57 ?_
            refine W.lcmp hx hb d_K_refusal_60 ?_
            refine lv_if_le (tgt := 66) hx hb d_K_refusal_61 rfl (fun h_61 => ?_) (fun h_61 => ?_)
            · -- 61: taken
              refine lv_lload_n hx hb d_K_refusal_66 rfl (lv_at hl 2 rfl) ?_
              refine lv_iload hx hb d_K_refusal_67 (lv_at hl 3 rfl) ?_
              refine lv_iconst (v := (1 : Int32)) hx hb d_K_refusal_69 (by decide) ?_
              refine lv_isub hx hb d_K_refusal_70 ?_
              refine lv_i2l (v := (bt - (1 : Int32)).toInt64) hx hb d_K_refusal_71 rfl ?_
              refine lv_land hx hb d_K_refusal_72 ?_
              refine lv_lconst (v := (0 : Int64)) hx hb d_K_refusal_73 (by decide) ?_
              refine W.lcmp hx hb d_K_refusal_74 ?_
              refine jn 83 ls [] (if (lg_cmp (xl &&& ((bt - (1 : Int32)).toInt64)) (0 : Int64)) = (0 : Int32) then (0 : Int32) else (5 : Int32)) ?_ (fun k_83 => ?_)
              · -- from 83 on
                exact e_pi S hr hlocks ((if_pos h_4).trans ((if_pos h_13).trans ((if_pos h_23).trans ((if_neg h_35).trans ((if_neg h_49).trans ((if_pos h_61).trans (rfl)))))) : f_K_refusal cK i0 nd xl bt = if (lg_cmp (xl &&& ((bt - (1 : Int32)).toInt64)) (0 : Int64)) = (0 : Int32) then (0 : Int32) else (5 : Int32)).symm d_K_refusal_83
              · -- to 83
                refine lv_if_ne (tgt := 82) hx hb d_K_refusal_75 rfl (fun h_75 => ?_) (fun h_75 => ?_)
                · -- 75: taken
                  refine lv_iconst (v := (5 : Int32)) hx hb d_K_refusal_82 (by decide) ?_
                  exact k_83 _ ((if_neg h_75).trans (rfl) : (if (lg_cmp (xl &&& ((bt - (1 : Int32)).toInt64)) (0 : Int64)) = (0 : Int32) then (0 : Int32) else (5 : Int32)) = (5 : Int32)).symm
                · -- 75: not taken
                  refine lv_iconst (v := (0 : Int32)) hx hb d_K_refusal_78 (by decide) ?_
                  refine lv_goto (tgt := 83) hx hb d_K_refusal_79 rfl ?_
                  exact k_83 _ ((if_pos h_75).trans (rfl) : (if (lg_cmp (xl &&& ((bt - (1 : Int32)).toInt64)) (0 : Int64)) = (0 : Int32) then (0 : Int32) else (5 : Int32)) = (0 : Int32)).symm
            · -- 61: not taken
              refine lv_iconst (v := (4 : Int32)) hx hb d_K_refusal_64 (by decide) ?_
              exact e_pi S hr hlocks ((if_pos h_4).trans ((if_pos h_13).trans ((if_pos h_23).trans ((if_neg h_35).trans ((if_neg h_49).trans ((if_neg h_61).trans (rfl)))))) : f_K_refusal cK i0 nd xl bt = (4 : Int32)).symm d_K_refusal_65
      · -- 23: not taken
        refine lv_iconst (v := (3 : Int32)) hx hb d_K_refusal_26 (by decide) ?_
        exact e_pi S hr hlocks ((if_pos h_4).trans ((if_pos h_13).trans ((if_neg (bn_f h_23)).trans (rfl))) : f_K_refusal cK i0 nd xl bt = (3 : Int32)).symm d_K_refusal_27
    · -- 13: not taken
      refine lv_iconst (v := (2 : Int32)) hx hb d_K_refusal_16 (by decide) ?_
      exact e_pi S hr hlocks ((if_pos h_4).trans ((if_neg h_13).trans (rfl)) : f_K_refusal cK i0 nd xl bt = (2 : Int32)).symm d_K_refusal_17
  · -- 4: not taken
    refine lv_iconst (v := (1 : Int32)) hx hb d_K_refusal_7 (by decide) ?_
    exact e_pi S hr hlocks ((if_neg (bn_f h_4)).trans (rfl) : f_K_refusal cK i0 nd xl bt = (1 : Int32)).symm d_K_refusal_8
end
