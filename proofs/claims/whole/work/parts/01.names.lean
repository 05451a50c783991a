-- ===== PART A: goes FIRST, ahead of the names: the tables' words, and 'selects' of the private methods out of them =====
/-- a private method of a class that the tables say can be made, by its rows of tables_1 -/
def lw_okq (q : MethodName × Nat) : Prop := (q.1.cls ≠ "java/lang/invoke/MethodHandle" ∧ q.1.cls ≠ "java/lang/invoke/VarHandle") ∧ Cond.instantiable q.1.cls q.2 ∈ tables_1 ∧ Cond.privateMethod q.1 ∈ tables_1 ∧ Cond.instanceMethod q.1 ∈ tables_1
theorem lw_p0 : lw_okq (⟨"CardMachine$Store", "add", "(III)V"⟩, 15) := ⟨⟨by decide +kernel, by decide +kernel⟩, List.mem_of_getElem? (i := 31) (by decide +kernel), List.mem_of_getElem? (i := 53) (by decide +kernel), List.mem_of_getElem? (i := 54) (by decide +kernel)⟩
theorem lw_p1 : lw_okq (⟨"CardMachine$Processor", "begin", "(LCardMachine$Method;I)V"⟩, 14) := ⟨⟨by decide +kernel, by decide +kernel⟩, List.mem_of_getElem? (i := 23) (by decide +kernel), List.mem_of_getElem? (i := 279) (by decide +kernel), List.mem_of_getElem? (i := 280) (by decide +kernel)⟩
theorem lw_p2 : lw_okq (⟨"CardMachine$Processor", "enter", "(LCardMachine$Method;)V"⟩, 14) := ⟨⟨by decide +kernel, by decide +kernel⟩, List.mem_of_getElem? (i := 23) (by decide +kernel), List.mem_of_getElem? (i := 283) (by decide +kernel), List.mem_of_getElem? (i := 284) (by decide +kernel)⟩
theorem lw_p3 : lw_okq (⟨"CardMachine$Processor", "step", "()I"⟩, 14) := ⟨⟨by decide +kernel, by decide +kernel⟩, List.mem_of_getElem? (i := 23) (by decide +kernel), List.mem_of_getElem? (i := 294) (by decide +kernel), List.mem_of_getElem? (i := 295) (by decide +kernel)⟩
theorem lw_p4 : lw_okq (⟨"CardMachine$Processor", "fetchFault", "()I"⟩, 14) := ⟨⟨by decide +kernel, by decide +kernel⟩, List.mem_of_getElem? (i := 23) (by decide +kernel), List.mem_of_getElem? (i := 298) (by decide +kernel), List.mem_of_getElem? (i := 299) (by decide +kernel)⟩
theorem lw_p5 : lw_okq (⟨"CardMachine$Processor", "move", "(LCardMachine$Op;)I"⟩, 14) := ⟨⟨by decide +kernel, by decide +kernel⟩, List.mem_of_getElem? (i := 23) (by decide +kernel), List.mem_of_getElem? (i := 313) (by decide +kernel), List.mem_of_getElem? (i := 314) (by decide +kernel)⟩
theorem lw_p6 : lw_okq (⟨"CardMachine$Processor", "signed", "(I)I"⟩, 14) := ⟨⟨by decide +kernel, by decide +kernel⟩, List.mem_of_getElem? (i := 23) (by decide +kernel), List.mem_of_getElem? (i := 325) (by decide +kernel), List.mem_of_getElem? (i := 326) (by decide +kernel)⟩
theorem lw_p7 : lw_okq (⟨"CardMachine$Processor", "put", "(I)I"⟩, 14) := ⟨⟨by decide +kernel, by decide +kernel⟩, List.mem_of_getElem? (i := 23) (by decide +kernel), List.mem_of_getElem? (i := 329) (by decide +kernel), List.mem_of_getElem? (i := 330) (by decide +kernel)⟩
theorem lw_p8 : lw_okq (⟨"CardMachine$Processor", "unsigned", "(I)I"⟩, 14) := ⟨⟨by decide +kernel, by decide +kernel⟩, List.mem_of_getElem? (i := 23) (by decide +kernel), List.mem_of_getElem? (i := 337) (by decide +kernel), List.mem_of_getElem? (i := 338) (by decide +kernel)⟩
theorem lw_p9 : lw_okq (⟨"CardMachine$Processor", "swap", "()I"⟩, 14) := ⟨⟨by decide +kernel, by decide +kernel⟩, List.mem_of_getElem? (i := 23) (by decide +kernel), List.mem_of_getElem? (i := 353) (by decide +kernel), List.mem_of_getElem? (i := 354) (by decide +kernel)⟩
theorem lw_p10 : lw_okq (⟨"CardMachine$Processor", "reckon", "(LCardMachine$Op;)I"⟩, 14) := ⟨⟨by decide +kernel, by decide +kernel⟩, List.mem_of_getElem? (i := 23) (by decide +kernel), List.mem_of_getElem? (i := 357) (by decide +kernel), List.mem_of_getElem? (i := 358) (by decide +kernel)⟩
theorem lw_p11 : lw_okq (⟨"CardMachine$Processor", "jump", "(LCardMachine$Op;)I"⟩, 14) := ⟨⟨by decide +kernel, by decide +kernel⟩, List.mem_of_getElem? (i := 23) (by decide +kernel), List.mem_of_getElem? (i := 367) (by decide +kernel), List.mem_of_getElem? (i := 368) (by decide +kernel)⟩
theorem lw_p12 : lw_okq (⟨"CardMachine$Processor", "callOrEnd", "(LCardMachine$Op;)I"⟩, 14) := ⟨⟨by decide +kernel, by decide +kernel⟩, List.mem_of_getElem? (i := 23) (by decide +kernel), List.mem_of_getElem? (i := 378) (by decide +kernel), List.mem_of_getElem? (i := 379) (by decide +kernel)⟩
theorem lw_p13 : lw_okq (⟨"CardMachine$Processor", "end", "()I"⟩, 14) := ⟨⟨by decide +kernel, by decide +kernel⟩, List.mem_of_getElem? (i := 23) (by decide +kernel), List.mem_of_getElem? (i := 382) (by decide +kernel), List.mem_of_getElem? (i := 383) (by decide +kernel)⟩
theorem lw_p14 : lw_okq (⟨"CardMachine$Processor", "leave", "()V"⟩, 14) := ⟨⟨by decide +kernel, by decide +kernel⟩, List.mem_of_getElem? (i := 23) (by decide +kernel), List.mem_of_getElem? (i := 386) (by decide +kernel), List.mem_of_getElem? (i := 387) (by decide +kernel)⟩
theorem lw_p15 : lw_okq (⟨"CardMachine$Processor", "endWith", "(I)I"⟩, 14) := ⟨⟨by decide +kernel, by decide +kernel⟩, List.mem_of_getElem? (i := 23) (by decide +kernel), List.mem_of_getElem? (i := 390) (by decide +kernel), List.mem_of_getElem? (i := 391) (by decide +kernel)⟩
def lw_privs_1 : List (MethodName × Nat) := [(⟨"CardMachine$Store", "add", "(III)V"⟩, 15), (⟨"CardMachine$Processor", "begin", "(LCardMachine$Method;I)V"⟩, 14), (⟨"CardMachine$Processor", "enter", "(LCardMachine$Method;)V"⟩, 14), (⟨"CardMachine$Processor", "step", "()I"⟩, 14), (⟨"CardMachine$Processor", "fetchFault", "()I"⟩, 14), (⟨"CardMachine$Processor", "move", "(LCardMachine$Op;)I"⟩, 14), (⟨"CardMachine$Processor", "signed", "(I)I"⟩, 14), (⟨"CardMachine$Processor", "put", "(I)I"⟩, 14), (⟨"CardMachine$Processor", "unsigned", "(I)I"⟩, 14), (⟨"CardMachine$Processor", "swap", "()I"⟩, 14), (⟨"CardMachine$Processor", "reckon", "(LCardMachine$Op;)I"⟩, 14), (⟨"CardMachine$Processor", "jump", "(LCardMachine$Op;)I"⟩, 14), (⟨"CardMachine$Processor", "callOrEnd", "(LCardMachine$Op;)I"⟩, 14), (⟨"CardMachine$Processor", "end", "()I"⟩, 14), (⟨"CardMachine$Processor", "leave", "()V"⟩, 14), (⟨"CardMachine$Processor", "endWith", "(I)I"⟩, 14)]
theorem lw_r1 : ∀ q ∈ lw_privs_1, lw_okq q := List.forall_mem_cons.mpr ⟨lw_p0, List.forall_mem_cons.mpr ⟨lw_p1, List.forall_mem_cons.mpr ⟨lw_p2, List.forall_mem_cons.mpr ⟨lw_p3, List.forall_mem_cons.mpr ⟨lw_p4, List.forall_mem_cons.mpr ⟨lw_p5, List.forall_mem_cons.mpr ⟨lw_p6, List.forall_mem_cons.mpr ⟨lw_p7, List.forall_mem_cons.mpr ⟨lw_p8, List.forall_mem_cons.mpr ⟨lw_p9, List.forall_mem_cons.mpr ⟨lw_p10, List.forall_mem_cons.mpr ⟨lw_p11, List.forall_mem_cons.mpr ⟨lw_p12, List.forall_mem_cons.mpr ⟨lw_p13, List.forall_mem_cons.mpr ⟨lw_p14, List.forall_mem_cons.mpr ⟨lw_p15, fun _ h => absurd h List.not_mem_nil⟩⟩⟩⟩⟩⟩⟩⟩⟩⟩⟩⟩⟩⟩⟩⟩
theorem lw_p16 : lw_okq (⟨"CardMachine$Processor", "call", "(LCardMachine$Op;)I"⟩, 14) := ⟨⟨by decide +kernel, by decide +kernel⟩, List.mem_of_getElem? (i := 23) (by decide +kernel), List.mem_of_getElem? (i := 394) (by decide +kernel), List.mem_of_getElem? (i := 395) (by decide +kernel)⟩
theorem lw_p17 : lw_okq (⟨"CardMachine$Processor", "useObjects", "(LCardMachine$Op;)I"⟩, 14) := ⟨⟨by decide +kernel, by decide +kernel⟩, List.mem_of_getElem? (i := 23) (by decide +kernel), List.mem_of_getElem? (i := 400) (by decide +kernel), List.mem_of_getElem? (i := 401) (by decide +kernel)⟩
theorem lw_p18 : lw_okq (⟨"CardMachine$Processor", "makeObject", "(I)I"⟩, 14) := ⟨⟨by decide +kernel, by decide +kernel⟩, List.mem_of_getElem? (i := 23) (by decide +kernel), List.mem_of_getElem? (i := 404) (by decide +kernel), List.mem_of_getElem? (i := 405) (by decide +kernel)⟩
theorem lw_p19 : lw_okq (⟨"CardMachine$Processor", "readCell", "()I"⟩, 14) := ⟨⟨by decide +kernel, by decide +kernel⟩, List.mem_of_getElem? (i := 23) (by decide +kernel), List.mem_of_getElem? (i := 425) (by decide +kernel), List.mem_of_getElem? (i := 426) (by decide +kernel)⟩
theorem lw_p20 : lw_okq (⟨"CardMachine$Store", "mayUse", "(II)Z"⟩, 15) := ⟨⟨by decide +kernel, by decide +kernel⟩, List.mem_of_getElem? (i := 31) (by decide +kernel), List.mem_of_getElem? (i := 437) (by decide +kernel), List.mem_of_getElem? (i := 438) (by decide +kernel)⟩
theorem lw_p21 : lw_okq (⟨"CardMachine$Processor", "writeCell", "()I"⟩, 14) := ⟨⟨by decide +kernel, by decide +kernel⟩, List.mem_of_getElem? (i := 23) (by decide +kernel), List.mem_of_getElem? (i := 449) (by decide +kernel), List.mem_of_getElem? (i := 450) (by decide +kernel)⟩
theorem lw_p22 : lw_okq (⟨"CardMachine$Processor", "putSize", "(I)I"⟩, 14) := ⟨⟨by decide +kernel, by decide +kernel⟩, List.mem_of_getElem? (i := 23) (by decide +kernel), List.mem_of_getElem? (i := 458) (by decide +kernel), List.mem_of_getElem? (i := 459) (by decide +kernel)⟩
theorem lw_p23 : lw_okq (⟨"CardMachine$Processor", "putOwner", "(I)I"⟩, 14) := ⟨⟨by decide +kernel, by decide +kernel⟩, List.mem_of_getElem? (i := 23) (by decide +kernel), List.mem_of_getElem? (i := 462) (by decide +kernel), List.mem_of_getElem? (i := 463) (by decide +kernel)⟩
theorem lw_p24 : lw_okq (⟨"CardMachine$Processor", "copyCells", "()I"⟩, 14) := ⟨⟨by decide +kernel, by decide +kernel⟩, List.mem_of_getElem? (i := 23) (by decide +kernel), List.mem_of_getElem? (i := 467) (by decide +kernel), List.mem_of_getElem? (i := 468) (by decide +kernel)⟩
theorem lw_p25 : lw_okq (⟨"CardMachine$Processor", "changeTransaction", "(LCardMachine$Op;)I"⟩, 14) := ⟨⟨by decide +kernel, by decide +kernel⟩, List.mem_of_getElem? (i := 23) (by decide +kernel), List.mem_of_getElem? (i := 479) (by decide +kernel), List.mem_of_getElem? (i := 480) (by decide +kernel)⟩
theorem lw_p26 : lw_okq (⟨"CardMachine$Processor", "talk", "(LCardMachine$Op;)I"⟩, 14) := ⟨⟨by decide +kernel, by decide +kernel⟩, List.mem_of_getElem? (i := 23) (by decide +kernel), List.mem_of_getElem? (i := 499) (by decide +kernel), List.mem_of_getElem? (i := 500) (by decide +kernel)⟩
theorem lw_p27 : lw_okq (⟨"CardMachine$Processor", "putCommandByte", "(I)I"⟩, 14) := ⟨⟨by decide +kernel, by decide +kernel⟩, List.mem_of_getElem? (i := 23) (by decide +kernel), List.mem_of_getElem? (i := 503) (by decide +kernel), List.mem_of_getElem? (i := 504) (by decide +kernel)⟩
theorem lw_p28 : lw_okq (⟨"CardMachine$Processor", "answerByte", "(I)I"⟩, 14) := ⟨⟨by decide +kernel, by decide +kernel⟩, List.mem_of_getElem? (i := 23) (by decide +kernel), List.mem_of_getElem? (i := 511) (by decide +kernel), List.mem_of_getElem? (i := 512) (by decide +kernel)⟩
theorem lw_p29 : lw_okq (⟨"CardMachine$Processor", "throwOrHandle", "(LCardMachine$Op;)I"⟩, 14) := ⟨⟨by decide +kernel, by decide +kernel⟩, List.mem_of_getElem? (i := 23) (by decide +kernel), List.mem_of_getElem? (i := 517) (by decide +kernel), List.mem_of_getElem? (i := 518) (by decide +kernel)⟩
theorem lw_p30 : lw_okq (⟨"CardMachine$Processor", "raise", "(I)V"⟩, 14) := ⟨⟨by decide +kernel, by decide +kernel⟩, List.mem_of_getElem? (i := 23) (by decide +kernel), List.mem_of_getElem? (i := 521) (by decide +kernel), List.mem_of_getElem? (i := 522) (by decide +kernel)⟩
theorem lw_p31 : lw_okq (⟨"CardMachineModel", "add", "(III)V"⟩, 37) := ⟨⟨by decide +kernel, by decide +kernel⟩, List.mem_of_getElem? (i := 575) (by decide +kernel), List.mem_of_getElem? (i := 581) (by decide +kernel), List.mem_of_getElem? (i := 582) (by decide +kernel)⟩
def lw_privs_2 : List (MethodName × Nat) := [(⟨"CardMachine$Processor", "call", "(LCardMachine$Op;)I"⟩, 14), (⟨"CardMachine$Processor", "useObjects", "(LCardMachine$Op;)I"⟩, 14), (⟨"CardMachine$Processor", "makeObject", "(I)I"⟩, 14), (⟨"CardMachine$Processor", "readCell", "()I"⟩, 14), (⟨"CardMachine$Store", "mayUse", "(II)Z"⟩, 15), (⟨"CardMachine$Processor", "writeCell", "()I"⟩, 14), (⟨"CardMachine$Processor", "putSize", "(I)I"⟩, 14), (⟨"CardMachine$Processor", "putOwner", "(I)I"⟩, 14), (⟨"CardMachine$Processor", "copyCells", "()I"⟩, 14), (⟨"CardMachine$Processor", "changeTransaction", "(LCardMachine$Op;)I"⟩, 14), (⟨"CardMachine$Processor", "talk", "(LCardMachine$Op;)I"⟩, 14), (⟨"CardMachine$Processor", "putCommandByte", "(I)I"⟩, 14), (⟨"CardMachine$Processor", "answerByte", "(I)I"⟩, 14), (⟨"CardMachine$Processor", "throwOrHandle", "(LCardMachine$Op;)I"⟩, 14), (⟨"CardMachine$Processor", "raise", "(I)V"⟩, 14), (⟨"CardMachineModel", "add", "(III)V"⟩, 37)]
theorem lw_r2 : ∀ q ∈ lw_privs_2, lw_okq q := List.forall_mem_cons.mpr ⟨lw_p16, List.forall_mem_cons.mpr ⟨lw_p17, List.forall_mem_cons.mpr ⟨lw_p18, List.forall_mem_cons.mpr ⟨lw_p19, List.forall_mem_cons.mpr ⟨lw_p20, List.forall_mem_cons.mpr ⟨lw_p21, List.forall_mem_cons.mpr ⟨lw_p22, List.forall_mem_cons.mpr ⟨lw_p23, List.forall_mem_cons.mpr ⟨lw_p24, List.forall_mem_cons.mpr ⟨lw_p25, List.forall_mem_cons.mpr ⟨lw_p26, List.forall_mem_cons.mpr ⟨lw_p27, List.forall_mem_cons.mpr ⟨lw_p28, List.forall_mem_cons.mpr ⟨lw_p29, List.forall_mem_cons.mpr ⟨lw_p30, List.forall_mem_cons.mpr ⟨lw_p31, fun _ h => absurd h List.not_mem_nil⟩⟩⟩⟩⟩⟩⟩⟩⟩⟩⟩⟩⟩⟩⟩⟩
theorem lw_p32 : lw_okq (⟨"CardMachineModel", "enter", "(I)V"⟩, 37) := ⟨⟨by decide +kernel, by decide +kernel⟩, List.mem_of_getElem? (i := 575) (by decide +kernel), List.mem_of_getElem? (i := 722) (by decide +kernel), List.mem_of_getElem? (i := 723) (by decide +kernel)⟩
theorem lw_p33 : lw_okq (⟨"CardMachineModel", "step", "()V"⟩, 37) := ⟨⟨by decide +kernel, by decide +kernel⟩, List.mem_of_getElem? (i := 575) (by decide +kernel), List.mem_of_getElem? (i := 726) (by decide +kernel), List.mem_of_getElem? (i := 727) (by decide +kernel)⟩
theorem lw_p34 : lw_okq (⟨"CardMachineModel", "fault", "()I"⟩, 37) := ⟨⟨by decide +kernel, by decide +kernel⟩, List.mem_of_getElem? (i := 575) (by decide +kernel), List.mem_of_getElem? (i := 730) (by decide +kernel), List.mem_of_getElem? (i := 731) (by decide +kernel)⟩
theorem lw_p35 : lw_okq (⟨"CardMachineModel", "here", "()I"⟩, 37) := ⟨⟨by decide +kernel, by decide +kernel⟩, List.mem_of_getElem? (i := 575) (by decide +kernel), List.mem_of_getElem? (i := 734) (by decide +kernel), List.mem_of_getElem? (i := 735) (by decide +kernel)⟩
theorem lw_p36 : lw_okq (⟨"CardMachineModel", "top", "()I"⟩, 37) := ⟨⟨by decide +kernel, by decide +kernel⟩, List.mem_of_getElem? (i := 575) (by decide +kernel), List.mem_of_getElem? (i := 738) (by decide +kernel), List.mem_of_getElem? (i := 739) (by decide +kernel)⟩
theorem lw_p37 : lw_okq (⟨"CardMachineModel", "byteAt", "(I)I"⟩, 37) := ⟨⟨by decide +kernel, by decide +kernel⟩, List.mem_of_getElem? (i := 575) (by decide +kernel), List.mem_of_getElem? (i := 742) (by decide +kernel), List.mem_of_getElem? (i := 743) (by decide +kernel)⟩
theorem lw_p38 : lw_okq (⟨"CardMachineModel", "depth", "()I"⟩, 37) := ⟨⟨by decide +kernel, by decide +kernel⟩, List.mem_of_getElem? (i := 575) (by decide +kernel), List.mem_of_getElem? (i := 749) (by decide +kernel), List.mem_of_getElem? (i := 750) (by decide +kernel)⟩
theorem lw_p39 : lw_okq (⟨"CardMachineModel", "takes", "(I)I"⟩, 37) := ⟨⟨by decide +kernel, by decide +kernel⟩, List.mem_of_getElem? (i := 575) (by decide +kernel), List.mem_of_getElem? (i := 753) (by decide +kernel), List.mem_of_getElem? (i := 754) (by decide +kernel)⟩
theorem lw_p40 : lw_okq (⟨"CardMachineModel", "at", "(I)I"⟩, 37) := ⟨⟨by decide +kernel, by decide +kernel⟩, List.mem_of_getElem? (i := 575) (by decide +kernel), List.mem_of_getElem? (i := 757) (by decide +kernel), List.mem_of_getElem? (i := 758) (by decide +kernel)⟩
theorem lw_p41 : lw_okq (⟨"CardMachineModel", "isObject", "(I)Z"⟩, 37) := ⟨⟨by decide +kernel, by decide +kernel⟩, List.mem_of_getElem? (i := 575) (by decide +kernel), List.mem_of_getElem? (i := 761) (by decide +kernel), List.mem_of_getElem? (i := 762) (by decide +kernel)⟩
theorem lw_p42 : lw_okq (⟨"CardMachineModel", "isShut", "(I)Z"⟩, 37) := ⟨⟨by decide +kernel, by decide +kernel⟩, List.mem_of_getElem? (i := 575) (by decide +kernel), List.mem_of_getElem? (i := 765) (by decide +kernel), List.mem_of_getElem? (i := 766) (by decide +kernel)⟩
theorem lw_p43 : lw_okq (⟨"CardMachineModel", "copyFault", "(IIIII)I"⟩, 37) := ⟨⟨by decide +kernel, by decide +kernel⟩, List.mem_of_getElem? (i := 575) (by decide +kernel), List.mem_of_getElem? (i := 769) (by decide +kernel), List.mem_of_getElem? (i := 770) (by decide +kernel)⟩
theorem lw_p44 : lw_okq (⟨"CardMachineModel", "throwIt", "(I)V"⟩, 37) := ⟨⟨by decide +kernel, by decide +kernel⟩, List.mem_of_getElem? (i := 575) (by decide +kernel), List.mem_of_getElem? (i := 773) (by decide +kernel), List.mem_of_getElem? (i := 774) (by decide +kernel)⟩
theorem lw_p45 : lw_okq (⟨"CardMachineModel", "put", "(I)V"⟩, 37) := ⟨⟨by decide +kernel, by decide +kernel⟩, List.mem_of_getElem? (i := 575) (by decide +kernel), List.mem_of_getElem? (i := 777) (by decide +kernel), List.mem_of_getElem? (i := 778) (by decide +kernel)⟩
theorem lw_p46 : lw_okq (⟨"CardMachineModel", "act", "(I)V"⟩, 37) := ⟨⟨by decide +kernel, by decide +kernel⟩, List.mem_of_getElem? (i := 575) (by decide +kernel), List.mem_of_getElem? (i := 781) (by decide +kernel), List.mem_of_getElem? (i := 782) (by decide +kernel)⟩
theorem lw_p47 : lw_okq (⟨"CardMachineModel", "replace", "(II)V"⟩, 37) := ⟨⟨by decide +kernel, by decide +kernel⟩, List.mem_of_getElem? (i := 575) (by decide +kernel), List.mem_of_getElem? (i := 789) (by decide +kernel), List.mem_of_getElem? (i := 790) (by decide +kernel)⟩
def lw_privs_3 : List (MethodName × Nat) := [(⟨"CardMachineModel", "enter", "(I)V"⟩, 37), (⟨"CardMachineModel", "step", "()V"⟩, 37), (⟨"CardMachineModel", "fault", "()I"⟩, 37), (⟨"CardMachineModel", "here", "()I"⟩, 37), (⟨"CardMachineModel", "top", "()I"⟩, 37), (⟨"CardMachineModel", "byteAt", "(I)I"⟩, 37), (⟨"CardMachineModel", "depth", "()I"⟩, 37), (⟨"CardMachineModel", "takes", "(I)I"⟩, 37), (⟨"CardMachineModel", "at", "(I)I"⟩, 37), (⟨"CardMachineModel", "isObject", "(I)Z"⟩, 37), (⟨"CardMachineModel", "isShut", "(I)Z"⟩, 37), (⟨"CardMachineModel", "copyFault", "(IIIII)I"⟩, 37), (⟨"CardMachineModel", "throwIt", "(I)V"⟩, 37), (⟨"CardMachineModel", "put", "(I)V"⟩, 37), (⟨"CardMachineModel", "act", "(I)V"⟩, 37), (⟨"CardMachineModel", "replace", "(II)V"⟩, 37)]
theorem lw_r3 : ∀ q ∈ lw_privs_3, lw_okq q := List.forall_mem_cons.mpr ⟨lw_p32, List.forall_mem_cons.mpr ⟨lw_p33, List.forall_mem_cons.mpr ⟨lw_p34, List.forall_mem_cons.mpr ⟨lw_p35, List.forall_mem_cons.mpr ⟨lw_p36, List.forall_mem_cons.mpr ⟨lw_p37, List.forall_mem_cons.mpr ⟨lw_p38, List.forall_mem_cons.mpr ⟨lw_p39, List.forall_mem_cons.mpr ⟨lw_p40, List.forall_mem_cons.mpr ⟨lw_p41, List.forall_mem_cons.mpr ⟨lw_p42, List.forall_mem_cons.mpr ⟨lw_p43, List.forall_mem_cons.mpr ⟨lw_p44, List.forall_mem_cons.mpr ⟨lw_p45, List.forall_mem_cons.mpr ⟨lw_p46, List.forall_mem_cons.mpr ⟨lw_p47, fun _ h => absurd h List.not_mem_nil⟩⟩⟩⟩⟩⟩⟩⟩⟩⟩⟩⟩⟩⟩⟩⟩
theorem lw_p48 : lw_okq (⟨"CardMachineModel", "drop", "(I)V"⟩, 37) := ⟨⟨by decide +kernel, by decide +kernel⟩, List.mem_of_getElem? (i := 575) (by decide +kernel), List.mem_of_getElem? (i := 793) (by decide +kernel), List.mem_of_getElem? (i := 794) (by decide +kernel)⟩
theorem lw_p49 : lw_okq (⟨"CardMachineModel", "on", "(I)V"⟩, 37) := ⟨⟨by decide +kernel, by decide +kernel⟩, List.mem_of_getElem? (i := 575) (by decide +kernel), List.mem_of_getElem? (i := 797) (by decide +kernel), List.mem_of_getElem? (i := 798) (by decide +kernel)⟩
theorem lw_p50 : lw_okq (⟨"CardMachineModel", "jump", "(I)V"⟩, 37) := ⟨⟨by decide +kernel, by decide +kernel⟩, List.mem_of_getElem? (i := 575) (by decide +kernel), List.mem_of_getElem? (i := 801) (by decide +kernel), List.mem_of_getElem? (i := 802) (by decide +kernel)⟩
theorem lw_p51 : lw_okq (⟨"CardMachineModel", "signed", "(I)I"⟩, 37) := ⟨⟨by decide +kernel, by decide +kernel⟩, List.mem_of_getElem? (i := 575) (by decide +kernel), List.mem_of_getElem? (i := 808) (by decide +kernel), List.mem_of_getElem? (i := 809) (by decide +kernel)⟩
theorem lw_p52 : lw_okq (⟨"CardMachineModel", "local", "(I)V"⟩, 37) := ⟨⟨by decide +kernel, by decide +kernel⟩, List.mem_of_getElem? (i := 575) (by decide +kernel), List.mem_of_getElem? (i := 812) (by decide +kernel), List.mem_of_getElem? (i := 813) (by decide +kernel)⟩
theorem lw_p53 : lw_okq (⟨"CardMachineModel", "transact", "(I)V"⟩, 37) := ⟨⟨by decide +kernel, by decide +kernel⟩, List.mem_of_getElem? (i := 575) (by decide +kernel), List.mem_of_getElem? (i := 816) (by decide +kernel), List.mem_of_getElem? (i := 817) (by decide +kernel)⟩
theorem lw_p54 : lw_okq (⟨"CardMachineModel", "writes", "()Z"⟩, 37) := ⟨⟨by decide +kernel, by decide +kernel⟩, List.mem_of_getElem? (i := 575) (by decide +kernel), List.mem_of_getElem? (i := 820) (by decide +kernel), List.mem_of_getElem? (i := 821) (by decide +kernel)⟩
theorem lw_p55 : lw_okq (⟨"CardMachineModel", "undoAll", "()V"⟩, 37) := ⟨⟨by decide +kernel, by decide +kernel⟩, List.mem_of_getElem? (i := 575) (by decide +kernel), List.mem_of_getElem? (i := 824) (by decide +kernel), List.mem_of_getElem? (i := 825) (by decide +kernel)⟩
theorem lw_p56 : lw_okq (⟨"CardMachineModel", "callIt", "()V"⟩, 37) := ⟨⟨by decide +kernel, by decide +kernel⟩, List.mem_of_getElem? (i := 575) (by decide +kernel), List.mem_of_getElem? (i := 828) (by decide +kernel), List.mem_of_getElem? (i := 829) (by decide +kernel)⟩
theorem lw_p57 : lw_okq (⟨"CardMachineModel", "leave", "(Z)V"⟩, 37) := ⟨⟨by decide +kernel, by decide +kernel⟩, List.mem_of_getElem? (i := 575) (by decide +kernel), List.mem_of_getElem? (i := 832) (by decide +kernel), List.mem_of_getElem? (i := 833) (by decide +kernel)⟩
theorem lw_p58 : lw_okq (⟨"CardMachineModel", "make", "(I)V"⟩, 37) := ⟨⟨by decide +kernel, by decide +kernel⟩, List.mem_of_getElem? (i := 575) (by decide +kernel), List.mem_of_getElem? (i := 836) (by decide +kernel), List.mem_of_getElem? (i := 837) (by decide +kernel)⟩
theorem lw_p59 : lw_okq (⟨"CardMachineModel", "store", "()V"⟩, 37) := ⟨⟨by decide +kernel, by decide +kernel⟩, List.mem_of_getElem? (i := 575) (by decide +kernel), List.mem_of_getElem? (i := 840) (by decide +kernel), List.mem_of_getElem? (i := 841) (by decide +kernel)⟩
theorem lw_p60 : lw_okq (⟨"CardMachineModel", "copy", "()V"⟩, 37) := ⟨⟨by decide +kernel, by decide +kernel⟩, List.mem_of_getElem? (i := 575) (by decide +kernel), List.mem_of_getElem? (i := 844) (by decide +kernel), List.mem_of_getElem? (i := 845) (by decide +kernel)⟩
theorem lw_p61 : lw_okq (⟨"CardMachineModel", "actSmall", "(I)V"⟩, 37) := ⟨⟨by decide +kernel, by decide +kernel⟩, List.mem_of_getElem? (i := 575) (by decide +kernel), List.mem_of_getElem? (i := 848) (by decide +kernel), List.mem_of_getElem? (i := 849) (by decide +kernel)⟩
def lw_privs_4 : List (MethodName × Nat) := [(⟨"CardMachineModel", "drop", "(I)V"⟩, 37), (⟨"CardMachineModel", "on", "(I)V"⟩, 37), (⟨"CardMachineModel", "jump", "(I)V"⟩, 37), (⟨"CardMachineModel", "signed", "(I)I"⟩, 37), (⟨"CardMachineModel", "local", "(I)V"⟩, 37), (⟨"CardMachineModel", "transact", "(I)V"⟩, 37), (⟨"CardMachineModel", "writes", "()Z"⟩, 37), (⟨"CardMachineModel", "undoAll", "()V"⟩, 37), (⟨"CardMachineModel", "callIt", "()V"⟩, 37), (⟨"CardMachineModel", "leave", "(Z)V"⟩, 37), (⟨"CardMachineModel", "make", "(I)V"⟩, 37), (⟨"CardMachineModel", "store", "()V"⟩, 37), (⟨"CardMachineModel", "copy", "()V"⟩, 37), (⟨"CardMachineModel", "actSmall", "(I)V"⟩, 37)]
theorem lw_r4 : ∀ q ∈ lw_privs_4, lw_okq q := List.forall_mem_cons.mpr ⟨lw_p48, List.forall_mem_cons.mpr ⟨lw_p49, List.forall_mem_cons.mpr ⟨lw_p50, List.forall_mem_cons.mpr ⟨lw_p51, List.forall_mem_cons.mpr ⟨lw_p52, List.forall_mem_cons.mpr ⟨lw_p53, List.forall_mem_cons.mpr ⟨lw_p54, List.forall_mem_cons.mpr ⟨lw_p55, List.forall_mem_cons.mpr ⟨lw_p56, List.forall_mem_cons.mpr ⟨lw_p57, List.forall_mem_cons.mpr ⟨lw_p58, List.forall_mem_cons.mpr ⟨lw_p59, List.forall_mem_cons.mpr ⟨lw_p60, List.forall_mem_cons.mpr ⟨lw_p61, fun _ h => absurd h List.not_mem_nil⟩⟩⟩⟩⟩⟩⟩⟩⟩⟩⟩⟩⟩⟩
def lw_privs : List (MethodName × Nat) := lw_privs_1 ++ (lw_privs_2 ++ (lw_privs_3 ++ (lw_privs_4)))
def lw_tbl : List Cond := k2_sels lw_privs ++ tables_1
theorem lw_privs_ok : ∀ q ∈ lw_privs, lw_okq q := by
  show ∀ q ∈ lw_privs_1 ++ (lw_privs_2 ++ (lw_privs_3 ++ (lw_privs_4))), lw_okq q
  exact List.forall_mem_append.mpr ⟨lw_r1, List.forall_mem_append.mpr ⟨lw_r2, List.forall_mem_append.mpr ⟨lw_r3, lw_r4⟩⟩⟩
def RX0 : String := "CardMachine$1"
def TX0 : u_T := fun k => match k with
  | _ => ("", "", "", false)
def tyX0 : Nat → FieldType := fun k => match k with
  | _ => .int
abbrev wsX00 : List Cond := u_ws RX0 TX0 0
theorem nmX0 : ∀ a, a < 0 → ∀ b, b < 0 → a ≠ b → (TX0 a).2.1 ≠ (TX0 b).2.1 := by decide +kernel
theorem tyX0_ok : ∀ k, k < 0 → parseFieldDescriptor (TX0 k).2.2.1 = some (tyX0 k) := by decide +kernel
def RX1 : String := "CardMachine$ByteRow"
def TX1 : u_T := fun k => match k with
  | 0 => ("CardMachine$ByteRow", "bytes", "[I", true)
  | _ => ("CardMachine$ByteRow", "length", "I", false)
def tyX1 : Nat → FieldType := fun k => match k with
  | 0 => .array .int
  | _ => .int
abbrev wsX10 : List Cond := u_ws RX1 TX1 2
theorem nmX1 : ∀ a, a < 2 → ∀ b, b < 2 → a ≠ b → (TX1 a).2.1 ≠ (TX1 b).2.1 := by decide +kernel
theorem tyX1_ok : ∀ k, k < 2 → parseFieldDescriptor (TX1 k).2.2.1 = some (tyX1 k) := by decide +kernel
abbrev cX1_init : ByteArray := prog_3_method_1_code
def yX1_init : MethodName := ⟨RX1, "<init>", "()V"⟩
abbrev cX1_isFull : ByteArray := prog_3_method_2_code
def yX1_isFull : MethodName := ⟨RX1, "isFull", "()Z"⟩
abbrev cX1_has : ByteArray := prog_3_method_3_code
def yX1_has : MethodName := ⟨RX1, "has", "(I)Z"⟩
abbrev cX1_add : ByteArray := prog_3_method_4_code
def yX1_add : MethodName := ⟨RX1, "add", "(I)V"⟩
def RX2 : String := "CardMachine$Frame"
def TX2 : u_T := fun k => match k with
  | 0 => ("CardMachine$Frame", "locals", "[I", true)
  | 1 => ("CardMachine$Frame", "stack", "[I", true)
  | 2 => ("CardMachine$Frame", "height", "I", false)
  | 3 => ("CardMachine$Frame", "owner", "I", false)
  | 4 => ("CardMachine$Frame", "place", "I", false)
  | _ => ("CardMachine$Frame", "handler", "I", false)
def tyX2 : Nat → FieldType := fun k => match k with
  | 0 => .array .int
  | 1 => .array .int
  | 2 => .int
  | 3 => .int
  | 4 => .int
  | _ => .int
abbrev wsX20 : List Cond := u_ws RX2 TX2 6
theorem nmX2 : ∀ a, a < 6 → ∀ b, b < 6 → a ≠ b → (TX2 a).2.1 ≠ (TX2 b).2.1 := by decide +kernel
theorem tyX2_ok : ∀ k, k < 6 → parseFieldDescriptor (TX2 k).2.2.1 = some (tyX2 k) := by decide +kernel
abbrev cX2_init : ByteArray := prog_4_method_1_code
def yX2_init : MethodName := ⟨RX2, "<init>", "()V"⟩
abbrev cX2_begin : ByteArray := prog_4_method_2_code
def yX2_begin : MethodName := ⟨RX2, "begin", "(LCardMachine$Method;)V"⟩
abbrev cX2_hasRoom : ByteArray := prog_4_method_3_code
def yX2_hasRoom : MethodName := ⟨RX2, "hasRoom", "(I)Z"⟩
abbrev cX2_push : ByteArray := prog_4_method_4_code
def yX2_push : MethodName := ⟨RX2, "push", "(I)V"⟩
abbrev cX2_pop : ByteArray := prog_4_method_5_code
def yX2_pop : MethodName := ⟨RX2, "pop", "()I"⟩
abbrev cX2_top : ByteArray := prog_4_method_6_code
def yX2_top : MethodName := ⟨RX2, "top", "()I"⟩
abbrev cX2_addToLocal : ByteArray := prog_4_method_7_code
def yX2_addToLocal : MethodName := ⟨RX2, "addToLocal", "(II)V"⟩
abbrev cX2_handle : ByteArray := prog_4_method_8_code
def yX2_handle : MethodName := ⟨RX2, "handle", "(I)V"⟩
def RX3 : String := "CardMachine$Method"
def TX3 : u_T := fun k => match k with
  | 0 => ("CardMachine$Method", "owner", "I", false)
  | 1 => ("CardMachine$Method", "from", "I", false)
  | _ => ("CardMachine$Method", "open", "Z", false)
def tyX3 : Nat → FieldType := fun k => match k with
  | 0 => .int
  | 1 => .int
  | _ => .boolean
abbrev wsX30 : List Cond := u_ws RX3 TX3 3
theorem nmX3 : ∀ a, a < 3 → ∀ b, b < 3 → a ≠ b → (TX3 a).2.1 ≠ (TX3 b).2.1 := by decide +kernel
theorem tyX3_ok : ∀ k, k < 3 → parseFieldDescriptor (TX3 k).2.2.1 = some (tyX3 k) := by decide +kernel
abbrev cX3_init : ByteArray := prog_5_method_1_code
def yX3_init : MethodName := ⟨RX3, "<init>", "()V"⟩
def RX4 : String := "CardMachine$Op"
def TX4 : u_T := fun k => match k with
  | _ => ("", "", "", false)
def tyX4 : Nat → FieldType := fun k => match k with
  | _ => .int
abbrev wsX40 : List Cond := u_ws RX4 TX4 0
theorem nmX4 : ∀ a, a < 0 → ∀ b, b < 0 → a ≠ b → (TX4 a).2.1 ≠ (TX4 b).2.1 := by decide +kernel
theorem tyX4_ok : ∀ k, k < 0 → parseFieldDescriptor (TX4 k).2.2.1 = some (tyX4 k) := by decide +kernel
def RX5 : String := "CardMachine$Power"
def TX5 : u_T := fun k => match k with
  | 0 => ("CardMachine$Power", "on", "Z", false)
  | _ => ("CardMachine$Power", "writesLeft", "I", false)
def tyX5 : Nat → FieldType := fun k => match k with
  | 0 => .boolean
  | _ => .int
abbrev wsX50 : List Cond := u_ws RX5 TX5 2
theorem nmX5 : ∀ a, a < 2 → ∀ b, b < 2 → a ≠ b → (TX5 a).2.1 ≠ (TX5 b).2.1 := by decide +kernel
theorem tyX5_ok : ∀ k, k < 2 → parseFieldDescriptor (TX5 k).2.2.1 = some (tyX5 k) := by decide +kernel
abbrev cX5_init : ByteArray := prog_7_method_1_code
def yX5_init : MethodName := ⟨RX5, "<init>", "()V"⟩
abbrev cX5_setTear : ByteArray := prog_7_method_2_code
def yX5_setTear : MethodName := ⟨RX5, "setTear", "(I)V"⟩
abbrev cX5_lastsForWrite : ByteArray := prog_7_method_3_code
def yX5_lastsForWrite : MethodName := ⟨RX5, "lastsForWrite", "()Z"⟩
def RX6 : String := "CardMachine$Processor"
def TX6 : u_T := fun k => match k with
  | 0 => ("CardMachine$Processor", "code", "[I", true)
  | 1 => ("CardMachine$Processor", "methods", "[LCardMachine$Method;", true)
  | 2 => ("CardMachine$Processor", "store", "LCardMachine$Store;", true)
  | 3 => ("CardMachine$Processor", "command", "LCardMachine$ByteRow;", true)
  | 4 => ("CardMachine$Processor", "reply", "LCardMachine$ByteRow;", true)
  | 5 => ("CardMachine$Processor", "uncaught", "I", false)
  | 6 => ("CardMachine$Processor", "result", "I", false)
  | 7 => ("CardMachine$Processor", "spent", "I", false)
  | 8 => ("CardMachine$Processor", "frames", "[LCardMachine$Frame;", true)
  | 9 => ("CardMachine$Processor", "depth", "I", false)
  | 10 => ("CardMachine$Processor", "frame", "LCardMachine$Frame;", false)
  | 11 => ("CardMachine$Processor", "at", "I", false)
  | 12 => ("CardMachine$Processor", "fuel", "I", false)
  | _ => ("CardMachine$Processor", "answer", "I", false)
def tyX6 : Nat → FieldType := fun k => match k with
  | 0 => .array .int
  | 1 => .array (.object "CardMachine$Method")
  | 2 => .object "CardMachine$Store"
  | 3 => .object "CardMachine$ByteRow"
  | 4 => .object "CardMachine$ByteRow"
  | 5 => .int
  | 6 => .int
  | 7 => .int
  | 8 => .array (.object "CardMachine$Frame")
  | 9 => .int
  | 10 => .object "CardMachine$Frame"
  | 11 => .int
  | 12 => .int
  | _ => .int
abbrev wsX60 : List Cond := u_ws RX6 TX6 14
theorem nmX6 : ∀ a, a < 14 → ∀ b, b < 14 → a ≠ b → (TX6 a).2.1 ≠ (TX6 b).2.1 := by decide +kernel
theorem tyX6_ok : ∀ k, k < 14 → parseFieldDescriptor (TX6 k).2.2.1 = some (tyX6 k) := by decide +kernel
abbrev cX6_init : ByteArray := prog_8_method_1_code
def yX6_init : MethodName := ⟨RX6, "<init>", "()V"⟩
abbrev cX6_perform : ByteArray := prog_8_method_2_code
def yX6_perform : MethodName := ⟨RX6, "perform", "(LCardMachine$Method;I)I"⟩
abbrev cX6_begin : ByteArray := prog_8_method_3_code
def yX6_begin : MethodName := ⟨RX6, "begin", "(LCardMachine$Method;I)V"⟩
abbrev cX6_step : ByteArray := prog_8_method_4_code
def yX6_step : MethodName := ⟨RX6, "step", "()I"⟩
abbrev cX6_fetchFault : ByteArray := prog_8_method_5_code
def yX6_fetchFault : MethodName := ⟨RX6, "fetchFault", "()I"⟩
abbrev cX6_raise : ByteArray := prog_8_method_6_code
def yX6_raise : MethodName := ⟨RX6, "raise", "(I)V"⟩
abbrev cX6_enter : ByteArray := prog_8_method_7_code
def yX6_enter : MethodName := ⟨RX6, "enter", "(LCardMachine$Method;)V"⟩
abbrev cX6_leave : ByteArray := prog_8_method_8_code
def yX6_leave : MethodName := ⟨RX6, "leave", "()V"⟩
abbrev cX6_unsigned : ByteArray := prog_8_method_9_code
def yX6_unsigned : MethodName := ⟨RX6, "unsigned", "(I)I"⟩
abbrev cX6_signed : ByteArray := prog_8_method_10_code
def yX6_signed : MethodName := ⟨RX6, "signed", "(I)I"⟩
abbrev cX6_put : ByteArray := prog_8_method_11_code
def yX6_put : MethodName := ⟨RX6, "put", "(I)I"⟩
abbrev cX6_move : ByteArray := prog_8_method_12_code
def yX6_move : MethodName := ⟨RX6, "move", "(LCardMachine$Op;)I"⟩
abbrev cX6_swap : ByteArray := prog_8_method_13_code
def yX6_swap : MethodName := ⟨RX6, "swap", "()I"⟩
abbrev cX6_reckon : ByteArray := prog_8_method_14_code
def yX6_reckon : MethodName := ⟨RX6, "reckon", "(LCardMachine$Op;)I"⟩
abbrev cX6_jump : ByteArray := prog_8_method_15_code
def yX6_jump : MethodName := ⟨RX6, "jump", "(LCardMachine$Op;)I"⟩
abbrev cX6_holds : ByteArray := prog_8_method_16_code
def yX6_holds : MethodName := ⟨RX6, "holds", "(II)Z"⟩
abbrev cX6_callOrEnd : ByteArray := prog_8_method_17_code
def yX6_callOrEnd : MethodName := ⟨RX6, "callOrEnd", "(LCardMachine$Op;)I"⟩
abbrev cX6_call : ByteArray := prog_8_method_18_code
def yX6_call : MethodName := ⟨RX6, "call", "(LCardMachine$Op;)I"⟩
abbrev cX6_end : ByteArray := prog_8_method_19_code
def yX6_end : MethodName := ⟨RX6, "end", "()I"⟩
abbrev cX6_endWith : ByteArray := prog_8_method_20_code
def yX6_endWith : MethodName := ⟨RX6, "endWith", "(I)I"⟩
abbrev cX6_useObjects : ByteArray := prog_8_method_21_code
def yX6_useObjects : MethodName := ⟨RX6, "useObjects", "(LCardMachine$Op;)I"⟩
abbrev cX6_makeObject : ByteArray := prog_8_method_22_code
def yX6_makeObject : MethodName := ⟨RX6, "makeObject", "(I)I"⟩
abbrev cX6_readCell : ByteArray := prog_8_method_23_code
def yX6_readCell : MethodName := ⟨RX6, "readCell", "()I"⟩
abbrev cX6_writeCell : ByteArray := prog_8_method_24_code
def yX6_writeCell : MethodName := ⟨RX6, "writeCell", "()I"⟩
abbrev cX6_putSize : ByteArray := prog_8_method_25_code
def yX6_putSize : MethodName := ⟨RX6, "putSize", "(I)I"⟩
abbrev cX6_putOwner : ByteArray := prog_8_method_26_code
def yX6_putOwner : MethodName := ⟨RX6, "putOwner", "(I)I"⟩
abbrev cX6_copyCells : ByteArray := prog_8_method_27_code
def yX6_copyCells : MethodName := ⟨RX6, "copyCells", "()I"⟩
abbrev cX6_changeTransaction : ByteArray := prog_8_method_28_code
def yX6_changeTransaction : MethodName := ⟨RX6, "changeTransaction", "(LCardMachine$Op;)I"⟩
abbrev cX6_talk : ByteArray := prog_8_method_29_code
def yX6_talk : MethodName := ⟨RX6, "talk", "(LCardMachine$Op;)I"⟩
abbrev cX6_putCommandByte : ByteArray := prog_8_method_30_code
def yX6_putCommandByte : MethodName := ⟨RX6, "putCommandByte", "(I)I"⟩
abbrev cX6_answerByte : ByteArray := prog_8_method_31_code
def yX6_answerByte : MethodName := ⟨RX6, "answerByte", "(I)I"⟩
abbrev cX6_throwOrHandle : ByteArray := prog_8_method_32_code
def yX6_throwOrHandle : MethodName := ⟨RX6, "throwOrHandle", "(LCardMachine$Op;)I"⟩
def RX7 : String := "CardMachine$Store"
def TX7 : u_T := fun k => match k with
  | 0 => ("CardMachine$Store", "power", "LCardMachine$Power;", true)
  | 1 => ("CardMachine$Store", "owners", "[I", true)
  | 2 => ("CardMachine$Store", "sorts", "[I", true)
  | 3 => ("CardMachine$Store", "sizes", "[I", true)
  | 4 => ("CardMachine$Store", "objectCount", "I", false)
  | 5 => ("CardMachine$Store", "inTransaction", "Z", false)
  | 6 => ("CardMachine$Store", "firstCells", "[I", true)
  | 7 => ("CardMachine$Store", "cells", "[I", true)
  | 8 => ("CardMachine$Store", "cellCount", "I", false)
  | 9 => ("CardMachine$Store", "writtenCells", "[I", true)
  | 10 => ("CardMachine$Store", "valuesBefore", "[I", true)
  | 11 => ("CardMachine$Store", "cellWrites", "I", false)
  | 12 => ("CardMachine$Store", "things", "I", false)
  | 13 => ("CardMachine$Store", "objectsBefore", "I", false)
  | _ => ("CardMachine$Store", "cellsBefore", "I", false)
def tyX7 : Nat → FieldType := fun k => match k with
  | 0 => .object "CardMachine$Power"
  | 1 => .array .int
  | 2 => .array .int
  | 3 => .array .int
  | 4 => .int
  | 5 => .boolean
  | 6 => .array .int
  | 7 => .array .int
  | 8 => .int
  | 9 => .array .int
  | 10 => .array .int
  | 11 => .int
  | 12 => .int
  | 13 => .int
  | _ => .int
abbrev wsX70 : List Cond := u_ws RX7 TX7 15
theorem nmX7 : ∀ a, a < 15 → ∀ b, b < 15 → a ≠ b → (TX7 a).2.1 ≠ (TX7 b).2.1 := by decide +kernel
theorem tyX7_ok : ∀ k, k < 15 → parseFieldDescriptor (TX7 k).2.2.1 = some (tyX7 k) := by decide +kernel
abbrev cX7_init : ByteArray := prog_9_method_1_code
def yX7_init : MethodName := ⟨RX7, "<init>", "()V"⟩
abbrev cX7_has : ByteArray := prog_9_method_2_code
def yX7_has : MethodName := ⟨RX7, "has", "(I)Z"⟩
abbrev cX7_hasCells : ByteArray := prog_9_method_3_code
def yX7_hasCells : MethodName := ⟨RX7, "hasCells", "(III)Z"⟩
abbrev cX7_read : ByteArray := prog_9_method_4_code
def yX7_read : MethodName := ⟨RX7, "read", "(II)I"⟩
abbrev cX7_cellFault : ByteArray := prog_9_method_5_code
def yX7_cellFault : MethodName := ⟨RX7, "cellFault", "(III)I"⟩
abbrev cX7_thingFault : ByteArray := prog_9_method_6_code
def yX7_thingFault : MethodName := ⟨RX7, "thingFault", "()I"⟩
abbrev cX7_makeFault : ByteArray := prog_9_method_7_code
def yX7_makeFault : MethodName := ⟨RX7, "makeFault", "(I)I"⟩
abbrev cX7_copyFault : ByteArray := prog_9_method_8_code
def yX7_copyFault : MethodName := ⟨RX7, "copyFault", "(IIIIII)I"⟩
abbrev cX7_write : ByteArray := prog_9_method_9_code
def yX7_write : MethodName := ⟨RX7, "write", "(III)V"⟩
abbrev cX7_make : ByteArray := prog_9_method_10_code
def yX7_make : MethodName := ⟨RX7, "make", "(III)I"⟩
abbrev cX7_copy : ByteArray := prog_9_method_11_code
def yX7_copy : MethodName := ⟨RX7, "copy", "(IIIII)V"⟩
abbrev cX7_begin : ByteArray := prog_9_method_12_code
def yX7_begin : MethodName := ⟨RX7, "begin", "()V"⟩
abbrev cX7_close : ByteArray := prog_9_method_13_code
def yX7_close : MethodName := ⟨RX7, "close", "()V"⟩
abbrev cX7_undo : ByteArray := prog_9_method_14_code
def yX7_undo : MethodName := ⟨RX7, "undo", "()Z"⟩
abbrev cX7_mayUse : ByteArray := prog_9_method_15_code
def yX7_mayUse : MethodName := ⟨RX7, "mayUse", "(II)Z"⟩
abbrev cX7_add : ByteArray := prog_9_method_16_code
def yX7_add : MethodName := ⟨RX7, "add", "(III)V"⟩
def RX8 : String := "CardMachine"
def TX8 : u_T := fun k => match k with
  | _ => ("CardMachine", "processor", "LCardMachine$Processor;", true)
def tyX8 : Nat → FieldType := fun k => match k with
  | _ => .object "CardMachine$Processor"
abbrev wsX80 : List Cond := u_ws RX8 TX8 1
theorem nmX8 : ∀ a, a < 1 → ∀ b, b < 1 → a ≠ b → (TX8 a).2.1 ≠ (TX8 b).2.1 := by decide +kernel
theorem tyX8_ok : ∀ k, k < 1 → parseFieldDescriptor (TX8 k).2.2.1 = some (tyX8 k) := by decide +kernel
abbrev cX8_init : ByteArray := prog_1_method_1_code
def yX8_init : MethodName := ⟨RX8, "<init>", "()V"⟩
abbrev cX8_code : ByteArray := prog_1_method_2_code
def yX8_code : MethodName := ⟨RX8, "code", "(II)I"⟩
abbrev cX8_codes : ByteArray := prog_1_method_3_code
def yX8_codes : MethodName := ⟨RX8, "codes", "(IJI)I"⟩
abbrev cX8_method : ByteArray := prog_1_method_4_code
def yX8_method : MethodName := ⟨RX8, "method", "(IIIZ)I"⟩
abbrev cX8_type : ByteArray := prog_1_method_5_code
def yX8_type : MethodName := ⟨RX8, "type", "(I)I"⟩
abbrev cX8_run : ByteArray := prog_1_method_6_code
def yX8_run : MethodName := ⟨RX8, "run", "(II)I"⟩
abbrev cX8_thrown0 : ByteArray := prog_1_method_7_code
def yX8_thrown0 : MethodName := ⟨RX8, "thrown0", "()I"⟩
abbrev cX8_value : ByteArray := prog_1_method_8_code
def yX8_value : MethodName := ⟨RX8, "value", "()I"⟩
abbrev cX8_reply : ByteArray := prog_1_method_9_code
def yX8_reply : MethodName := ⟨RX8, "reply", "(I)I"⟩
abbrev cX8_used : ByteArray := prog_1_method_10_code
def yX8_used : MethodName := ⟨RX8, "used", "()I"⟩
abbrev cX8_tear : ByteArray := prog_1_method_11_code
def yX8_tear : MethodName := ⟨RX8, "tear", "(I)I"⟩
abbrev cX8_reset : ByteArray := prog_1_method_12_code
def yX8_reset : MethodName := ⟨RX8, "reset", "()I"⟩
abbrev cX8_objects : ByteArray := prog_1_method_13_code
def yX8_objects : MethodName := ⟨RX8, "objects", "()I"⟩
abbrev cX8_told : ByteArray := prog_1_method_14_code
def yX8_told : MethodName := ⟨RX8, "told", "(II)I"⟩
abbrev cX8_cell : ByteArray := prog_1_method_15_code
def yX8_cell : MethodName := ⟨RX8, "cell", "(II)I"⟩
abbrev cX8_isByte : ByteArray := prog_1_method_16_code
def yX8_isByte : MethodName := ⟨RX8, "isByte", "(I)Z"⟩
abbrev cX8_isMethod : ByteArray := prog_1_method_17_code
def yX8_isMethod : MethodName := ⟨RX8, "isMethod", "(I)Z"⟩
def RX9 : String := "CardMachineModel"
def TX9 : u_T := fun k => match k with
  | 0 => ("CardMachineModel", "code", "[I", true)
  | 1 => ("CardMachineModel", "methodOwner", "[I", true)
  | 2 => ("CardMachineModel", "methodFrom", "[I", true)
  | 3 => ("CardMachineModel", "methodOpen", "[Z", true)
  | 4 => ("CardMachineModel", "objects", "I", false)
  | 5 => ("CardMachineModel", "owner", "[I", true)
  | 6 => ("CardMachineModel", "sort", "[I", true)
  | 7 => ("CardMachineModel", "size", "[I", true)
  | 8 => ("CardMachineModel", "base", "[I", true)
  | 9 => ("CardMachineModel", "cells", "[I", true)
  | 10 => ("CardMachineModel", "cellsUsed", "I", false)
  | 11 => ("CardMachineModel", "power", "Z", false)
  | 12 => ("CardMachineModel", "tear", "I", false)
  | 13 => ("CardMachineModel", "open", "Z", false)
  | 14 => ("CardMachineModel", "things", "I", false)
  | 15 => ("CardMachineModel", "changes", "I", false)
  | 16 => ("CardMachineModel", "changedAt", "[I", true)
  | 17 => ("CardMachineModel", "changedFrom", "[I", true)
  | 18 => ("CardMachineModel", "objectsBefore", "I", false)
  | 19 => ("CardMachineModel", "cellsBefore", "I", false)
  | 20 => ("CardMachineModel", "command", "[I", true)
  | 21 => ("CardMachineModel", "commandSize", "I", false)
  | 22 => ("CardMachineModel", "reply", "[I", true)
  | 23 => ("CardMachineModel", "replySize", "I", false)
  | 24 => ("CardMachineModel", "frames", "I", false)
  | 25 => ("CardMachineModel", "frameOwner", "[I", true)
  | 26 => ("CardMachineModel", "place", "[I", true)
  | 27 => ("CardMachineModel", "handler", "[I", true)
  | 28 => ("CardMachineModel", "locals", "[I", true)
  | 29 => ("CardMachineModel", "stack", "[I", true)
  | 30 => ("CardMachineModel", "high", "[I", true)
  | 31 => ("CardMachineModel", "fuel", "I", false)
  | 32 => ("CardMachineModel", "used", "I", false)
  | 33 => ("CardMachineModel", "thrownValue", "I", false)
  | 34 => ("CardMachineModel", "endValue", "I", false)
  | 35 => ("CardMachineModel", "result", "I", false)
  | _ => ("CardMachineModel", "target", "[I", true)
def tyX9 : Nat → FieldType := fun k => match k with
  | 0 => .array .int
  | 1 => .array .int
  | 2 => .array .int
  | 3 => .array .boolean
  | 4 => .int
  | 5 => .array .int
  | 6 => .array .int
  | 7 => .array .int
  | 8 => .array .int
  | 9 => .array .int
  | 10 => .int
  | 11 => .boolean
  | 12 => .int
  | 13 => .boolean
  | 14 => .int
  | 15 => .int
  | 16 => .array .int
  | 17 => .array .int
  | 18 => .int
  | 19 => .int
  | 20 => .array .int
  | 21 => .int
  | 22 => .array .int
  | 23 => .int
  | 24 => .int
  | 25 => .array .int
  | 26 => .array .int
  | 27 => .array .int
  | 28 => .array .int
  | 29 => .array .int
  | 30 => .array .int
  | 31 => .int
  | 32 => .int
  | 33 => .int
  | 34 => .int
  | 35 => .int
  | _ => .array .int
abbrev wsX90 : List Cond := u_ws RX9 TX9 37
theorem nmX9 : ∀ a, a < 37 → ∀ b, b < 37 → a ≠ b → (TX9 a).2.1 ≠ (TX9 b).2.1 := by decide +kernel
theorem tyX9_ok : ∀ k, k < 37 → parseFieldDescriptor (TX9 k).2.2.1 = some (tyX9 k) := by decide +kernel
abbrev cX9_init : ByteArray := prog_11_method_1_code
def yX9_init : MethodName := ⟨RX9, "<init>", "()V"⟩
abbrev cX9_isIn : ByteArray := prog_11_method_2_code
def yX9_isIn : MethodName := ⟨RX9, "isIn", "(III)Z"⟩
abbrev cX9_add : ByteArray := prog_11_method_3_code
def yX9_add : MethodName := ⟨RX9, "add", "(III)V"⟩
abbrev cX9_code : ByteArray := prog_11_method_4_code
def yX9_code : MethodName := ⟨RX9, "code", "(II)I"⟩
abbrev cX9_codes : ByteArray := prog_11_method_5_code
def yX9_codes : MethodName := ⟨RX9, "codes", "(IJI)I"⟩
abbrev cX9_method : ByteArray := prog_11_method_6_code
def yX9_method : MethodName := ⟨RX9, "method", "(IIIZ)I"⟩
abbrev cX9_type : ByteArray := prog_11_method_7_code
def yX9_type : MethodName := ⟨RX9, "type", "(I)I"⟩
abbrev cX9_top : ByteArray := prog_11_method_8_code
def yX9_top : MethodName := ⟨RX9, "top", "()I"⟩
abbrev cX9_depth : ByteArray := prog_11_method_9_code
def yX9_depth : MethodName := ⟨RX9, "depth", "()I"⟩
abbrev cX9_at : ByteArray := prog_11_method_10_code
def yX9_at : MethodName := ⟨RX9, "at", "(I)I"⟩
abbrev cX9_put : ByteArray := prog_11_method_11_code
def yX9_put : MethodName := ⟨RX9, "put", "(I)V"⟩
abbrev cX9_drop : ByteArray := prog_11_method_12_code
def yX9_drop : MethodName := ⟨RX9, "drop", "(I)V"⟩
abbrev cX9_here : ByteArray := prog_11_method_13_code
def yX9_here : MethodName := ⟨RX9, "here", "()I"⟩
abbrev cX9_byteAt : ByteArray := prog_11_method_14_code
def yX9_byteAt : MethodName := ⟨RX9, "byteAt", "(I)I"⟩
abbrev cX9_signed : ByteArray := prog_11_method_15_code
def yX9_signed : MethodName := ⟨RX9, "signed", "(I)I"⟩
abbrev cX9_on : ByteArray := prog_11_method_16_code
def yX9_on : MethodName := ⟨RX9, "on", "(I)V"⟩
abbrev cX9_enter : ByteArray := prog_11_method_17_code
def yX9_enter : MethodName := ⟨RX9, "enter", "(I)V"⟩
abbrev cX9_length : ByteArray := prog_11_method_18_code
def yX9_length : MethodName := ⟨RX9, "length", "(I)I"⟩
abbrev cX9_takes : ByteArray := prog_11_method_19_code
def yX9_takes : MethodName := ⟨RX9, "takes", "(I)I"⟩
abbrev cX9_isObject : ByteArray := prog_11_method_20_code
def yX9_isObject : MethodName := ⟨RX9, "isObject", "(I)Z"⟩
abbrev cX9_isShut : ByteArray := prog_11_method_21_code
def yX9_isShut : MethodName := ⟨RX9, "isShut", "(I)Z"⟩
abbrev cX9_fault : ByteArray := prog_11_method_22_code
def yX9_fault : MethodName := ⟨RX9, "fault", "()I"⟩
abbrev cX9_copyFault : ByteArray := prog_11_method_23_code
def yX9_copyFault : MethodName := ⟨RX9, "copyFault", "(IIIII)I"⟩
abbrev cX9_writes : ByteArray := prog_11_method_24_code
def yX9_writes : MethodName := ⟨RX9, "writes", "()Z"⟩
abbrev cX9_undoAll : ByteArray := prog_11_method_25_code
def yX9_undoAll : MethodName := ⟨RX9, "undoAll", "()V"⟩
abbrev cX9_throwIt : ByteArray := prog_11_method_26_code
def yX9_throwIt : MethodName := ⟨RX9, "throwIt", "(I)V"⟩
abbrev cX9_make : ByteArray := prog_11_method_27_code
def yX9_make : MethodName := ⟨RX9, "make", "(I)V"⟩
abbrev cX9_store : ByteArray := prog_11_method_28_code
def yX9_store : MethodName := ⟨RX9, "store", "()V"⟩
abbrev cX9_copy : ByteArray := prog_11_method_29_code
def yX9_copy : MethodName := ⟨RX9, "copy", "()V"⟩
abbrev cX9_callIt : ByteArray := prog_11_method_30_code
def yX9_callIt : MethodName := ⟨RX9, "callIt", "()V"⟩
abbrev cX9_leave : ByteArray := prog_11_method_31_code
def yX9_leave : MethodName := ⟨RX9, "leave", "(Z)V"⟩
abbrev cX9_holds : ByteArray := prog_11_method_32_code
def yX9_holds : MethodName := ⟨RX9, "holds", "(II)Z"⟩
abbrev cX9_reckon : ByteArray := prog_11_method_33_code
def yX9_reckon : MethodName := ⟨RX9, "reckon", "(III)I"⟩
abbrev cX9_jump : ByteArray := prog_11_method_34_code
def yX9_jump : MethodName := ⟨RX9, "jump", "(I)V"⟩
abbrev cX9_local : ByteArray := prog_11_method_35_code
def yX9_local : MethodName := ⟨RX9, "local", "(I)V"⟩
abbrev cX9_replace : ByteArray := prog_11_method_36_code
def yX9_replace : MethodName := ⟨RX9, "replace", "(II)V"⟩
abbrev cX9_transact : ByteArray := prog_11_method_37_code
def yX9_transact : MethodName := ⟨RX9, "transact", "(I)V"⟩
abbrev cX9_act : ByteArray := prog_11_method_38_code
def yX9_act : MethodName := ⟨RX9, "act", "(I)V"⟩
abbrev cX9_actSmall : ByteArray := prog_11_method_39_code
def yX9_actSmall : MethodName := ⟨RX9, "actSmall", "(I)V"⟩
abbrev cX9_step : ByteArray := prog_11_method_40_code
def yX9_step : MethodName := ⟨RX9, "step", "()V"⟩
abbrev cX9_run : ByteArray := prog_11_method_41_code
def yX9_run : MethodName := ⟨RX9, "run", "(II)I"⟩
abbrev cX9_thrown0 : ByteArray := prog_11_method_42_code
def yX9_thrown0 : MethodName := ⟨RX9, "thrown0", "()I"⟩
abbrev cX9_value : ByteArray := prog_11_method_43_code
def yX9_value : MethodName := ⟨RX9, "value", "()I"⟩
abbrev cX9_reply : ByteArray := prog_11_method_44_code
def yX9_reply : MethodName := ⟨RX9, "reply", "(I)I"⟩
abbrev cX9_used : ByteArray := prog_11_method_45_code
def yX9_used : MethodName := ⟨RX9, "used", "()I"⟩
abbrev cX9_tear : ByteArray := prog_11_method_46_code
def yX9_tear : MethodName := ⟨RX9, "tear", "(I)I"⟩
abbrev cX9_reset : ByteArray := prog_11_method_47_code
def yX9_reset : MethodName := ⟨RX9, "reset", "()I"⟩
abbrev cX9_objects : ByteArray := prog_11_method_48_code
def yX9_objects : MethodName := ⟨RX9, "objects", "()I"⟩
abbrev cX9_told : ByteArray := prog_11_method_49_code
def yX9_told : MethodName := ⟨RX9, "told", "(II)I"⟩
abbrev cX9_cell : ByteArray := prog_11_method_50_code
def yX9_cell : MethodName := ⟨RX9, "cell", "(II)I"⟩
def RJx145de : String := "java/io/Serializable"
def TJx145de : u_T := fun k => match k with
  | _ => ("", "", "", false)
def tyJx145de : Nat → FieldType := fun k => match k with
  | _ => .int
abbrev wsJx145de0 : List Cond := u_ws RJx145de TJx145de 0
theorem nmJx145de : ∀ a, a < 0 → ∀ b, b < 0 → a ≠ b → (TJx145de a).2.1 ≠ (TJx145de b).2.1 := by decide +kernel
theorem tyJx145de_ok : ∀ k, k < 0 → parseFieldDescriptor (TJx145de k).2.2.1 = some (tyJx145de k) := by decide +kernel
def RJxb160c : String := "java/lang/Comparable"
def TJxb160c : u_T := fun k => match k with
  | _ => ("", "", "", false)
def tyJxb160c : Nat → FieldType := fun k => match k with
  | _ => .int
abbrev wsJxb160c0 : List Cond := u_ws RJxb160c TJxb160c 0
theorem nmJxb160c : ∀ a, a < 0 → ∀ b, b < 0 → a ≠ b → (TJxb160c a).2.1 ≠ (TJxb160c b).2.1 := by decide +kernel
theorem tyJxb160c_ok : ∀ k, k < 0 → parseFieldDescriptor (TJxb160c k).2.2.1 = some (tyJxb160c k) := by decide +kernel
def RJx29ce0 : String := "java/lang/Enum"
def TJx29ce0 : u_T := fun k => match k with
  | _ => ("", "", "", false)
def tyJx29ce0 : Nat → FieldType := fun k => match k with
  | _ => .int
abbrev wsJx29ce00 : List Cond := u_ws RJx29ce0 TJx29ce0 0
theorem nmJx29ce0 : ∀ a, a < 0 → ∀ b, b < 0 → a ≠ b → (TJx29ce0 a).2.1 ≠ (TJx29ce0 b).2.1 := by decide +kernel
theorem tyJx29ce0_ok : ∀ k, k < 0 → parseFieldDescriptor (TJx29ce0 k).2.2.1 = some (tyJx29ce0 k) := by decide +kernel
abbrev cJx29ce0_ordinal_8abf5 : ByteArray := prog_12_method_2_code
def yJx29ce0_ordinal_8abf5 : MethodName := ⟨RJx29ce0, "ordinal", "()I"⟩
def RJ9 : String := "java/lang/Math"
def TJ9 : u_T := fun k => match k with
  | _ => ("", "", "", false)
def tyJ9 : Nat → FieldType := fun k => match k with
  | _ => .int
abbrev wsJ90 : List Cond := u_ws RJ9 TJ9 0
theorem nmJ9 : ∀ a, a < 0 → ∀ b, b < 0 → a ≠ b → (TJ9 a).2.1 ≠ (TJ9 b).2.1 := by decide +kernel
theorem tyJ9_ok : ∀ k, k < 0 → parseFieldDescriptor (TJ9 k).2.2.1 = some (tyJ9 k) := by decide +kernel
abbrev cJ9_floorMod_7cf53 : ByteArray := prog_13_method_50_code
def yJ9_floorMod_7cf53 : MethodName := ⟨RJ9, "floorMod", "(II)I"⟩
def RJxfd54e : String := "java/lang/constant/Constable"
def TJxfd54e : u_T := fun k => match k with
  | _ => ("", "", "", false)
def tyJxfd54e : Nat → FieldType := fun k => match k with
  | _ => .int
abbrev wsJxfd54e0 : List Cond := u_ws RJxfd54e TJxfd54e 0
theorem nmJxfd54e : ∀ a, a < 0 → ∀ b, b < 0 → a ≠ b → (TJxfd54e a).2.1 ≠ (TJxfd54e b).2.1 := by decide +kernel
theorem tyJxfd54e_ok : ∀ k, k < 0 → parseFieldDescriptor (TJxfd54e k).2.2.1 = some (tyJxfd54e k) := by decide +kernel
def RJ7 : String := "java/util/Arrays"
def TJ7 : u_T := fun k => match k with
  | _ => ("", "", "", false)
def tyJ7 : Nat → FieldType := fun k => match k with
  | _ => .int
abbrev wsJ70 : List Cond := u_ws RJ7 TJ7 0
theorem nmJ7 : ∀ a, a < 0 → ∀ b, b < 0 → a ≠ b → (TJ7 a).2.1 ≠ (TJ7 b).2.1 := by decide +kernel
theorem tyJ7_ok : ∀ k, k < 0 → parseFieldDescriptor (TJ7 k).2.2.1 = some (tyJ7 k) := by decide +kernel
abbrev cJ7_rangeCheck_23922 : ByteArray := prog_14_method_30_code
def yJ7_rangeCheck_23922 : MethodName := ⟨RJ7, "rangeCheck", "(III)V"⟩
abbrev cJ7_fill_53178 : ByteArray := prog_14_method_103_code
def yJ7_fill_53178 : MethodName := ⟨RJ7, "fill", "([II)V"⟩
abbrev cJ7_fill_fda19 : ByteArray := prog_14_method_104_code
def yJ7_fill_fda19 : MethodName := ⟨RJ7, "fill", "([IIII)V"⟩
def RL : String := "CardMachineLaw"
abbrev cL_law : ByteArray := code
def yL_law : MethodName := ⟨RL, "law", "([I)Z"⟩
abbrev vwCl : List vw_C := [(RX1, TX1, 2), (RX2, TX2, 6), (RX3, TX3, 3), (RX5, TX5, 2), (RX6, TX6, 14), (RX7, TX7, 15), (RX8, TX8, 1), (RX9, TX9, 37)]
