section
-- ===== PART A: goes FIRST, ahead of the names: the tables' words, and 'selects' of the private methods out of them =====
/-- a private method of a class that the tables say can be made, by its rows of tables_1 -/
def lw_okq (q : MethodName × Nat) : Prop := (q.1.cls ≠ "java/lang/invoke/MethodHandle" ∧ q.1.cls ≠ "java/lang/invoke/VarHandle") ∧ Cond.instantiable q.1.cls q.2 ∈ tables_1 ∧ Cond.privateMethod q.1 ∈ tables_1 ∧ Cond.instanceMethod q.1 ∈ tables_1
theorem lw_p0 : lw_okq (⟨"CardMachine$Store", "add", "(III)V"⟩, 15) := ⟨⟨by decide +kernel, by decide +kernel⟩, List.mem_of_getElem? (i := 31) (by decide +kernel), List.mem_of_getElem? (i := 53) (by decide +kernel), List.mem_of_getElem? (i := 54) (by decide +kernel)⟩
theorem lw_p1 : lw_okq (⟨"CardMachine$Processor", "begin", "(LCardMachine$Method;I)V"⟩, 14) := ⟨⟨by decide +kernel, by decide +kernel⟩, List.mem_of_getElem? (i := 23) (by decide +kernel), List.mem_of_getElem? (i := 279) (by decide +kernel), List.mem_of_getElem? (i := 280) (by decide +kernel)⟩
theorem lw_p2 : lw_okq (⟨"CardMachine$Processor", "enter", "(LCardMachine$Method;)V"⟩, 14) := ⟨⟨by decide +kernel, by decide +kernel⟩, List.mem_of_getElem? (i := 23) (by decide +kernel), List.mem_of_getElem? (i := 283) (by decide +kernel), List.mem_of_getElem? (i := 284) (by decide +kernel)⟩
theorem lw_p3 : lw_okq (⟨"CardMachine$Processor", "step", "()I"⟩, 14) := ⟨⟨by decide +kernel, by decide +kernel⟩, List.mem_of_getElem? (i := 23) (by decide +kernel), List.mem_of_getElem? (i := 295) (by decide +kernel), List.mem_of_getElem? (i := 296) (by decide +kernel)⟩
theorem lw_p4 : lw_okq (⟨"CardMachine$Processor", "fetchFault", "()I"⟩, 14) := ⟨⟨by decide +kernel, by decide +kernel⟩, List.mem_of_getElem? (i := 23) (by decide +kernel), List.mem_of_getElem? (i := 299) (by decide +kernel), List.mem_of_getElem? (i := 300) (by decide +kernel)⟩
theorem lw_p5 : lw_okq (⟨"CardMachine$Processor", "move", "(LCardMachine$Op;)I"⟩, 14) := ⟨⟨by decide +kernel, by decide +kernel⟩, List.mem_of_getElem? (i := 23) (by decide +kernel), List.mem_of_getElem? (i := 314) (by decide +kernel), List.mem_of_getElem? (i := 315) (by decide +kernel)⟩
theorem lw_p6 : lw_okq (⟨"CardMachine$Processor", "signed", "(I)I"⟩, 14) := ⟨⟨by decide +kernel, by decide +kernel⟩, List.mem_of_getElem? (i := 23) (by decide +kernel), List.mem_of_getElem? (i := 326) (by decide +kernel), List.mem_of_getElem? (i := 327) (by decide +kernel)⟩
theorem lw_p7 : lw_okq (⟨"CardMachine$Processor", "put", "(I)I"⟩, 14) := ⟨⟨by decide +kernel, by decide +kernel⟩, List.mem_of_getElem? (i := 23) (by decide +kernel), List.mem_of_getElem? (i := 330) (by decide +kernel), List.mem_of_getElem? (i := 331) (by decide +kernel)⟩
theorem lw_p8 : lw_okq (⟨"CardMachine$Processor", "unsigned", "(I)I"⟩, 14) := ⟨⟨by decide +kernel, by decide +kernel⟩, List.mem_of_getElem? (i := 23) (by decide +kernel), List.mem_of_getElem? (i := 338) (by decide +kernel), List.mem_of_getElem? (i := 339) (by decide +kernel)⟩
theorem lw_p9 : lw_okq (⟨"CardMachine$Processor", "swap", "()I"⟩, 14) := ⟨⟨by decide +kernel, by decide +kernel⟩, List.mem_of_getElem? (i := 23) (by decide +kernel), List.mem_of_getElem? (i := 354) (by decide +kernel), List.mem_of_getElem? (i := 355) (by decide +kernel)⟩
theorem lw_p10 : lw_okq (⟨"CardMachine$Processor", "reckon", "(LCardMachine$Op;)I"⟩, 14) := ⟨⟨by decide +kernel, by decide +kernel⟩, List.mem_of_getElem? (i := 23) (by decide +kernel), List.mem_of_getElem? (i := 358) (by decide +kernel), List.mem_of_getElem? (i := 359) (by decide +kernel)⟩
theorem lw_p11 : lw_okq (⟨"CardMachine$Processor", "jump", "(LCardMachine$Op;)I"⟩, 14) := ⟨⟨by decide +kernel, by decide +kernel⟩, List.mem_of_getElem? (i := 23) (by decide +kernel), List.mem_of_getElem? (i := 368) (by decide +kernel), List.mem_of_getElem? (i := 369) (by decide +kernel)⟩
theorem lw_p12 : lw_okq (⟨"CardMachine$Processor", "callOrEnd", "(LCardMachine$Op;)I"⟩, 14) := ⟨⟨by decide +kernel, by decide +kernel⟩, List.mem_of_getElem? (i := 23) (by decide +kernel), List.mem_of_getElem? (i := 379) (by decide +kernel), List.mem_of_getElem? (i := 380) (by decide +kernel)⟩
theorem lw_p13 : lw_okq (⟨"CardMachine$Processor", "end", "()I"⟩, 14) := ⟨⟨by decide +kernel, by decide +kernel⟩, List.mem_of_getElem? (i := 23) (by decide +kernel), List.mem_of_getElem? (i := 383) (by decide +kernel), List.mem_of_getElem? (i := 384) (by decide +kernel)⟩
theorem lw_p14 : lw_okq (⟨"CardMachine$Processor", "leave", "()V"⟩, 14) := ⟨⟨by decide +kernel, by decide +kernel⟩, List.mem_of_getElem? (i := 23) (by decide +kernel), List.mem_of_getElem? (i := 387) (by decide +kernel), List.mem_of_getElem? (i := 388) (by decide +kernel)⟩
theorem lw_p15 : lw_okq (⟨"CardMachine$Processor", "endWith", "(I)I"⟩, 14) := ⟨⟨by decide +kernel, by decide +kernel⟩, List.mem_of_getElem? (i := 23) (by decide +kernel), List.mem_of_getElem? (i := 391) (by decide +kernel), List.mem_of_getElem? (i := 392) (by decide +kernel)⟩
def lw_privs_1 : List (MethodName × Nat) := [(⟨"CardMachine$Store", "add", "(III)V"⟩, 15), (⟨"CardMachine$Processor", "begin", "(LCardMachine$Method;I)V"⟩, 14), (⟨"CardMachine$Processor", "enter", "(LCardMachine$Method;)V"⟩, 14), (⟨"CardMachine$Processor", "step", "()I"⟩, 14), (⟨"CardMachine$Processor", "fetchFault", "()I"⟩, 14), (⟨"CardMachine$Processor", "move", "(LCardMachine$Op;)I"⟩, 14), (⟨"CardMachine$Processor", "signed", "(I)I"⟩, 14), (⟨"CardMachine$Processor", "put", "(I)I"⟩, 14), (⟨"CardMachine$Processor", "unsigned", "(I)I"⟩, 14), (⟨"CardMachine$Processor", "swap", "()I"⟩, 14), (⟨"CardMachine$Processor", "reckon", "(LCardMachine$Op;)I"⟩, 14), (⟨"CardMachine$Processor", "jump", "(LCardMachine$Op;)I"⟩, 14), (⟨"CardMachine$Processor", "callOrEnd", "(LCardMachine$Op;)I"⟩, 14), (⟨"CardMachine$Processor", "end", "()I"⟩, 14), (⟨"CardMachine$Processor", "leave", "()V"⟩, 14), (⟨"CardMachine$Processor", "endWith", "(I)I"⟩, 14)]
theorem lw_r1 : ∀ q ∈ lw_privs_1, lw_okq q := List.forall_mem_cons.mpr ⟨lw_p0, List.forall_mem_cons.mpr ⟨lw_p1, List.forall_mem_cons.mpr ⟨lw_p2, List.forall_mem_cons.mpr ⟨lw_p3, List.forall_mem_cons.mpr ⟨lw_p4, List.forall_mem_cons.mpr ⟨lw_p5, List.forall_mem_cons.mpr ⟨lw_p6, List.forall_mem_cons.mpr ⟨lw_p7, List.forall_mem_cons.mpr ⟨lw_p8, List.forall_mem_cons.mpr ⟨lw_p9, List.forall_mem_cons.mpr ⟨lw_p10, List.forall_mem_cons.mpr ⟨lw_p11, List.forall_mem_cons.mpr ⟨lw_p12, List.forall_mem_cons.mpr ⟨lw_p13, List.forall_mem_cons.mpr ⟨lw_p14, List.forall_mem_cons.mpr ⟨lw_p15, fun _ h => absurd h List.not_mem_nil⟩⟩⟩⟩⟩⟩⟩⟩⟩⟩⟩⟩⟩⟩⟩⟩
theorem lw_p16 : lw_okq (⟨"CardMachine$Processor", "call", "(LCardMachine$Op;)I"⟩, 14) := ⟨⟨by decide +kernel, by decide +kernel⟩, List.mem_of_getElem? (i := 23) (by decide +kernel), List.mem_of_getElem? (i := 395) (by decide +kernel), List.mem_of_getElem? (i := 396) (by decide +kernel)⟩
theorem lw_p17 : lw_okq (⟨"CardMachine$Processor", "useObjects", "(LCardMachine$Op;)I"⟩, 14) := ⟨⟨by decide +kernel, by decide +kernel⟩, List.mem_of_getElem? (i := 23) (by decide +kernel), List.mem_of_getElem? (i := 401) (by decide +kernel), List.mem_of_getElem? (i := 402) (by decide +kernel)⟩
theorem lw_p18 : lw_okq (⟨"CardMachine$Processor", "makeObject", "(I)I"⟩, 14) := ⟨⟨by decide +kernel, by decide +kernel⟩, List.mem_of_getElem? (i := 23) (by decide +kernel), List.mem_of_getElem? (i := 405) (by decide +kernel), List.mem_of_getElem? (i := 406) (by decide +kernel)⟩
theorem lw_p19 : lw_okq (⟨"CardMachine$Processor", "readCell", "()I"⟩, 14) := ⟨⟨by decide +kernel, by decide +kernel⟩, List.mem_of_getElem? (i := 23) (by decide +kernel), List.mem_of_getElem? (i := 426) (by decide +kernel), List.mem_of_getElem? (i := 427) (by decide +kernel)⟩
theorem lw_p20 : lw_okq (⟨"CardMachine$Store", "mayUse", "(II)Z"⟩, 15) := ⟨⟨by decide +kernel, by decide +kernel⟩, List.mem_of_getElem? (i := 31) (by decide +kernel), List.mem_of_getElem? (i := 438) (by decide +kernel), List.mem_of_getElem? (i := 439) (by decide +kernel)⟩
theorem lw_p21 : lw_okq (⟨"CardMachine$Processor", "writeCell", "()I"⟩, 14) := ⟨⟨by decide +kernel, by decide +kernel⟩, List.mem_of_getElem? (i := 23) (by decide +kernel), List.mem_of_getElem? (i := 450) (by decide +kernel), List.mem_of_getElem? (i := 451) (by decide +kernel)⟩
theorem lw_p22 : lw_okq (⟨"CardMachine$Processor", "putSize", "(I)I"⟩, 14) := ⟨⟨by decide +kernel, by decide +kernel⟩, List.mem_of_getElem? (i := 23) (by decide +kernel), List.mem_of_getElem? (i := 459) (by decide +kernel), List.mem_of_getElem? (i := 460) (by decide +kernel)⟩
theorem lw_p23 : lw_okq (⟨"CardMachine$Processor", "putOwner", "(I)I"⟩, 14) := ⟨⟨by decide +kernel, by decide +kernel⟩, List.mem_of_getElem? (i := 23) (by decide +kernel), List.mem_of_getElem? (i := 463) (by decide +kernel), List.mem_of_getElem? (i := 464) (by decide +kernel)⟩
theorem lw_p24 : lw_okq (⟨"CardMachine$Processor", "copyCells", "()I"⟩, 14) := ⟨⟨by decide +kernel, by decide +kernel⟩, List.mem_of_getElem? (i := 23) (by decide +kernel), List.mem_of_getElem? (i := 468) (by decide +kernel), List.mem_of_getElem? (i := 469) (by decide +kernel)⟩
theorem lw_p25 : lw_okq (⟨"CardMachine$Processor", "changeTransaction", "(LCardMachine$Op;)I"⟩, 14) := ⟨⟨by decide +kernel, by decide +kernel⟩, List.mem_of_getElem? (i := 23) (by decide +kernel), List.mem_of_getElem? (i := 480) (by decide +kernel), List.mem_of_getElem? (i := 481) (by decide +kernel)⟩
theorem lw_p26 : lw_okq (⟨"CardMachine$Processor", "talk", "(LCardMachine$Op;)I"⟩, 14) := ⟨⟨by decide +kernel, by decide +kernel⟩, List.mem_of_getElem? (i := 23) (by decide +kernel), List.mem_of_getElem? (i := 500) (by decide +kernel), List.mem_of_getElem? (i := 501) (by decide +kernel)⟩
theorem lw_p27 : lw_okq (⟨"CardMachine$Processor", "putCommandByte", "(I)I"⟩, 14) := ⟨⟨by decide +kernel, by decide +kernel⟩, List.mem_of_getElem? (i := 23) (by decide +kernel), List.mem_of_getElem? (i := 504) (by decide +kernel), List.mem_of_getElem? (i := 505) (by decide +kernel)⟩
theorem lw_p28 : lw_okq (⟨"CardMachine$Processor", "answerByte", "(I)I"⟩, 14) := ⟨⟨by decide +kernel, by decide +kernel⟩, List.mem_of_getElem? (i := 23) (by decide +kernel), List.mem_of_getElem? (i := 512) (by decide +kernel), List.mem_of_getElem? (i := 513) (by decide +kernel)⟩
theorem lw_p29 : lw_okq (⟨"CardMachine$Processor", "throwOrHandle", "(LCardMachine$Op;)I"⟩, 14) := ⟨⟨by decide +kernel, by decide +kernel⟩, List.mem_of_getElem? (i := 23) (by decide +kernel), List.mem_of_getElem? (i := 518) (by decide +kernel), List.mem_of_getElem? (i := 519) (by decide +kernel)⟩
theorem lw_p30 : lw_okq (⟨"CardMachine$Processor", "raise", "(I)V"⟩, 14) := ⟨⟨by decide +kernel, by decide +kernel⟩, List.mem_of_getElem? (i := 23) (by decide +kernel), List.mem_of_getElem? (i := 523) (by decide +kernel), List.mem_of_getElem? (i := 524) (by decide +kernel)⟩
theorem lw_p31 : lw_okq (⟨"CardMachineModel", "add", "(III)V"⟩, 37) := ⟨⟨by decide +kernel, by decide +kernel⟩, List.mem_of_getElem? (i := 577) (by decide +kernel), List.mem_of_getElem? (i := 583) (by decide +kernel), List.mem_of_getElem? (i := 584) (by decide +kernel)⟩
def lw_privs_2 : List (MethodName × Nat) := [(⟨"CardMachine$Processor", "call", "(LCardMachine$Op;)I"⟩, 14), (⟨"CardMachine$Processor", "useObjects", "(LCardMachine$Op;)I"⟩, 14), (⟨"CardMachine$Processor", "makeObject", "(I)I"⟩, 14), (⟨"CardMachine$Processor", "readCell", "()I"⟩, 14), (⟨"CardMachine$Store", "mayUse", "(II)Z"⟩, 15), (⟨"CardMachine$Processor", "writeCell", "()I"⟩, 14), (⟨"CardMachine$Processor", "putSize", "(I)I"⟩, 14), (⟨"CardMachine$Processor", "putOwner", "(I)I"⟩, 14), (⟨"CardMachine$Processor", "copyCells", "()I"⟩, 14), (⟨"CardMachine$Processor", "changeTransaction", "(LCardMachine$Op;)I"⟩, 14), (⟨"CardMachine$Processor", "talk", "(LCardMachine$Op;)I"⟩, 14), (⟨"CardMachine$Processor", "putCommandByte", "(I)I"⟩, 14), (⟨"CardMachine$Processor", "answerByte", "(I)I"⟩, 14), (⟨"CardMachine$Processor", "throwOrHandle", "(LCardMachine$Op;)I"⟩, 14), (⟨"CardMachine$Processor", "raise", "(I)V"⟩, 14), (⟨"CardMachineModel", "add", "(III)V"⟩, 37)]
theorem lw_r2 : ∀ q ∈ lw_privs_2, lw_okq q := List.forall_mem_cons.mpr ⟨lw_p16, List.forall_mem_cons.mpr ⟨lw_p17, List.forall_mem_cons.mpr ⟨lw_p18, List.forall_mem_cons.mpr ⟨lw_p19, List.forall_mem_cons.mpr ⟨lw_p20, List.forall_mem_cons.mpr ⟨lw_p21, List.forall_mem_cons.mpr ⟨lw_p22, List.forall_mem_cons.mpr ⟨lw_p23, List.forall_mem_cons.mpr ⟨lw_p24, List.forall_mem_cons.mpr ⟨lw_p25, List.forall_mem_cons.mpr ⟨lw_p26, List.forall_mem_cons.mpr ⟨lw_p27, List.forall_mem_cons.mpr ⟨lw_p28, List.forall_mem_cons.mpr ⟨lw_p29, List.forall_mem_cons.mpr ⟨lw_p30, List.forall_mem_cons.mpr ⟨lw_p31, fun _ h => absurd h List.not_mem_nil⟩⟩⟩⟩⟩⟩⟩⟩⟩⟩⟩⟩⟩⟩⟩⟩
theorem lw_p32 : lw_okq (⟨"CardMachineModel", "enter", "(I)V"⟩, 37) := ⟨⟨by decide +kernel, by decide +kernel⟩, List.mem_of_getElem? (i := 577) (by decide +kernel), List.mem_of_getElem? (i := 724) (by decide +kernel), List.mem_of_getElem? (i := 725) (by decide +kernel)⟩
theorem lw_p33 : lw_okq (⟨"CardMachineModel", "step", "()V"⟩, 37) := ⟨⟨by decide +kernel, by decide +kernel⟩, List.mem_of_getElem? (i := 577) (by decide +kernel), List.mem_of_getElem? (i := 728) (by decide +kernel), List.mem_of_getElem? (i := 729) (by decide +kernel)⟩
theorem lw_p34 : lw_okq (⟨"CardMachineModel", "fault", "()I"⟩, 37) := ⟨⟨by decide +kernel, by decide +kernel⟩, List.mem_of_getElem? (i := 577) (by decide +kernel), List.mem_of_getElem? (i := 732) (by decide +kernel), List.mem_of_getElem? (i := 733) (by decide +kernel)⟩
theorem lw_p35 : lw_okq (⟨"CardMachineModel", "here", "()I"⟩, 37) := ⟨⟨by decide +kernel, by decide +kernel⟩, List.mem_of_getElem? (i := 577) (by decide +kernel), List.mem_of_getElem? (i := 736) (by decide +kernel), List.mem_of_getElem? (i := 737) (by decide +kernel)⟩
theorem lw_p36 : lw_okq (⟨"CardMachineModel", "top", "()I"⟩, 37) := ⟨⟨by decide +kernel, by decide +kernel⟩, List.mem_of_getElem? (i := 577) (by decide +kernel), List.mem_of_getElem? (i := 740) (by decide +kernel), List.mem_of_getElem? (i := 741) (by decide +kernel)⟩
theorem lw_p37 : lw_okq (⟨"CardMachineModel", "byteAt", "(I)I"⟩, 37) := ⟨⟨by decide +kernel, by decide +kernel⟩, List.mem_of_getElem? (i := 577) (by decide +kernel), List.mem_of_getElem? (i := 744) (by decide +kernel), List.mem_of_getElem? (i := 745) (by decide +kernel)⟩
theorem lw_p38 : lw_okq (⟨"CardMachineModel", "depth", "()I"⟩, 37) := ⟨⟨by decide +kernel, by decide +kernel⟩, List.mem_of_getElem? (i := 577) (by decide +kernel), List.mem_of_getElem? (i := 751) (by decide +kernel), List.mem_of_getElem? (i := 752) (by decide +kernel)⟩
theorem lw_p39 : lw_okq (⟨"CardMachineModel", "takes", "(I)I"⟩, 37) := ⟨⟨by decide +kernel, by decide +kernel⟩, List.mem_of_getElem? (i := 577) (by decide +kernel), List.mem_of_getElem? (i := 755) (by decide +kernel), List.mem_of_getElem? (i := 756) (by decide +kernel)⟩
theorem lw_p40 : lw_okq (⟨"CardMachineModel", "at", "(I)I"⟩, 37) := ⟨⟨by decide +kernel, by decide +kernel⟩, List.mem_of_getElem? (i := 577) (by decide +kernel), List.mem_of_getElem? (i := 759) (by decide +kernel), List.mem_of_getElem? (i := 760) (by decide +kernel)⟩
theorem lw_p41 : lw_okq (⟨"CardMachineModel", "isObject", "(I)Z"⟩, 37) := ⟨⟨by decide +kernel, by decide +kernel⟩, List.mem_of_getElem? (i := 577) (by decide +kernel), List.mem_of_getElem? (i := 763) (by decide +kernel), List.mem_of_getElem? (i := 764) (by decide +kernel)⟩
theorem lw_p42 : lw_okq (⟨"CardMachineModel", "isShut", "(I)Z"⟩, 37) := ⟨⟨by decide +kernel, by decide +kernel⟩, List.mem_of_getElem? (i := 577) (by decide +kernel), List.mem_of_getElem? (i := 767) (by decide +kernel), List.mem_of_getElem? (i := 768) (by decide +kernel)⟩
theorem lw_p43 : lw_okq (⟨"CardMachineModel", "copyFault", "(IIIII)I"⟩, 37) := ⟨⟨by decide +kernel, by decide +kernel⟩, List.mem_of_getElem? (i := 577) (by decide +kernel), List.mem_of_getElem? (i := 771) (by decide +kernel), List.mem_of_getElem? (i := 772) (by decide +kernel)⟩
theorem lw_p44 : lw_okq (⟨"CardMachineModel", "throwIt", "(I)V"⟩, 37) := ⟨⟨by decide +kernel, by decide +kernel⟩, List.mem_of_getElem? (i := 577) (by decide +kernel), List.mem_of_getElem? (i := 775) (by decide +kernel), List.mem_of_getElem? (i := 776) (by decide +kernel)⟩
theorem lw_p45 : lw_okq (⟨"CardMachineModel", "put", "(I)V"⟩, 37) := ⟨⟨by decide +kernel, by decide +kernel⟩, List.mem_of_getElem? (i := 577) (by decide +kernel), List.mem_of_getElem? (i := 779) (by decide +kernel), List.mem_of_getElem? (i := 780) (by decide +kernel)⟩
theorem lw_p46 : lw_okq (⟨"CardMachineModel", "act", "(I)V"⟩, 37) := ⟨⟨by decide +kernel, by decide +kernel⟩, List.mem_of_getElem? (i := 577) (by decide +kernel), List.mem_of_getElem? (i := 783) (by decide +kernel), List.mem_of_getElem? (i := 784) (by decide +kernel)⟩
theorem lw_p47 : lw_okq (⟨"CardMachineModel", "replace", "(II)V"⟩, 37) := ⟨⟨by decide +kernel, by decide +kernel⟩, List.mem_of_getElem? (i := 577) (by decide +kernel), List.mem_of_getElem? (i := 791) (by decide +kernel), List.mem_of_getElem? (i := 792) (by decide +kernel)⟩
def lw_privs_3 : List (MethodName × Nat) := [(⟨"CardMachineModel", "enter", "(I)V"⟩, 37), (⟨"CardMachineModel", "step", "()V"⟩, 37), (⟨"CardMachineModel", "fault", "()I"⟩, 37), (⟨"CardMachineModel", "here", "()I"⟩, 37), (⟨"CardMachineModel", "top", "()I"⟩, 37), (⟨"CardMachineModel", "byteAt", "(I)I"⟩, 37), (⟨"CardMachineModel", "depth", "()I"⟩, 37), (⟨"CardMachineModel", "takes", "(I)I"⟩, 37), (⟨"CardMachineModel", "at", "(I)I"⟩, 37), (⟨"CardMachineModel", "isObject", "(I)Z"⟩, 37), (⟨"CardMachineModel", "isShut", "(I)Z"⟩, 37), (⟨"CardMachineModel", "copyFault", "(IIIII)I"⟩, 37), (⟨"CardMachineModel", "throwIt", "(I)V"⟩, 37), (⟨"CardMachineModel", "put", "(I)V"⟩, 37), (⟨"CardMachineModel", "act", "(I)V"⟩, 37), (⟨"CardMachineModel", "replace", "(II)V"⟩, 37)]
theorem lw_r3 : ∀ q ∈ lw_privs_3, lw_okq q := List.forall_mem_cons.mpr ⟨lw_p32, List.forall_mem_cons.mpr ⟨lw_p33, List.forall_mem_cons.mpr ⟨lw_p34, List.forall_mem_cons.mpr ⟨lw_p35, List.forall_mem_cons.mpr ⟨lw_p36, List.forall_mem_cons.mpr ⟨lw_p37, List.forall_mem_cons.mpr ⟨lw_p38, List.forall_mem_cons.mpr ⟨lw_p39, List.forall_mem_cons.mpr ⟨lw_p40, List.forall_mem_cons.mpr ⟨lw_p41, List.forall_mem_cons.mpr ⟨lw_p42, List.forall_mem_cons.mpr ⟨lw_p43, List.forall_mem_cons.mpr ⟨lw_p44, List.forall_mem_cons.mpr ⟨lw_p45, List.forall_mem_cons.mpr ⟨lw_p46, List.forall_mem_cons.mpr ⟨lw_p47, fun _ h => absurd h List.not_mem_nil⟩⟩⟩⟩⟩⟩⟩⟩⟩⟩⟩⟩⟩⟩⟩⟩
theorem lw_p48 : lw_okq (⟨"CardMachineModel", "drop", "(I)V"⟩, 37) := ⟨⟨by decide +kernel, by decide +kernel⟩, List.mem_of_getElem? (i := 577) (by decide +kernel), List.mem_of_getElem? (i := 795) (by decide +kernel), List.mem_of_getElem? (i := 796) (by decide +kernel)⟩
theorem lw_p49 : lw_okq (⟨"CardMachineModel", "on", "(I)V"⟩, 37) := ⟨⟨by decide +kernel, by decide +kernel⟩, List.mem_of_getElem? (i := 577) (by decide +kernel), List.mem_of_getElem? (i := 799) (by decide +kernel), List.mem_of_getElem? (i := 800) (by decide +kernel)⟩
theorem lw_p50 : lw_okq (⟨"CardMachineModel", "jump", "(I)V"⟩, 37) := ⟨⟨by decide +kernel, by decide +kernel⟩, List.mem_of_getElem? (i := 577) (by decide +kernel), List.mem_of_getElem? (i := 803) (by decide +kernel), List.mem_of_getElem? (i := 804) (by decide +kernel)⟩
theorem lw_p51 : lw_okq (⟨"CardMachineModel", "signed", "(I)I"⟩, 37) := ⟨⟨by decide +kernel, by decide +kernel⟩, List.mem_of_getElem? (i := 577) (by decide +kernel), List.mem_of_getElem? (i := 810) (by decide +kernel), List.mem_of_getElem? (i := 811) (by decide +kernel)⟩
theorem lw_p52 : lw_okq (⟨"CardMachineModel", "local", "(I)V"⟩, 37) := ⟨⟨by decide +kernel, by decide +kernel⟩, List.mem_of_getElem? (i := 577) (by decide +kernel), List.mem_of_getElem? (i := 814) (by decide +kernel), List.mem_of_getElem? (i := 815) (by decide +kernel)⟩
theorem lw_p53 : lw_okq (⟨"CardMachineModel", "transact", "(I)V"⟩, 37) := ⟨⟨by decide +kernel, by decide +kernel⟩, List.mem_of_getElem? (i := 577) (by decide +kernel), List.mem_of_getElem? (i := 818) (by decide +kernel), List.mem_of_getElem? (i := 819) (by decide +kernel)⟩
theorem lw_p54 : lw_okq (⟨"CardMachineModel", "writes", "()Z"⟩, 37) := ⟨⟨by decide +kernel, by decide +kernel⟩, List.mem_of_getElem? (i := 577) (by decide +kernel), List.mem_of_getElem? (i := 822) (by decide +kernel), List.mem_of_getElem? (i := 823) (by decide +kernel)⟩
theorem lw_p55 : lw_okq (⟨"CardMachineModel", "undoAll", "()V"⟩, 37) := ⟨⟨by decide +kernel, by decide +kernel⟩, List.mem_of_getElem? (i := 577) (by decide +kernel), List.mem_of_getElem? (i := 826) (by decide +kernel), List.mem_of_getElem? (i := 827) (by decide +kernel)⟩
theorem lw_p56 : lw_okq (⟨"CardMachineModel", "callIt", "()V"⟩, 37) := ⟨⟨by decide +kernel, by decide +kernel⟩, List.mem_of_getElem? (i := 577) (by decide +kernel), List.mem_of_getElem? (i := 830) (by decide +kernel), List.mem_of_getElem? (i := 831) (by decide +kernel)⟩
theorem lw_p57 : lw_okq (⟨"CardMachineModel", "leave", "(Z)V"⟩, 37) := ⟨⟨by decide +kernel, by decide +kernel⟩, List.mem_of_getElem? (i := 577) (by decide +kernel), List.mem_of_getElem? (i := 834) (by decide +kernel), List.mem_of_getElem? (i := 835) (by decide +kernel)⟩
theorem lw_p58 : lw_okq (⟨"CardMachineModel", "make", "(I)V"⟩, 37) := ⟨⟨by decide +kernel, by decide +kernel⟩, List.mem_of_getElem? (i := 577) (by decide +kernel), List.mem_of_getElem? (i := 838) (by decide +kernel), List.mem_of_getElem? (i := 839) (by decide +kernel)⟩
theorem lw_p59 : lw_okq (⟨"CardMachineModel", "store", "()V"⟩, 37) := ⟨⟨by decide +kernel, by decide +kernel⟩, List.mem_of_getElem? (i := 577) (by decide +kernel), List.mem_of_getElem? (i := 842) (by decide +kernel), List.mem_of_getElem? (i := 843) (by decide +kernel)⟩
theorem lw_p60 : lw_okq (⟨"CardMachineModel", "copy", "()V"⟩, 37) := ⟨⟨by decide +kernel, by decide +kernel⟩, List.mem_of_getElem? (i := 577) (by decide +kernel), List.mem_of_getElem? (i := 846) (by decide +kernel), List.mem_of_getElem? (i := 847) (by decide +kernel)⟩
theorem lw_p61 : lw_okq (⟨"CardMachineModel", "actSmall", "(I)V"⟩, 37) := ⟨⟨by decide +kernel, by decide +kernel⟩, List.mem_of_getElem? (i := 577) (by decide +kernel), List.mem_of_getElem? (i := 850) (by decide +kernel), List.mem_of_getElem? (i := 851) (by decide +kernel)⟩
def lw_privs_4 : List (MethodName × Nat) := [(⟨"CardMachineModel", "drop", "(I)V"⟩, 37), (⟨"CardMachineModel", "on", "(I)V"⟩, 37), (⟨"CardMachineModel", "jump", "(I)V"⟩, 37), (⟨"CardMachineModel", "signed", "(I)I"⟩, 37), (⟨"CardMachineModel", "local", "(I)V"⟩, 37), (⟨"CardMachineModel", "transact", "(I)V"⟩, 37), (⟨"CardMachineModel", "writes", "()Z"⟩, 37), (⟨"CardMachineModel", "undoAll", "()V"⟩, 37), (⟨"CardMachineModel", "callIt", "()V"⟩, 37), (⟨"CardMachineModel", "leave", "(Z)V"⟩, 37), (⟨"CardMachineModel", "make", "(I)V"⟩, 37), (⟨"CardMachineModel", "store", "()V"⟩, 37), (⟨"CardMachineModel", "copy", "()V"⟩, 37), (⟨"CardMachineModel", "actSmall", "(I)V"⟩, 37)]
theorem lw_r4 : ∀ q ∈ lw_privs_4, lw_okq q := List.forall_mem_cons.mpr ⟨lw_p48, List.forall_mem_cons.mpr ⟨lw_p49, List.forall_mem_cons.mpr ⟨lw_p50, List.forall_mem_cons.mpr ⟨lw_p51, List.forall_mem_cons.mpr ⟨lw_p52, List.forall_mem_cons.mpr ⟨lw_p53, List.forall_mem_cons.mpr ⟨lw_p54, List.forall_mem_cons.mpr ⟨lw_p55, List.forall_mem_cons.mpr ⟨lw_p56, List.forall_mem_cons.mpr ⟨lw_p57, List.forall_mem_cons.mpr ⟨lw_p58, List.forall_mem_cons.mpr ⟨lw_p59, List.forall_mem_cons.mpr ⟨lw_p60, List.forall_mem_cons.mpr ⟨lw_p61, fun _ h => absurd h List.not_mem_nil⟩⟩⟩⟩⟩⟩⟩⟩⟩⟩⟩⟩⟩⟩
def lw_privs : List (MethodName × Nat) := lw_privs_1 ++ (lw_privs_2 ++ (lw_privs_3 ++ (lw_privs_4)))
def lw_tbl : List Cond := k2_sels lw_privs ++ tables_1
theorem lw_privs_ok : ∀ q ∈ lw_privs, lw_okq q := by
  show ∀ q ∈ lw_privs_1 ++ (lw_privs_2 ++ (lw_privs_3 ++ (lw_privs_4))), lw_okq q
  exact List.forall_mem_append.mpr ⟨lw_r1, List.forall_mem_append.mpr ⟨lw_r2, List.forall_mem_append.mpr ⟨lw_r3, lw_r4⟩⟩⟩
def RX0 : String := "CardMachine$1"
def TX0 : u_T := fun k => match k with
  | _ => ("", "", "", false)
def tyX0 : Nat → FieldType := fun k => match k with
  | _ => .int
abbrev wsX00 : List Cond := u_ws RX0 TX0 0
theorem nmX0 : ∀ a, a < 0 → ∀ b, b < 0 → a ≠ b → (TX0 a).2.1 ≠ (TX0 b).2.1 := by decide +kernel
theorem tyX0_ok : ∀ k, k < 0 → parseFieldDescriptor (TX0 k).2.2.1 = some (tyX0 k) := by decide +kernel
def RX1 : String := "CardMachine$ByteRow"
def TX1 : u_T := fun k => match k with
  | 0 => ("CardMachine$ByteRow", "bytes", "[I", true)
  | _ => ("CardMachine$ByteRow", "length", "I", false)
def tyX1 : Nat → FieldType := fun k => match k with
  | 0 => .array .int
  | _ => .int
abbrev wsX10 : List Cond := u_ws RX1 TX1 2
theorem nmX1 : ∀ a, a < 2 → ∀ b, b < 2 → a ≠ b → (TX1 a).2.1 ≠ (TX1 b).2.1 := by decide +kernel
theorem tyX1_ok : ∀ k, k < 2 → parseFieldDescriptor (TX1 k).2.2.1 = some (tyX1 k) := by decide +kernel
abbrev cX1_init : ByteArray := prog_3_method_1_code
def yX1_init : MethodName := ⟨RX1, "<init>", "()V"⟩
abbrev cX1_isFull : ByteArray := prog_3_method_2_code
def yX1_isFull : MethodName := ⟨RX1, "isFull", "()Z"⟩
abbrev cX1_has : ByteArray := prog_3_method_3_code
def yX1_has : MethodName := ⟨RX1, "has", "(I)Z"⟩
abbrev cX1_add : ByteArray := prog_3_method_4_code
def yX1_add : MethodName := ⟨RX1, "add", "(I)V"⟩
def RX2 : String := "CardMachine$Frame"
def TX2 : u_T := fun k => match k with
  | 0 => ("CardMachine$Frame", "locals", "[I", true)
  | 1 => ("CardMachine$Frame", "stack", "[I", true)
  | 2 => ("CardMachine$Frame", "height", "I", false)
  | 3 => ("CardMachine$Frame", "owner", "I", false)
  | 4 => ("CardMachine$Frame", "place", "I", false)
  | _ => ("CardMachine$Frame", "handler", "I", false)
def tyX2 : Nat → FieldType := fun k => match k with
  | 0 => .array .int
  | 1 => .array .int
  | 2 => .int
  | 3 => .int
  | 4 => .int
  | _ => .int
abbrev wsX20 : List Cond := u_ws RX2 TX2 6
theorem nmX2 : ∀ a, a < 6 → ∀ b, b < 6 → a ≠ b → (TX2 a).2.1 ≠ (TX2 b).2.1 := by decide +kernel
theorem tyX2_ok : ∀ k, k < 6 → parseFieldDescriptor (TX2 k).2.2.1 = some (tyX2 k) := by decide +kernel
abbrev cX2_init : ByteArray := prog_4_method_1_code
def yX2_init : MethodName := ⟨RX2, "<init>", "()V"⟩
abbrev cX2_begin : ByteArray := prog_4_method_2_code
def yX2_begin : MethodName := ⟨RX2, "begin", "(LCardMachine$Method;)V"⟩
abbrev cX2_hasRoom : ByteArray := prog_4_method_3_code
def yX2_hasRoom : MethodName := ⟨RX2, "hasRoom", "(I)Z"⟩
abbrev cX2_push : ByteArray := prog_4_method_4_code
def yX2_push : MethodName := ⟨RX2, "push", "(I)V"⟩
abbrev cX2_pop : ByteArray := prog_4_method_5_code
def yX2_pop : MethodName := ⟨RX2, "pop", "()I"⟩
abbrev cX2_top : ByteArray := prog_4_method_6_code
def yX2_top : MethodName := ⟨RX2, "top", "()I"⟩
abbrev cX2_addToLocal : ByteArray := prog_4_method_7_code
def yX2_addToLocal : MethodName := ⟨RX2, "addToLocal", "(II)V"⟩
abbrev cX2_handle : ByteArray := prog_4_method_8_code
def yX2_handle : MethodName := ⟨RX2, "handle", "(I)V"⟩
def RX3 : String := "CardMachine$Method"
def TX3 : u_T := fun k => match k with
  | 0 => ("CardMachine$Method", "owner", "I", false)
  | 1 => ("CardMachine$Method", "from", "I", false)
  | _ => ("CardMachine$Method", "open", "Z", false)
def tyX3 : Nat → FieldType := fun k => match k with
  | 0 => .int
  | 1 => .int
  | _ => .boolean
abbrev wsX30 : List Cond := u_ws RX3 TX3 3
theorem nmX3 : ∀ a, a < 3 → ∀ b, b < 3 → a ≠ b → (TX3 a).2.1 ≠ (TX3 b).2.1 := by decide +kernel
theorem tyX3_ok : ∀ k, k < 3 → parseFieldDescriptor (TX3 k).2.2.1 = some (tyX3 k) := by decide +kernel
abbrev cX3_init : ByteArray := prog_5_method_1_code
def yX3_init : MethodName := ⟨RX3, "<init>", "()V"⟩
def RX4 : String := "CardMachine$Op"
def TX4 : u_T := fun k => match k with
  | _ => ("", "", "", false)
def tyX4 : Nat → FieldType := fun k => match k with
  | _ => .int
abbrev wsX40 : List Cond := u_ws RX4 TX4 0
theorem nmX4 : ∀ a, a < 0 → ∀ b, b < 0 → a ≠ b → (TX4 a).2.1 ≠ (TX4 b).2.1 := by decide +kernel
theorem tyX4_ok : ∀ k, k < 0 → parseFieldDescriptor (TX4 k).2.2.1 = some (tyX4 k) := by decide +kernel
def RX5 : String := "CardMachine$Power"
def TX5 : u_T := fun k => match k with
  | 0 => ("CardMachine$Power", "on", "Z", false)
  | _ => ("CardMachine$Power", "writesLeft", "I", false)
def tyX5 : Nat → FieldType := fun k => match k with
  | 0 => .boolean
  | _ => .int
abbrev wsX50 : List Cond := u_ws RX5 TX5 2
theorem nmX5 : ∀ a, a < 2 → ∀ b, b < 2 → a ≠ b → (TX5 a).2.1 ≠ (TX5 b).2.1 := by decide +kernel
theorem tyX5_ok : ∀ k, k < 2 → parseFieldDescriptor (TX5 k).2.2.1 = some (tyX5 k) := by decide +kernel
abbrev cX5_init : ByteArray := prog_7_method_1_code
def yX5_init : MethodName := ⟨RX5, "<init>", "()V"⟩
abbrev cX5_setTear : ByteArray := prog_7_method_2_code
def yX5_setTear : MethodName := ⟨RX5, "setTear", "(I)V"⟩
abbrev cX5_lastsForWrite : ByteArray := prog_7_method_3_code
def yX5_lastsForWrite : MethodName := ⟨RX5, "lastsForWrite", "()Z"⟩
def RX6 : String := "CardMachine$Processor"
def TX6 : u_T := fun k => match k with
  | 0 => ("CardMachine$Processor", "code", "[I", true)
  | 1 => ("CardMachine$Processor", "methods", "[LCardMachine$Method;", true)
  | 2 => ("CardMachine$Processor", "store", "LCardMachine$Store;", true)
  | 3 => ("CardMachine$Processor", "command", "LCardMachine$ByteRow;", true)
  | 4 => ("CardMachine$Processor", "reply", "LCardMachine$ByteRow;", true)
  | 5 => ("CardMachine$Processor", "uncaught", "I", false)
  | 6 => ("CardMachine$Processor", "result", "I", false)
  | 7 => ("CardMachine$Processor", "spent", "I", false)
  | 8 => ("CardMachine$Processor", "frames", "[LCardMachine$Frame;", true)
  | 9 => ("CardMachine$Processor", "depth", "I", false)
  | 10 => ("CardMachine$Processor", "frame", "LCardMachine$Frame;", false)
  | 11 => ("CardMachine$Processor", "at", "I", false)
  | 12 => ("CardMachine$Processor", "fuel", "I", false)
  | _ => ("CardMachine$Processor", "answer", "I", false)
def tyX6 : Nat → FieldType := fun k => match k with
  | 0 => .array .int
  | 1 => .array (.object "CardMachine$Method")
  | 2 => .object "CardMachine$Store"
  | 3 => .object "CardMachine$ByteRow"
  | 4 => .object "CardMachine$ByteRow"
  | 5 => .int
  | 6 => .int
  | 7 => .int
  | 8 => .array (.object "CardMachine$Frame")
  | 9 => .int
  | 10 => .object "CardMachine$Frame"
  | 11 => .int
  | 12 => .int
  | _ => .int
abbrev wsX60 : List Cond := u_ws RX6 TX6 14
theorem nmX6 : ∀ a, a < 14 → ∀ b, b < 14 → a ≠ b → (TX6 a).2.1 ≠ (TX6 b).2.1 := by decide +kernel
theorem tyX6_ok : ∀ k, k < 14 → parseFieldDescriptor (TX6 k).2.2.1 = some (tyX6 k) := by decide +kernel
abbrev cX6_init : ByteArray := prog_8_method_1_code
def yX6_init : MethodName := ⟨RX6, "<init>", "()V"⟩
abbrev cX6_perform : ByteArray := prog_8_method_2_code
def yX6_perform : MethodName := ⟨RX6, "perform", "(LCardMachine$Method;I)I"⟩
abbrev cX6_begin : ByteArray := prog_8_method_3_code
def yX6_begin : MethodName := ⟨RX6, "begin", "(LCardMachine$Method;I)V"⟩
abbrev cX6_step : ByteArray := prog_8_method_4_code
def yX6_step : MethodName := ⟨RX6, "step", "()I"⟩
abbrev cX6_fetchFault : ByteArray := prog_8_method_5_code
def yX6_fetchFault : MethodName := ⟨RX6, "fetchFault", "()I"⟩
abbrev cX6_raise : ByteArray := prog_8_method_6_code
def yX6_raise : MethodName := ⟨RX6, "raise", "(I)V"⟩
abbrev cX6_enter : ByteArray := prog_8_method_7_code
def yX6_enter : MethodName := ⟨RX6, "enter", "(LCardMachine$Method;)V"⟩
abbrev cX6_leave : ByteArray := prog_8_method_8_code
def yX6_leave : MethodName := ⟨RX6, "leave", "()V"⟩
abbrev cX6_unsigned : ByteArray := prog_8_method_9_code
def yX6_unsigned : MethodName := ⟨RX6, "unsigned", "(I)I"⟩
abbrev cX6_signed : ByteArray := prog_8_method_10_code
def yX6_signed : MethodName := ⟨RX6, "signed", "(I)I"⟩
abbrev cX6_put : ByteArray := prog_8_method_11_code
def yX6_put : MethodName := ⟨RX6, "put", "(I)I"⟩
abbrev cX6_move : ByteArray := prog_8_method_12_code
def yX6_move : MethodName := ⟨RX6, "move", "(LCardMachine$Op;)I"⟩
abbrev cX6_swap : ByteArray := prog_8_method_13_code
def yX6_swap : MethodName := ⟨RX6, "swap", "()I"⟩
abbrev cX6_reckon : ByteArray := prog_8_method_14_code
def yX6_reckon : MethodName := ⟨RX6, "reckon", "(LCardMachine$Op;)I"⟩
abbrev cX6_jump : ByteArray := prog_8_method_15_code
def yX6_jump : MethodName := ⟨RX6, "jump", "(LCardMachine$Op;)I"⟩
abbrev cX6_holds : ByteArray := prog_8_method_16_code
def yX6_holds : MethodName := ⟨RX6, "holds", "(II)Z"⟩
abbrev cX6_callOrEnd : ByteArray := prog_8_method_17_code
def yX6_callOrEnd : MethodName := ⟨RX6, "callOrEnd", "(LCardMachine$Op;)I"⟩
abbrev cX6_call : ByteArray := prog_8_method_18_code
def yX6_call : MethodName := ⟨RX6, "call", "(LCardMachine$Op;)I"⟩
abbrev cX6_end : ByteArray := prog_8_method_19_code
def yX6_end : MethodName := ⟨RX6, "end", "()I"⟩
abbrev cX6_endWith : ByteArray := prog_8_method_20_code
def yX6_endWith : MethodName := ⟨RX6, "endWith", "(I)I"⟩
abbrev cX6_useObjects : ByteArray := prog_8_method_21_code
def yX6_useObjects : MethodName := ⟨RX6, "useObjects", "(LCardMachine$Op;)I"⟩
abbrev cX6_makeObject : ByteArray := prog_8_method_22_code
def yX6_makeObject : MethodName := ⟨RX6, "makeObject", "(I)I"⟩
abbrev cX6_readCell : ByteArray := prog_8_method_23_code
def yX6_readCell : MethodName := ⟨RX6, "readCell", "()I"⟩
abbrev cX6_writeCell : ByteArray := prog_8_method_24_code
def yX6_writeCell : MethodName := ⟨RX6, "writeCell", "()I"⟩
abbrev cX6_putSize : ByteArray := prog_8_method_25_code
def yX6_putSize : MethodName := ⟨RX6, "putSize", "(I)I"⟩
abbrev cX6_putOwner : ByteArray := prog_8_method_26_code
def yX6_putOwner : MethodName := ⟨RX6, "putOwner", "(I)I"⟩
abbrev cX6_copyCells : ByteArray := prog_8_method_27_code
def yX6_copyCells : MethodName := ⟨RX6, "copyCells", "()I"⟩
abbrev cX6_changeTransaction : ByteArray := prog_8_method_28_code
def yX6_changeTransaction : MethodName := ⟨RX6, "changeTransaction", "(LCardMachine$Op;)I"⟩
abbrev cX6_talk : ByteArray := prog_8_method_29_code
def yX6_talk : MethodName := ⟨RX6, "talk", "(LCardMachine$Op;)I"⟩
abbrev cX6_putCommandByte : ByteArray := prog_8_method_30_code
def yX6_putCommandByte : MethodName := ⟨RX6, "putCommandByte", "(I)I"⟩
abbrev cX6_answerByte : ByteArray := prog_8_method_31_code
def yX6_answerByte : MethodName := ⟨RX6, "answerByte", "(I)I"⟩
abbrev cX6_throwOrHandle : ByteArray := prog_8_method_32_code
def yX6_throwOrHandle : MethodName := ⟨RX6, "throwOrHandle", "(LCardMachine$Op;)I"⟩
def RX7 : String := "CardMachine$Store"
def TX7 : u_T := fun k => match k with
  | 0 => ("CardMachine$Store", "power", "LCardMachine$Power;", true)
  | 1 => ("CardMachine$Store", "owners", "[I", true)
  | 2 => ("CardMachine$Store", "sorts", "[I", true)
  | 3 => ("CardMachine$Store", "sizes", "[I", true)
  | 4 => ("CardMachine$Store", "objectCount", "I", false)
  | 5 => ("CardMachine$Store", "inTransaction", "Z", false)
  | 6 => ("CardMachine$Store", "firstCells", "[I", true)
  | 7 => ("CardMachine$Store", "cells", "[I", true)
  | 8 => ("CardMachine$Store", "cellCount", "I", false)
  | 9 => ("CardMachine$Store", "writtenCells", "[I", true)
  | 10 => ("CardMachine$Store", "valuesBefore", "[I", true)
  | 11 => ("CardMachine$Store", "cellWrites", "I", false)
  | 12 => ("CardMachine$Store", "things", "I", false)
  | 13 => ("CardMachine$Store", "objectsBefore", "I", false)
  | _ => ("CardMachine$Store", "cellsBefore", "I", false)
def tyX7 : Nat → FieldType := fun k => match k with
  | 0 => .object "CardMachine$Power"
  | 1 => .array .int
  | 2 => .array .int
  | 3 => .array .int
  | 4 => .int
  | 5 => .boolean
  | 6 => .array .int
  | 7 => .array .int
  | 8 => .int
  | 9 => .array .int
  | 10 => .array .int
  | 11 => .int
  | 12 => .int
  | 13 => .int
  | _ => .int
abbrev wsX70 : List Cond := u_ws RX7 TX7 15
theorem nmX7 : ∀ a, a < 15 → ∀ b, b < 15 → a ≠ b → (TX7 a).2.1 ≠ (TX7 b).2.1 := by decide +kernel
theorem tyX7_ok : ∀ k, k < 15 → parseFieldDescriptor (TX7 k).2.2.1 = some (tyX7 k) := by decide +kernel
abbrev cX7_init : ByteArray := prog_9_method_1_code
def yX7_init : MethodName := ⟨RX7, "<init>", "()V"⟩
abbrev cX7_has : ByteArray := prog_9_method_2_code
def yX7_has : MethodName := ⟨RX7, "has", "(I)Z"⟩
abbrev cX7_hasCells : ByteArray := prog_9_method_3_code
def yX7_hasCells : MethodName := ⟨RX7, "hasCells", "(III)Z"⟩
abbrev cX7_read : ByteArray := prog_9_method_4_code
def yX7_read : MethodName := ⟨RX7, "read", "(II)I"⟩
abbrev cX7_cellFault : ByteArray := prog_9_method_5_code
def yX7_cellFault : MethodName := ⟨RX7, "cellFault", "(III)I"⟩
abbrev cX7_thingFault : ByteArray := prog_9_method_6_code
def yX7_thingFault : MethodName := ⟨RX7, "thingFault", "()I"⟩
abbrev cX7_makeFault : ByteArray := prog_9_method_7_code
def yX7_makeFault : MethodName := ⟨RX7, "makeFault", "(I)I"⟩
abbrev cX7_copyFault : ByteArray := prog_9_method_8_code
def yX7_copyFault : MethodName := ⟨RX7, "copyFault", "(IIIIII)I"⟩
abbrev cX7_write : ByteArray := prog_9_method_9_code
def yX7_write : MethodName := ⟨RX7, "write", "(III)V"⟩
abbrev cX7_make : ByteArray := prog_9_method_10_code
def yX7_make : MethodName := ⟨RX7, "make", "(III)I"⟩
abbrev cX7_copy : ByteArray := prog_9_method_11_code
def yX7_copy : MethodName := ⟨RX7, "copy", "(IIIII)V"⟩
abbrev cX7_begin : ByteArray := prog_9_method_12_code
def yX7_begin : MethodName := ⟨RX7, "begin", "()V"⟩
abbrev cX7_close : ByteArray := prog_9_method_13_code
def yX7_close : MethodName := ⟨RX7, "close", "()V"⟩
abbrev cX7_undo : ByteArray := prog_9_method_14_code
def yX7_undo : MethodName := ⟨RX7, "undo", "()Z"⟩
abbrev cX7_mayUse : ByteArray := prog_9_method_15_code
def yX7_mayUse : MethodName := ⟨RX7, "mayUse", "(II)Z"⟩
abbrev cX7_add : ByteArray := prog_9_method_16_code
def yX7_add : MethodName := ⟨RX7, "add", "(III)V"⟩
def RX8 : String := "CardMachine"
def TX8 : u_T := fun k => match k with
  | _ => ("CardMachine", "processor", "LCardMachine$Processor;", true)
def tyX8 : Nat → FieldType := fun k => match k with
  | _ => .object "CardMachine$Processor"
abbrev wsX80 : List Cond := u_ws RX8 TX8 1
theorem nmX8 : ∀ a, a < 1 → ∀ b, b < 1 → a ≠ b → (TX8 a).2.1 ≠ (TX8 b).2.1 := by decide +kernel
theorem tyX8_ok : ∀ k, k < 1 → parseFieldDescriptor (TX8 k).2.2.1 = some (tyX8 k) := by decide +kernel
abbrev cX8_init : ByteArray := prog_1_method_1_code
def yX8_init : MethodName := ⟨RX8, "<init>", "()V"⟩
abbrev cX8_code : ByteArray := prog_1_method_2_code
def yX8_code : MethodName := ⟨RX8, "code", "(II)I"⟩
abbrev cX8_codes : ByteArray := prog_1_method_3_code
def yX8_codes : MethodName := ⟨RX8, "codes", "(IJI)I"⟩
abbrev cX8_method : ByteArray := prog_1_method_4_code
def yX8_method : MethodName := ⟨RX8, "method", "(IIIZ)I"⟩
abbrev cX8_type : ByteArray := prog_1_method_5_code
def yX8_type : MethodName := ⟨RX8, "type", "(I)I"⟩
abbrev cX8_run : ByteArray := prog_1_method_6_code
def yX8_run : MethodName := ⟨RX8, "run", "(II)I"⟩
abbrev cX8_thrown0 : ByteArray := prog_1_method_7_code
def yX8_thrown0 : MethodName := ⟨RX8, "thrown0", "()I"⟩
abbrev cX8_value : ByteArray := prog_1_method_8_code
def yX8_value : MethodName := ⟨RX8, "value", "()I"⟩
abbrev cX8_reply : ByteArray := prog_1_method_9_code
def yX8_reply : MethodName := ⟨RX8, "reply", "(I)I"⟩
abbrev cX8_used : ByteArray := prog_1_method_10_code
def yX8_used : MethodName := ⟨RX8, "used", "()I"⟩
abbrev cX8_tear : ByteArray := prog_1_method_11_code
def yX8_tear : MethodName := ⟨RX8, "tear", "(I)I"⟩
abbrev cX8_reset : ByteArray := prog_1_method_12_code
def yX8_reset : MethodName := ⟨RX8, "reset", "()I"⟩
abbrev cX8_objects : ByteArray := prog_1_method_13_code
def yX8_objects : MethodName := ⟨RX8, "objects", "()I"⟩
abbrev cX8_told : ByteArray := prog_1_method_14_code
def yX8_told : MethodName := ⟨RX8, "told", "(II)I"⟩
abbrev cX8_cell : ByteArray := prog_1_method_15_code
def yX8_cell : MethodName := ⟨RX8, "cell", "(II)I"⟩
abbrev cX8_isByte : ByteArray := prog_1_method_16_code
def yX8_isByte : MethodName := ⟨RX8, "isByte", "(I)Z"⟩
abbrev cX8_isMethod : ByteArray := prog_1_method_17_code
def yX8_isMethod : MethodName := ⟨RX8, "isMethod", "(I)Z"⟩
def RX9 : String := "CardMachineModel"
def TX9 : u_T := fun k => match k with
  | 0 => ("CardMachineModel", "code", "[I", true)
  | 1 => ("CardMachineModel", "methodOwner", "[I", true)
  | 2 => ("CardMachineModel", "methodFrom", "[I", true)
  | 3 => ("CardMachineModel", "methodOpen", "[Z", true)
  | 4 => ("CardMachineModel", "objects", "I", false)
  | 5 => ("CardMachineModel", "owner", "[I", true)
  | 6 => ("CardMachineModel", "sort", "[I", true)
  | 7 => ("CardMachineModel", "size", "[I", true)
  | 8 => ("CardMachineModel", "base", "[I", true)
  | 9 => ("CardMachineModel", "cells", "[I", true)
  | 10 => ("CardMachineModel", "cellsUsed", "I", false)
  | 11 => ("CardMachineModel", "power", "Z", false)
  | 12 => ("CardMachineModel", "tear", "I", false)
  | 13 => ("CardMachineModel", "open", "Z", false)
  | 14 => ("CardMachineModel", "things", "I", false)
  | 15 => ("CardMachineModel", "changes", "I", false)
  | 16 => ("CardMachineModel", "changedAt", "[I", true)
  | 17 => ("CardMachineModel", "changedFrom", "[I", true)
  | 18 => ("CardMachineModel", "objectsBefore", "I", false)
  | 19 => ("CardMachineModel", "cellsBefore", "I", false)
  | 20 => ("CardMachineModel", "command", "[I", true)
  | 21 => ("CardMachineModel", "commandSize", "I", false)
  | 22 => ("CardMachineModel", "reply", "[I", true)
  | 23 => ("CardMachineModel", "replySize", "I", false)
  | 24 => ("CardMachineModel", "frames", "I", false)
  | 25 => ("CardMachineModel", "frameOwner", "[I", true)
  | 26 => ("CardMachineModel", "place", "[I", true)
  | 27 => ("CardMachineModel", "handler", "[I", true)
  | 28 => ("CardMachineModel", "locals", "[I", true)
  | 29 => ("CardMachineModel", "stack", "[I", true)
  | 30 => ("CardMachineModel", "high", "[I", true)
  | 31 => ("CardMachineModel", "fuel", "I", false)
  | 32 => ("CardMachineModel", "used", "I", false)
  | 33 => ("CardMachineModel", "thrownValue", "I", false)
  | 34 => ("CardMachineModel", "endValue", "I", false)
  | 35 => ("CardMachineModel", "result", "I", false)
  | _ => ("CardMachineModel", "target", "[I", true)
def tyX9 : Nat → FieldType := fun k => match k with
  | 0 => .array .int
  | 1 => .array .int
  | 2 => .array .int
  | 3 => .array .boolean
  | 4 => .int
  | 5 => .array .int
  | 6 => .array .int
  | 7 => .array .int
  | 8 => .array .int
  | 9 => .array .int
  | 10 => .int
  | 11 => .boolean
  | 12 => .int
  | 13 => .boolean
  | 14 => .int
  | 15 => .int
  | 16 => .array .int
  | 17 => .array .int
  | 18 => .int
  | 19 => .int
  | 20 => .array .int
  | 21 => .int
  | 22 => .array .int
  | 23 => .int
  | 24 => .int
  | 25 => .array .int
  | 26 => .array .int
  | 27 => .array .int
  | 28 => .array .int
  | 29 => .array .int
  | 30 => .array .int
  | 31 => .int
  | 32 => .int
  | 33 => .int
  | 34 => .int
  | 35 => .int
  | _ => .array .int
abbrev wsX90 : List Cond := u_ws RX9 TX9 37
theorem nmX9 : ∀ a, a < 37 → ∀ b, b < 37 → a ≠ b → (TX9 a).2.1 ≠ (TX9 b).2.1 := by decide +kernel
theorem tyX9_ok : ∀ k, k < 37 → parseFieldDescriptor (TX9 k).2.2.1 = some (tyX9 k) := by decide +kernel
abbrev cX9_init : ByteArray := prog_11_method_1_code
def yX9_init : MethodName := ⟨RX9, "<init>", "()V"⟩
abbrev cX9_isIn : ByteArray := prog_11_method_2_code
def yX9_isIn : MethodName := ⟨RX9, "isIn", "(III)Z"⟩
abbrev cX9_add : ByteArray := prog_11_method_3_code
def yX9_add : MethodName := ⟨RX9, "add", "(III)V"⟩
abbrev cX9_code : ByteArray := prog_11_method_4_code
def yX9_code : MethodName := ⟨RX9, "code", "(II)I"⟩
abbrev cX9_codes : ByteArray := prog_11_method_5_code
def yX9_codes : MethodName := ⟨RX9, "codes", "(IJI)I"⟩
abbrev cX9_method : ByteArray := prog_11_method_6_code
def yX9_method : MethodName := ⟨RX9, "method", "(IIIZ)I"⟩
abbrev cX9_type : ByteArray := prog_11_method_7_code
def yX9_type : MethodName := ⟨RX9, "type", "(I)I"⟩
abbrev cX9_top : ByteArray := prog_11_method_8_code
def yX9_top : MethodName := ⟨RX9, "top", "()I"⟩
abbrev cX9_depth : ByteArray := prog_11_method_9_code
def yX9_depth : MethodName := ⟨RX9, "depth", "()I"⟩
abbrev cX9_at : ByteArray := prog_11_method_10_code
def yX9_at : MethodName := ⟨RX9, "at", "(I)I"⟩
abbrev cX9_put : ByteArray := prog_11_method_11_code
def yX9_put : MethodName := ⟨RX9, "put", "(I)V"⟩
abbrev cX9_drop : ByteArray := prog_11_method_12_code
def yX9_drop : MethodName := ⟨RX9, "drop", "(I)V"⟩
abbrev cX9_here : ByteArray := prog_11_method_13_code
def yX9_here : MethodName := ⟨RX9, "here", "()I"⟩
abbrev cX9_byteAt : ByteArray := prog_11_method_14_code
def yX9_byteAt : MethodName := ⟨RX9, "byteAt", "(I)I"⟩
abbrev cX9_signed : ByteArray := prog_11_method_15_code
def yX9_signed : MethodName := ⟨RX9, "signed", "(I)I"⟩
abbrev cX9_on : ByteArray := prog_11_method_16_code
def yX9_on : MethodName := ⟨RX9, "on", "(I)V"⟩
abbrev cX9_enter : ByteArray := prog_11_method_17_code
def yX9_enter : MethodName := ⟨RX9, "enter", "(I)V"⟩
abbrev cX9_length : ByteArray := prog_11_method_18_code
def yX9_length : MethodName := ⟨RX9, "length", "(I)I"⟩
abbrev cX9_takes : ByteArray := prog_11_method_19_code
def yX9_takes : MethodName := ⟨RX9, "takes", "(I)I"⟩
abbrev cX9_isObject : ByteArray := prog_11_method_20_code
def yX9_isObject : MethodName := ⟨RX9, "isObject", "(I)Z"⟩
abbrev cX9_isShut : ByteArray := prog_11_method_21_code
def yX9_isShut : MethodName := ⟨RX9, "isShut", "(I)Z"⟩
abbrev cX9_fault : ByteArray := prog_11_method_22_code
def yX9_fault : MethodName := ⟨RX9, "fault", "()I"⟩
abbrev cX9_copyFault : ByteArray := prog_11_method_23_code
def yX9_copyFault : MethodName := ⟨RX9, "copyFault", "(IIIII)I"⟩
abbrev cX9_writes : ByteArray := prog_11_method_24_code
def yX9_writes : MethodName := ⟨RX9, "writes", "()Z"⟩
abbrev cX9_undoAll : ByteArray := prog_11_method_25_code
def yX9_undoAll : MethodName := ⟨RX9, "undoAll", "()V"⟩
abbrev cX9_throwIt : ByteArray := prog_11_method_26_code
def yX9_throwIt : MethodName := ⟨RX9, "throwIt", "(I)V"⟩
abbrev cX9_make : ByteArray := prog_11_method_27_code
def yX9_make : MethodName := ⟨RX9, "make", "(I)V"⟩
abbrev cX9_store : ByteArray := prog_11_method_28_code
def yX9_store : MethodName := ⟨RX9, "store", "()V"⟩
abbrev cX9_copy : ByteArray := prog_11_method_29_code
def yX9_copy : MethodName := ⟨RX9, "copy", "()V"⟩
abbrev cX9_callIt : ByteArray := prog_11_method_30_code
def yX9_callIt : MethodName := ⟨RX9, "callIt", "()V"⟩
abbrev cX9_leave : ByteArray := prog_11_method_31_code
def yX9_leave : MethodName := ⟨RX9, "leave", "(Z)V"⟩
abbrev cX9_holds : ByteArray := prog_11_method_32_code
def yX9_holds : MethodName := ⟨RX9, "holds", "(II)Z"⟩
abbrev cX9_reckon : ByteArray := prog_11_method_33_code
def yX9_reckon : MethodName := ⟨RX9, "reckon", "(III)I"⟩
abbrev cX9_jump : ByteArray := prog_11_method_34_code
def yX9_jump : MethodName := ⟨RX9, "jump", "(I)V"⟩
abbrev cX9_local : ByteArray := prog_11_method_35_code
def yX9_local : MethodName := ⟨RX9, "local", "(I)V"⟩
abbrev cX9_replace : ByteArray := prog_11_method_36_code
def yX9_replace : MethodName := ⟨RX9, "replace", "(II)V"⟩
abbrev cX9_transact : ByteArray := prog_11_method_37_code
def yX9_transact : MethodName := ⟨RX9, "transact", "(I)V"⟩
abbrev cX9_act : ByteArray := prog_11_method_38_code
def yX9_act : MethodName := ⟨RX9, "act", "(I)V"⟩
abbrev cX9_actSmall : ByteArray := prog_11_method_39_code
def yX9_actSmall : MethodName := ⟨RX9, "actSmall", "(I)V"⟩
abbrev cX9_step : ByteArray := prog_11_method_40_code
def yX9_step : MethodName := ⟨RX9, "step", "()V"⟩
abbrev cX9_run : ByteArray := prog_11_method_41_code
def yX9_run : MethodName := ⟨RX9, "run", "(II)I"⟩
abbrev cX9_thrown0 : ByteArray := prog_11_method_42_code
def yX9_thrown0 : MethodName := ⟨RX9, "thrown0", "()I"⟩
abbrev cX9_value : ByteArray := prog_11_method_43_code
def yX9_value : MethodName := ⟨RX9, "value", "()I"⟩
abbrev cX9_reply : ByteArray := prog_11_method_44_code
def yX9_reply : MethodName := ⟨RX9, "reply", "(I)I"⟩
abbrev cX9_used : ByteArray := prog_11_method_45_code
def yX9_used : MethodName := ⟨RX9, "used", "()I"⟩
abbrev cX9_tear : ByteArray := prog_11_method_46_code
def yX9_tear : MethodName := ⟨RX9, "tear", "(I)I"⟩
abbrev cX9_reset : ByteArray := prog_11_method_47_code
def yX9_reset : MethodName := ⟨RX9, "reset", "()I"⟩
abbrev cX9_objects : ByteArray := prog_11_method_48_code
def yX9_objects : MethodName := ⟨RX9, "objects", "()I"⟩
abbrev cX9_told : ByteArray := prog_11_method_49_code
def yX9_told : MethodName := ⟨RX9, "told", "(II)I"⟩
abbrev cX9_cell : ByteArray := prog_11_method_50_code
def yX9_cell : MethodName := ⟨RX9, "cell", "(II)I"⟩
def RJx145de : String := "java/io/Serializable"
def TJx145de : u_T := fun k => match k with
  | _ => ("", "", "", false)
def tyJx145de : Nat → FieldType := fun k => match k with
  | _ => .int
abbrev wsJx145de0 : List Cond := u_ws RJx145de TJx145de 0
theorem nmJx145de : ∀ a, a < 0 → ∀ b, b < 0 → a ≠ b → (TJx145de a).2.1 ≠ (TJx145de b).2.1 := by decide +kernel
theorem tyJx145de_ok : ∀ k, k < 0 → parseFieldDescriptor (TJx145de k).2.2.1 = some (tyJx145de k) := by decide +kernel
def RJxb160c : String := "java/lang/Comparable"
def TJxb160c : u_T := fun k => match k with
  | _ => ("", "", "", false)
def tyJxb160c : Nat → FieldType := fun k => match k with
  | _ => .int
abbrev wsJxb160c0 : List Cond := u_ws RJxb160c TJxb160c 0
theorem nmJxb160c : ∀ a, a < 0 → ∀ b, b < 0 → a ≠ b → (TJxb160c a).2.1 ≠ (TJxb160c b).2.1 := by decide +kernel
theorem tyJxb160c_ok : ∀ k, k < 0 → parseFieldDescriptor (TJxb160c k).2.2.1 = some (tyJxb160c k) := by decide +kernel
def RJx29ce0 : String := "java/lang/Enum"
def TJx29ce0 : u_T := fun k => match k with
  | _ => ("", "", "", false)
def tyJx29ce0 : Nat → FieldType := fun k => match k with
  | _ => .int
abbrev wsJx29ce00 : List Cond := u_ws RJx29ce0 TJx29ce0 0
theorem nmJx29ce0 : ∀ a, a < 0 → ∀ b, b < 0 → a ≠ b → (TJx29ce0 a).2.1 ≠ (TJx29ce0 b).2.1 := by decide +kernel
theorem tyJx29ce0_ok : ∀ k, k < 0 → parseFieldDescriptor (TJx29ce0 k).2.2.1 = some (tyJx29ce0 k) := by decide +kernel
abbrev cJx29ce0_ordinal_8abf5 : ByteArray := prog_12_method_2_code
def yJx29ce0_ordinal_8abf5 : MethodName := ⟨RJx29ce0, "ordinal", "()I"⟩
def RJ9 : String := "java/lang/Math"
def TJ9 : u_T := fun k => match k with
  | _ => ("", "", "", false)
def tyJ9 : Nat → FieldType := fun k => match k with
  | _ => .int
abbrev wsJ90 : List Cond := u_ws RJ9 TJ9 0
theorem nmJ9 : ∀ a, a < 0 → ∀ b, b < 0 → a ≠ b → (TJ9 a).2.1 ≠ (TJ9 b).2.1 := by decide +kernel
theorem tyJ9_ok : ∀ k, k < 0 → parseFieldDescriptor (TJ9 k).2.2.1 = some (tyJ9 k) := by decide +kernel
abbrev cJ9_floorMod_7cf53 : ByteArray := prog_13_method_50_code
def yJ9_floorMod_7cf53 : MethodName := ⟨RJ9, "floorMod", "(II)I"⟩
def RJxfd54e : String := "java/lang/constant/Constable"
def TJxfd54e : u_T := fun k => match k with
  | _ => ("", "", "", false)
def tyJxfd54e : Nat → FieldType := fun k => match k with
  | _ => .int
abbrev wsJxfd54e0 : List Cond := u_ws RJxfd54e TJxfd54e 0
theorem nmJxfd54e : ∀ a, a < 0 → ∀ b, b < 0 → a ≠ b → (TJxfd54e a).2.1 ≠ (TJxfd54e b).2.1 := by decide +kernel
theorem tyJxfd54e_ok : ∀ k, k < 0 → parseFieldDescriptor (TJxfd54e k).2.2.1 = some (tyJxfd54e k) := by decide +kernel
def RJ7 : String := "java/util/Arrays"
def TJ7 : u_T := fun k => match k with
  | _ => ("", "", "", false)
def tyJ7 : Nat → FieldType := fun k => match k with
  | _ => .int
abbrev wsJ70 : List Cond := u_ws RJ7 TJ7 0
theorem nmJ7 : ∀ a, a < 0 → ∀ b, b < 0 → a ≠ b → (TJ7 a).2.1 ≠ (TJ7 b).2.1 := by decide +kernel
theorem tyJ7_ok : ∀ k, k < 0 → parseFieldDescriptor (TJ7 k).2.2.1 = some (tyJ7 k) := by decide +kernel
abbrev cJ7_rangeCheck_23922 : ByteArray := prog_14_method_30_code
def yJ7_rangeCheck_23922 : MethodName := ⟨RJ7, "rangeCheck", "(III)V"⟩
abbrev cJ7_fill_53178 : ByteArray := prog_14_method_103_code
def yJ7_fill_53178 : MethodName := ⟨RJ7, "fill", "([II)V"⟩
abbrev cJ7_fill_fda19 : ByteArray := prog_14_method_104_code
def yJ7_fill_fda19 : MethodName := ⟨RJ7, "fill", "([IIII)V"⟩
def RL : String := "CardMachineLaw"
abbrev cL_law : ByteArray := code
def yL_law : MethodName := ⟨RL, "law", "([I)Z"⟩
abbrev vwCl : List vw_C := [(RX1, TX1, 2), (RX2, TX2, 6), (RX3, TX3, 3), (RX5, TX5, 2), (RX6, TX6, 14), (RX7, TX7, 15), (RX8, TX8, 1), (RX9, TX9, 37)]
end
section
theorem dX1_init_0 : decode cX1_init 0 = .ok (.aload_n 0, 1) := by decide +kernel
theorem dX1_init_1 : decode cX1_init 1 = .ok (.invokespecial 3, 3) := by decide +kernel
theorem dX1_init_4 : decode cX1_init 4 = .ok (.aload_n 0, 1) := by decide +kernel
theorem dX1_init_5 : decode cX1_init 5 = .ok (.bipush 32, 2) := by decide +kernel
theorem dX1_init_7 : decode cX1_init 7 = .ok (.newarray .int, 2) := by decide +kernel
theorem dX1_init_9 : decode cX1_init 9 = .ok (.putfield 9, 3) := by decide +kernel
theorem dX1_init_12 : decode cX1_init 12 = .ok (.return_, 1) := by decide +kernel
theorem dX1_isFull_0 : decode cX1_isFull 0 = .ok (.aload_n 0, 1) := by decide +kernel
theorem dX1_isFull_1 : decode cX1_isFull 1 = .ok (.getfield 15, 3) := by decide +kernel
theorem dX1_isFull_4 : decode cX1_isFull 4 = .ok (.bipush 32, 2) := by decide +kernel
theorem dX1_isFull_6 : decode cX1_isFull 6 = .ok (.if_icmp .ne 7, 3) := by decide +kernel
theorem dX1_isFull_9 : decode cX1_isFull 9 = .ok (.iconst 1, 1) := by decide +kernel
theorem dX1_isFull_10 : decode cX1_isFull 10 = .ok (.goto 4, 3) := by decide +kernel
theorem dX1_isFull_13 : decode cX1_isFull 13 = .ok (.iconst 0, 1) := by decide +kernel
theorem dX1_isFull_14 : decode cX1_isFull 14 = .ok (.ireturn, 1) := by decide +kernel
theorem dX1_has_0 : decode cX1_has 0 = .ok (.iload_n 1, 1) := by decide +kernel
theorem dX1_has_1 : decode cX1_has 1 = .ok (.ifCond .lt 15, 3) := by decide +kernel
theorem dX1_has_4 : decode cX1_has 4 = .ok (.iload_n 1, 1) := by decide +kernel
theorem dX1_has_5 : decode cX1_has 5 = .ok (.aload_n 0, 1) := by decide +kernel
theorem dX1_has_6 : decode cX1_has 6 = .ok (.getfield 15, 3) := by decide +kernel
theorem dX1_has_9 : decode cX1_has 9 = .ok (.if_icmp .ge 7, 3) := by decide +kernel
theorem dX1_has_12 : decode cX1_has 12 = .ok (.iconst 1, 1) := by decide +kernel
theorem dX1_has_13 : decode cX1_has 13 = .ok (.goto 4, 3) := by decide +kernel
theorem dX1_has_16 : decode cX1_has 16 = .ok (.iconst 0, 1) := by decide +kernel
theorem dX1_has_17 : decode cX1_has 17 = .ok (.ireturn, 1) := by decide +kernel
theorem dX1_add_0 : decode cX1_add 0 = .ok (.aload_n 0, 1) := by decide +kernel
theorem dX1_add_1 : decode cX1_add 1 = .ok (.getfield 9, 3) := by decide +kernel
theorem dX1_add_4 : decode cX1_add 4 = .ok (.aload_n 0, 1) := by decide +kernel
theorem dX1_add_5 : decode cX1_add 5 = .ok (.getfield 15, 3) := by decide +kernel
theorem dX1_add_8 : decode cX1_add 8 = .ok (.iload_n 1, 1) := by decide +kernel
theorem dX1_add_9 : decode cX1_add 9 = .ok (.iastore, 1) := by decide +kernel
theorem dX1_add_10 : decode cX1_add 10 = .ok (.aload_n 0, 1) := by decide +kernel
theorem dX1_add_11 : decode cX1_add 11 = .ok (.dup, 1) := by decide +kernel
theorem dX1_add_12 : decode cX1_add 12 = .ok (.getfield 15, 3) := by decide +kernel
theorem dX1_add_15 : decode cX1_add 15 = .ok (.iconst 1, 1) := by decide +kernel
theorem dX1_add_16 : decode cX1_add 16 = .ok (.iadd, 1) := by decide +kernel
theorem dX1_add_17 : decode cX1_add 17 = .ok (.putfield 15, 3) := by decide +kernel
theorem dX1_add_20 : decode cX1_add 20 = .ok (.return_, 1) := by decide +kernel
theorem dX2_init_0 : decode cX2_init 0 = .ok (.aload_n 0, 1) := by decide +kernel
theorem dX2_init_1 : decode cX2_init 1 = .ok (.invokespecial 3, 3) := by decide +kernel
theorem dX2_init_4 : decode cX2_init 4 = .ok (.aload_n 0, 1) := by decide +kernel
theorem dX2_init_5 : decode cX2_init 5 = .ok (.bipush 8, 2) := by decide +kernel
theorem dX2_init_7 : decode cX2_init 7 = .ok (.newarray .int, 2) := by decide +kernel
theorem dX2_init_9 : decode cX2_init 9 = .ok (.putfield 9, 3) := by decide +kernel
theorem dX2_init_12 : decode cX2_init 12 = .ok (.aload_n 0, 1) := by decide +kernel
theorem dX2_init_13 : decode cX2_init 13 = .ok (.bipush 16, 2) := by decide +kernel
theorem dX2_init_15 : decode cX2_init 15 = .ok (.newarray .int, 2) := by decide +kernel
theorem dX2_init_17 : decode cX2_init 17 = .ok (.putfield 15, 3) := by decide +kernel
theorem dX2_init_20 : decode cX2_init 20 = .ok (.return_, 1) := by decide +kernel
theorem dX2_begin_0 : decode cX2_begin 0 = .ok (.aload_n 0, 1) := by decide +kernel
theorem dX2_begin_1 : decode cX2_begin 1 = .ok (.getfield 9, 3) := by decide +kernel
theorem dX2_begin_4 : decode cX2_begin 4 = .ok (.iconst 0, 1) := by decide +kernel
theorem dX2_begin_5 : decode cX2_begin 5 = .ok (.invokestatic 18, 3) := by decide +kernel
theorem dX2_begin_8 : decode cX2_begin 8 = .ok (.aload_n 0, 1) := by decide +kernel
theorem dX2_begin_9 : decode cX2_begin 9 = .ok (.iconst 0, 1) := by decide +kernel
theorem dX2_begin_10 : decode cX2_begin 10 = .ok (.putfield 24, 3) := by decide +kernel
theorem dX2_begin_13 : decode cX2_begin 13 = .ok (.aload_n 0, 1) := by decide +kernel
theorem dX2_begin_14 : decode cX2_begin 14 = .ok (.aload_n 1, 1) := by decide +kernel
theorem dX2_begin_15 : decode cX2_begin 15 = .ok (.getfield 28, 3) := by decide +kernel
theorem dX2_begin_18 : decode cX2_begin 18 = .ok (.putfield 33, 3) := by decide +kernel
theorem dX2_begin_21 : decode cX2_begin 21 = .ok (.aload_n 0, 1) := by decide +kernel
theorem dX2_begin_22 : decode cX2_begin 22 = .ok (.aload_n 1, 1) := by decide +kernel
theorem dX2_begin_23 : decode cX2_begin 23 = .ok (.getfield 34, 3) := by decide +kernel
theorem dX2_begin_26 : decode cX2_begin 26 = .ok (.putfield 37, 3) := by decide +kernel
theorem dX2_begin_29 : decode cX2_begin 29 = .ok (.aload_n 0, 1) := by decide +kernel
theorem dX2_begin_30 : decode cX2_begin 30 = .ok (.ldc 40, 2) := by decide +kernel
theorem dX2_begin_32 : decode cX2_begin 32 = .ok (.putfield 41, 3) := by decide +kernel
theorem dX2_begin_35 : decode cX2_begin 35 = .ok (.return_, 1) := by decide +kernel
theorem dX2_hasRoom_0 : decode cX2_hasRoom 0 = .ok (.aload_n 0, 1) := by decide +kernel
theorem dX2_hasRoom_1 : decode cX2_hasRoom 1 = .ok (.getfield 24, 3) := by decide +kernel
theorem dX2_hasRoom_4 : decode cX2_hasRoom 4 = .ok (.iload_n 1, 1) := by decide +kernel
theorem dX2_hasRoom_5 : decode cX2_hasRoom 5 = .ok (.iadd, 1) := by decide +kernel
theorem dX2_hasRoom_6 : decode cX2_hasRoom 6 = .ok (.bipush 16, 2) := by decide +kernel
theorem dX2_hasRoom_8 : decode cX2_hasRoom 8 = .ok (.if_icmp .gt 7, 3) := by decide +kernel
theorem dX2_hasRoom_11 : decode cX2_hasRoom 11 = .ok (.iconst 1, 1) := by decide +kernel
theorem dX2_hasRoom_12 : decode cX2_hasRoom 12 = .ok (.goto 4, 3) := by decide +kernel
theorem dX2_hasRoom_15 : decode cX2_hasRoom 15 = .ok (.iconst 0, 1) := by decide +kernel
theorem dX2_hasRoom_16 : decode cX2_hasRoom 16 = .ok (.ireturn, 1) := by decide +kernel
theorem dX2_push_0 : decode cX2_push 0 = .ok (.aload_n 0, 1) := by decide +kernel
theorem dX2_push_1 : decode cX2_push 1 = .ok (.getfield 15, 3) := by decide +kernel
theorem dX2_push_4 : decode cX2_push 4 = .ok (.aload_n 0, 1) := by decide +kernel
theorem dX2_push_5 : decode cX2_push 5 = .ok (.getfield 24, 3) := by decide +kernel
theorem dX2_push_8 : decode cX2_push 8 = .ok (.iload_n 1, 1) := by decide +kernel
theorem dX2_push_9 : decode cX2_push 9 = .ok (.i2s, 1) := by decide +kernel
theorem dX2_push_10 : decode cX2_push 10 = .ok (.iastore, 1) := by decide +kernel
theorem dX2_push_11 : decode cX2_push 11 = .ok (.aload_n 0, 1) := by decide +kernel
theorem dX2_push_12 : decode cX2_push 12 = .ok (.dup, 1) := by decide +kernel
theorem dX2_push_13 : decode cX2_push 13 = .ok (.getfield 24, 3) := by decide +kernel
theorem dX2_push_16 : decode cX2_push 16 = .ok (.iconst 1, 1) := by decide +kernel
theorem dX2_push_17 : decode cX2_push 17 = .ok (.iadd, 1) := by decide +kernel
theorem dX2_push_18 : decode cX2_push 18 = .ok (.putfield 24, 3) := by decide +kernel
theorem dX2_push_21 : decode cX2_push 21 = .ok (.return_, 1) := by decide +kernel
theorem dX2_pop_0 : decode cX2_pop 0 = .ok (.aload_n 0, 1) := by decide +kernel
theorem dX2_pop_1 : decode cX2_pop 1 = .ok (.dup, 1) := by decide +kernel
theorem dX2_pop_2 : decode cX2_pop 2 = .ok (.getfield 24, 3) := by decide +kernel
theorem dX2_pop_5 : decode cX2_pop 5 = .ok (.iconst 1, 1) := by decide +kernel
theorem dX2_pop_6 : decode cX2_pop 6 = .ok (.isub, 1) := by decide +kernel
theorem dX2_pop_7 : decode cX2_pop 7 = .ok (.putfield 24, 3) := by decide +kernel
theorem dX2_pop_10 : decode cX2_pop 10 = .ok (.aload_n 0, 1) := by decide +kernel
theorem dX2_pop_11 : decode cX2_pop 11 = .ok (.getfield 15, 3) := by decide +kernel
theorem dX2_pop_14 : decode cX2_pop 14 = .ok (.aload_n 0, 1) := by decide +kernel
theorem dX2_pop_15 : decode cX2_pop 15 = .ok (.getfield 24, 3) := by decide +kernel
theorem dX2_pop_18 : decode cX2_pop 18 = .ok (.iaload, 1) := by decide +kernel
theorem dX2_pop_19 : decode cX2_pop 19 = .ok (.ireturn, 1) := by decide +kernel
theorem dX2_top_0 : decode cX2_top 0 = .ok (.aload_n 0, 1) := by decide +kernel
theorem dX2_top_1 : decode cX2_top 1 = .ok (.getfield 15, 3) := by decide +kernel
theorem dX2_top_4 : decode cX2_top 4 = .ok (.aload_n 0, 1) := by decide +kernel
theorem dX2_top_5 : decode cX2_top 5 = .ok (.getfield 24, 3) := by decide +kernel
theorem dX2_top_8 : decode cX2_top 8 = .ok (.iconst 1, 1) := by decide +kernel
theorem dX2_top_9 : decode cX2_top 9 = .ok (.isub, 1) := by decide +kernel
theorem dX2_top_10 : decode cX2_top 10 = .ok (.iaload, 1) := by decide +kernel
theorem dX2_top_11 : decode cX2_top 11 = .ok (.ireturn, 1) := by decide +kernel
theorem dX2_addToLocal_0 : decode cX2_addToLocal 0 = .ok (.aload_n 0, 1) := by decide +kernel
theorem dX2_addToLocal_1 : decode cX2_addToLocal 1 = .ok (.getfield 9, 3) := by decide +kernel
theorem dX2_addToLocal_4 : decode cX2_addToLocal 4 = .ok (.iload_n 1, 1) := by decide +kernel
theorem dX2_addToLocal_5 : decode cX2_addToLocal 5 = .ok (.aload_n 0, 1) := by decide +kernel
theorem dX2_addToLocal_6 : decode cX2_addToLocal 6 = .ok (.getfield 9, 3) := by decide +kernel
theorem dX2_addToLocal_9 : decode cX2_addToLocal 9 = .ok (.iload_n 1, 1) := by decide +kernel
theorem dX2_addToLocal_10 : decode cX2_addToLocal 10 = .ok (.iaload, 1) := by decide +kernel
theorem dX2_addToLocal_11 : decode cX2_addToLocal 11 = .ok (.iload_n 2, 1) := by decide +kernel
theorem dX2_addToLocal_12 : decode cX2_addToLocal 12 = .ok (.iadd, 1) := by decide +kernel
theorem dX2_addToLocal_13 : decode cX2_addToLocal 13 = .ok (.i2s, 1) := by decide +kernel
theorem dX2_addToLocal_14 : decode cX2_addToLocal 14 = .ok (.iastore, 1) := by decide +kernel
theorem dX2_addToLocal_15 : decode cX2_addToLocal 15 = .ok (.return_, 1) := by decide +kernel
theorem dX2_handle_0 : decode cX2_handle 0 = .ok (.aload_n 0, 1) := by decide +kernel
theorem dX2_handle_1 : decode cX2_handle 1 = .ok (.iconst 0, 1) := by decide +kernel
theorem dX2_handle_2 : decode cX2_handle 2 = .ok (.putfield 24, 3) := by decide +kernel
theorem dX2_handle_5 : decode cX2_handle 5 = .ok (.aload_n 0, 1) := by decide +kernel
theorem dX2_handle_6 : decode cX2_handle 6 = .ok (.iload_n 1, 1) := by decide +kernel
theorem dX2_handle_7 : decode cX2_handle 7 = .ok (.invokevirtual 44, 3) := by decide +kernel
theorem dX2_handle_10 : decode cX2_handle 10 = .ok (.aload_n 0, 1) := by decide +kernel
theorem dX2_handle_11 : decode cX2_handle 11 = .ok (.aload_n 0, 1) := by decide +kernel
theorem dX2_handle_12 : decode cX2_handle 12 = .ok (.getfield 41, 3) := by decide +kernel
theorem dX2_handle_15 : decode cX2_handle 15 = .ok (.putfield 37, 3) := by decide +kernel
theorem dX2_handle_18 : decode cX2_handle 18 = .ok (.aload_n 0, 1) := by decide +kernel
theorem dX2_handle_19 : decode cX2_handle 19 = .ok (.ldc 40, 2) := by decide +kernel
theorem dX2_handle_21 : decode cX2_handle 21 = .ok (.putfield 41, 3) := by decide +kernel
theorem dX2_handle_24 : decode cX2_handle 24 = .ok (.return_, 1) := by decide +kernel
theorem dX3_init_0 : decode cX3_init 0 = .ok (.aload_n 0, 1) := by decide +kernel
theorem dX3_init_1 : decode cX3_init 1 = .ok (.invokespecial 1, 3) := by decide +kernel
theorem dX3_init_4 : decode cX3_init 4 = .ok (.return_, 1) := by decide +kernel
theorem dX5_init_0 : decode cX5_init 0 = .ok (.aload_n 0, 1) := by decide +kernel
theorem dX5_init_1 : decode cX5_init 1 = .ok (.invokespecial 3, 3) := by decide +kernel
theorem dX5_init_4 : decode cX5_init 4 = .ok (.aload_n 0, 1) := by decide +kernel
theorem dX5_init_5 : decode cX5_init 5 = .ok (.iconst 1, 1) := by decide +kernel
theorem dX5_init_6 : decode cX5_init 6 = .ok (.putfield 9, 3) := by decide +kernel
theorem dX5_init_9 : decode cX5_init 9 = .ok (.aload_n 0, 1) := by decide +kernel
theorem dX5_init_10 : decode cX5_init 10 = .ok (.iconst (-1), 1) := by decide +kernel
theorem dX5_init_11 : decode cX5_init 11 = .ok (.putfield 15, 3) := by decide +kernel
theorem dX5_init_14 : decode cX5_init 14 = .ok (.return_, 1) := by decide +kernel
theorem dX5_setTear_0 : decode cX5_setTear 0 = .ok (.aload_n 0, 1) := by decide +kernel
theorem dX5_setTear_1 : decode cX5_setTear 1 = .ok (.iload_n 1, 1) := by decide +kernel
theorem dX5_setTear_2 : decode cX5_setTear 2 = .ok (.ifCond .ge 7, 3) := by decide +kernel
theorem dX5_setTear_5 : decode cX5_setTear 5 = .ok (.iconst (-1), 1) := by decide +kernel
theorem dX5_setTear_6 : decode cX5_setTear 6 = .ok (.goto 4, 3) := by decide +kernel
theorem dX5_setTear_9 : decode cX5_setTear 9 = .ok (.iload_n 1, 1) := by decide +kernel
theorem dX5_setTear_10 : decode cX5_setTear 10 = .ok (.putfield 15, 3) := by decide +kernel
theorem dX5_setTear_13 : decode cX5_setTear 13 = .ok (.return_, 1) := by decide +kernel
theorem dX5_lastsForWrite_0 : decode cX5_lastsForWrite 0 = .ok (.aload_n 0, 1) := by decide +kernel
theorem dX5_lastsForWrite_1 : decode cX5_lastsForWrite 1 = .ok (.getfield 15, 3) := by decide +kernel
theorem dX5_lastsForWrite_4 : decode cX5_lastsForWrite 4 = .ok (.ifCond .ne 16, 3) := by decide +kernel
theorem dX5_lastsForWrite_7 : decode cX5_lastsForWrite 7 = .ok (.aload_n 0, 1) := by decide +kernel
theorem dX5_lastsForWrite_8 : decode cX5_lastsForWrite 8 = .ok (.iconst (-1), 1) := by decide +kernel
theorem dX5_lastsForWrite_9 : decode cX5_lastsForWrite 9 = .ok (.putfield 15, 3) := by decide +kernel
theorem dX5_lastsForWrite_12 : decode cX5_lastsForWrite 12 = .ok (.aload_n 0, 1) := by decide +kernel
theorem dX5_lastsForWrite_13 : decode cX5_lastsForWrite 13 = .ok (.iconst 0, 1) := by decide +kernel
theorem dX5_lastsForWrite_14 : decode cX5_lastsForWrite 14 = .ok (.putfield 9, 3) := by decide +kernel
theorem dX5_lastsForWrite_17 : decode cX5_lastsForWrite 17 = .ok (.goto 20, 3) := by decide +kernel
theorem dX5_lastsForWrite_20 : decode cX5_lastsForWrite 20 = .ok (.aload_n 0, 1) := by decide +kernel
theorem dX5_lastsForWrite_21 : decode cX5_lastsForWrite 21 = .ok (.getfield 15, 3) := by decide +kernel
theorem dX5_lastsForWrite_24 : decode cX5_lastsForWrite 24 = .ok (.ifCond .le 13, 3) := by decide +kernel
theorem dX5_lastsForWrite_27 : decode cX5_lastsForWrite 27 = .ok (.aload_n 0, 1) := by decide +kernel
theorem dX5_lastsForWrite_28 : decode cX5_lastsForWrite 28 = .ok (.dup, 1) := by decide +kernel
theorem dX5_lastsForWrite_29 : decode cX5_lastsForWrite 29 = .ok (.getfield 15, 3) := by decide +kernel
theorem dX5_lastsForWrite_32 : decode cX5_lastsForWrite 32 = .ok (.iconst 1, 1) := by decide +kernel
theorem dX5_lastsForWrite_33 : decode cX5_lastsForWrite 33 = .ok (.isub, 1) := by decide +kernel
theorem dX5_lastsForWrite_34 : decode cX5_lastsForWrite 34 = .ok (.putfield 15, 3) := by decide +kernel
theorem dX5_lastsForWrite_37 : decode cX5_lastsForWrite 37 = .ok (.aload_n 0, 1) := by decide +kernel
theorem dX5_lastsForWrite_38 : decode cX5_lastsForWrite 38 = .ok (.getfield 9, 3) := by decide +kernel
theorem dX5_lastsForWrite_41 : decode cX5_lastsForWrite 41 = .ok (.ireturn, 1) := by decide +kernel
theorem dX7_init_0 : decode cX7_init 0 = .ok (.aload_n 0, 1) := by decide +kernel
theorem dX7_init_1 : decode cX7_init 1 = .ok (.invokespecial 3, 3) := by decide +kernel
theorem dX7_init_4 : decode cX7_init 4 = .ok (.aload_n 0, 1) := by decide +kernel
theorem dX7_init_5 : decode cX7_init 5 = .ok (.new 9, 3) := by decide +kernel
theorem dX7_init_8 : decode cX7_init 8 = .ok (.dup, 1) := by decide +kernel
theorem dX7_init_9 : decode cX7_init 9 = .ok (.invokespecial 11, 3) := by decide +kernel
theorem dX7_init_12 : decode cX7_init 12 = .ok (.putfield 12, 3) := by decide +kernel
theorem dX7_init_15 : decode cX7_init 15 = .ok (.aload_n 0, 1) := by decide +kernel
theorem dX7_init_16 : decode cX7_init 16 = .ok (.bipush 41, 2) := by decide +kernel
theorem dX7_init_18 : decode cX7_init 18 = .ok (.newarray .int, 2) := by decide +kernel
theorem dX7_init_20 : decode cX7_init 20 = .ok (.putfield 18, 3) := by decide +kernel
theorem dX7_init_23 : decode cX7_init 23 = .ok (.aload_n 0, 1) := by decide +kernel
theorem dX7_init_24 : decode cX7_init 24 = .ok (.bipush 41, 2) := by decide +kernel
theorem dX7_init_26 : decode cX7_init 26 = .ok (.newarray .int, 2) := by decide +kernel
theorem dX7_init_28 : decode cX7_init 28 = .ok (.putfield 22, 3) := by decide +kernel
theorem dX7_init_31 : decode cX7_init 31 = .ok (.aload_n 0, 1) := by decide +kernel
theorem dX7_init_32 : decode cX7_init 32 = .ok (.bipush 41, 2) := by decide +kernel
theorem dX7_init_34 : decode cX7_init 34 = .ok (.newarray .int, 2) := by decide +kernel
theorem dX7_init_36 : decode cX7_init 36 = .ok (.putfield 25, 3) := by decide +kernel
theorem dX7_init_39 : decode cX7_init 39 = .ok (.aload_n 0, 1) := by decide +kernel
theorem dX7_init_40 : decode cX7_init 40 = .ok (.bipush 41, 2) := by decide +kernel
theorem dX7_init_42 : decode cX7_init 42 = .ok (.newarray .int, 2) := by decide +kernel
theorem dX7_init_44 : decode cX7_init 44 = .ok (.putfield 28, 3) := by decide +kernel
theorem dX7_init_47 : decode cX7_init 47 = .ok (.aload_n 0, 1) := by decide +kernel
theorem dX7_init_48 : decode cX7_init 48 = .ok (.sipush 240, 3) := by decide +kernel
theorem dX7_init_51 : decode cX7_init 51 = .ok (.newarray .int, 2) := by decide +kernel
theorem dX7_init_53 : decode cX7_init 53 = .ok (.putfield 31, 3) := by decide +kernel
theorem dX7_init_56 : decode cX7_init 56 = .ok (.aload_n 0, 1) := by decide +kernel
theorem dX7_init_57 : decode cX7_init 57 = .ok (.bipush 20, 2) := by decide +kernel
theorem dX7_init_59 : decode cX7_init 59 = .ok (.newarray .int, 2) := by decide +kernel
theorem dX7_init_61 : decode cX7_init 61 = .ok (.putfield 34, 3) := by decide +kernel
theorem dX7_init_64 : decode cX7_init 64 = .ok (.aload_n 0, 1) := by decide +kernel
theorem dX7_init_65 : decode cX7_init 65 = .ok (.bipush 20, 2) := by decide +kernel
theorem dX7_init_67 : decode cX7_init 67 = .ok (.newarray .int, 2) := by decide +kernel
theorem dX7_init_69 : decode cX7_init 69 = .ok (.putfield 37, 3) := by decide +kernel
theorem dX7_init_72 : decode cX7_init 72 = .ok (.iconst 0, 1) := by decide +kernel
theorem dX7_init_73 : decode cX7_init 73 = .ok (.istore_n 1, 1) := by decide +kernel
theorem dX7_init_74 : decode cX7_init 74 = .ok (.iload_n 1, 1) := by decide +kernel
theorem dX7_init_75 : decode cX7_init 75 = .ok (.iconst 4, 1) := by decide +kernel
theorem dX7_init_76 : decode cX7_init 76 = .ok (.if_icmp .ge 17, 3) := by decide +kernel
theorem dX7_init_79 : decode cX7_init 79 = .ok (.aload_n 0, 1) := by decide +kernel
theorem dX7_init_80 : decode cX7_init 80 = .ok (.iload_n 1, 1) := by decide +kernel
theorem dX7_init_81 : decode cX7_init 81 = .ok (.iconst 0, 1) := by decide +kernel
theorem dX7_init_82 : decode cX7_init 82 = .ok (.bipush 8, 2) := by decide +kernel
theorem dX7_init_84 : decode cX7_init 84 = .ok (.invokevirtual 40, 3) := by decide +kernel
theorem dX7_init_87 : decode cX7_init 87 = .ok (.iinc 1 1, 3) := by decide +kernel
theorem dX7_init_90 : decode cX7_init 90 = .ok (.goto (-16), 3) := by decide +kernel
theorem dX7_init_93 : decode cX7_init 93 = .ok (.return_, 1) := by decide +kernel
theorem dX7_has_0 : decode cX7_has 0 = .ok (.iload_n 1, 1) := by decide +kernel
theorem dX7_has_1 : decode cX7_has 1 = .ok (.iconst 1, 1) := by decide +kernel
theorem dX7_has_2 : decode cX7_has 2 = .ok (.if_icmp .lt 15, 3) := by decide +kernel
theorem dX7_has_5 : decode cX7_has 5 = .ok (.iload_n 1, 1) := by decide +kernel
theorem dX7_has_6 : decode cX7_has 6 = .ok (.aload_n 0, 1) := by decide +kernel
theorem dX7_has_7 : decode cX7_has 7 = .ok (.getfield 44, 3) := by decide +kernel
theorem dX7_has_10 : decode cX7_has 10 = .ok (.if_icmp .gt 7, 3) := by decide +kernel
theorem dX7_has_13 : decode cX7_has 13 = .ok (.iconst 1, 1) := by decide +kernel
theorem dX7_has_14 : decode cX7_has 14 = .ok (.goto 4, 3) := by decide +kernel
theorem dX7_has_17 : decode cX7_has 17 = .ok (.iconst 0, 1) := by decide +kernel
theorem dX7_has_18 : decode cX7_has 18 = .ok (.ireturn, 1) := by decide +kernel
theorem dX7_hasCells_0 : decode cX7_hasCells 0 = .ok (.iload_n 2, 1) := by decide +kernel
theorem dX7_hasCells_1 : decode cX7_hasCells 1 = .ok (.ifCond .lt 19, 3) := by decide +kernel
theorem dX7_hasCells_4 : decode cX7_hasCells 4 = .ok (.iload_n 2, 1) := by decide +kernel
theorem dX7_hasCells_5 : decode cX7_hasCells 5 = .ok (.aload_n 0, 1) := by decide +kernel
theorem dX7_hasCells_6 : decode cX7_hasCells 6 = .ok (.getfield 25, 3) := by decide +kernel
theorem dX7_hasCells_9 : decode cX7_hasCells 9 = .ok (.iload_n 1, 1) := by decide +kernel
theorem dX7_hasCells_10 : decode cX7_hasCells 10 = .ok (.iaload, 1) := by decide +kernel
theorem dX7_hasCells_11 : decode cX7_hasCells 11 = .ok (.iload_n 3, 1) := by decide +kernel
theorem dX7_hasCells_12 : decode cX7_hasCells 12 = .ok (.isub, 1) := by decide +kernel
theorem dX7_hasCells_13 : decode cX7_hasCells 13 = .ok (.if_icmp .gt 7, 3) := by decide +kernel
theorem dX7_hasCells_16 : decode cX7_hasCells 16 = .ok (.iconst 1, 1) := by decide +kernel
theorem dX7_hasCells_17 : decode cX7_hasCells 17 = .ok (.goto 4, 3) := by decide +kernel
theorem dX7_hasCells_20 : decode cX7_hasCells 20 = .ok (.iconst 0, 1) := by decide +kernel
theorem dX7_hasCells_21 : decode cX7_hasCells 21 = .ok (.ireturn, 1) := by decide +kernel
theorem dX7_read_0 : decode cX7_read 0 = .ok (.aload_n 0, 1) := by decide +kernel
theorem dX7_read_1 : decode cX7_read 1 = .ok (.getfield 31, 3) := by decide +kernel
theorem dX7_read_4 : decode cX7_read 4 = .ok (.aload_n 0, 1) := by decide +kernel
theorem dX7_read_5 : decode cX7_read 5 = .ok (.getfield 28, 3) := by decide +kernel
theorem dX7_read_8 : decode cX7_read 8 = .ok (.iload_n 1, 1) := by decide +kernel
theorem dX7_read_9 : decode cX7_read 9 = .ok (.iaload, 1) := by decide +kernel
theorem dX7_read_10 : decode cX7_read 10 = .ok (.iload_n 2, 1) := by decide +kernel
theorem dX7_read_11 : decode cX7_read 11 = .ok (.iadd, 1) := by decide +kernel
theorem dX7_read_12 : decode cX7_read 12 = .ok (.iaload, 1) := by decide +kernel
theorem dX7_read_13 : decode cX7_read 13 = .ok (.ireturn, 1) := by decide +kernel
theorem dX7_cellFault_0 : decode cX7_cellFault 0 = .ok (.aload_n 0, 1) := by decide +kernel
theorem dX7_cellFault_1 : decode cX7_cellFault 1 = .ok (.iload_n 2, 1) := by decide +kernel
theorem dX7_cellFault_2 : decode cX7_cellFault 2 = .ok (.invokevirtual 48, 3) := by decide +kernel
theorem dX7_cellFault_5 : decode cX7_cellFault 5 = .ok (.ifCond .ne 5, 3) := by decide +kernel
theorem dX7_cellFault_8 : decode cX7_cellFault 8 = .ok (.iconst 2, 1) := by decide +kernel
theorem dX7_cellFault_9 : decode cX7_cellFault 9 = .ok (.ireturn, 1) := by decide +kernel
theorem dX7_cellFault_10 : decode cX7_cellFault 10 = .ok (.aload_n 0, 1) := by decide +kernel
theorem dX7_cellFault_11 : decode cX7_cellFault 11 = .ok (.iload_n 1, 1) := by decide +kernel
theorem dX7_cellFault_12 : decode cX7_cellFault 12 = .ok (.iload_n 2, 1) := by decide +kernel
theorem dX7_cellFault_13 : decode cX7_cellFault 13 = .ok (.invokevirtual 52, 3) := by decide +kernel
theorem dX7_cellFault_16 : decode cX7_cellFault 16 = .ok (.ifCond .ne 5, 3) := by decide +kernel
theorem dX7_cellFault_19 : decode cX7_cellFault 19 = .ok (.iconst 4, 1) := by decide +kernel
theorem dX7_cellFault_20 : decode cX7_cellFault 20 = .ok (.ireturn, 1) := by decide +kernel
theorem dX7_cellFault_21 : decode cX7_cellFault 21 = .ok (.aload_n 0, 1) := by decide +kernel
theorem dX7_cellFault_22 : decode cX7_cellFault 22 = .ok (.iload_n 2, 1) := by decide +kernel
theorem dX7_cellFault_23 : decode cX7_cellFault 23 = .ok (.iload_n 3, 1) := by decide +kernel
theorem dX7_cellFault_24 : decode cX7_cellFault 24 = .ok (.iconst 1, 1) := by decide +kernel
theorem dX7_cellFault_25 : decode cX7_cellFault 25 = .ok (.invokevirtual 56, 3) := by decide +kernel
theorem dX7_cellFault_28 : decode cX7_cellFault 28 = .ok (.ifCond .eq 8, 3) := by decide +kernel
theorem dX7_cellFault_31 : decode cX7_cellFault 31 = .ok (.ldc 60, 2) := by decide +kernel
theorem dX7_cellFault_33 : decode cX7_cellFault 33 = .ok (.goto 4, 3) := by decide +kernel
theorem dX7_cellFault_36 : decode cX7_cellFault 36 = .ok (.iconst 3, 1) := by decide +kernel
theorem dX7_cellFault_37 : decode cX7_cellFault 37 = .ok (.ireturn, 1) := by decide +kernel
theorem dX7_thingFault_0 : decode cX7_thingFault 0 = .ok (.aload_n 0, 1) := by decide +kernel
theorem dX7_thingFault_1 : decode cX7_thingFault 1 = .ok (.getfield 61, 3) := by decide +kernel
theorem dX7_thingFault_4 : decode cX7_thingFault 4 = .ok (.ifCond .eq 16, 3) := by decide +kernel
theorem dX7_thingFault_7 : decode cX7_thingFault 7 = .ok (.aload_n 0, 1) := by decide +kernel
theorem dX7_thingFault_8 : decode cX7_thingFault 8 = .ok (.getfield 65, 3) := by decide +kernel
theorem dX7_thingFault_11 : decode cX7_thingFault 11 = .ok (.bipush 20, 2) := by decide +kernel
theorem dX7_thingFault_13 : decode cX7_thingFault 13 = .ok (.if_icmp .ne 7, 3) := by decide +kernel
theorem dX7_thingFault_16 : decode cX7_thingFault 16 = .ok (.iconst 5, 1) := by decide +kernel
theorem dX7_thingFault_17 : decode cX7_thingFault 17 = .ok (.goto 5, 3) := by decide +kernel
theorem dX7_thingFault_20 : decode cX7_thingFault 20 = .ok (.ldc 60, 2) := by decide +kernel
theorem dX7_thingFault_22 : decode cX7_thingFault 22 = .ok (.ireturn, 1) := by decide +kernel
theorem dX7_makeFault_0 : decode cX7_makeFault 0 = .ok (.iload_n 1, 1) := by decide +kernel
theorem dX7_makeFault_1 : decode cX7_makeFault 1 = .ok (.iconst 1, 1) := by decide +kernel
theorem dX7_makeFault_2 : decode cX7_makeFault 2 = .ok (.if_icmp .lt 30, 3) := by decide +kernel
theorem dX7_makeFault_5 : decode cX7_makeFault 5 = .ok (.iload_n 1, 1) := by decide +kernel
theorem dX7_makeFault_6 : decode cX7_makeFault 6 = .ok (.bipush 16, 2) := by decide +kernel
theorem dX7_makeFault_8 : decode cX7_makeFault 8 = .ok (.if_icmp .gt 24, 3) := by decide +kernel
theorem dX7_makeFault_11 : decode cX7_makeFault 11 = .ok (.iload_n 1, 1) := by decide +kernel
theorem dX7_makeFault_12 : decode cX7_makeFault 12 = .ok (.sipush 240, 3) := by decide +kernel
theorem dX7_makeFault_15 : decode cX7_makeFault 15 = .ok (.aload_n 0, 1) := by decide +kernel
theorem dX7_makeFault_16 : decode cX7_makeFault 16 = .ok (.getfield 68, 3) := by decide +kernel
theorem dX7_makeFault_19 : decode cX7_makeFault 19 = .ok (.isub, 1) := by decide +kernel
theorem dX7_makeFault_20 : decode cX7_makeFault 20 = .ok (.if_icmp .gt 12, 3) := by decide +kernel
theorem dX7_makeFault_23 : decode cX7_makeFault 23 = .ok (.aload_n 0, 1) := by decide +kernel
theorem dX7_makeFault_24 : decode cX7_makeFault 24 = .ok (.getfield 44, 3) := by decide +kernel
theorem dX7_makeFault_27 : decode cX7_makeFault 27 = .ok (.bipush 40, 2) := by decide +kernel
theorem dX7_makeFault_29 : decode cX7_makeFault 29 = .ok (.if_icmp .ne 6, 3) := by decide +kernel
theorem dX7_makeFault_32 : decode cX7_makeFault 32 = .ok (.bipush 8, 2) := by decide +kernel
theorem dX7_makeFault_34 : decode cX7_makeFault 34 = .ok (.ireturn, 1) := by decide +kernel
theorem dX7_makeFault_35 : decode cX7_makeFault 35 = .ok (.aload_n 0, 1) := by decide +kernel
theorem dX7_makeFault_36 : decode cX7_makeFault 36 = .ok (.invokevirtual 71, 3) := by decide +kernel
theorem dX7_makeFault_39 : decode cX7_makeFault 39 = .ok (.ireturn, 1) := by decide +kernel
theorem dX7_copyFault_0 : decode cX7_copyFault 0 = .ok (.aload_n 0, 1) := by decide +kernel
theorem dX7_copyFault_1 : decode cX7_copyFault 1 = .ok (.iload_n 2, 1) := by decide +kernel
theorem dX7_copyFault_2 : decode cX7_copyFault 2 = .ok (.invokevirtual 48, 3) := by decide +kernel
theorem dX7_copyFault_5 : decode cX7_copyFault 5 = .ok (.ifCond .eq 12, 3) := by decide +kernel
theorem dX7_copyFault_8 : decode cX7_copyFault 8 = .ok (.aload_n 0, 1) := by decide +kernel
theorem dX7_copyFault_9 : decode cX7_copyFault 9 = .ok (.iload 4, 2) := by decide +kernel
theorem dX7_copyFault_11 : decode cX7_copyFault 11 = .ok (.invokevirtual 48, 3) := by decide +kernel
theorem dX7_copyFault_14 : decode cX7_copyFault 14 = .ok (.ifCond .ne 5, 3) := by decide +kernel
theorem dX7_copyFault_17 : decode cX7_copyFault 17 = .ok (.iconst 2, 1) := by decide +kernel
theorem dX7_copyFault_18 : decode cX7_copyFault 18 = .ok (.ireturn, 1) := by decide +kernel
theorem dX7_copyFault_19 : decode cX7_copyFault 19 = .ok (.aload_n 0, 1) := by decide +kernel
theorem dX7_copyFault_20 : decode cX7_copyFault 20 = .ok (.iload_n 1, 1) := by decide +kernel
theorem dX7_copyFault_21 : decode cX7_copyFault 21 = .ok (.iload_n 2, 1) := by decide +kernel
theorem dX7_copyFault_22 : decode cX7_copyFault 22 = .ok (.invokevirtual 52, 3) := by decide +kernel
theorem dX7_copyFault_25 : decode cX7_copyFault 25 = .ok (.ifCond .eq 13, 3) := by decide +kernel
theorem dX7_copyFault_28 : decode cX7_copyFault 28 = .ok (.aload_n 0, 1) := by decide +kernel
theorem dX7_copyFault_29 : decode cX7_copyFault 29 = .ok (.iload_n 1, 1) := by decide +kernel
theorem dX7_copyFault_30 : decode cX7_copyFault 30 = .ok (.iload 4, 2) := by decide +kernel
theorem dX7_copyFault_32 : decode cX7_copyFault 32 = .ok (.invokevirtual 52, 3) := by decide +kernel
theorem dX7_copyFault_35 : decode cX7_copyFault 35 = .ok (.ifCond .ne 5, 3) := by decide +kernel
theorem dX7_copyFault_38 : decode cX7_copyFault 38 = .ok (.iconst 4, 1) := by decide +kernel
theorem dX7_copyFault_39 : decode cX7_copyFault 39 = .ok (.ireturn, 1) := by decide +kernel
theorem dX7_copyFault_40 : decode cX7_copyFault 40 = .ok (.aload_n 0, 1) := by decide +kernel
theorem dX7_copyFault_41 : decode cX7_copyFault 41 = .ok (.getfield 22, 3) := by decide +kernel
theorem dX7_copyFault_44 : decode cX7_copyFault 44 = .ok (.iload_n 2, 1) := by decide +kernel
theorem dX7_copyFault_45 : decode cX7_copyFault 45 = .ok (.iaload, 1) := by decide +kernel
theorem dX7_copyFault_46 : decode cX7_copyFault 46 = .ok (.iconst 1, 1) := by decide +kernel
theorem dX7_copyFault_47 : decode cX7_copyFault 47 = .ok (.if_icmp .ne 14, 3) := by decide +kernel
theorem dX7_copyFault_50 : decode cX7_copyFault 50 = .ok (.aload_n 0, 1) := by decide +kernel
theorem dX7_copyFault_51 : decode cX7_copyFault 51 = .ok (.getfield 22, 3) := by decide +kernel
theorem dX7_copyFault_54 : decode cX7_copyFault 54 = .ok (.iload 4, 2) := by decide +kernel
theorem dX7_copyFault_56 : decode cX7_copyFault 56 = .ok (.iaload, 1) := by decide +kernel
theorem dX7_copyFault_57 : decode cX7_copyFault 57 = .ok (.iconst 1, 1) := by decide +kernel
theorem dX7_copyFault_58 : decode cX7_copyFault 58 = .ok (.if_icmp .eq 6, 3) := by decide +kernel
theorem dX7_copyFault_61 : decode cX7_copyFault 61 = .ok (.bipush 11, 2) := by decide +kernel
theorem dX7_copyFault_63 : decode cX7_copyFault 63 = .ok (.ireturn, 1) := by decide +kernel
theorem dX7_copyFault_64 : decode cX7_copyFault 64 = .ok (.iload 6, 2) := by decide +kernel
theorem dX7_copyFault_66 : decode cX7_copyFault 66 = .ok (.ifCond .ge 6, 3) := by decide +kernel
theorem dX7_copyFault_69 : decode cX7_copyFault 69 = .ok (.bipush 8, 2) := by decide +kernel
theorem dX7_copyFault_71 : decode cX7_copyFault 71 = .ok (.ireturn, 1) := by decide +kernel
theorem dX7_copyFault_72 : decode cX7_copyFault 72 = .ok (.aload_n 0, 1) := by decide +kernel
theorem dX7_copyFault_73 : decode cX7_copyFault 73 = .ok (.iload_n 2, 1) := by decide +kernel
theorem dX7_copyFault_74 : decode cX7_copyFault 74 = .ok (.iload_n 3, 1) := by decide +kernel
theorem dX7_copyFault_75 : decode cX7_copyFault 75 = .ok (.iload 6, 2) := by decide +kernel
theorem dX7_copyFault_77 : decode cX7_copyFault 77 = .ok (.invokevirtual 56, 3) := by decide +kernel
theorem dX7_copyFault_80 : decode cX7_copyFault 80 = .ok (.ifCond .eq 21, 3) := by decide +kernel
theorem dX7_copyFault_83 : decode cX7_copyFault 83 = .ok (.aload_n 0, 1) := by decide +kernel
theorem dX7_copyFault_84 : decode cX7_copyFault 84 = .ok (.iload 4, 2) := by decide +kernel
theorem dX7_copyFault_86 : decode cX7_copyFault 86 = .ok (.iload 5, 2) := by decide +kernel
theorem dX7_copyFault_88 : decode cX7_copyFault 88 = .ok (.iload 6, 2) := by decide +kernel
theorem dX7_copyFault_90 : decode cX7_copyFault 90 = .ok (.invokevirtual 56, 3) := by decide +kernel
theorem dX7_copyFault_93 : decode cX7_copyFault 93 = .ok (.ifCond .eq 8, 3) := by decide +kernel
theorem dX7_copyFault_96 : decode cX7_copyFault 96 = .ok (.ldc 60, 2) := by decide +kernel
theorem dX7_copyFault_98 : decode cX7_copyFault 98 = .ok (.goto 4, 3) := by decide +kernel
theorem dX7_copyFault_101 : decode cX7_copyFault 101 = .ok (.iconst 3, 1) := by decide +kernel
theorem dX7_copyFault_102 : decode cX7_copyFault 102 = .ok (.ireturn, 1) := by decide +kernel
theorem dX7_write_0 : decode cX7_write 0 = .ok (.aload_n 0, 1) := by decide +kernel
theorem dX7_write_1 : decode cX7_write 1 = .ok (.getfield 12, 3) := by decide +kernel
theorem dX7_write_4 : decode cX7_write 4 = .ok (.invokevirtual 75, 3) := by decide +kernel
theorem dX7_write_7 : decode cX7_write 7 = .ok (.ifCond .ne 4, 3) := by decide +kernel
theorem dX7_write_10 : decode cX7_write 10 = .ok (.return_, 1) := by decide +kernel
theorem dX7_write_11 : decode cX7_write 11 = .ok (.aload_n 0, 1) := by decide +kernel
theorem dX7_write_12 : decode cX7_write 12 = .ok (.getfield 28, 3) := by decide +kernel
theorem dX7_write_15 : decode cX7_write 15 = .ok (.iload_n 1, 1) := by decide +kernel
theorem dX7_write_16 : decode cX7_write 16 = .ok (.iaload, 1) := by decide +kernel
theorem dX7_write_17 : decode cX7_write 17 = .ok (.iload_n 2, 1) := by decide +kernel
theorem dX7_write_18 : decode cX7_write 18 = .ok (.iadd, 1) := by decide +kernel
theorem dX7_write_19 : decode cX7_write 19 = .ok (.istore 4, 2) := by decide +kernel
theorem dX7_write_21 : decode cX7_write 21 = .ok (.aload_n 0, 1) := by decide +kernel
theorem dX7_write_22 : decode cX7_write 22 = .ok (.getfield 61, 3) := by decide +kernel
theorem dX7_write_25 : decode cX7_write 25 = .ok (.ifCond .eq 50, 3) := by decide +kernel
theorem dX7_write_28 : decode cX7_write 28 = .ok (.aload_n 0, 1) := by decide +kernel
theorem dX7_write_29 : decode cX7_write 29 = .ok (.getfield 34, 3) := by decide +kernel
theorem dX7_write_32 : decode cX7_write 32 = .ok (.aload_n 0, 1) := by decide +kernel
theorem dX7_write_33 : decode cX7_write 33 = .ok (.getfield 79, 3) := by decide +kernel
theorem dX7_write_36 : decode cX7_write 36 = .ok (.iload 4, 2) := by decide +kernel
theorem dX7_write_38 : decode cX7_write 38 = .ok (.iastore, 1) := by decide +kernel
theorem dX7_write_39 : decode cX7_write 39 = .ok (.aload_n 0, 1) := by decide +kernel
theorem dX7_write_40 : decode cX7_write 40 = .ok (.getfield 37, 3) := by decide +kernel
theorem dX7_write_43 : decode cX7_write 43 = .ok (.aload_n 0, 1) := by decide +kernel
theorem dX7_write_44 : decode cX7_write 44 = .ok (.getfield 79, 3) := by decide +kernel
theorem dX7_write_47 : decode cX7_write 47 = .ok (.aload_n 0, 1) := by decide +kernel
theorem dX7_write_48 : decode cX7_write 48 = .ok (.getfield 31, 3) := by decide +kernel
theorem dX7_write_51 : decode cX7_write 51 = .ok (.iload 4, 2) := by decide +kernel
theorem dX7_write_53 : decode cX7_write 53 = .ok (.iaload, 1) := by decide +kernel
theorem dX7_write_54 : decode cX7_write 54 = .ok (.iastore, 1) := by decide +kernel
theorem dX7_write_55 : decode cX7_write 55 = .ok (.aload_n 0, 1) := by decide +kernel
theorem dX7_write_56 : decode cX7_write 56 = .ok (.dup, 1) := by decide +kernel
theorem dX7_write_57 : decode cX7_write 57 = .ok (.getfield 79, 3) := by decide +kernel
theorem dX7_write_60 : decode cX7_write 60 = .ok (.iconst 1, 1) := by decide +kernel
theorem dX7_write_61 : decode cX7_write 61 = .ok (.iadd, 1) := by decide +kernel
theorem dX7_write_62 : decode cX7_write 62 = .ok (.putfield 79, 3) := by decide +kernel
theorem dX7_write_65 : decode cX7_write 65 = .ok (.aload_n 0, 1) := by decide +kernel
theorem dX7_write_66 : decode cX7_write 66 = .ok (.dup, 1) := by decide +kernel
theorem dX7_write_67 : decode cX7_write 67 = .ok (.getfield 65, 3) := by decide +kernel
theorem dX7_write_70 : decode cX7_write 70 = .ok (.iconst 1, 1) := by decide +kernel
theorem dX7_write_71 : decode cX7_write 71 = .ok (.iadd, 1) := by decide +kernel
theorem dX7_write_72 : decode cX7_write 72 = .ok (.putfield 65, 3) := by decide +kernel
theorem dX7_write_75 : decode cX7_write 75 = .ok (.aload_n 0, 1) := by decide +kernel
theorem dX7_write_76 : decode cX7_write 76 = .ok (.getfield 31, 3) := by decide +kernel
theorem dX7_write_79 : decode cX7_write 79 = .ok (.iload 4, 2) := by decide +kernel
theorem dX7_write_81 : decode cX7_write 81 = .ok (.aload_n 0, 1) := by decide +kernel
theorem dX7_write_82 : decode cX7_write 82 = .ok (.getfield 22, 3) := by decide +kernel
theorem dX7_write_85 : decode cX7_write 85 = .ok (.iload_n 1, 1) := by decide +kernel
theorem dX7_write_86 : decode cX7_write 86 = .ok (.iaload, 1) := by decide +kernel
theorem dX7_write_87 : decode cX7_write 87 = .ok (.iconst 1, 1) := by decide +kernel
theorem dX7_write_88 : decode cX7_write 88 = .ok (.if_icmp .ne 8, 3) := by decide +kernel
theorem dX7_write_91 : decode cX7_write 91 = .ok (.iload_n 3, 1) := by decide +kernel
theorem dX7_write_92 : decode cX7_write 92 = .ok (.i2b, 1) := by decide +kernel
theorem dX7_write_93 : decode cX7_write 93 = .ok (.goto 4, 3) := by decide +kernel
theorem dX7_write_96 : decode cX7_write 96 = .ok (.iload_n 3, 1) := by decide +kernel
theorem dX7_write_97 : decode cX7_write 97 = .ok (.iastore, 1) := by decide +kernel
theorem dX7_write_98 : decode cX7_write 98 = .ok (.return_, 1) := by decide +kernel
theorem dX7_make_0 : decode cX7_make 0 = .ok (.aload_n 0, 1) := by decide +kernel
theorem dX7_make_1 : decode cX7_make 1 = .ok (.getfield 12, 3) := by decide +kernel
theorem dX7_make_4 : decode cX7_make 4 = .ok (.invokevirtual 75, 3) := by decide +kernel
theorem dX7_make_7 : decode cX7_make 7 = .ok (.ifCond .ne 5, 3) := by decide +kernel
theorem dX7_make_10 : decode cX7_make 10 = .ok (.iconst 0, 1) := by decide +kernel
theorem dX7_make_11 : decode cX7_make 11 = .ok (.ireturn, 1) := by decide +kernel
theorem dX7_make_12 : decode cX7_make 12 = .ok (.aload_n 0, 1) := by decide +kernel
theorem dX7_make_13 : decode cX7_make 13 = .ok (.getfield 61, 3) := by decide +kernel
theorem dX7_make_16 : decode cX7_make 16 = .ok (.ifCond .eq 13, 3) := by decide +kernel
theorem dX7_make_19 : decode cX7_make 19 = .ok (.aload_n 0, 1) := by decide +kernel
theorem dX7_make_20 : decode cX7_make 20 = .ok (.dup, 1) := by decide +kernel
theorem dX7_make_21 : decode cX7_make 21 = .ok (.getfield 65, 3) := by decide +kernel
theorem dX7_make_24 : decode cX7_make 24 = .ok (.iconst 1, 1) := by decide +kernel
theorem dX7_make_25 : decode cX7_make 25 = .ok (.iadd, 1) := by decide +kernel
theorem dX7_make_26 : decode cX7_make 26 = .ok (.putfield 65, 3) := by decide +kernel
theorem dX7_make_29 : decode cX7_make 29 = .ok (.aload_n 0, 1) := by decide +kernel
theorem dX7_make_30 : decode cX7_make 30 = .ok (.iload_n 1, 1) := by decide +kernel
theorem dX7_make_31 : decode cX7_make 31 = .ok (.iload_n 2, 1) := by decide +kernel
theorem dX7_make_32 : decode cX7_make 32 = .ok (.iload_n 3, 1) := by decide +kernel
theorem dX7_make_33 : decode cX7_make 33 = .ok (.invokevirtual 40, 3) := by decide +kernel
theorem dX7_make_36 : decode cX7_make 36 = .ok (.aload_n 0, 1) := by decide +kernel
theorem dX7_make_37 : decode cX7_make 37 = .ok (.getfield 44, 3) := by decide +kernel
theorem dX7_make_40 : decode cX7_make 40 = .ok (.ireturn, 1) := by decide +kernel
theorem dX7_copy_0 : decode cX7_copy 0 = .ok (.aload_n 0, 1) := by decide +kernel
theorem dX7_copy_1 : decode cX7_copy 1 = .ok (.getfield 28, 3) := by decide +kernel
theorem dX7_copy_4 : decode cX7_copy 4 = .ok (.iload_n 1, 1) := by decide +kernel
theorem dX7_copy_5 : decode cX7_copy 5 = .ok (.iaload, 1) := by decide +kernel
theorem dX7_copy_6 : decode cX7_copy 6 = .ok (.iload_n 2, 1) := by decide +kernel
theorem dX7_copy_7 : decode cX7_copy 7 = .ok (.iadd, 1) := by decide +kernel
theorem dX7_copy_8 : decode cX7_copy 8 = .ok (.istore 6, 2) := by decide +kernel
theorem dX7_copy_10 : decode cX7_copy 10 = .ok (.aload_n 0, 1) := by decide +kernel
theorem dX7_copy_11 : decode cX7_copy 11 = .ok (.getfield 28, 3) := by decide +kernel
theorem dX7_copy_14 : decode cX7_copy 14 = .ok (.iload_n 3, 1) := by decide +kernel
theorem dX7_copy_15 : decode cX7_copy 15 = .ok (.iaload, 1) := by decide +kernel
theorem dX7_copy_16 : decode cX7_copy 16 = .ok (.iload 4, 2) := by decide +kernel
theorem dX7_copy_18 : decode cX7_copy 18 = .ok (.iadd, 1) := by decide +kernel
theorem dX7_copy_19 : decode cX7_copy 19 = .ok (.istore 7, 2) := by decide +kernel
theorem dX7_copy_21 : decode cX7_copy 21 = .ok (.iconst 0, 1) := by decide +kernel
theorem dX7_copy_22 : decode cX7_copy 22 = .ok (.istore 8, 2) := by decide +kernel
theorem dX7_copy_24 : decode cX7_copy 24 = .ok (.iload 8, 2) := by decide +kernel
theorem dX7_copy_26 : decode cX7_copy 26 = .ok (.iload 5, 2) := by decide +kernel
theorem dX7_copy_28 : decode cX7_copy 28 = .ok (.if_icmp .ge 39, 3) := by decide +kernel
theorem dX7_copy_31 : decode cX7_copy 31 = .ok (.aload_n 0, 1) := by decide +kernel
theorem dX7_copy_32 : decode cX7_copy 32 = .ok (.getfield 12, 3) := by decide +kernel
theorem dX7_copy_35 : decode cX7_copy 35 = .ok (.invokevirtual 75, 3) := by decide +kernel
theorem dX7_copy_38 : decode cX7_copy 38 = .ok (.ifCond .eq 29, 3) := by decide +kernel
theorem dX7_copy_41 : decode cX7_copy 41 = .ok (.aload_n 0, 1) := by decide +kernel
theorem dX7_copy_42 : decode cX7_copy 42 = .ok (.getfield 31, 3) := by decide +kernel
theorem dX7_copy_45 : decode cX7_copy 45 = .ok (.iload 7, 2) := by decide +kernel
theorem dX7_copy_47 : decode cX7_copy 47 = .ok (.iload 8, 2) := by decide +kernel
theorem dX7_copy_49 : decode cX7_copy 49 = .ok (.iadd, 1) := by decide +kernel
theorem dX7_copy_50 : decode cX7_copy 50 = .ok (.aload_n 0, 1) := by decide +kernel
theorem dX7_copy_51 : decode cX7_copy 51 = .ok (.getfield 31, 3) := by decide +kernel
theorem dX7_copy_54 : decode cX7_copy 54 = .ok (.iload 6, 2) := by decide +kernel
theorem dX7_copy_56 : decode cX7_copy 56 = .ok (.iload 8, 2) := by decide +kernel
theorem dX7_copy_58 : decode cX7_copy 58 = .ok (.iadd, 1) := by decide +kernel
theorem dX7_copy_59 : decode cX7_copy 59 = .ok (.iaload, 1) := by decide +kernel
theorem dX7_copy_60 : decode cX7_copy 60 = .ok (.iastore, 1) := by decide +kernel
theorem dX7_copy_61 : decode cX7_copy 61 = .ok (.iinc 8 1, 3) := by decide +kernel
theorem dX7_copy_64 : decode cX7_copy 64 = .ok (.goto (-40), 3) := by decide +kernel
theorem dX7_copy_67 : decode cX7_copy 67 = .ok (.return_, 1) := by decide +kernel
theorem dX7_begin_0 : decode cX7_begin 0 = .ok (.aload_n 0, 1) := by decide +kernel
theorem dX7_begin_1 : decode cX7_begin 1 = .ok (.iconst 1, 1) := by decide +kernel
theorem dX7_begin_2 : decode cX7_begin 2 = .ok (.putfield 61, 3) := by decide +kernel
theorem dX7_begin_5 : decode cX7_begin 5 = .ok (.aload_n 0, 1) := by decide +kernel
theorem dX7_begin_6 : decode cX7_begin 6 = .ok (.iconst 0, 1) := by decide +kernel
theorem dX7_begin_7 : decode cX7_begin 7 = .ok (.putfield 65, 3) := by decide +kernel
theorem dX7_begin_10 : decode cX7_begin 10 = .ok (.aload_n 0, 1) := by decide +kernel
theorem dX7_begin_11 : decode cX7_begin 11 = .ok (.iconst 0, 1) := by decide +kernel
theorem dX7_begin_12 : decode cX7_begin 12 = .ok (.putfield 79, 3) := by decide +kernel
theorem dX7_begin_15 : decode cX7_begin 15 = .ok (.aload_n 0, 1) := by decide +kernel
theorem dX7_begin_16 : decode cX7_begin 16 = .ok (.aload_n 0, 1) := by decide +kernel
theorem dX7_begin_17 : decode cX7_begin 17 = .ok (.getfield 44, 3) := by decide +kernel
theorem dX7_begin_20 : decode cX7_begin 20 = .ok (.putfield 82, 3) := by decide +kernel
theorem dX7_begin_23 : decode cX7_begin 23 = .ok (.aload_n 0, 1) := by decide +kernel
theorem dX7_begin_24 : decode cX7_begin 24 = .ok (.aload_n 0, 1) := by decide +kernel
theorem dX7_begin_25 : decode cX7_begin 25 = .ok (.getfield 68, 3) := by decide +kernel
theorem dX7_begin_28 : decode cX7_begin 28 = .ok (.putfield 85, 3) := by decide +kernel
theorem dX7_begin_31 : decode cX7_begin 31 = .ok (.return_, 1) := by decide +kernel
theorem dX7_close_0 : decode cX7_close 0 = .ok (.aload_n 0, 1) := by decide +kernel
theorem dX7_close_1 : decode cX7_close 1 = .ok (.getfield 12, 3) := by decide +kernel
theorem dX7_close_4 : decode cX7_close 4 = .ok (.invokevirtual 75, 3) := by decide +kernel
theorem dX7_close_7 : decode cX7_close 7 = .ok (.ifCond .eq 8, 3) := by decide +kernel
theorem dX7_close_10 : decode cX7_close 10 = .ok (.aload_n 0, 1) := by decide +kernel
theorem dX7_close_11 : decode cX7_close 11 = .ok (.iconst 0, 1) := by decide +kernel
theorem dX7_close_12 : decode cX7_close 12 = .ok (.putfield 61, 3) := by decide +kernel
theorem dX7_close_15 : decode cX7_close 15 = .ok (.return_, 1) := by decide +kernel
theorem dX7_undo_0 : decode cX7_undo 0 = .ok (.aload_n 0, 1) := by decide +kernel
theorem dX7_undo_1 : decode cX7_undo 1 = .ok (.getfield 61, 3) := by decide +kernel
theorem dX7_undo_4 : decode cX7_undo 4 = .ok (.ifCond .ne 5, 3) := by decide +kernel
theorem dX7_undo_7 : decode cX7_undo 7 = .ok (.iconst 0, 1) := by decide +kernel
theorem dX7_undo_8 : decode cX7_undo 8 = .ok (.ireturn, 1) := by decide +kernel
theorem dX7_undo_9 : decode cX7_undo 9 = .ok (.aload_n 0, 1) := by decide +kernel
theorem dX7_undo_10 : decode cX7_undo 10 = .ok (.getfield 79, 3) := by decide +kernel
theorem dX7_undo_13 : decode cX7_undo 13 = .ok (.iconst 1, 1) := by decide +kernel
theorem dX7_undo_14 : decode cX7_undo 14 = .ok (.isub, 1) := by decide +kernel
theorem dX7_undo_15 : decode cX7_undo 15 = .ok (.istore_n 1, 1) := by decide +kernel
theorem dX7_undo_16 : decode cX7_undo 16 = .ok (.iload_n 1, 1) := by decide +kernel
theorem dX7_undo_17 : decode cX7_undo 17 = .ok (.ifCond .lt 26, 3) := by decide +kernel
theorem dX7_undo_20 : decode cX7_undo 20 = .ok (.aload_n 0, 1) := by decide +kernel
theorem dX7_undo_21 : decode cX7_undo 21 = .ok (.getfield 31, 3) := by decide +kernel
theorem dX7_undo_24 : decode cX7_undo 24 = .ok (.aload_n 0, 1) := by decide +kernel
theorem dX7_undo_25 : decode cX7_undo 25 = .ok (.getfield 34, 3) := by decide +kernel
theorem dX7_undo_28 : decode cX7_undo 28 = .ok (.iload_n 1, 1) := by decide +kernel
theorem dX7_undo_29 : decode cX7_undo 29 = .ok (.iaload, 1) := by decide +kernel
theorem dX7_undo_30 : decode cX7_undo 30 = .ok (.aload_n 0, 1) := by decide +kernel
theorem dX7_undo_31 : decode cX7_undo 31 = .ok (.getfield 37, 3) := by decide +kernel
theorem dX7_undo_34 : decode cX7_undo 34 = .ok (.iload_n 1, 1) := by decide +kernel
theorem dX7_undo_35 : decode cX7_undo 35 = .ok (.iaload, 1) := by decide +kernel
theorem dX7_undo_36 : decode cX7_undo 36 = .ok (.iastore, 1) := by decide +kernel
theorem dX7_undo_37 : decode cX7_undo 37 = .ok (.iinc 1 (-1), 3) := by decide +kernel
theorem dX7_undo_40 : decode cX7_undo 40 = .ok (.goto (-24), 3) := by decide +kernel
theorem dX7_undo_43 : decode cX7_undo 43 = .ok (.aload_n 0, 1) := by decide +kernel
theorem dX7_undo_44 : decode cX7_undo 44 = .ok (.aload_n 0, 1) := by decide +kernel
theorem dX7_undo_45 : decode cX7_undo 45 = .ok (.getfield 82, 3) := by decide +kernel
theorem dX7_undo_48 : decode cX7_undo 48 = .ok (.putfield 44, 3) := by decide +kernel
theorem dX7_undo_51 : decode cX7_undo 51 = .ok (.aload_n 0, 1) := by decide +kernel
theorem dX7_undo_52 : decode cX7_undo 52 = .ok (.aload_n 0, 1) := by decide +kernel
theorem dX7_undo_53 : decode cX7_undo 53 = .ok (.getfield 85, 3) := by decide +kernel
theorem dX7_undo_56 : decode cX7_undo 56 = .ok (.putfield 68, 3) := by decide +kernel
theorem dX7_undo_59 : decode cX7_undo 59 = .ok (.aload_n 0, 1) := by decide +kernel
theorem dX7_undo_60 : decode cX7_undo 60 = .ok (.iconst 0, 1) := by decide +kernel
theorem dX7_undo_61 : decode cX7_undo 61 = .ok (.putfield 61, 3) := by decide +kernel
theorem dX7_undo_64 : decode cX7_undo 64 = .ok (.iconst 1, 1) := by decide +kernel
theorem dX7_undo_65 : decode cX7_undo 65 = .ok (.ireturn, 1) := by decide +kernel
theorem dX7_mayUse_0 : decode cX7_mayUse 0 = .ok (.iload_n 1, 1) := by decide +kernel
theorem dX7_mayUse_1 : decode cX7_mayUse 1 = .ok (.ifCond .eq 13, 3) := by decide +kernel
theorem dX7_mayUse_4 : decode cX7_mayUse 4 = .ok (.iload_n 1, 1) := by decide +kernel
theorem dX7_mayUse_5 : decode cX7_mayUse 5 = .ok (.aload_n 0, 1) := by decide +kernel
theorem dX7_mayUse_6 : decode cX7_mayUse 6 = .ok (.getfield 18, 3) := by decide +kernel
theorem dX7_mayUse_9 : decode cX7_mayUse 9 = .ok (.iload_n 2, 1) := by decide +kernel
theorem dX7_mayUse_10 : decode cX7_mayUse 10 = .ok (.iaload, 1) := by decide +kernel
theorem dX7_mayUse_11 : decode cX7_mayUse 11 = .ok (.if_icmp .ne 7, 3) := by decide +kernel
theorem dX7_mayUse_14 : decode cX7_mayUse 14 = .ok (.iconst 1, 1) := by decide +kernel
theorem dX7_mayUse_15 : decode cX7_mayUse 15 = .ok (.goto 4, 3) := by decide +kernel
theorem dX7_mayUse_18 : decode cX7_mayUse 18 = .ok (.iconst 0, 1) := by decide +kernel
theorem dX7_mayUse_19 : decode cX7_mayUse 19 = .ok (.ireturn, 1) := by decide +kernel
theorem dX7_add_0 : decode cX7_add 0 = .ok (.aload_n 0, 1) := by decide +kernel
theorem dX7_add_1 : decode cX7_add 1 = .ok (.dup, 1) := by decide +kernel
theorem dX7_add_2 : decode cX7_add 2 = .ok (.getfield 44, 3) := by decide +kernel
theorem dX7_add_5 : decode cX7_add 5 = .ok (.iconst 1, 1) := by decide +kernel
theorem dX7_add_6 : decode cX7_add 6 = .ok (.iadd, 1) := by decide +kernel
theorem dX7_add_7 : decode cX7_add 7 = .ok (.putfield 44, 3) := by decide +kernel
theorem dX7_add_10 : decode cX7_add 10 = .ok (.aload_n 0, 1) := by decide +kernel
theorem dX7_add_11 : decode cX7_add 11 = .ok (.getfield 18, 3) := by decide +kernel
theorem dX7_add_14 : decode cX7_add 14 = .ok (.aload_n 0, 1) := by decide +kernel
theorem dX7_add_15 : decode cX7_add 15 = .ok (.getfield 44, 3) := by decide +kernel
theorem dX7_add_18 : decode cX7_add 18 = .ok (.iload_n 1, 1) := by decide +kernel
theorem dX7_add_19 : decode cX7_add 19 = .ok (.iastore, 1) := by decide +kernel
theorem dX7_add_20 : decode cX7_add 20 = .ok (.aload_n 0, 1) := by decide +kernel
theorem dX7_add_21 : decode cX7_add 21 = .ok (.getfield 22, 3) := by decide +kernel
theorem dX7_add_24 : decode cX7_add 24 = .ok (.aload_n 0, 1) := by decide +kernel
theorem dX7_add_25 : decode cX7_add 25 = .ok (.getfield 44, 3) := by decide +kernel
theorem dX7_add_28 : decode cX7_add 28 = .ok (.iload_n 2, 1) := by decide +kernel
theorem dX7_add_29 : decode cX7_add 29 = .ok (.iastore, 1) := by decide +kernel
theorem dX7_add_30 : decode cX7_add 30 = .ok (.aload_n 0, 1) := by decide +kernel
theorem dX7_add_31 : decode cX7_add 31 = .ok (.getfield 25, 3) := by decide +kernel
theorem dX7_add_34 : decode cX7_add 34 = .ok (.aload_n 0, 1) := by decide +kernel
theorem dX7_add_35 : decode cX7_add 35 = .ok (.getfield 44, 3) := by decide +kernel
theorem dX7_add_38 : decode cX7_add 38 = .ok (.iload_n 3, 1) := by decide +kernel
theorem dX7_add_39 : decode cX7_add 39 = .ok (.iastore, 1) := by decide +kernel
theorem dX7_add_40 : decode cX7_add 40 = .ok (.aload_n 0, 1) := by decide +kernel
theorem dX7_add_41 : decode cX7_add 41 = .ok (.getfield 28, 3) := by decide +kernel
theorem dX7_add_44 : decode cX7_add 44 = .ok (.aload_n 0, 1) := by decide +kernel
theorem dX7_add_45 : decode cX7_add 45 = .ok (.getfield 44, 3) := by decide +kernel
theorem dX7_add_48 : decode cX7_add 48 = .ok (.aload_n 0, 1) := by decide +kernel
theorem dX7_add_49 : decode cX7_add 49 = .ok (.getfield 68, 3) := by decide +kernel
theorem dX7_add_52 : decode cX7_add 52 = .ok (.iastore, 1) := by decide +kernel
theorem dX7_add_53 : decode cX7_add 53 = .ok (.aload_n 0, 1) := by decide +kernel
theorem dX7_add_54 : decode cX7_add 54 = .ok (.getfield 31, 3) := by decide +kernel
theorem dX7_add_57 : decode cX7_add 57 = .ok (.aload_n 0, 1) := by decide +kernel
theorem dX7_add_58 : decode cX7_add 58 = .ok (.getfield 68, 3) := by decide +kernel
theorem dX7_add_61 : decode cX7_add 61 = .ok (.aload_n 0, 1) := by decide +kernel
theorem dX7_add_62 : decode cX7_add 62 = .ok (.getfield 68, 3) := by decide +kernel
theorem dX7_add_65 : decode cX7_add 65 = .ok (.iload_n 3, 1) := by decide +kernel
theorem dX7_add_66 : decode cX7_add 66 = .ok (.iadd, 1) := by decide +kernel
theorem dX7_add_67 : decode cX7_add 67 = .ok (.iconst 0, 1) := by decide +kernel
theorem dX7_add_68 : decode cX7_add 68 = .ok (.invokestatic 88, 3) := by decide +kernel
theorem dX7_add_71 : decode cX7_add 71 = .ok (.aload_n 0, 1) := by decide +kernel
theorem dX7_add_72 : decode cX7_add 72 = .ok (.dup, 1) := by decide +kernel
theorem dX7_add_73 : decode cX7_add 73 = .ok (.getfield 68, 3) := by decide +kernel
theorem dX7_add_76 : decode cX7_add 76 = .ok (.iload_n 3, 1) := by decide +kernel
theorem dX7_add_77 : decode cX7_add 77 = .ok (.iadd, 1) := by decide +kernel
theorem dX7_add_78 : decode cX7_add 78 = .ok (.putfield 68, 3) := by decide +kernel
theorem dX7_add_81 : decode cX7_add 81 = .ok (.return_, 1) := by decide +kernel
theorem dX8_init_0 : decode cX8_init 0 = .ok (.aload_n 0, 1) := by decide +kernel
theorem dX8_init_1 : decode cX8_init 1 = .ok (.invokespecial 3, 3) := by decide +kernel
theorem dX8_init_4 : decode cX8_init 4 = .ok (.aload_n 0, 1) := by decide +kernel
theorem dX8_init_5 : decode cX8_init 5 = .ok (.new 9, 3) := by decide +kernel
theorem dX8_init_8 : decode cX8_init 8 = .ok (.dup, 1) := by decide +kernel
theorem dX8_init_9 : decode cX8_init 9 = .ok (.invokespecial 11, 3) := by decide +kernel
theorem dX8_init_12 : decode cX8_init 12 = .ok (.putfield 12, 3) := by decide +kernel
theorem dX8_init_15 : decode cX8_init 15 = .ok (.return_, 1) := by decide +kernel
theorem dX8_code_0 : decode cX8_code 0 = .ok (.iload_n 2, 1) := by decide +kernel
theorem dX8_code_1 : decode cX8_code 1 = .ok (.invokestatic 18, 3) := by decide +kernel
theorem dX8_code_4 : decode cX8_code 4 = .ok (.ifCond .ne 5, 3) := by decide +kernel
theorem dX8_code_7 : decode cX8_code 7 = .ok (.iconst (-1), 1) := by decide +kernel
theorem dX8_code_8 : decode cX8_code 8 = .ok (.ireturn, 1) := by decide +kernel
theorem dX8_code_9 : decode cX8_code 9 = .ok (.aload_n 0, 1) := by decide +kernel
theorem dX8_code_10 : decode cX8_code 10 = .ok (.iload_n 1, 1) := by decide +kernel
theorem dX8_code_11 : decode cX8_code 11 = .ok (.iload_n 2, 1) := by decide +kernel
theorem dX8_code_12 : decode cX8_code 12 = .ok (.i2l, 1) := by decide +kernel
theorem dX8_code_13 : decode cX8_code 13 = .ok (.iconst 1, 1) := by decide +kernel
theorem dX8_code_14 : decode cX8_code 14 = .ok (.invokevirtual 22, 3) := by decide +kernel
theorem dX8_code_17 : decode cX8_code 17 = .ok (.ireturn, 1) := by decide +kernel
theorem dX8_codes_0 : decode cX8_codes 0 = .ok (.iload 4, 2) := by decide +kernel
theorem dX8_codes_2 : decode cX8_codes 2 = .ok (.iconst 1, 1) := by decide +kernel
theorem dX8_codes_3 : decode cX8_codes 3 = .ok (.if_icmp .lt 24, 3) := by decide +kernel
theorem dX8_codes_6 : decode cX8_codes 6 = .ok (.iload 4, 2) := by decide +kernel
theorem dX8_codes_8 : decode cX8_codes 8 = .ok (.bipush 8, 2) := by decide +kernel
theorem dX8_codes_10 : decode cX8_codes 10 = .ok (.if_icmp .gt 17, 3) := by decide +kernel
theorem dX8_codes_13 : decode cX8_codes 13 = .ok (.iload_n 1, 1) := by decide +kernel
theorem dX8_codes_14 : decode cX8_codes 14 = .ok (.ifCond .lt 13, 3) := by decide +kernel
theorem dX8_codes_17 : decode cX8_codes 17 = .ok (.iload_n 1, 1) := by decide +kernel
theorem dX8_codes_18 : decode cX8_codes 18 = .ok (.sipush 512, 3) := by decide +kernel
theorem dX8_codes_21 : decode cX8_codes 21 = .ok (.iload 4, 2) := by decide +kernel
theorem dX8_codes_23 : decode cX8_codes 23 = .ok (.isub, 1) := by decide +kernel
theorem dX8_codes_24 : decode cX8_codes 24 = .ok (.if_icmp .le 5, 3) := by decide +kernel
theorem dX8_codes_27 : decode cX8_codes 27 = .ok (.iconst (-1), 1) := by decide +kernel
theorem dX8_codes_28 : decode cX8_codes 28 = .ok (.ireturn, 1) := by decide +kernel
theorem dX8_codes_29 : decode cX8_codes 29 = .ok (.iconst 0, 1) := by decide +kernel
theorem dX8_codes_30 : decode cX8_codes 30 = .ok (.istore 5, 2) := by decide +kernel
theorem dX8_codes_32 : decode cX8_codes 32 = .ok (.iload 5, 2) := by decide +kernel
theorem dX8_codes_34 : decode cX8_codes 34 = .ok (.iload 4, 2) := by decide +kernel
theorem dX8_codes_36 : decode cX8_codes 36 = .ok (.if_icmp .ge 38, 3) := by decide +kernel
theorem dX8_codes_39 : decode cX8_codes 39 = .ok (.aload_n 0, 1) := by decide +kernel
theorem dX8_codes_40 : decode cX8_codes 40 = .ok (.getfield 12, 3) := by decide +kernel
theorem dX8_codes_43 : decode cX8_codes 43 = .ok (.getfield 26, 3) := by decide +kernel
theorem dX8_codes_46 : decode cX8_codes 46 = .ok (.iload_n 1, 1) := by decide +kernel
theorem dX8_codes_47 : decode cX8_codes 47 = .ok (.iload 5, 2) := by decide +kernel
theorem dX8_codes_49 : decode cX8_codes 49 = .ok (.iadd, 1) := by decide +kernel
theorem dX8_codes_50 : decode cX8_codes 50 = .ok (.lload_n 2, 1) := by decide +kernel
theorem dX8_codes_51 : decode cX8_codes 51 = .ok (.bipush 8, 2) := by decide +kernel
theorem dX8_codes_53 : decode cX8_codes 53 = .ok (.iload 4, 2) := by decide +kernel
theorem dX8_codes_55 : decode cX8_codes 55 = .ok (.iconst 1, 1) := by decide +kernel
theorem dX8_codes_56 : decode cX8_codes 56 = .ok (.isub, 1) := by decide +kernel
theorem dX8_codes_57 : decode cX8_codes 57 = .ok (.iload 5, 2) := by decide +kernel
theorem dX8_codes_59 : decode cX8_codes 59 = .ok (.isub, 1) := by decide +kernel
theorem dX8_codes_60 : decode cX8_codes 60 = .ok (.imul, 1) := by decide +kernel
theorem dX8_codes_61 : decode cX8_codes 61 = .ok (.lushr, 1) := by decide +kernel
theorem dX8_codes_62 : decode cX8_codes 62 = .ok (.l2i, 1) := by decide +kernel
theorem dX8_codes_63 : decode cX8_codes 63 = .ok (.sipush 255, 3) := by decide +kernel
theorem dX8_codes_66 : decode cX8_codes 66 = .ok (.iand, 1) := by decide +kernel
theorem dX8_codes_67 : decode cX8_codes 67 = .ok (.iastore, 1) := by decide +kernel
theorem dX8_codes_68 : decode cX8_codes 68 = .ok (.iinc 5 1, 3) := by decide +kernel
theorem dX8_codes_71 : decode cX8_codes 71 = .ok (.goto (-39), 3) := by decide +kernel
theorem dX8_codes_74 : decode cX8_codes 74 = .ok (.iconst 1, 1) := by decide +kernel
theorem dX8_codes_75 : decode cX8_codes 75 = .ok (.ireturn, 1) := by decide +kernel
theorem dX8_method_0 : decode cX8_method 0 = .ok (.iload_n 1, 1) := by decide +kernel
theorem dX8_method_1 : decode cX8_method 1 = .ok (.invokestatic 30, 3) := by decide +kernel
theorem dX8_method_4 : decode cX8_method 4 = .ok (.ifCond .eq 23, 3) := by decide +kernel
theorem dX8_method_7 : decode cX8_method 7 = .ok (.iload_n 2, 1) := by decide +kernel
theorem dX8_method_8 : decode cX8_method 8 = .ok (.ifCond .lt 19, 3) := by decide +kernel
theorem dX8_method_11 : decode cX8_method 11 = .ok (.iload_n 2, 1) := by decide +kernel
theorem dX8_method_12 : decode cX8_method 12 = .ok (.iconst 4, 1) := by decide +kernel
theorem dX8_method_13 : decode cX8_method 13 = .ok (.if_icmp .ge 14, 3) := by decide +kernel
theorem dX8_method_16 : decode cX8_method 16 = .ok (.iload_n 3, 1) := by decide +kernel
theorem dX8_method_17 : decode cX8_method 17 = .ok (.ifCond .lt 10, 3) := by decide +kernel
theorem dX8_method_20 : decode cX8_method 20 = .ok (.iload_n 3, 1) := by decide +kernel
theorem dX8_method_21 : decode cX8_method 21 = .ok (.sipush 512, 3) := by decide +kernel
theorem dX8_method_24 : decode cX8_method 24 = .ok (.if_icmp .lt 5, 3) := by decide +kernel
theorem dX8_method_27 : decode cX8_method 27 = .ok (.iconst (-1), 1) := by decide +kernel
theorem dX8_method_28 : decode cX8_method 28 = .ok (.ireturn, 1) := by decide +kernel
theorem dX8_method_29 : decode cX8_method 29 = .ok (.aload_n 0, 1) := by decide +kernel
theorem dX8_method_30 : decode cX8_method 30 = .ok (.getfield 12, 3) := by decide +kernel
theorem dX8_method_33 : decode cX8_method 33 = .ok (.getfield 33, 3) := by decide +kernel
theorem dX8_method_36 : decode cX8_method 36 = .ok (.iload_n 1, 1) := by decide +kernel
theorem dX8_method_37 : decode cX8_method 37 = .ok (.aaload, 1) := by decide +kernel
theorem dX8_method_38 : decode cX8_method 38 = .ok (.astore 5, 2) := by decide +kernel
theorem dX8_method_40 : decode cX8_method 40 = .ok (.aload 5, 2) := by decide +kernel
theorem dX8_method_42 : decode cX8_method 42 = .ok (.iload_n 2, 1) := by decide +kernel
theorem dX8_method_43 : decode cX8_method 43 = .ok (.putfield 37, 3) := by decide +kernel
theorem dX8_method_46 : decode cX8_method 46 = .ok (.aload 5, 2) := by decide +kernel
theorem dX8_method_48 : decode cX8_method 48 = .ok (.iload_n 3, 1) := by decide +kernel
theorem dX8_method_49 : decode cX8_method 49 = .ok (.putfield 43, 3) := by decide +kernel
theorem dX8_method_52 : decode cX8_method 52 = .ok (.aload 5, 2) := by decide +kernel
theorem dX8_method_54 : decode cX8_method 54 = .ok (.iload 4, 2) := by decide +kernel
theorem dX8_method_56 : decode cX8_method 56 = .ok (.putfield 46, 3) := by decide +kernel
theorem dX8_method_59 : decode cX8_method 59 = .ok (.iconst 1, 1) := by decide +kernel
theorem dX8_method_60 : decode cX8_method 60 = .ok (.ireturn, 1) := by decide +kernel
theorem dX8_type_0 : decode cX8_type 0 = .ok (.iload_n 1, 1) := by decide +kernel
theorem dX8_type_1 : decode cX8_type 1 = .ok (.invokestatic 18, 3) := by decide +kernel
theorem dX8_type_4 : decode cX8_type 4 = .ok (.ifCond .ne 5, 3) := by decide +kernel
theorem dX8_type_7 : decode cX8_type 7 = .ok (.iconst (-1), 1) := by decide +kernel
theorem dX8_type_8 : decode cX8_type 8 = .ok (.ireturn, 1) := by decide +kernel
theorem dX8_type_9 : decode cX8_type 9 = .ok (.aload_n 0, 1) := by decide +kernel
theorem dX8_type_10 : decode cX8_type 10 = .ok (.getfield 12, 3) := by decide +kernel
theorem dX8_type_13 : decode cX8_type 13 = .ok (.getfield 50, 3) := by decide +kernel
theorem dX8_type_16 : decode cX8_type 16 = .ok (.invokevirtual 54, 3) := by decide +kernel
theorem dX8_type_19 : decode cX8_type 19 = .ok (.ifCond .eq 6, 3) := by decide +kernel
theorem dX8_type_22 : decode cX8_type 22 = .ok (.bipush (-3), 2) := by decide +kernel
theorem dX8_type_24 : decode cX8_type 24 = .ok (.ireturn, 1) := by decide +kernel
theorem dX8_type_25 : decode cX8_type 25 = .ok (.aload_n 0, 1) := by decide +kernel
theorem dX8_type_26 : decode cX8_type 26 = .ok (.getfield 12, 3) := by decide +kernel
theorem dX8_type_29 : decode cX8_type 29 = .ok (.getfield 50, 3) := by decide +kernel
theorem dX8_type_32 : decode cX8_type 32 = .ok (.iload_n 1, 1) := by decide +kernel
theorem dX8_type_33 : decode cX8_type 33 = .ok (.invokevirtual 60, 3) := by decide +kernel
theorem dX8_type_36 : decode cX8_type 36 = .ok (.aload_n 0, 1) := by decide +kernel
theorem dX8_type_37 : decode cX8_type 37 = .ok (.getfield 12, 3) := by decide +kernel
theorem dX8_type_40 : decode cX8_type 40 = .ok (.getfield 50, 3) := by decide +kernel
theorem dX8_type_43 : decode cX8_type 43 = .ok (.getfield 64, 3) := by decide +kernel
theorem dX8_type_46 : decode cX8_type 46 = .ok (.ireturn, 1) := by decide +kernel
theorem dX8_run_0 : decode cX8_run 0 = .ok (.iload_n 1, 1) := by decide +kernel
theorem dX8_run_1 : decode cX8_run 1 = .ok (.invokestatic 30, 3) := by decide +kernel
theorem dX8_run_4 : decode cX8_run 4 = .ok (.ifCond .eq 15, 3) := by decide +kernel
theorem dX8_run_7 : decode cX8_run 7 = .ok (.iload_n 2, 1) := by decide +kernel
theorem dX8_run_8 : decode cX8_run 8 = .ok (.iconst 1, 1) := by decide +kernel
theorem dX8_run_9 : decode cX8_run 9 = .ok (.if_icmp .lt 10, 3) := by decide +kernel
theorem dX8_run_12 : decode cX8_run 12 = .ok (.iload_n 2, 1) := by decide +kernel
theorem dX8_run_13 : decode cX8_run 13 = .ok (.sipush 3000, 3) := by decide +kernel
theorem dX8_run_16 : decode cX8_run 16 = .ok (.if_icmp .le 5, 3) := by decide +kernel
theorem dX8_run_19 : decode cX8_run 19 = .ok (.iconst (-1), 1) := by decide +kernel
theorem dX8_run_20 : decode cX8_run 20 = .ok (.ireturn, 1) := by decide +kernel
theorem dX8_run_21 : decode cX8_run 21 = .ok (.aload_n 0, 1) := by decide +kernel
theorem dX8_run_22 : decode cX8_run 22 = .ok (.getfield 12, 3) := by decide +kernel
theorem dX8_run_25 : decode cX8_run 25 = .ok (.aload_n 0, 1) := by decide +kernel
theorem dX8_run_26 : decode cX8_run 26 = .ok (.getfield 12, 3) := by decide +kernel
theorem dX8_run_29 : decode cX8_run 29 = .ok (.getfield 33, 3) := by decide +kernel
theorem dX8_run_32 : decode cX8_run 32 = .ok (.iload_n 1, 1) := by decide +kernel
theorem dX8_run_33 : decode cX8_run 33 = .ok (.aaload, 1) := by decide +kernel
theorem dX8_run_34 : decode cX8_run 34 = .ok (.iload_n 2, 1) := by decide +kernel
theorem dX8_run_35 : decode cX8_run 35 = .ok (.invokevirtual 67, 3) := by decide +kernel
theorem dX8_run_38 : decode cX8_run 38 = .ok (.ireturn, 1) := by decide +kernel
theorem dX8_thrown0_0 : decode cX8_thrown0 0 = .ok (.aload_n 0, 1) := by decide +kernel
theorem dX8_thrown0_1 : decode cX8_thrown0 1 = .ok (.getfield 12, 3) := by decide +kernel
theorem dX8_thrown0_4 : decode cX8_thrown0 4 = .ok (.getfield 71, 3) := by decide +kernel
theorem dX8_thrown0_7 : decode cX8_thrown0 7 = .ok (.ireturn, 1) := by decide +kernel
theorem dX8_value_0 : decode cX8_value 0 = .ok (.aload_n 0, 1) := by decide +kernel
theorem dX8_value_1 : decode cX8_value 1 = .ok (.getfield 12, 3) := by decide +kernel
theorem dX8_value_4 : decode cX8_value 4 = .ok (.getfield 74, 3) := by decide +kernel
theorem dX8_value_7 : decode cX8_value 7 = .ok (.ireturn, 1) := by decide +kernel
theorem dX8_reply_0 : decode cX8_reply 0 = .ok (.aload_n 0, 1) := by decide +kernel
theorem dX8_reply_1 : decode cX8_reply 1 = .ok (.getfield 12, 3) := by decide +kernel
theorem dX8_reply_4 : decode cX8_reply 4 = .ok (.getfield 77, 3) := by decide +kernel
theorem dX8_reply_7 : decode cX8_reply 7 = .ok (.iload_n 1, 1) := by decide +kernel
theorem dX8_reply_8 : decode cX8_reply 8 = .ok (.invokevirtual 80, 3) := by decide +kernel
theorem dX8_reply_11 : decode cX8_reply 11 = .ok (.ifCond .eq 18, 3) := by decide +kernel
theorem dX8_reply_14 : decode cX8_reply 14 = .ok (.aload_n 0, 1) := by decide +kernel
theorem dX8_reply_15 : decode cX8_reply 15 = .ok (.getfield 12, 3) := by decide +kernel
theorem dX8_reply_18 : decode cX8_reply 18 = .ok (.getfield 77, 3) := by decide +kernel
theorem dX8_reply_21 : decode cX8_reply 21 = .ok (.getfield 83, 3) := by decide +kernel
theorem dX8_reply_24 : decode cX8_reply 24 = .ok (.iload_n 1, 1) := by decide +kernel
theorem dX8_reply_25 : decode cX8_reply 25 = .ok (.iaload, 1) := by decide +kernel
theorem dX8_reply_26 : decode cX8_reply 26 = .ok (.goto 4, 3) := by decide +kernel
theorem dX8_reply_29 : decode cX8_reply 29 = .ok (.iconst (-1), 1) := by decide +kernel
theorem dX8_reply_30 : decode cX8_reply 30 = .ok (.ireturn, 1) := by decide +kernel
theorem dX8_used_0 : decode cX8_used 0 = .ok (.aload_n 0, 1) := by decide +kernel
theorem dX8_used_1 : decode cX8_used 1 = .ok (.getfield 12, 3) := by decide +kernel
theorem dX8_used_4 : decode cX8_used 4 = .ok (.getfield 86, 3) := by decide +kernel
theorem dX8_used_7 : decode cX8_used 7 = .ok (.ireturn, 1) := by decide +kernel
theorem dX8_tear_0 : decode cX8_tear 0 = .ok (.aload_n 0, 1) := by decide +kernel
theorem dX8_tear_1 : decode cX8_tear 1 = .ok (.getfield 12, 3) := by decide +kernel
theorem dX8_tear_4 : decode cX8_tear 4 = .ok (.getfield 89, 3) := by decide +kernel
theorem dX8_tear_7 : decode cX8_tear 7 = .ok (.getfield 93, 3) := by decide +kernel
theorem dX8_tear_10 : decode cX8_tear 10 = .ok (.iload_n 1, 1) := by decide +kernel
theorem dX8_tear_11 : decode cX8_tear 11 = .ok (.invokevirtual 99, 3) := by decide +kernel
theorem dX8_tear_14 : decode cX8_tear 14 = .ok (.iconst 1, 1) := by decide +kernel
theorem dX8_tear_15 : decode cX8_tear 15 = .ok (.ireturn, 1) := by decide +kernel
theorem dX8_reset_0 : decode cX8_reset 0 = .ok (.aload_n 0, 1) := by decide +kernel
theorem dX8_reset_1 : decode cX8_reset 1 = .ok (.getfield 12, 3) := by decide +kernel
theorem dX8_reset_4 : decode cX8_reset 4 = .ok (.getfield 89, 3) := by decide +kernel
theorem dX8_reset_7 : decode cX8_reset 7 = .ok (.astore_n 1, 1) := by decide +kernel
theorem dX8_reset_8 : decode cX8_reset 8 = .ok (.aload_n 1, 1) := by decide +kernel
theorem dX8_reset_9 : decode cX8_reset 9 = .ok (.getfield 93, 3) := by decide +kernel
theorem dX8_reset_12 : decode cX8_reset 12 = .ok (.getfield 104, 3) := by decide +kernel
theorem dX8_reset_15 : decode cX8_reset 15 = .ok (.ifCond .eq 5, 3) := by decide +kernel
theorem dX8_reset_18 : decode cX8_reset 18 = .ok (.iconst 0, 1) := by decide +kernel
theorem dX8_reset_19 : decode cX8_reset 19 = .ok (.ireturn, 1) := by decide +kernel
theorem dX8_reset_20 : decode cX8_reset 20 = .ok (.aload_n 1, 1) := by decide +kernel
theorem dX8_reset_21 : decode cX8_reset 21 = .ok (.getfield 93, 3) := by decide +kernel
theorem dX8_reset_24 : decode cX8_reset 24 = .ok (.iconst 1, 1) := by decide +kernel
theorem dX8_reset_25 : decode cX8_reset 25 = .ok (.putfield 104, 3) := by decide +kernel
theorem dX8_reset_28 : decode cX8_reset 28 = .ok (.aload_n 1, 1) := by decide +kernel
theorem dX8_reset_29 : decode cX8_reset 29 = .ok (.invokevirtual 107, 3) := by decide +kernel
theorem dX8_reset_32 : decode cX8_reset 32 = .ok (.ifCond .eq 7, 3) := by decide +kernel
theorem dX8_reset_35 : decode cX8_reset 35 = .ok (.iconst 1, 1) := by decide +kernel
theorem dX8_reset_36 : decode cX8_reset 36 = .ok (.goto 4, 3) := by decide +kernel
theorem dX8_reset_39 : decode cX8_reset 39 = .ok (.iconst 0, 1) := by decide +kernel
theorem dX8_reset_40 : decode cX8_reset 40 = .ok (.ireturn, 1) := by decide +kernel
theorem dX8_objects_0 : decode cX8_objects 0 = .ok (.aload_n 0, 1) := by decide +kernel
theorem dX8_objects_1 : decode cX8_objects 1 = .ok (.getfield 12, 3) := by decide +kernel
theorem dX8_objects_4 : decode cX8_objects 4 = .ok (.getfield 89, 3) := by decide +kernel
theorem dX8_objects_7 : decode cX8_objects 7 = .ok (.astore_n 1, 1) := by decide +kernel
theorem dX8_objects_8 : decode cX8_objects 8 = .ok (.aload_n 1, 1) := by decide +kernel
theorem dX8_objects_9 : decode cX8_objects 9 = .ok (.getfield 93, 3) := by decide +kernel
theorem dX8_objects_12 : decode cX8_objects 12 = .ok (.getfield 104, 3) := by decide +kernel
theorem dX8_objects_15 : decode cX8_objects 15 = .ok (.ifCond .eq 10, 3) := by decide +kernel
theorem dX8_objects_18 : decode cX8_objects 18 = .ok (.aload_n 1, 1) := by decide +kernel
theorem dX8_objects_19 : decode cX8_objects 19 = .ok (.getfield 110, 3) := by decide +kernel
theorem dX8_objects_22 : decode cX8_objects 22 = .ok (.goto 4, 3) := by decide +kernel
theorem dX8_objects_25 : decode cX8_objects 25 = .ok (.iconst (-1), 1) := by decide +kernel
theorem dX8_objects_26 : decode cX8_objects 26 = .ok (.ireturn, 1) := by decide +kernel
theorem dX8_told_0 : decode cX8_told 0 = .ok (.aload_n 0, 1) := by decide +kernel
theorem dX8_told_1 : decode cX8_told 1 = .ok (.getfield 12, 3) := by decide +kernel
theorem dX8_told_4 : decode cX8_told 4 = .ok (.getfield 89, 3) := by decide +kernel
theorem dX8_told_7 : decode cX8_told 7 = .ok (.astore_n 3, 1) := by decide +kernel
theorem dX8_told_8 : decode cX8_told 8 = .ok (.aload_n 3, 1) := by decide +kernel
theorem dX8_told_9 : decode cX8_told 9 = .ok (.getfield 93, 3) := by decide +kernel
theorem dX8_told_12 : decode cX8_told 12 = .ok (.getfield 104, 3) := by decide +kernel
theorem dX8_told_15 : decode cX8_told 15 = .ok (.ifCond .eq 11, 3) := by decide +kernel
theorem dX8_told_18 : decode cX8_told 18 = .ok (.aload_n 3, 1) := by decide +kernel
theorem dX8_told_19 : decode cX8_told 19 = .ok (.iload_n 1, 1) := by decide +kernel
theorem dX8_told_20 : decode cX8_told 20 = .ok (.invokevirtual 113, 3) := by decide +kernel
theorem dX8_told_23 : decode cX8_told 23 = .ok (.ifCond .ne 5, 3) := by decide +kernel
theorem dX8_told_26 : decode cX8_told 26 = .ok (.iconst (-1), 1) := by decide +kernel
theorem dX8_told_27 : decode cX8_told 27 = .ok (.ireturn, 1) := by decide +kernel
theorem dX8_told_28 : decode cX8_told 28 = .ok (.iload_n 2, 1) := by decide +kernel
theorem dX8_told_29 : decode cX8_told 29 = .ok (.tableswitch 48 0 2 #[27, 34, 41], 27) := by decide +kernel
theorem dX8_told_56 : decode cX8_told 56 = .ok (.aload_n 3, 1) := by decide +kernel
theorem dX8_told_57 : decode cX8_told 57 = .ok (.getfield 114, 3) := by decide +kernel
theorem dX8_told_60 : decode cX8_told 60 = .ok (.iload_n 1, 1) := by decide +kernel
theorem dX8_told_61 : decode cX8_told 61 = .ok (.iaload, 1) := by decide +kernel
theorem dX8_told_62 : decode cX8_told 62 = .ok (.ireturn, 1) := by decide +kernel
theorem dX8_told_63 : decode cX8_told 63 = .ok (.aload_n 3, 1) := by decide +kernel
theorem dX8_told_64 : decode cX8_told 64 = .ok (.getfield 117, 3) := by decide +kernel
theorem dX8_told_67 : decode cX8_told 67 = .ok (.iload_n 1, 1) := by decide +kernel
theorem dX8_told_68 : decode cX8_told 68 = .ok (.iaload, 1) := by decide +kernel
theorem dX8_told_69 : decode cX8_told 69 = .ok (.ireturn, 1) := by decide +kernel
theorem dX8_told_70 : decode cX8_told 70 = .ok (.aload_n 3, 1) := by decide +kernel
theorem dX8_told_71 : decode cX8_told 71 = .ok (.getfield 120, 3) := by decide +kernel
theorem dX8_told_74 : decode cX8_told 74 = .ok (.iload_n 1, 1) := by decide +kernel
theorem dX8_told_75 : decode cX8_told 75 = .ok (.iaload, 1) := by decide +kernel
theorem dX8_told_76 : decode cX8_told 76 = .ok (.ireturn, 1) := by decide +kernel
theorem dX8_told_77 : decode cX8_told 77 = .ok (.iconst (-1), 1) := by decide +kernel
theorem dX8_told_78 : decode cX8_told 78 = .ok (.ireturn, 1) := by decide +kernel
theorem dX8_cell_0 : decode cX8_cell 0 = .ok (.aload_n 0, 1) := by decide +kernel
theorem dX8_cell_1 : decode cX8_cell 1 = .ok (.getfield 12, 3) := by decide +kernel
theorem dX8_cell_4 : decode cX8_cell 4 = .ok (.getfield 89, 3) := by decide +kernel
theorem dX8_cell_7 : decode cX8_cell 7 = .ok (.astore_n 3, 1) := by decide +kernel
theorem dX8_cell_8 : decode cX8_cell 8 = .ok (.aload_n 3, 1) := by decide +kernel
theorem dX8_cell_9 : decode cX8_cell 9 = .ok (.getfield 93, 3) := by decide +kernel
theorem dX8_cell_12 : decode cX8_cell 12 = .ok (.getfield 104, 3) := by decide +kernel
theorem dX8_cell_15 : decode cX8_cell 15 = .ok (.ifCond .eq 21, 3) := by decide +kernel
theorem dX8_cell_18 : decode cX8_cell 18 = .ok (.aload_n 3, 1) := by decide +kernel
theorem dX8_cell_19 : decode cX8_cell 19 = .ok (.iload_n 1, 1) := by decide +kernel
theorem dX8_cell_20 : decode cX8_cell 20 = .ok (.invokevirtual 113, 3) := by decide +kernel
theorem dX8_cell_23 : decode cX8_cell 23 = .ok (.ifCond .eq 13, 3) := by decide +kernel
theorem dX8_cell_26 : decode cX8_cell 26 = .ok (.aload_n 3, 1) := by decide +kernel
theorem dX8_cell_27 : decode cX8_cell 27 = .ok (.iload_n 1, 1) := by decide +kernel
theorem dX8_cell_28 : decode cX8_cell 28 = .ok (.iload_n 2, 1) := by decide +kernel
theorem dX8_cell_29 : decode cX8_cell 29 = .ok (.iconst 1, 1) := by decide +kernel
theorem dX8_cell_30 : decode cX8_cell 30 = .ok (.invokevirtual 123, 3) := by decide +kernel
theorem dX8_cell_33 : decode cX8_cell 33 = .ok (.ifCond .ne 5, 3) := by decide +kernel
theorem dX8_cell_36 : decode cX8_cell 36 = .ok (.iconst 0, 1) := by decide +kernel
theorem dX8_cell_37 : decode cX8_cell 37 = .ok (.ireturn, 1) := by decide +kernel
theorem dX8_cell_38 : decode cX8_cell 38 = .ok (.aload_n 3, 1) := by decide +kernel
theorem dX8_cell_39 : decode cX8_cell 39 = .ok (.iload_n 1, 1) := by decide +kernel
theorem dX8_cell_40 : decode cX8_cell 40 = .ok (.iload_n 2, 1) := by decide +kernel
theorem dX8_cell_41 : decode cX8_cell 41 = .ok (.invokevirtual 127, 3) := by decide +kernel
theorem dX8_cell_44 : decode cX8_cell 44 = .ok (.ireturn, 1) := by decide +kernel
theorem dX8_isByte_0 : decode cX8_isByte 0 = .ok (.iload_n 0, 1) := by decide +kernel
theorem dX8_isByte_1 : decode cX8_isByte 1 = .ok (.ifCond .lt 14, 3) := by decide +kernel
theorem dX8_isByte_4 : decode cX8_isByte 4 = .ok (.iload_n 0, 1) := by decide +kernel
theorem dX8_isByte_5 : decode cX8_isByte 5 = .ok (.sipush 255, 3) := by decide +kernel
theorem dX8_isByte_8 : decode cX8_isByte 8 = .ok (.if_icmp .gt 7, 3) := by decide +kernel
theorem dX8_isByte_11 : decode cX8_isByte 11 = .ok (.iconst 1, 1) := by decide +kernel
theorem dX8_isByte_12 : decode cX8_isByte 12 = .ok (.goto 4, 3) := by decide +kernel
theorem dX8_isByte_15 : decode cX8_isByte 15 = .ok (.iconst 0, 1) := by decide +kernel
theorem dX8_isByte_16 : decode cX8_isByte 16 = .ok (.ireturn, 1) := by decide +kernel
theorem dX8_isMethod_0 : decode cX8_isMethod 0 = .ok (.iload_n 0, 1) := by decide +kernel
theorem dX8_isMethod_1 : decode cX8_isMethod 1 = .ok (.ifCond .lt 13, 3) := by decide +kernel
theorem dX8_isMethod_4 : decode cX8_isMethod 4 = .ok (.iload_n 0, 1) := by decide +kernel
theorem dX8_isMethod_5 : decode cX8_isMethod 5 = .ok (.bipush 16, 2) := by decide +kernel
theorem dX8_isMethod_7 : decode cX8_isMethod 7 = .ok (.if_icmp .ge 7, 3) := by decide +kernel
theorem dX8_isMethod_10 : decode cX8_isMethod 10 = .ok (.iconst 1, 1) := by decide +kernel
theorem dX8_isMethod_11 : decode cX8_isMethod 11 = .ok (.goto 4, 3) := by decide +kernel
theorem dX8_isMethod_14 : decode cX8_isMethod 14 = .ok (.iconst 0, 1) := by decide +kernel
theorem dX8_isMethod_15 : decode cX8_isMethod 15 = .ok (.ireturn, 1) := by decide +kernel
theorem dJx29ce0_ordinal_8abf5_0 : decode cJx29ce0_ordinal_8abf5 0 = .ok (.aload_n 0, 1) := by decide +kernel
theorem dJx29ce0_ordinal_8abf5_1 : decode cJx29ce0_ordinal_8abf5 1 = .ok (.getfield 7, 3) := by decide +kernel
theorem dJx29ce0_ordinal_8abf5_4 : decode cJx29ce0_ordinal_8abf5 4 = .ok (.ireturn, 1) := by decide +kernel
theorem dJ9_floorMod_7cf53_0 : decode cJ9_floorMod_7cf53 0 = .ok (.iload_n 0, 1) := by decide +kernel
theorem dJ9_floorMod_7cf53_1 : decode cJ9_floorMod_7cf53 1 = .ok (.iload_n 1, 1) := by decide +kernel
theorem dJ9_floorMod_7cf53_2 : decode cJ9_floorMod_7cf53 2 = .ok (.irem, 1) := by decide +kernel
theorem dJ9_floorMod_7cf53_3 : decode cJ9_floorMod_7cf53 3 = .ok (.istore_n 2, 1) := by decide +kernel
theorem dJ9_floorMod_7cf53_4 : decode cJ9_floorMod_7cf53 4 = .ok (.iload_n 0, 1) := by decide +kernel
theorem dJ9_floorMod_7cf53_5 : decode cJ9_floorMod_7cf53 5 = .ok (.iload_n 1, 1) := by decide +kernel
theorem dJ9_floorMod_7cf53_6 : decode cJ9_floorMod_7cf53 6 = .ok (.ixor, 1) := by decide +kernel
theorem dJ9_floorMod_7cf53_7 : decode cJ9_floorMod_7cf53 7 = .ok (.ifCond .ge 11, 3) := by decide +kernel
theorem dJ9_floorMod_7cf53_10 : decode cJ9_floorMod_7cf53 10 = .ok (.iload_n 2, 1) := by decide +kernel
theorem dJ9_floorMod_7cf53_11 : decode cJ9_floorMod_7cf53 11 = .ok (.ifCond .eq 7, 3) := by decide +kernel
theorem dJ9_floorMod_7cf53_14 : decode cJ9_floorMod_7cf53 14 = .ok (.iload_n 2, 1) := by decide +kernel
theorem dJ9_floorMod_7cf53_15 : decode cJ9_floorMod_7cf53 15 = .ok (.iload_n 1, 1) := by decide +kernel
theorem dJ9_floorMod_7cf53_16 : decode cJ9_floorMod_7cf53 16 = .ok (.iadd, 1) := by decide +kernel
theorem dJ9_floorMod_7cf53_17 : decode cJ9_floorMod_7cf53 17 = .ok (.ireturn, 1) := by decide +kernel
theorem dJ9_floorMod_7cf53_18 : decode cJ9_floorMod_7cf53 18 = .ok (.iload_n 2, 1) := by decide +kernel
theorem dJ9_floorMod_7cf53_19 : decode cJ9_floorMod_7cf53 19 = .ok (.ireturn, 1) := by decide +kernel
theorem dJ7_rangeCheck_23922_0 : decode cJ7_rangeCheck_23922 0 = .ok (.iload_n 1, 1) := by decide +kernel
theorem dJ7_rangeCheck_23922_1 : decode cJ7_rangeCheck_23922 1 = .ok (.iload_n 2, 1) := by decide +kernel
theorem dJ7_rangeCheck_23922_2 : decode cJ7_rangeCheck_23922 2 = .ok (.if_icmp .le 44, 3) := by decide +kernel
theorem dJ7_rangeCheck_23922_5 : decode cJ7_rangeCheck_23922 5 = .ok (.new 43, 3) := by decide +kernel
theorem dJ7_rangeCheck_23922_8 : decode cJ7_rangeCheck_23922 8 = .ok (.dup, 1) := by decide +kernel
theorem dJ7_rangeCheck_23922_9 : decode cJ7_rangeCheck_23922 9 = .ok (.new 45, 3) := by decide +kernel
theorem dJ7_rangeCheck_23922_12 : decode cJ7_rangeCheck_23922 12 = .ok (.dup, 1) := by decide +kernel
theorem dJ7_rangeCheck_23922_13 : decode cJ7_rangeCheck_23922 13 = .ok (.invokespecial 47, 3) := by decide +kernel
theorem dJ7_rangeCheck_23922_16 : decode cJ7_rangeCheck_23922 16 = .ok (.ldc 48, 2) := by decide +kernel
theorem dJ7_rangeCheck_23922_18 : decode cJ7_rangeCheck_23922 18 = .ok (.invokevirtual 50, 3) := by decide +kernel
theorem dJ7_rangeCheck_23922_21 : decode cJ7_rangeCheck_23922 21 = .ok (.iload_n 1, 1) := by decide +kernel
theorem dJ7_rangeCheck_23922_22 : decode cJ7_rangeCheck_23922 22 = .ok (.invokevirtual 54, 3) := by decide +kernel
theorem dJ7_rangeCheck_23922_25 : decode cJ7_rangeCheck_23922 25 = .ok (.ldc 57, 2) := by decide +kernel
theorem dJ7_rangeCheck_23922_27 : decode cJ7_rangeCheck_23922 27 = .ok (.invokevirtual 50, 3) := by decide +kernel
theorem dJ7_rangeCheck_23922_30 : decode cJ7_rangeCheck_23922 30 = .ok (.iload_n 2, 1) := by decide +kernel
theorem dJ7_rangeCheck_23922_31 : decode cJ7_rangeCheck_23922 31 = .ok (.invokevirtual 54, 3) := by decide +kernel
theorem dJ7_rangeCheck_23922_34 : decode cJ7_rangeCheck_23922 34 = .ok (.ldc 59, 2) := by decide +kernel
theorem dJ7_rangeCheck_23922_36 : decode cJ7_rangeCheck_23922 36 = .ok (.invokevirtual 50, 3) := by decide +kernel
theorem dJ7_rangeCheck_23922_39 : decode cJ7_rangeCheck_23922 39 = .ok (.invokevirtual 61, 3) := by decide +kernel
theorem dJ7_rangeCheck_23922_42 : decode cJ7_rangeCheck_23922 42 = .ok (.invokespecial 65, 3) := by decide +kernel
theorem dJ7_rangeCheck_23922_45 : decode cJ7_rangeCheck_23922 45 = .ok (.athrow, 1) := by decide +kernel
theorem dJ7_rangeCheck_23922_46 : decode cJ7_rangeCheck_23922 46 = .ok (.iload_n 1, 1) := by decide +kernel
theorem dJ7_rangeCheck_23922_47 : decode cJ7_rangeCheck_23922 47 = .ok (.ifCond .ge 12, 3) := by decide +kernel
theorem dJ7_rangeCheck_23922_50 : decode cJ7_rangeCheck_23922 50 = .ok (.new 68, 3) := by decide +kernel
theorem dJ7_rangeCheck_23922_53 : decode cJ7_rangeCheck_23922 53 = .ok (.dup, 1) := by decide +kernel
theorem dJ7_rangeCheck_23922_54 : decode cJ7_rangeCheck_23922 54 = .ok (.iload_n 1, 1) := by decide +kernel
theorem dJ7_rangeCheck_23922_55 : decode cJ7_rangeCheck_23922 55 = .ok (.invokespecial 70, 3) := by decide +kernel
theorem dJ7_rangeCheck_23922_58 : decode cJ7_rangeCheck_23922 58 = .ok (.athrow, 1) := by decide +kernel
theorem dJ7_rangeCheck_23922_59 : decode cJ7_rangeCheck_23922 59 = .ok (.iload_n 2, 1) := by decide +kernel
theorem dJ7_rangeCheck_23922_60 : decode cJ7_rangeCheck_23922 60 = .ok (.iload_n 0, 1) := by decide +kernel
theorem dJ7_rangeCheck_23922_61 : decode cJ7_rangeCheck_23922 61 = .ok (.if_icmp .le 12, 3) := by decide +kernel
theorem dJ7_rangeCheck_23922_64 : decode cJ7_rangeCheck_23922 64 = .ok (.new 68, 3) := by decide +kernel
theorem dJ7_rangeCheck_23922_67 : decode cJ7_rangeCheck_23922 67 = .ok (.dup, 1) := by decide +kernel
theorem dJ7_rangeCheck_23922_68 : decode cJ7_rangeCheck_23922 68 = .ok (.iload_n 2, 1) := by decide +kernel
theorem dJ7_rangeCheck_23922_69 : decode cJ7_rangeCheck_23922 69 = .ok (.invokespecial 70, 3) := by decide +kernel
theorem dJ7_rangeCheck_23922_72 : decode cJ7_rangeCheck_23922 72 = .ok (.athrow, 1) := by decide +kernel
theorem dJ7_rangeCheck_23922_73 : decode cJ7_rangeCheck_23922 73 = .ok (.return_, 1) := by decide +kernel
theorem dJ7_fill_53178_0 : decode cJ7_fill_53178 0 = .ok (.iconst 0, 1) := by decide +kernel
theorem dJ7_fill_53178_1 : decode cJ7_fill_53178 1 = .ok (.istore_n 2, 1) := by decide +kernel
theorem dJ7_fill_53178_2 : decode cJ7_fill_53178 2 = .ok (.aload_n 0, 1) := by decide +kernel
theorem dJ7_fill_53178_3 : decode cJ7_fill_53178 3 = .ok (.arraylength, 1) := by decide +kernel
theorem dJ7_fill_53178_4 : decode cJ7_fill_53178 4 = .ok (.istore_n 3, 1) := by decide +kernel
theorem dJ7_fill_53178_5 : decode cJ7_fill_53178 5 = .ok (.iload_n 2, 1) := by decide +kernel
theorem dJ7_fill_53178_6 : decode cJ7_fill_53178 6 = .ok (.iload_n 3, 1) := by decide +kernel
theorem dJ7_fill_53178_7 : decode cJ7_fill_53178 7 = .ok (.if_icmp .ge 13, 3) := by decide +kernel
theorem dJ7_fill_53178_10 : decode cJ7_fill_53178 10 = .ok (.aload_n 0, 1) := by decide +kernel
theorem dJ7_fill_53178_11 : decode cJ7_fill_53178 11 = .ok (.iload_n 2, 1) := by decide +kernel
theorem dJ7_fill_53178_12 : decode cJ7_fill_53178 12 = .ok (.iload_n 1, 1) := by decide +kernel
theorem dJ7_fill_53178_13 : decode cJ7_fill_53178 13 = .ok (.iastore, 1) := by decide +kernel
theorem dJ7_fill_53178_14 : decode cJ7_fill_53178 14 = .ok (.iinc 2 1, 3) := by decide +kernel
theorem dJ7_fill_53178_17 : decode cJ7_fill_53178 17 = .ok (.goto (-12), 3) := by decide +kernel
theorem dJ7_fill_53178_20 : decode cJ7_fill_53178 20 = .ok (.return_, 1) := by decide +kernel
theorem dJ7_fill_fda19_0 : decode cJ7_fill_fda19 0 = .ok (.aload_n 0, 1) := by decide +kernel
theorem dJ7_fill_fda19_1 : decode cJ7_fill_fda19 1 = .ok (.arraylength, 1) := by decide +kernel
theorem dJ7_fill_fda19_2 : decode cJ7_fill_fda19 2 = .ok (.iload_n 1, 1) := by decide +kernel
theorem dJ7_fill_fda19_3 : decode cJ7_fill_fda19 3 = .ok (.iload_n 2, 1) := by decide +kernel
theorem dJ7_fill_fda19_4 : decode cJ7_fill_fda19 4 = .ok (.invokestatic 13, 3) := by decide +kernel
theorem dJ7_fill_fda19_7 : decode cJ7_fill_fda19 7 = .ok (.iload_n 1, 1) := by decide +kernel
theorem dJ7_fill_fda19_8 : decode cJ7_fill_fda19 8 = .ok (.istore 4, 2) := by decide +kernel
theorem dJ7_fill_fda19_10 : decode cJ7_fill_fda19 10 = .ok (.iload 4, 2) := by decide +kernel
theorem dJ7_fill_fda19_12 : decode cJ7_fill_fda19 12 = .ok (.iload_n 2, 1) := by decide +kernel
theorem dJ7_fill_fda19_13 : decode cJ7_fill_fda19 13 = .ok (.if_icmp .ge 14, 3) := by decide +kernel
theorem dJ7_fill_fda19_16 : decode cJ7_fill_fda19 16 = .ok (.aload_n 0, 1) := by decide +kernel
theorem dJ7_fill_fda19_17 : decode cJ7_fill_fda19 17 = .ok (.iload 4, 2) := by decide +kernel
theorem dJ7_fill_fda19_19 : decode cJ7_fill_fda19 19 = .ok (.iload_n 3, 1) := by decide +kernel
theorem dJ7_fill_fda19_20 : decode cJ7_fill_fda19 20 = .ok (.iastore, 1) := by decide +kernel
theorem dJ7_fill_fda19_21 : decode cJ7_fill_fda19 21 = .ok (.iinc 4 1, 3) := by decide +kernel
theorem dJ7_fill_fda19_24 : decode cJ7_fill_fda19 24 = .ok (.goto (-14), 3) := by decide +kernel
theorem dJ7_fill_fda19_27 : decode cJ7_fill_fda19 27 = .ok (.return_, 1) := by decide +kernel
end
section
theorem dX6_init_0 : decode cX6_init 0 = .ok (.aload_n 0, 1) := by decide +kernel
theorem dX6_init_1 : decode cX6_init 1 = .ok (.invokespecial 3, 3) := by decide +kernel
theorem dX6_init_4 : decode cX6_init 4 = .ok (.aload_n 0, 1) := by decide +kernel
theorem dX6_init_5 : decode cX6_init 5 = .ok (.sipush 512, 3) := by decide +kernel
theorem dX6_init_8 : decode cX6_init 8 = .ok (.newarray .int, 2) := by decide +kernel
theorem dX6_init_10 : decode cX6_init 10 = .ok (.putfield 9, 3) := by decide +kernel
theorem dX6_init_13 : decode cX6_init 13 = .ok (.aload_n 0, 1) := by decide +kernel
theorem dX6_init_14 : decode cX6_init 14 = .ok (.bipush 16, 2) := by decide +kernel
theorem dX6_init_16 : decode cX6_init 16 = .ok (.anewarray 15, 3) := by decide +kernel
theorem dX6_init_19 : decode cX6_init 19 = .ok (.putfield 17, 3) := by decide +kernel
theorem dX6_init_22 : decode cX6_init 22 = .ok (.aload_n 0, 1) := by decide +kernel
theorem dX6_init_23 : decode cX6_init 23 = .ok (.new 21, 3) := by decide +kernel
theorem dX6_init_26 : decode cX6_init 26 = .ok (.dup, 1) := by decide +kernel
theorem dX6_init_27 : decode cX6_init 27 = .ok (.invokespecial 23, 3) := by decide +kernel
theorem dX6_init_30 : decode cX6_init 30 = .ok (.putfield 24, 3) := by decide +kernel
theorem dX6_init_33 : decode cX6_init 33 = .ok (.aload_n 0, 1) := by decide +kernel
theorem dX6_init_34 : decode cX6_init 34 = .ok (.new 28, 3) := by decide +kernel
theorem dX6_init_37 : decode cX6_init 37 = .ok (.dup, 1) := by decide +kernel
theorem dX6_init_38 : decode cX6_init 38 = .ok (.invokespecial 30, 3) := by decide +kernel
theorem dX6_init_41 : decode cX6_init 41 = .ok (.putfield 31, 3) := by decide +kernel
theorem dX6_init_44 : decode cX6_init 44 = .ok (.aload_n 0, 1) := by decide +kernel
theorem dX6_init_45 : decode cX6_init 45 = .ok (.new 28, 3) := by decide +kernel
theorem dX6_init_48 : decode cX6_init 48 = .ok (.dup, 1) := by decide +kernel
theorem dX6_init_49 : decode cX6_init 49 = .ok (.invokespecial 30, 3) := by decide +kernel
theorem dX6_init_52 : decode cX6_init 52 = .ok (.putfield 35, 3) := by decide +kernel
theorem dX6_init_55 : decode cX6_init 55 = .ok (.aload_n 0, 1) := by decide +kernel
theorem dX6_init_56 : decode cX6_init 56 = .ok (.bipush 8, 2) := by decide +kernel
theorem dX6_init_58 : decode cX6_init 58 = .ok (.anewarray 38, 3) := by decide +kernel
theorem dX6_init_61 : decode cX6_init 61 = .ok (.putfield 40, 3) := by decide +kernel
theorem dX6_init_64 : decode cX6_init 64 = .ok (.iconst 0, 1) := by decide +kernel
theorem dX6_init_65 : decode cX6_init 65 = .ok (.istore_n 1, 1) := by decide +kernel
theorem dX6_init_66 : decode cX6_init 66 = .ok (.iload_n 1, 1) := by decide +kernel
theorem dX6_init_67 : decode cX6_init 67 = .ok (.bipush 16, 2) := by decide +kernel
theorem dX6_init_69 : decode cX6_init 69 = .ok (.if_icmp .ge 22, 3) := by decide +kernel
theorem dX6_init_72 : decode cX6_init 72 = .ok (.aload_n 0, 1) := by decide +kernel
theorem dX6_init_73 : decode cX6_init 73 = .ok (.getfield 17, 3) := by decide +kernel
theorem dX6_init_76 : decode cX6_init 76 = .ok (.iload_n 1, 1) := by decide +kernel
theorem dX6_init_77 : decode cX6_init 77 = .ok (.new 15, 3) := by decide +kernel
theorem dX6_init_80 : decode cX6_init 80 = .ok (.dup, 1) := by decide +kernel
theorem dX6_init_81 : decode cX6_init 81 = .ok (.invokespecial 44, 3) := by decide +kernel
theorem dX6_init_84 : decode cX6_init 84 = .ok (.aastore, 1) := by decide +kernel
theorem dX6_init_85 : decode cX6_init 85 = .ok (.iinc 1 1, 3) := by decide +kernel
theorem dX6_init_88 : decode cX6_init 88 = .ok (.goto (-22), 3) := by decide +kernel
theorem dX6_init_91 : decode cX6_init 91 = .ok (.iconst 0, 1) := by decide +kernel
theorem dX6_init_92 : decode cX6_init 92 = .ok (.istore_n 1, 1) := by decide +kernel
theorem dX6_init_93 : decode cX6_init 93 = .ok (.iload_n 1, 1) := by decide +kernel
theorem dX6_init_94 : decode cX6_init 94 = .ok (.bipush 8, 2) := by decide +kernel
theorem dX6_init_96 : decode cX6_init 96 = .ok (.if_icmp .ge 22, 3) := by decide +kernel
theorem dX6_init_99 : decode cX6_init 99 = .ok (.aload_n 0, 1) := by decide +kernel
theorem dX6_init_100 : decode cX6_init 100 = .ok (.getfield 40, 3) := by decide +kernel
theorem dX6_init_103 : decode cX6_init 103 = .ok (.iload_n 1, 1) := by decide +kernel
theorem dX6_init_104 : decode cX6_init 104 = .ok (.new 38, 3) := by decide +kernel
theorem dX6_init_107 : decode cX6_init 107 = .ok (.dup, 1) := by decide +kernel
theorem dX6_init_108 : decode cX6_init 108 = .ok (.invokespecial 45, 3) := by decide +kernel
theorem dX6_init_111 : decode cX6_init 111 = .ok (.aastore, 1) := by decide +kernel
theorem dX6_init_112 : decode cX6_init 112 = .ok (.iinc 1 1, 3) := by decide +kernel
theorem dX6_init_115 : decode cX6_init 115 = .ok (.goto (-22), 3) := by decide +kernel
theorem dX6_init_118 : decode cX6_init 118 = .ok (.return_, 1) := by decide +kernel
theorem dX6_perform_0 : decode cX6_perform 0 = .ok (.aload_n 0, 1) := by decide +kernel
theorem dX6_perform_1 : decode cX6_perform 1 = .ok (.aload_n 1, 1) := by decide +kernel
theorem dX6_perform_2 : decode cX6_perform 2 = .ok (.iload_n 2, 1) := by decide +kernel
theorem dX6_perform_3 : decode cX6_perform 3 = .ok (.invokevirtual 46, 3) := by decide +kernel
theorem dX6_perform_6 : decode cX6_perform 6 = .ok (.iconst 0, 1) := by decide +kernel
theorem dX6_perform_7 : decode cX6_perform 7 = .ok (.istore_n 3, 1) := by decide +kernel
theorem dX6_perform_8 : decode cX6_perform 8 = .ok (.iload_n 3, 1) := by decide +kernel
theorem dX6_perform_9 : decode cX6_perform 9 = .ok (.aload_n 0, 1) := by decide +kernel
theorem dX6_perform_10 : decode cX6_perform 10 = .ok (.getfield 50, 3) := by decide +kernel
theorem dX6_perform_13 : decode cX6_perform 13 = .ok (.if_icmp .gt 69, 3) := by decide +kernel
theorem dX6_perform_16 : decode cX6_perform 16 = .ok (.aload_n 0, 1) := by decide +kernel
theorem dX6_perform_17 : decode cX6_perform 17 = .ok (.getfield 54, 3) := by decide +kernel
theorem dX6_perform_20 : decode cX6_perform 20 = .ok (.iconst 1, 1) := by decide +kernel
theorem dX6_perform_21 : decode cX6_perform 21 = .ok (.if_icmp .ne 61, 3) := by decide +kernel
theorem dX6_perform_24 : decode cX6_perform 24 = .ok (.aload_n 0, 1) := by decide +kernel
theorem dX6_perform_25 : decode cX6_perform 25 = .ok (.getfield 24, 3) := by decide +kernel
theorem dX6_perform_28 : decode cX6_perform 28 = .ok (.getfield 57, 3) := by decide +kernel
theorem dX6_perform_31 : decode cX6_perform 31 = .ok (.getfield 61, 3) := by decide +kernel
theorem dX6_perform_34 : decode cX6_perform 34 = .ok (.ifCond .eq 48, 3) := by decide +kernel
theorem dX6_perform_37 : decode cX6_perform 37 = .ok (.aload_n 0, 1) := by decide +kernel
theorem dX6_perform_38 : decode cX6_perform 38 = .ok (.getfield 67, 3) := by decide +kernel
theorem dX6_perform_41 : decode cX6_perform 41 = .ok (.aload_n 0, 1) := by decide +kernel
theorem dX6_perform_42 : decode cX6_perform 42 = .ok (.getfield 50, 3) := by decide +kernel
theorem dX6_perform_45 : decode cX6_perform 45 = .ok (.if_icmp .lt 12, 3) := by decide +kernel
theorem dX6_perform_48 : decode cX6_perform 48 = .ok (.aload_n 0, 1) := by decide +kernel
theorem dX6_perform_49 : decode cX6_perform 49 = .ok (.bipush 10, 2) := by decide +kernel
theorem dX6_perform_51 : decode cX6_perform 51 = .ok (.putfield 54, 3) := by decide +kernel
theorem dX6_perform_54 : decode cX6_perform 54 = .ok (.goto 22, 3) := by decide +kernel
theorem dX6_perform_57 : decode cX6_perform 57 = .ok (.aload_n 0, 1) := by decide +kernel
theorem dX6_perform_58 : decode cX6_perform 58 = .ok (.invokevirtual 70, 3) := by decide +kernel
theorem dX6_perform_61 : decode cX6_perform 61 = .ok (.istore 4, 2) := by decide +kernel
theorem dX6_perform_63 : decode cX6_perform 63 = .ok (.iload 4, 2) := by decide +kernel
theorem dX6_perform_65 : decode cX6_perform 65 = .ok (.ldc 74, 2) := by decide +kernel
theorem dX6_perform_67 : decode cX6_perform 67 = .ok (.if_icmp .eq 9, 3) := by decide +kernel
theorem dX6_perform_70 : decode cX6_perform 70 = .ok (.aload_n 0, 1) := by decide +kernel
theorem dX6_perform_71 : decode cX6_perform 71 = .ok (.iload 4, 2) := by decide +kernel
theorem dX6_perform_73 : decode cX6_perform 73 = .ok (.invokevirtual 75, 3) := by decide +kernel
theorem dX6_perform_76 : decode cX6_perform 76 = .ok (.iinc 3 1, 3) := by decide +kernel
theorem dX6_perform_79 : decode cX6_perform 79 = .ok (.goto (-71), 3) := by decide +kernel
theorem dX6_perform_82 : decode cX6_perform 82 = .ok (.aload_n 0, 1) := by decide +kernel
theorem dX6_perform_83 : decode cX6_perform 83 = .ok (.getfield 24, 3) := by decide +kernel
theorem dX6_perform_86 : decode cX6_perform 86 = .ok (.getfield 57, 3) := by decide +kernel
theorem dX6_perform_89 : decode cX6_perform 89 = .ok (.getfield 61, 3) := by decide +kernel
theorem dX6_perform_92 : decode cX6_perform 92 = .ok (.ifCond .eq 14, 3) := by decide +kernel
theorem dX6_perform_95 : decode cX6_perform 95 = .ok (.aload_n 0, 1) := by decide +kernel
theorem dX6_perform_96 : decode cX6_perform 96 = .ok (.getfield 24, 3) := by decide +kernel
theorem dX6_perform_99 : decode cX6_perform 99 = .ok (.invokevirtual 79, 3) := by decide +kernel
theorem dX6_perform_102 : decode cX6_perform 102 = .ok (.pop, 1) := by decide +kernel
theorem dX6_perform_103 : decode cX6_perform 103 = .ok (.goto 17, 3) := by decide +kernel
theorem dX6_perform_106 : decode cX6_perform 106 = .ok (.aload_n 0, 1) := by decide +kernel
theorem dX6_perform_107 : decode cX6_perform 107 = .ok (.bipush (-2), 2) := by decide +kernel
theorem dX6_perform_109 : decode cX6_perform 109 = .ok (.putfield 54, 3) := by decide +kernel
theorem dX6_perform_112 : decode cX6_perform 112 = .ok (.aload_n 0, 1) := by decide +kernel
theorem dX6_perform_113 : decode cX6_perform 113 = .ok (.getfield 35, 3) := by decide +kernel
theorem dX6_perform_116 : decode cX6_perform 116 = .ok (.iconst 0, 1) := by decide +kernel
theorem dX6_perform_117 : decode cX6_perform 117 = .ok (.putfield 83, 3) := by decide +kernel
theorem dX6_perform_120 : decode cX6_perform 120 = .ok (.aload_n 0, 1) := by decide +kernel
theorem dX6_perform_121 : decode cX6_perform 121 = .ok (.getfield 31, 3) := by decide +kernel
theorem dX6_perform_124 : decode cX6_perform 124 = .ok (.iconst 0, 1) := by decide +kernel
theorem dX6_perform_125 : decode cX6_perform 125 = .ok (.putfield 83, 3) := by decide +kernel
theorem dX6_perform_128 : decode cX6_perform 128 = .ok (.aload_n 0, 1) := by decide +kernel
theorem dX6_perform_129 : decode cX6_perform 129 = .ok (.getfield 54, 3) := by decide +kernel
theorem dX6_perform_132 : decode cX6_perform 132 = .ok (.ireturn, 1) := by decide +kernel
theorem dX6_begin_0 : decode cX6_begin 0 = .ok (.aload_n 0, 1) := by decide +kernel
theorem dX6_begin_1 : decode cX6_begin 1 = .ok (.iload_n 2, 1) := by decide +kernel
theorem dX6_begin_2 : decode cX6_begin 2 = .ok (.putfield 50, 3) := by decide +kernel
theorem dX6_begin_5 : decode cX6_begin 5 = .ok (.aload_n 0, 1) := by decide +kernel
theorem dX6_begin_6 : decode cX6_begin 6 = .ok (.iconst 0, 1) := by decide +kernel
theorem dX6_begin_7 : decode cX6_begin 7 = .ok (.putfield 67, 3) := by decide +kernel
theorem dX6_begin_10 : decode cX6_begin 10 = .ok (.aload_n 0, 1) := by decide +kernel
theorem dX6_begin_11 : decode cX6_begin 11 = .ok (.iconst 1, 1) := by decide +kernel
theorem dX6_begin_12 : decode cX6_begin 12 = .ok (.putfield 54, 3) := by decide +kernel
theorem dX6_begin_15 : decode cX6_begin 15 = .ok (.aload_n 0, 1) := by decide +kernel
theorem dX6_begin_16 : decode cX6_begin 16 = .ok (.iconst 0, 1) := by decide +kernel
theorem dX6_begin_17 : decode cX6_begin 17 = .ok (.putfield 86, 3) := by decide +kernel
theorem dX6_begin_20 : decode cX6_begin 20 = .ok (.aload_n 0, 1) := by decide +kernel
theorem dX6_begin_21 : decode cX6_begin 21 = .ok (.iconst 0, 1) := by decide +kernel
theorem dX6_begin_22 : decode cX6_begin 22 = .ok (.putfield 89, 3) := by decide +kernel
theorem dX6_begin_25 : decode cX6_begin 25 = .ok (.aload_n 0, 1) := by decide +kernel
theorem dX6_begin_26 : decode cX6_begin 26 = .ok (.getfield 35, 3) := by decide +kernel
theorem dX6_begin_29 : decode cX6_begin 29 = .ok (.iconst 0, 1) := by decide +kernel
theorem dX6_begin_30 : decode cX6_begin 30 = .ok (.putfield 83, 3) := by decide +kernel
theorem dX6_begin_33 : decode cX6_begin 33 = .ok (.aload_n 0, 1) := by decide +kernel
theorem dX6_begin_34 : decode cX6_begin 34 = .ok (.iconst 0, 1) := by decide +kernel
theorem dX6_begin_35 : decode cX6_begin 35 = .ok (.putfield 92, 3) := by decide +kernel
theorem dX6_begin_38 : decode cX6_begin 38 = .ok (.aload_n 0, 1) := by decide +kernel
theorem dX6_begin_39 : decode cX6_begin 39 = .ok (.aload_n 1, 1) := by decide +kernel
theorem dX6_begin_40 : decode cX6_begin 40 = .ok (.invokevirtual 95, 3) := by decide +kernel
theorem dX6_begin_43 : decode cX6_begin 43 = .ok (.return_, 1) := by decide +kernel
theorem dX6_step_0 : decode cX6_step 0 = .ok (.aload_n 0, 1) := by decide +kernel
theorem dX6_step_1 : decode cX6_step 1 = .ok (.dup, 1) := by decide +kernel
theorem dX6_step_2 : decode cX6_step 2 = .ok (.getfield 67, 3) := by decide +kernel
theorem dX6_step_5 : decode cX6_step 5 = .ok (.iconst 1, 1) := by decide +kernel
theorem dX6_step_6 : decode cX6_step 6 = .ok (.iadd, 1) := by decide +kernel
theorem dX6_step_7 : decode cX6_step 7 = .ok (.putfield 67, 3) := by decide +kernel
theorem dX6_step_10 : decode cX6_step 10 = .ok (.aload_n 0, 1) := by decide +kernel
theorem dX6_step_11 : decode cX6_step 11 = .ok (.aload_n 0, 1) := by decide +kernel
theorem dX6_step_12 : decode cX6_step 12 = .ok (.getfield 99, 3) := by decide +kernel
theorem dX6_step_15 : decode cX6_step 15 = .ok (.getfield 103, 3) := by decide +kernel
theorem dX6_step_18 : decode cX6_step 18 = .ok (.putfield 106, 3) := by decide +kernel
theorem dX6_step_21 : decode cX6_step 21 = .ok (.aload_n 0, 1) := by decide +kernel
theorem dX6_step_22 : decode cX6_step 22 = .ok (.invokevirtual 109, 3) := by decide +kernel
theorem dX6_step_25 : decode cX6_step 25 = .ok (.istore_n 1, 1) := by decide +kernel
theorem dX6_step_26 : decode cX6_step 26 = .ok (.iload_n 1, 1) := by decide +kernel
theorem dX6_step_27 : decode cX6_step 27 = .ok (.ldc 74, 2) := by decide +kernel
theorem dX6_step_29 : decode cX6_step 29 = .ok (.if_icmp .eq 5, 3) := by decide +kernel
theorem dX6_step_32 : decode cX6_step 32 = .ok (.iload_n 1, 1) := by decide +kernel
theorem dX6_step_33 : decode cX6_step 33 = .ok (.ireturn, 1) := by decide +kernel
theorem dX6_step_34 : decode cX6_step 34 = .ok (.getstatic 112, 3) := by decide +kernel
theorem dX6_step_37 : decode cX6_step 37 = .ok (.aload_n 0, 1) := by decide +kernel
theorem dX6_step_38 : decode cX6_step 38 = .ok (.getfield 9, 3) := by decide +kernel
theorem dX6_step_41 : decode cX6_step 41 = .ok (.aload_n 0, 1) := by decide +kernel
theorem dX6_step_42 : decode cX6_step 42 = .ok (.getfield 106, 3) := by decide +kernel
theorem dX6_step_45 : decode cX6_step 45 = .ok (.iaload, 1) := by decide +kernel
theorem dX6_step_46 : decode cX6_step 46 = .ok (.aaload, 1) := by decide +kernel
theorem dX6_step_47 : decode cX6_step 47 = .ok (.astore_n 2, 1) := by decide +kernel
theorem dX6_step_48 : decode cX6_step 48 = .ok (.aload_n 0, 1) := by decide +kernel
theorem dX6_step_49 : decode cX6_step 49 = .ok (.getfield 99, 3) := by decide +kernel
theorem dX6_step_52 : decode cX6_step 52 = .ok (.aload_n 0, 1) := by decide +kernel
theorem dX6_step_53 : decode cX6_step 53 = .ok (.getfield 106, 3) := by decide +kernel
theorem dX6_step_56 : decode cX6_step 56 = .ok (.aload_n 2, 1) := by decide +kernel
theorem dX6_step_57 : decode cX6_step 57 = .ok (.getfield 116, 3) := by decide +kernel
theorem dX6_step_60 : decode cX6_step 60 = .ok (.iadd, 1) := by decide +kernel
theorem dX6_step_61 : decode cX6_step 61 = .ok (.putfield 103, 3) := by decide +kernel
theorem dX6_step_64 : decode cX6_step 64 = .ok (.aload_n 2, 1) := by decide +kernel
theorem dX6_step_65 : decode cX6_step 65 = .ok (.getfield 119, 3) := by decide +kernel
theorem dX6_step_68 : decode cX6_step 68 = .ok (.tableswitch 86 0 6 #[44, 50, 56, 62, 68, 74, 80], 44) := by decide +kernel
theorem dX6_step_112 : decode cX6_step 112 = .ok (.aload_n 0, 1) := by decide +kernel
theorem dX6_step_113 : decode cX6_step 113 = .ok (.aload_n 2, 1) := by decide +kernel
theorem dX6_step_114 : decode cX6_step 114 = .ok (.invokevirtual 122, 3) := by decide +kernel
theorem dX6_step_117 : decode cX6_step 117 = .ok (.ireturn, 1) := by decide +kernel
theorem dX6_step_118 : decode cX6_step 118 = .ok (.aload_n 0, 1) := by decide +kernel
theorem dX6_step_119 : decode cX6_step 119 = .ok (.aload_n 2, 1) := by decide +kernel
theorem dX6_step_120 : decode cX6_step 120 = .ok (.invokevirtual 126, 3) := by decide +kernel
theorem dX6_step_123 : decode cX6_step 123 = .ok (.ireturn, 1) := by decide +kernel
theorem dX6_step_124 : decode cX6_step 124 = .ok (.aload_n 0, 1) := by decide +kernel
theorem dX6_step_125 : decode cX6_step 125 = .ok (.aload_n 2, 1) := by decide +kernel
theorem dX6_step_126 : decode cX6_step 126 = .ok (.invokevirtual 129, 3) := by decide +kernel
theorem dX6_step_129 : decode cX6_step 129 = .ok (.ireturn, 1) := by decide +kernel
theorem dX6_step_130 : decode cX6_step 130 = .ok (.aload_n 0, 1) := by decide +kernel
theorem dX6_step_131 : decode cX6_step 131 = .ok (.aload_n 2, 1) := by decide +kernel
theorem dX6_step_132 : decode cX6_step 132 = .ok (.invokevirtual 132, 3) := by decide +kernel
theorem dX6_step_135 : decode cX6_step 135 = .ok (.ireturn, 1) := by decide +kernel
theorem dX6_step_136 : decode cX6_step 136 = .ok (.aload_n 0, 1) := by decide +kernel
theorem dX6_step_137 : decode cX6_step 137 = .ok (.aload_n 2, 1) := by decide +kernel
theorem dX6_step_138 : decode cX6_step 138 = .ok (.invokevirtual 135, 3) := by decide +kernel
theorem dX6_step_141 : decode cX6_step 141 = .ok (.ireturn, 1) := by decide +kernel
theorem dX6_step_142 : decode cX6_step 142 = .ok (.aload_n 0, 1) := by decide +kernel
theorem dX6_step_143 : decode cX6_step 143 = .ok (.aload_n 2, 1) := by decide +kernel
theorem dX6_step_144 : decode cX6_step 144 = .ok (.invokevirtual 138, 3) := by decide +kernel
theorem dX6_step_147 : decode cX6_step 147 = .ok (.ireturn, 1) := by decide +kernel
theorem dX6_step_148 : decode cX6_step 148 = .ok (.aload_n 0, 1) := by decide +kernel
theorem dX6_step_149 : decode cX6_step 149 = .ok (.aload_n 2, 1) := by decide +kernel
theorem dX6_step_150 : decode cX6_step 150 = .ok (.invokevirtual 141, 3) := by decide +kernel
theorem dX6_step_153 : decode cX6_step 153 = .ok (.ireturn, 1) := by decide +kernel
theorem dX6_step_154 : decode cX6_step 154 = .ok (.aload_n 0, 1) := by decide +kernel
theorem dX6_step_155 : decode cX6_step 155 = .ok (.aload_n 2, 1) := by decide +kernel
theorem dX6_step_156 : decode cX6_step 156 = .ok (.invokevirtual 144, 3) := by decide +kernel
theorem dX6_step_159 : decode cX6_step 159 = .ok (.ireturn, 1) := by decide +kernel
theorem dX6_fetchFault_0 : decode cX6_fetchFault 0 = .ok (.aload_n 0, 1) := by decide +kernel
theorem dX6_fetchFault_1 : decode cX6_fetchFault 1 = .ok (.getfield 106, 3) := by decide +kernel
theorem dX6_fetchFault_4 : decode cX6_fetchFault 4 = .ok (.ifCond .lt 29, 3) := by decide +kernel
theorem dX6_fetchFault_7 : decode cX6_fetchFault 7 = .ok (.aload_n 0, 1) := by decide +kernel
theorem dX6_fetchFault_8 : decode cX6_fetchFault 8 = .ok (.getfield 106, 3) := by decide +kernel
theorem dX6_fetchFault_11 : decode cX6_fetchFault 11 = .ok (.sipush 512, 3) := by decide +kernel
theorem dX6_fetchFault_14 : decode cX6_fetchFault 14 = .ok (.if_icmp .ge 19, 3) := by decide +kernel
theorem dX6_fetchFault_17 : decode cX6_fetchFault 17 = .ok (.aload_n 0, 1) := by decide +kernel
theorem dX6_fetchFault_18 : decode cX6_fetchFault 18 = .ok (.getfield 9, 3) := by decide +kernel
theorem dX6_fetchFault_21 : decode cX6_fetchFault 21 = .ok (.aload_n 0, 1) := by decide +kernel
theorem dX6_fetchFault_22 : decode cX6_fetchFault 22 = .ok (.getfield 106, 3) := by decide +kernel
theorem dX6_fetchFault_25 : decode cX6_fetchFault 25 = .ok (.iaload, 1) := by decide +kernel
theorem dX6_fetchFault_26 : decode cX6_fetchFault 26 = .ok (.getstatic 112, 3) := by decide +kernel
theorem dX6_fetchFault_29 : decode cX6_fetchFault 29 = .ok (.arraylength, 1) := by decide +kernel
theorem dX6_fetchFault_30 : decode cX6_fetchFault 30 = .ok (.if_icmp .lt 6, 3) := by decide +kernel
theorem dX6_fetchFault_33 : decode cX6_fetchFault 33 = .ok (.bipush 7, 2) := by decide +kernel
theorem dX6_fetchFault_35 : decode cX6_fetchFault 35 = .ok (.ireturn, 1) := by decide +kernel
theorem dX6_fetchFault_36 : decode cX6_fetchFault 36 = .ok (.getstatic 112, 3) := by decide +kernel
theorem dX6_fetchFault_39 : decode cX6_fetchFault 39 = .ok (.aload_n 0, 1) := by decide +kernel
theorem dX6_fetchFault_40 : decode cX6_fetchFault 40 = .ok (.getfield 9, 3) := by decide +kernel
theorem dX6_fetchFault_43 : decode cX6_fetchFault 43 = .ok (.aload_n 0, 1) := by decide +kernel
theorem dX6_fetchFault_44 : decode cX6_fetchFault 44 = .ok (.getfield 106, 3) := by decide +kernel
theorem dX6_fetchFault_47 : decode cX6_fetchFault 47 = .ok (.iaload, 1) := by decide +kernel
theorem dX6_fetchFault_48 : decode cX6_fetchFault 48 = .ok (.aaload, 1) := by decide +kernel
theorem dX6_fetchFault_49 : decode cX6_fetchFault 49 = .ok (.astore_n 1, 1) := by decide +kernel
theorem dX6_fetchFault_50 : decode cX6_fetchFault 50 = .ok (.aload_n 0, 1) := by decide +kernel
theorem dX6_fetchFault_51 : decode cX6_fetchFault 51 = .ok (.getfield 106, 3) := by decide +kernel
theorem dX6_fetchFault_54 : decode cX6_fetchFault 54 = .ok (.aload_n 1, 1) := by decide +kernel
theorem dX6_fetchFault_55 : decode cX6_fetchFault 55 = .ok (.getfield 116, 3) := by decide +kernel
theorem dX6_fetchFault_58 : decode cX6_fetchFault 58 = .ok (.iadd, 1) := by decide +kernel
theorem dX6_fetchFault_59 : decode cX6_fetchFault 59 = .ok (.sipush 512, 3) := by decide +kernel
theorem dX6_fetchFault_62 : decode cX6_fetchFault 62 = .ok (.if_icmp .le 6, 3) := by decide +kernel
theorem dX6_fetchFault_65 : decode cX6_fetchFault 65 = .ok (.bipush 7, 2) := by decide +kernel
theorem dX6_fetchFault_67 : decode cX6_fetchFault 67 = .ok (.ireturn, 1) := by decide +kernel
theorem dX6_fetchFault_68 : decode cX6_fetchFault 68 = .ok (.aload_n 0, 1) := by decide +kernel
theorem dX6_fetchFault_69 : decode cX6_fetchFault 69 = .ok (.getfield 99, 3) := by decide +kernel
theorem dX6_fetchFault_72 : decode cX6_fetchFault 72 = .ok (.getfield 147, 3) := by decide +kernel
theorem dX6_fetchFault_75 : decode cX6_fetchFault 75 = .ok (.aload_n 1, 1) := by decide +kernel
theorem dX6_fetchFault_76 : decode cX6_fetchFault 76 = .ok (.getfield 150, 3) := by decide +kernel
theorem dX6_fetchFault_79 : decode cX6_fetchFault 79 = .ok (.if_icmp .ge 6, 3) := by decide +kernel
theorem dX6_fetchFault_82 : decode cX6_fetchFault 82 = .ok (.bipush 6, 2) := by decide +kernel
theorem dX6_fetchFault_84 : decode cX6_fetchFault 84 = .ok (.ireturn, 1) := by decide +kernel
theorem dX6_fetchFault_85 : decode cX6_fetchFault 85 = .ok (.aload_n 1, 1) := by decide +kernel
theorem dX6_fetchFault_86 : decode cX6_fetchFault 86 = .ok (.getstatic 153, 3) := by decide +kernel
theorem dX6_fetchFault_89 : decode cX6_fetchFault 89 = .ok (.if_acmp .eq 10, 3) := by decide +kernel
theorem dX6_fetchFault_92 : decode cX6_fetchFault 92 = .ok (.aload_n 1, 1) := by decide +kernel
theorem dX6_fetchFault_93 : decode cX6_fetchFault 93 = .ok (.getstatic 157, 3) := by decide +kernel
theorem dX6_fetchFault_96 : decode cX6_fetchFault 96 = .ok (.if_acmp .ne 6, 3) := by decide +kernel
theorem dX6_fetchFault_99 : decode cX6_fetchFault 99 = .ok (.ldc 74, 2) := by decide +kernel
theorem dX6_fetchFault_101 : decode cX6_fetchFault 101 = .ok (.ireturn, 1) := by decide +kernel
theorem dX6_fetchFault_102 : decode cX6_fetchFault 102 = .ok (.aload_n 0, 1) := by decide +kernel
theorem dX6_fetchFault_103 : decode cX6_fetchFault 103 = .ok (.getfield 99, 3) := by decide +kernel
theorem dX6_fetchFault_106 : decode cX6_fetchFault 106 = .ok (.aload_n 1, 1) := by decide +kernel
theorem dX6_fetchFault_107 : decode cX6_fetchFault 107 = .ok (.getfield 160, 3) := by decide +kernel
theorem dX6_fetchFault_110 : decode cX6_fetchFault 110 = .ok (.aload_n 1, 1) := by decide +kernel
theorem dX6_fetchFault_111 : decode cX6_fetchFault 111 = .ok (.getfield 150, 3) := by decide +kernel
theorem dX6_fetchFault_114 : decode cX6_fetchFault 114 = .ok (.isub, 1) := by decide +kernel
theorem dX6_fetchFault_115 : decode cX6_fetchFault 115 = .ok (.invokevirtual 163, 3) := by decide +kernel
theorem dX6_fetchFault_118 : decode cX6_fetchFault 118 = .ok (.ifCond .eq 8, 3) := by decide +kernel
theorem dX6_fetchFault_121 : decode cX6_fetchFault 121 = .ok (.ldc 74, 2) := by decide +kernel
theorem dX6_fetchFault_123 : decode cX6_fetchFault 123 = .ok (.goto 5, 3) := by decide +kernel
theorem dX6_fetchFault_126 : decode cX6_fetchFault 126 = .ok (.bipush 6, 2) := by decide +kernel
theorem dX6_fetchFault_128 : decode cX6_fetchFault 128 = .ok (.ireturn, 1) := by decide +kernel
theorem dX6_raise_0 : decode cX6_raise 0 = .ok (.aload_n 0, 1) := by decide +kernel
theorem dX6_raise_1 : decode cX6_raise 1 = .ok (.getfield 92, 3) := by decide +kernel
theorem dX6_raise_4 : decode cX6_raise 4 = .ok (.istore_n 2, 1) := by decide +kernel
theorem dX6_raise_5 : decode cX6_raise 5 = .ok (.iload_n 2, 1) := by decide +kernel
theorem dX6_raise_6 : decode cX6_raise 6 = .ok (.ifCond .le 34, 3) := by decide +kernel
theorem dX6_raise_9 : decode cX6_raise 9 = .ok (.aload_n 0, 1) := by decide +kernel
theorem dX6_raise_10 : decode cX6_raise 10 = .ok (.getfield 99, 3) := by decide +kernel
theorem dX6_raise_13 : decode cX6_raise 13 = .ok (.getfield 167, 3) := by decide +kernel
theorem dX6_raise_16 : decode cX6_raise 16 = .ok (.ldc 170, 2) := by decide +kernel
theorem dX6_raise_18 : decode cX6_raise 18 = .ok (.if_icmp .eq 12, 3) := by decide +kernel
theorem dX6_raise_21 : decode cX6_raise 21 = .ok (.aload_n 0, 1) := by decide +kernel
theorem dX6_raise_22 : decode cX6_raise 22 = .ok (.getfield 99, 3) := by decide +kernel
theorem dX6_raise_25 : decode cX6_raise 25 = .ok (.iload_n 1, 1) := by decide +kernel
theorem dX6_raise_26 : decode cX6_raise 26 = .ok (.invokevirtual 171, 3) := by decide +kernel
theorem dX6_raise_29 : decode cX6_raise 29 = .ok (.return_, 1) := by decide +kernel
theorem dX6_raise_30 : decode cX6_raise 30 = .ok (.aload_n 0, 1) := by decide +kernel
theorem dX6_raise_31 : decode cX6_raise 31 = .ok (.invokevirtual 174, 3) := by decide +kernel
theorem dX6_raise_34 : decode cX6_raise 34 = .ok (.iinc 2 (-1), 3) := by decide +kernel
theorem dX6_raise_37 : decode cX6_raise 37 = .ok (.goto (-32), 3) := by decide +kernel
theorem dX6_raise_40 : decode cX6_raise 40 = .ok (.aload_n 0, 1) := by decide +kernel
theorem dX6_raise_41 : decode cX6_raise 41 = .ok (.bipush 20, 2) := by decide +kernel
theorem dX6_raise_43 : decode cX6_raise 43 = .ok (.putfield 54, 3) := by decide +kernel
theorem dX6_raise_46 : decode cX6_raise 46 = .ok (.aload_n 0, 1) := by decide +kernel
theorem dX6_raise_47 : decode cX6_raise 47 = .ok (.iload_n 1, 1) := by decide +kernel
theorem dX6_raise_48 : decode cX6_raise 48 = .ok (.putfield 86, 3) := by decide +kernel
theorem dX6_raise_51 : decode cX6_raise 51 = .ok (.return_, 1) := by decide +kernel
theorem dX6_enter_0 : decode cX6_enter 0 = .ok (.aload_n 0, 1) := by decide +kernel
theorem dX6_enter_1 : decode cX6_enter 1 = .ok (.aload_n 0, 1) := by decide +kernel
theorem dX6_enter_2 : decode cX6_enter 2 = .ok (.getfield 40, 3) := by decide +kernel
theorem dX6_enter_5 : decode cX6_enter 5 = .ok (.aload_n 0, 1) := by decide +kernel
theorem dX6_enter_6 : decode cX6_enter 6 = .ok (.getfield 92, 3) := by decide +kernel
theorem dX6_enter_9 : decode cX6_enter 9 = .ok (.aaload, 1) := by decide +kernel
theorem dX6_enter_10 : decode cX6_enter 10 = .ok (.putfield 99, 3) := by decide +kernel
theorem dX6_enter_13 : decode cX6_enter 13 = .ok (.aload_n 0, 1) := by decide +kernel
theorem dX6_enter_14 : decode cX6_enter 14 = .ok (.dup, 1) := by decide +kernel
theorem dX6_enter_15 : decode cX6_enter 15 = .ok (.getfield 92, 3) := by decide +kernel
theorem dX6_enter_18 : decode cX6_enter 18 = .ok (.iconst 1, 1) := by decide +kernel
theorem dX6_enter_19 : decode cX6_enter 19 = .ok (.iadd, 1) := by decide +kernel
theorem dX6_enter_20 : decode cX6_enter 20 = .ok (.putfield 92, 3) := by decide +kernel
theorem dX6_enter_23 : decode cX6_enter 23 = .ok (.aload_n 0, 1) := by decide +kernel
theorem dX6_enter_24 : decode cX6_enter 24 = .ok (.getfield 99, 3) := by decide +kernel
theorem dX6_enter_27 : decode cX6_enter 27 = .ok (.aload_n 1, 1) := by decide +kernel
theorem dX6_enter_28 : decode cX6_enter 28 = .ok (.invokevirtual 177, 3) := by decide +kernel
theorem dX6_enter_31 : decode cX6_enter 31 = .ok (.return_, 1) := by decide +kernel
theorem dX6_leave_0 : decode cX6_leave 0 = .ok (.aload_n 0, 1) := by decide +kernel
theorem dX6_leave_1 : decode cX6_leave 1 = .ok (.dup, 1) := by decide +kernel
theorem dX6_leave_2 : decode cX6_leave 2 = .ok (.getfield 92, 3) := by decide +kernel
theorem dX6_leave_5 : decode cX6_leave 5 = .ok (.iconst 1, 1) := by decide +kernel
theorem dX6_leave_6 : decode cX6_leave 6 = .ok (.isub, 1) := by decide +kernel
theorem dX6_leave_7 : decode cX6_leave 7 = .ok (.putfield 92, 3) := by decide +kernel
theorem dX6_leave_10 : decode cX6_leave 10 = .ok (.aload_n 0, 1) := by decide +kernel
theorem dX6_leave_11 : decode cX6_leave 11 = .ok (.getfield 92, 3) := by decide +kernel
theorem dX6_leave_14 : decode cX6_leave 14 = .ok (.ifCond .le 18, 3) := by decide +kernel
theorem dX6_leave_17 : decode cX6_leave 17 = .ok (.aload_n 0, 1) := by decide +kernel
theorem dX6_leave_18 : decode cX6_leave 18 = .ok (.aload_n 0, 1) := by decide +kernel
theorem dX6_leave_19 : decode cX6_leave 19 = .ok (.getfield 40, 3) := by decide +kernel
theorem dX6_leave_22 : decode cX6_leave 22 = .ok (.aload_n 0, 1) := by decide +kernel
theorem dX6_leave_23 : decode cX6_leave 23 = .ok (.getfield 92, 3) := by decide +kernel
theorem dX6_leave_26 : decode cX6_leave 26 = .ok (.iconst 1, 1) := by decide +kernel
theorem dX6_leave_27 : decode cX6_leave 27 = .ok (.isub, 1) := by decide +kernel
theorem dX6_leave_28 : decode cX6_leave 28 = .ok (.aaload, 1) := by decide +kernel
theorem dX6_leave_29 : decode cX6_leave 29 = .ok (.putfield 99, 3) := by decide +kernel
theorem dX6_leave_32 : decode cX6_leave 32 = .ok (.return_, 1) := by decide +kernel
theorem dX6_unsigned_0 : decode cX6_unsigned 0 = .ok (.aload_n 0, 1) := by decide +kernel
theorem dX6_unsigned_1 : decode cX6_unsigned 1 = .ok (.getfield 9, 3) := by decide +kernel
theorem dX6_unsigned_4 : decode cX6_unsigned 4 = .ok (.aload_n 0, 1) := by decide +kernel
theorem dX6_unsigned_5 : decode cX6_unsigned 5 = .ok (.getfield 106, 3) := by decide +kernel
theorem dX6_unsigned_8 : decode cX6_unsigned 8 = .ok (.iload_n 1, 1) := by decide +kernel
theorem dX6_unsigned_9 : decode cX6_unsigned 9 = .ok (.iadd, 1) := by decide +kernel
theorem dX6_unsigned_10 : decode cX6_unsigned 10 = .ok (.iaload, 1) := by decide +kernel
theorem dX6_unsigned_11 : decode cX6_unsigned 11 = .ok (.ireturn, 1) := by decide +kernel
theorem dX6_signed_0 : decode cX6_signed 0 = .ok (.aload_n 0, 1) := by decide +kernel
theorem dX6_signed_1 : decode cX6_signed 1 = .ok (.getfield 9, 3) := by decide +kernel
theorem dX6_signed_4 : decode cX6_signed 4 = .ok (.aload_n 0, 1) := by decide +kernel
theorem dX6_signed_5 : decode cX6_signed 5 = .ok (.getfield 106, 3) := by decide +kernel
theorem dX6_signed_8 : decode cX6_signed 8 = .ok (.iload_n 1, 1) := by decide +kernel
theorem dX6_signed_9 : decode cX6_signed 9 = .ok (.iadd, 1) := by decide +kernel
theorem dX6_signed_10 : decode cX6_signed 10 = .ok (.iaload, 1) := by decide +kernel
theorem dX6_signed_11 : decode cX6_signed 11 = .ok (.i2b, 1) := by decide +kernel
theorem dX6_signed_12 : decode cX6_signed 12 = .ok (.ireturn, 1) := by decide +kernel
theorem dX6_put_0 : decode cX6_put 0 = .ok (.aload_n 0, 1) := by decide +kernel
theorem dX6_put_1 : decode cX6_put 1 = .ok (.getfield 99, 3) := by decide +kernel
theorem dX6_put_4 : decode cX6_put 4 = .ok (.iload_n 1, 1) := by decide +kernel
theorem dX6_put_5 : decode cX6_put 5 = .ok (.invokevirtual 179, 3) := by decide +kernel
theorem dX6_put_8 : decode cX6_put 8 = .ok (.ldc 74, 2) := by decide +kernel
theorem dX6_put_10 : decode cX6_put 10 = .ok (.ireturn, 1) := by decide +kernel
theorem dX6_move_0 : decode cX6_move 0 = .ok (.getstatic 182, 3) := by decide +kernel
theorem dX6_move_3 : decode cX6_move 3 = .ok (.aload_n 1, 1) := by decide +kernel
theorem dX6_move_4 : decode cX6_move 4 = .ok (.invokevirtual 187, 3) := by decide +kernel
theorem dX6_move_7 : decode cX6_move 7 = .ok (.iaload, 1) := by decide +kernel
theorem dX6_move_8 : decode cX6_move 8 = .ok (.tableswitch 175 1 8 #[48, 58, 77, 98, 124, 147, 159, 170], 48) := by decide +kernel
theorem dX6_move_56 : decode cX6_move 56 = .ok (.aload_n 0, 1) := by decide +kernel
theorem dX6_move_57 : decode cX6_move 57 = .ok (.aload_n 0, 1) := by decide +kernel
theorem dX6_move_58 : decode cX6_move 58 = .ok (.iconst 1, 1) := by decide +kernel
theorem dX6_move_59 : decode cX6_move 59 = .ok (.invokevirtual 190, 3) := by decide +kernel
theorem dX6_move_62 : decode cX6_move 62 = .ok (.invokevirtual 194, 3) := by decide +kernel
theorem dX6_move_65 : decode cX6_move 65 = .ok (.ireturn, 1) := by decide +kernel
theorem dX6_move_66 : decode cX6_move 66 = .ok (.aload_n 0, 1) := by decide +kernel
theorem dX6_move_67 : decode cX6_move 67 = .ok (.aload_n 0, 1) := by decide +kernel
theorem dX6_move_68 : decode cX6_move 68 = .ok (.iconst 1, 1) := by decide +kernel
theorem dX6_move_69 : decode cX6_move 69 = .ok (.invokevirtual 190, 3) := by decide +kernel
theorem dX6_move_72 : decode cX6_move 72 = .ok (.bipush 8, 2) := by decide +kernel
theorem dX6_move_74 : decode cX6_move 74 = .ok (.ishl, 1) := by decide +kernel
theorem dX6_move_75 : decode cX6_move 75 = .ok (.aload_n 0, 1) := by decide +kernel
theorem dX6_move_76 : decode cX6_move 76 = .ok (.iconst 2, 1) := by decide +kernel
theorem dX6_move_77 : decode cX6_move 77 = .ok (.invokevirtual 197, 3) := by decide +kernel
theorem dX6_move_80 : decode cX6_move 80 = .ok (.ior, 1) := by decide +kernel
theorem dX6_move_81 : decode cX6_move 81 = .ok (.invokevirtual 194, 3) := by decide +kernel
theorem dX6_move_84 : decode cX6_move 84 = .ok (.ireturn, 1) := by decide +kernel
theorem dX6_move_85 : decode cX6_move 85 = .ok (.aload_n 0, 1) := by decide +kernel
theorem dX6_move_86 : decode cX6_move 86 = .ok (.aload_n 0, 1) := by decide +kernel
theorem dX6_move_87 : decode cX6_move 87 = .ok (.getfield 99, 3) := by decide +kernel
theorem dX6_move_90 : decode cX6_move 90 = .ok (.getfield 200, 3) := by decide +kernel
theorem dX6_move_93 : decode cX6_move 93 = .ok (.aload_n 0, 1) := by decide +kernel
theorem dX6_move_94 : decode cX6_move 94 = .ok (.iconst 1, 1) := by decide +kernel
theorem dX6_move_95 : decode cX6_move 95 = .ok (.invokevirtual 197, 3) := by decide +kernel
theorem dX6_move_98 : decode cX6_move 98 = .ok (.bipush 8, 2) := by decide +kernel
theorem dX6_move_100 : decode cX6_move 100 = .ok (.irem, 1) := by decide +kernel
theorem dX6_move_101 : decode cX6_move 101 = .ok (.iaload, 1) := by decide +kernel
theorem dX6_move_102 : decode cX6_move 102 = .ok (.invokevirtual 194, 3) := by decide +kernel
theorem dX6_move_105 : decode cX6_move 105 = .ok (.ireturn, 1) := by decide +kernel
theorem dX6_move_106 : decode cX6_move 106 = .ok (.aload_n 0, 1) := by decide +kernel
theorem dX6_move_107 : decode cX6_move 107 = .ok (.getfield 99, 3) := by decide +kernel
theorem dX6_move_110 : decode cX6_move 110 = .ok (.getfield 200, 3) := by decide +kernel
theorem dX6_move_113 : decode cX6_move 113 = .ok (.aload_n 0, 1) := by decide +kernel
theorem dX6_move_114 : decode cX6_move 114 = .ok (.iconst 1, 1) := by decide +kernel
theorem dX6_move_115 : decode cX6_move 115 = .ok (.invokevirtual 197, 3) := by decide +kernel
theorem dX6_move_118 : decode cX6_move 118 = .ok (.bipush 8, 2) := by decide +kernel
theorem dX6_move_120 : decode cX6_move 120 = .ok (.irem, 1) := by decide +kernel
theorem dX6_move_121 : decode cX6_move 121 = .ok (.aload_n 0, 1) := by decide +kernel
theorem dX6_move_122 : decode cX6_move 122 = .ok (.getfield 99, 3) := by decide +kernel
theorem dX6_move_125 : decode cX6_move 125 = .ok (.invokevirtual 203, 3) := by decide +kernel
theorem dX6_move_128 : decode cX6_move 128 = .ok (.iastore, 1) := by decide +kernel
theorem dX6_move_129 : decode cX6_move 129 = .ok (.ldc 74, 2) := by decide +kernel
theorem dX6_move_131 : decode cX6_move 131 = .ok (.ireturn, 1) := by decide +kernel
theorem dX6_move_132 : decode cX6_move 132 = .ok (.aload_n 0, 1) := by decide +kernel
theorem dX6_move_133 : decode cX6_move 133 = .ok (.getfield 99, 3) := by decide +kernel
theorem dX6_move_136 : decode cX6_move 136 = .ok (.aload_n 0, 1) := by decide +kernel
theorem dX6_move_137 : decode cX6_move 137 = .ok (.iconst 1, 1) := by decide +kernel
theorem dX6_move_138 : decode cX6_move 138 = .ok (.invokevirtual 197, 3) := by decide +kernel
theorem dX6_move_141 : decode cX6_move 141 = .ok (.bipush 8, 2) := by decide +kernel
theorem dX6_move_143 : decode cX6_move 143 = .ok (.irem, 1) := by decide +kernel
theorem dX6_move_144 : decode cX6_move 144 = .ok (.aload_n 0, 1) := by decide +kernel
theorem dX6_move_145 : decode cX6_move 145 = .ok (.iconst 2, 1) := by decide +kernel
theorem dX6_move_146 : decode cX6_move 146 = .ok (.invokevirtual 190, 3) := by decide +kernel
theorem dX6_move_149 : decode cX6_move 149 = .ok (.invokevirtual 206, 3) := by decide +kernel
theorem dX6_move_152 : decode cX6_move 152 = .ok (.ldc 74, 2) := by decide +kernel
theorem dX6_move_154 : decode cX6_move 154 = .ok (.ireturn, 1) := by decide +kernel
theorem dX6_move_155 : decode cX6_move 155 = .ok (.aload_n 0, 1) := by decide +kernel
theorem dX6_move_156 : decode cX6_move 156 = .ok (.aload_n 0, 1) := by decide +kernel
theorem dX6_move_157 : decode cX6_move 157 = .ok (.getfield 99, 3) := by decide +kernel
theorem dX6_move_160 : decode cX6_move 160 = .ok (.invokevirtual 210, 3) := by decide +kernel
theorem dX6_move_163 : decode cX6_move 163 = .ok (.invokevirtual 194, 3) := by decide +kernel
theorem dX6_move_166 : decode cX6_move 166 = .ok (.ireturn, 1) := by decide +kernel
theorem dX6_move_167 : decode cX6_move 167 = .ok (.aload_n 0, 1) := by decide +kernel
theorem dX6_move_168 : decode cX6_move 168 = .ok (.getfield 99, 3) := by decide +kernel
theorem dX6_move_171 : decode cX6_move 171 = .ok (.invokevirtual 203, 3) := by decide +kernel
theorem dX6_move_174 : decode cX6_move 174 = .ok (.pop, 1) := by decide +kernel
theorem dX6_move_175 : decode cX6_move 175 = .ok (.ldc 74, 2) := by decide +kernel
theorem dX6_move_177 : decode cX6_move 177 = .ok (.ireturn, 1) := by decide +kernel
theorem dX6_move_178 : decode cX6_move 178 = .ok (.aload_n 0, 1) := by decide +kernel
theorem dX6_move_179 : decode cX6_move 179 = .ok (.invokevirtual 213, 3) := by decide +kernel
theorem dX6_move_182 : decode cX6_move 182 = .ok (.ireturn, 1) := by decide +kernel
theorem dX6_move_183 : decode cX6_move 183 = .ok (.ldc 74, 2) := by decide +kernel
theorem dX6_move_185 : decode cX6_move 185 = .ok (.ireturn, 1) := by decide +kernel
theorem dX6_swap_0 : decode cX6_swap 0 = .ok (.aload_n 0, 1) := by decide +kernel
theorem dX6_swap_1 : decode cX6_swap 1 = .ok (.getfield 99, 3) := by decide +kernel
theorem dX6_swap_4 : decode cX6_swap 4 = .ok (.invokevirtual 203, 3) := by decide +kernel
theorem dX6_swap_7 : decode cX6_swap 7 = .ok (.istore_n 1, 1) := by decide +kernel
theorem dX6_swap_8 : decode cX6_swap 8 = .ok (.aload_n 0, 1) := by decide +kernel
theorem dX6_swap_9 : decode cX6_swap 9 = .ok (.getfield 99, 3) := by decide +kernel
theorem dX6_swap_12 : decode cX6_swap 12 = .ok (.invokevirtual 203, 3) := by decide +kernel
theorem dX6_swap_15 : decode cX6_swap 15 = .ok (.istore_n 2, 1) := by decide +kernel
theorem dX6_swap_16 : decode cX6_swap 16 = .ok (.aload_n 0, 1) := by decide +kernel
theorem dX6_swap_17 : decode cX6_swap 17 = .ok (.getfield 99, 3) := by decide +kernel
theorem dX6_swap_20 : decode cX6_swap 20 = .ok (.iload_n 1, 1) := by decide +kernel
theorem dX6_swap_21 : decode cX6_swap 21 = .ok (.invokevirtual 179, 3) := by decide +kernel
theorem dX6_swap_24 : decode cX6_swap 24 = .ok (.aload_n 0, 1) := by decide +kernel
theorem dX6_swap_25 : decode cX6_swap 25 = .ok (.iload_n 2, 1) := by decide +kernel
theorem dX6_swap_26 : decode cX6_swap 26 = .ok (.invokevirtual 194, 3) := by decide +kernel
theorem dX6_swap_29 : decode cX6_swap 29 = .ok (.ireturn, 1) := by decide +kernel
theorem dX6_reckon_0 : decode cX6_reckon 0 = .ok (.aload_n 0, 1) := by decide +kernel
theorem dX6_reckon_1 : decode cX6_reckon 1 = .ok (.getfield 99, 3) := by decide +kernel
theorem dX6_reckon_4 : decode cX6_reckon 4 = .ok (.invokevirtual 203, 3) := by decide +kernel
theorem dX6_reckon_7 : decode cX6_reckon 7 = .ok (.istore_n 2, 1) := by decide +kernel
theorem dX6_reckon_8 : decode cX6_reckon 8 = .ok (.aload_n 1, 1) := by decide +kernel
theorem dX6_reckon_9 : decode cX6_reckon 9 = .ok (.getstatic 216, 3) := by decide +kernel
theorem dX6_reckon_12 : decode cX6_reckon 12 = .ok (.if_acmp .ne 10, 3) := by decide +kernel
theorem dX6_reckon_15 : decode cX6_reckon 15 = .ok (.aload_n 0, 1) := by decide +kernel
theorem dX6_reckon_16 : decode cX6_reckon 16 = .ok (.iload_n 2, 1) := by decide +kernel
theorem dX6_reckon_17 : decode cX6_reckon 17 = .ok (.ineg, 1) := by decide +kernel
theorem dX6_reckon_18 : decode cX6_reckon 18 = .ok (.invokevirtual 194, 3) := by decide +kernel
theorem dX6_reckon_21 : decode cX6_reckon 21 = .ok (.ireturn, 1) := by decide +kernel
theorem dX6_reckon_22 : decode cX6_reckon 22 = .ok (.aload_n 0, 1) := by decide +kernel
theorem dX6_reckon_23 : decode cX6_reckon 23 = .ok (.getfield 99, 3) := by decide +kernel
theorem dX6_reckon_26 : decode cX6_reckon 26 = .ok (.invokevirtual 203, 3) := by decide +kernel
theorem dX6_reckon_29 : decode cX6_reckon 29 = .ok (.istore_n 3, 1) := by decide +kernel
theorem dX6_reckon_30 : decode cX6_reckon 30 = .ok (.iload_n 2, 1) := by decide +kernel
theorem dX6_reckon_31 : decode cX6_reckon 31 = .ok (.bipush 16, 2) := by decide +kernel
theorem dX6_reckon_33 : decode cX6_reckon 33 = .ok (.invokestatic 219, 3) := by decide +kernel
theorem dX6_reckon_36 : decode cX6_reckon 36 = .ok (.istore 4, 2) := by decide +kernel
theorem dX6_reckon_38 : decode cX6_reckon 38 = .ok (.getstatic 182, 3) := by decide +kernel
theorem dX6_reckon_41 : decode cX6_reckon 41 = .ok (.aload_n 1, 1) := by decide +kernel
theorem dX6_reckon_42 : decode cX6_reckon 42 = .ok (.invokevirtual 187, 3) := by decide +kernel
theorem dX6_reckon_45 : decode cX6_reckon 45 = .ok (.iaload, 1) := by decide +kernel
theorem dX6_reckon_46 : decode cX6_reckon 46 = .ok (.tableswitch 152 9 18 #[54, 62, 70, 78, 94, 110, 118, 126, 134, 143], 54) := by decide +kernel
theorem dX6_reckon_100 : decode cX6_reckon 100 = .ok (.aload_n 0, 1) := by decide +kernel
theorem dX6_reckon_101 : decode cX6_reckon 101 = .ok (.iload_n 3, 1) := by decide +kernel
theorem dX6_reckon_102 : decode cX6_reckon 102 = .ok (.iload_n 2, 1) := by decide +kernel
theorem dX6_reckon_103 : decode cX6_reckon 103 = .ok (.iadd, 1) := by decide +kernel
theorem dX6_reckon_104 : decode cX6_reckon 104 = .ok (.invokevirtual 194, 3) := by decide +kernel
theorem dX6_reckon_107 : decode cX6_reckon 107 = .ok (.ireturn, 1) := by decide +kernel
theorem dX6_reckon_108 : decode cX6_reckon 108 = .ok (.aload_n 0, 1) := by decide +kernel
theorem dX6_reckon_109 : decode cX6_reckon 109 = .ok (.iload_n 3, 1) := by decide +kernel
theorem dX6_reckon_110 : decode cX6_reckon 110 = .ok (.iload_n 2, 1) := by decide +kernel
theorem dX6_reckon_111 : decode cX6_reckon 111 = .ok (.isub, 1) := by decide +kernel
theorem dX6_reckon_112 : decode cX6_reckon 112 = .ok (.invokevirtual 194, 3) := by decide +kernel
theorem dX6_reckon_115 : decode cX6_reckon 115 = .ok (.ireturn, 1) := by decide +kernel
theorem dX6_reckon_116 : decode cX6_reckon 116 = .ok (.aload_n 0, 1) := by decide +kernel
theorem dX6_reckon_117 : decode cX6_reckon 117 = .ok (.iload_n 3, 1) := by decide +kernel
theorem dX6_reckon_118 : decode cX6_reckon 118 = .ok (.iload_n 2, 1) := by decide +kernel
theorem dX6_reckon_119 : decode cX6_reckon 119 = .ok (.imul, 1) := by decide +kernel
theorem dX6_reckon_120 : decode cX6_reckon 120 = .ok (.invokevirtual 194, 3) := by decide +kernel
theorem dX6_reckon_123 : decode cX6_reckon 123 = .ok (.ireturn, 1) := by decide +kernel
theorem dX6_reckon_124 : decode cX6_reckon 124 = .ok (.iload_n 2, 1) := by decide +kernel
theorem dX6_reckon_125 : decode cX6_reckon 125 = .ok (.ifCond .ne 7, 3) := by decide +kernel
theorem dX6_reckon_128 : decode cX6_reckon 128 = .ok (.iconst 1, 1) := by decide +kernel
theorem dX6_reckon_129 : decode cX6_reckon 129 = .ok (.goto 10, 3) := by decide +kernel
theorem dX6_reckon_132 : decode cX6_reckon 132 = .ok (.aload_n 0, 1) := by decide +kernel
theorem dX6_reckon_133 : decode cX6_reckon 133 = .ok (.iload_n 3, 1) := by decide +kernel
theorem dX6_reckon_134 : decode cX6_reckon 134 = .ok (.iload_n 2, 1) := by decide +kernel
theorem dX6_reckon_135 : decode cX6_reckon 135 = .ok (.idiv, 1) := by decide +kernel
theorem dX6_reckon_136 : decode cX6_reckon 136 = .ok (.invokevirtual 194, 3) := by decide +kernel
theorem dX6_reckon_139 : decode cX6_reckon 139 = .ok (.ireturn, 1) := by decide +kernel
theorem dX6_reckon_140 : decode cX6_reckon 140 = .ok (.iload_n 2, 1) := by decide +kernel
theorem dX6_reckon_141 : decode cX6_reckon 141 = .ok (.ifCond .ne 7, 3) := by decide +kernel
theorem dX6_reckon_144 : decode cX6_reckon 144 = .ok (.iconst 1, 1) := by decide +kernel
theorem dX6_reckon_145 : decode cX6_reckon 145 = .ok (.goto 10, 3) := by decide +kernel
theorem dX6_reckon_148 : decode cX6_reckon 148 = .ok (.aload_n 0, 1) := by decide +kernel
theorem dX6_reckon_149 : decode cX6_reckon 149 = .ok (.iload_n 3, 1) := by decide +kernel
theorem dX6_reckon_150 : decode cX6_reckon 150 = .ok (.iload_n 2, 1) := by decide +kernel
theorem dX6_reckon_151 : decode cX6_reckon 151 = .ok (.irem, 1) := by decide +kernel
theorem dX6_reckon_152 : decode cX6_reckon 152 = .ok (.invokevirtual 194, 3) := by decide +kernel
theorem dX6_reckon_155 : decode cX6_reckon 155 = .ok (.ireturn, 1) := by decide +kernel
theorem dX6_reckon_156 : decode cX6_reckon 156 = .ok (.aload_n 0, 1) := by decide +kernel
theorem dX6_reckon_157 : decode cX6_reckon 157 = .ok (.iload_n 3, 1) := by decide +kernel
theorem dX6_reckon_158 : decode cX6_reckon 158 = .ok (.iload_n 2, 1) := by decide +kernel
theorem dX6_reckon_159 : decode cX6_reckon 159 = .ok (.iand, 1) := by decide +kernel
theorem dX6_reckon_160 : decode cX6_reckon 160 = .ok (.invokevirtual 194, 3) := by decide +kernel
theorem dX6_reckon_163 : decode cX6_reckon 163 = .ok (.ireturn, 1) := by decide +kernel
theorem dX6_reckon_164 : decode cX6_reckon 164 = .ok (.aload_n 0, 1) := by decide +kernel
theorem dX6_reckon_165 : decode cX6_reckon 165 = .ok (.iload_n 3, 1) := by decide +kernel
theorem dX6_reckon_166 : decode cX6_reckon 166 = .ok (.iload_n 2, 1) := by decide +kernel
theorem dX6_reckon_167 : decode cX6_reckon 167 = .ok (.ior, 1) := by decide +kernel
theorem dX6_reckon_168 : decode cX6_reckon 168 = .ok (.invokevirtual 194, 3) := by decide +kernel
theorem dX6_reckon_171 : decode cX6_reckon 171 = .ok (.ireturn, 1) := by decide +kernel
theorem dX6_reckon_172 : decode cX6_reckon 172 = .ok (.aload_n 0, 1) := by decide +kernel
theorem dX6_reckon_173 : decode cX6_reckon 173 = .ok (.iload_n 3, 1) := by decide +kernel
theorem dX6_reckon_174 : decode cX6_reckon 174 = .ok (.iload_n 2, 1) := by decide +kernel
theorem dX6_reckon_175 : decode cX6_reckon 175 = .ok (.ixor, 1) := by decide +kernel
theorem dX6_reckon_176 : decode cX6_reckon 176 = .ok (.invokevirtual 194, 3) := by decide +kernel
theorem dX6_reckon_179 : decode cX6_reckon 179 = .ok (.ireturn, 1) := by decide +kernel
theorem dX6_reckon_180 : decode cX6_reckon 180 = .ok (.aload_n 0, 1) := by decide +kernel
theorem dX6_reckon_181 : decode cX6_reckon 181 = .ok (.iload_n 3, 1) := by decide +kernel
theorem dX6_reckon_182 : decode cX6_reckon 182 = .ok (.iload 4, 2) := by decide +kernel
theorem dX6_reckon_184 : decode cX6_reckon 184 = .ok (.ishl, 1) := by decide +kernel
theorem dX6_reckon_185 : decode cX6_reckon 185 = .ok (.invokevirtual 194, 3) := by decide +kernel
theorem dX6_reckon_188 : decode cX6_reckon 188 = .ok (.ireturn, 1) := by decide +kernel
theorem dX6_reckon_189 : decode cX6_reckon 189 = .ok (.aload_n 0, 1) := by decide +kernel
theorem dX6_reckon_190 : decode cX6_reckon 190 = .ok (.iload_n 3, 1) := by decide +kernel
theorem dX6_reckon_191 : decode cX6_reckon 191 = .ok (.iload 4, 2) := by decide +kernel
theorem dX6_reckon_193 : decode cX6_reckon 193 = .ok (.ishr, 1) := by decide +kernel
theorem dX6_reckon_194 : decode cX6_reckon 194 = .ok (.invokevirtual 194, 3) := by decide +kernel
theorem dX6_reckon_197 : decode cX6_reckon 197 = .ok (.ireturn, 1) := by decide +kernel
theorem dX6_reckon_198 : decode cX6_reckon 198 = .ok (.aload_n 0, 1) := by decide +kernel
theorem dX6_reckon_199 : decode cX6_reckon 199 = .ok (.iload_n 3, 1) := by decide +kernel
theorem dX6_reckon_200 : decode cX6_reckon 200 = .ok (.ldc 225, 2) := by decide +kernel
theorem dX6_reckon_202 : decode cX6_reckon 202 = .ok (.iand, 1) := by decide +kernel
theorem dX6_reckon_203 : decode cX6_reckon 203 = .ok (.iload 4, 2) := by decide +kernel
theorem dX6_reckon_205 : decode cX6_reckon 205 = .ok (.iushr, 1) := by decide +kernel
theorem dX6_reckon_206 : decode cX6_reckon 206 = .ok (.invokevirtual 194, 3) := by decide +kernel
theorem dX6_reckon_209 : decode cX6_reckon 209 = .ok (.ireturn, 1) := by decide +kernel
theorem dX6_jump_0 : decode cX6_jump 0 = .ok (.aload_n 1, 1) := by decide +kernel
theorem dX6_jump_1 : decode cX6_jump 1 = .ok (.getstatic 226, 3) := by decide +kernel
theorem dX6_jump_4 : decode cX6_jump 4 = .ok (.if_acmp .ne 23, 3) := by decide +kernel
theorem dX6_jump_7 : decode cX6_jump 7 = .ok (.aload_n 0, 1) := by decide +kernel
theorem dX6_jump_8 : decode cX6_jump 8 = .ok (.getfield 99, 3) := by decide +kernel
theorem dX6_jump_11 : decode cX6_jump 11 = .ok (.aload_n 0, 1) := by decide +kernel
theorem dX6_jump_12 : decode cX6_jump 12 = .ok (.getfield 106, 3) := by decide +kernel
theorem dX6_jump_15 : decode cX6_jump 15 = .ok (.aload_n 0, 1) := by decide +kernel
theorem dX6_jump_16 : decode cX6_jump 16 = .ok (.iconst 1, 1) := by decide +kernel
theorem dX6_jump_17 : decode cX6_jump 17 = .ok (.invokevirtual 190, 3) := by decide +kernel
theorem dX6_jump_20 : decode cX6_jump 20 = .ok (.iadd, 1) := by decide +kernel
theorem dX6_jump_21 : decode cX6_jump 21 = .ok (.putfield 103, 3) := by decide +kernel
theorem dX6_jump_24 : decode cX6_jump 24 = .ok (.ldc 74, 2) := by decide +kernel
theorem dX6_jump_26 : decode cX6_jump 26 = .ok (.ireturn, 1) := by decide +kernel
theorem dX6_jump_27 : decode cX6_jump 27 = .ok (.aload_n 1, 1) := by decide +kernel
theorem dX6_jump_28 : decode cX6_jump 28 = .ok (.getstatic 229, 3) := by decide +kernel
theorem dX6_jump_31 : decode cX6_jump 31 = .ok (.if_acmp .ne 13, 3) := by decide +kernel
theorem dX6_jump_34 : decode cX6_jump 34 = .ok (.aload_n 0, 1) := by decide +kernel
theorem dX6_jump_35 : decode cX6_jump 35 = .ok (.getfield 99, 3) := by decide +kernel
theorem dX6_jump_38 : decode cX6_jump 38 = .ok (.invokevirtual 203, 3) := by decide +kernel
theorem dX6_jump_41 : decode cX6_jump 41 = .ok (.goto 4, 3) := by decide +kernel
theorem dX6_jump_44 : decode cX6_jump 44 = .ok (.iconst 0, 1) := by decide +kernel
theorem dX6_jump_45 : decode cX6_jump 45 = .ok (.istore_n 2, 1) := by decide +kernel
theorem dX6_jump_46 : decode cX6_jump 46 = .ok (.aload_n 0, 1) := by decide +kernel
theorem dX6_jump_47 : decode cX6_jump 47 = .ok (.iconst 1, 1) := by decide +kernel
theorem dX6_jump_48 : decode cX6_jump 48 = .ok (.invokevirtual 197, 3) := by decide +kernel
theorem dX6_jump_51 : decode cX6_jump 51 = .ok (.bipush 6, 2) := by decide +kernel
theorem dX6_jump_53 : decode cX6_jump 53 = .ok (.irem, 1) := by decide +kernel
theorem dX6_jump_54 : decode cX6_jump 54 = .ok (.aload_n 0, 1) := by decide +kernel
theorem dX6_jump_55 : decode cX6_jump 55 = .ok (.getfield 99, 3) := by decide +kernel
theorem dX6_jump_58 : decode cX6_jump 58 = .ok (.invokevirtual 203, 3) := by decide +kernel
theorem dX6_jump_61 : decode cX6_jump 61 = .ok (.iload_n 2, 1) := by decide +kernel
theorem dX6_jump_62 : decode cX6_jump 62 = .ok (.isub, 1) := by decide +kernel
theorem dX6_jump_63 : decode cX6_jump 63 = .ok (.invokestatic 232, 3) := by decide +kernel
theorem dX6_jump_66 : decode cX6_jump 66 = .ok (.ifCond .eq 20, 3) := by decide +kernel
theorem dX6_jump_69 : decode cX6_jump 69 = .ok (.aload_n 0, 1) := by decide +kernel
theorem dX6_jump_70 : decode cX6_jump 70 = .ok (.getfield 99, 3) := by decide +kernel
theorem dX6_jump_73 : decode cX6_jump 73 = .ok (.aload_n 0, 1) := by decide +kernel
theorem dX6_jump_74 : decode cX6_jump 74 = .ok (.getfield 106, 3) := by decide +kernel
theorem dX6_jump_77 : decode cX6_jump 77 = .ok (.aload_n 0, 1) := by decide +kernel
theorem dX6_jump_78 : decode cX6_jump 78 = .ok (.iconst 2, 1) := by decide +kernel
theorem dX6_jump_79 : decode cX6_jump 79 = .ok (.invokevirtual 190, 3) := by decide +kernel
theorem dX6_jump_82 : decode cX6_jump 82 = .ok (.iadd, 1) := by decide +kernel
theorem dX6_jump_83 : decode cX6_jump 83 = .ok (.putfield 103, 3) := by decide +kernel
theorem dX6_jump_86 : decode cX6_jump 86 = .ok (.ldc 74, 2) := by decide +kernel
theorem dX6_jump_88 : decode cX6_jump 88 = .ok (.ireturn, 1) := by decide +kernel
theorem dX6_holds_0 : decode cX6_holds 0 = .ok (.iload_n 0, 1) := by decide +kernel
theorem dX6_holds_1 : decode cX6_holds 1 = .ok (.tableswitch 85 0 4 #[35, 45, 55, 65, 75], 35) := by decide +kernel
theorem dX6_holds_36 : decode cX6_holds 36 = .ok (.iload_n 1, 1) := by decide +kernel
theorem dX6_holds_37 : decode cX6_holds 37 = .ok (.ifCond .ne 7, 3) := by decide +kernel
theorem dX6_holds_40 : decode cX6_holds 40 = .ok (.iconst 1, 1) := by decide +kernel
theorem dX6_holds_41 : decode cX6_holds 41 = .ok (.goto 4, 3) := by decide +kernel
theorem dX6_holds_44 : decode cX6_holds 44 = .ok (.iconst 0, 1) := by decide +kernel
theorem dX6_holds_45 : decode cX6_holds 45 = .ok (.ireturn, 1) := by decide +kernel
theorem dX6_holds_46 : decode cX6_holds 46 = .ok (.iload_n 1, 1) := by decide +kernel
theorem dX6_holds_47 : decode cX6_holds 47 = .ok (.ifCond .eq 7, 3) := by decide +kernel
theorem dX6_holds_50 : decode cX6_holds 50 = .ok (.iconst 1, 1) := by decide +kernel
theorem dX6_holds_51 : decode cX6_holds 51 = .ok (.goto 4, 3) := by decide +kernel
theorem dX6_holds_54 : decode cX6_holds 54 = .ok (.iconst 0, 1) := by decide +kernel
theorem dX6_holds_55 : decode cX6_holds 55 = .ok (.ireturn, 1) := by decide +kernel
theorem dX6_holds_56 : decode cX6_holds 56 = .ok (.iload_n 1, 1) := by decide +kernel
theorem dX6_holds_57 : decode cX6_holds 57 = .ok (.ifCond .ge 7, 3) := by decide +kernel
theorem dX6_holds_60 : decode cX6_holds 60 = .ok (.iconst 1, 1) := by decide +kernel
theorem dX6_holds_61 : decode cX6_holds 61 = .ok (.goto 4, 3) := by decide +kernel
theorem dX6_holds_64 : decode cX6_holds 64 = .ok (.iconst 0, 1) := by decide +kernel
theorem dX6_holds_65 : decode cX6_holds 65 = .ok (.ireturn, 1) := by decide +kernel
theorem dX6_holds_66 : decode cX6_holds 66 = .ok (.iload_n 1, 1) := by decide +kernel
theorem dX6_holds_67 : decode cX6_holds 67 = .ok (.ifCond .lt 7, 3) := by decide +kernel
theorem dX6_holds_70 : decode cX6_holds 70 = .ok (.iconst 1, 1) := by decide +kernel
theorem dX6_holds_71 : decode cX6_holds 71 = .ok (.goto 4, 3) := by decide +kernel
theorem dX6_holds_74 : decode cX6_holds 74 = .ok (.iconst 0, 1) := by decide +kernel
theorem dX6_holds_75 : decode cX6_holds 75 = .ok (.ireturn, 1) := by decide +kernel
theorem dX6_holds_76 : decode cX6_holds 76 = .ok (.iload_n 1, 1) := by decide +kernel
theorem dX6_holds_77 : decode cX6_holds 77 = .ok (.ifCond .le 7, 3) := by decide +kernel
theorem dX6_holds_80 : decode cX6_holds 80 = .ok (.iconst 1, 1) := by decide +kernel
theorem dX6_holds_81 : decode cX6_holds 81 = .ok (.goto 4, 3) := by decide +kernel
theorem dX6_holds_84 : decode cX6_holds 84 = .ok (.iconst 0, 1) := by decide +kernel
theorem dX6_holds_85 : decode cX6_holds 85 = .ok (.ireturn, 1) := by decide +kernel
theorem dX6_holds_86 : decode cX6_holds 86 = .ok (.iload_n 1, 1) := by decide +kernel
theorem dX6_holds_87 : decode cX6_holds 87 = .ok (.ifCond .gt 7, 3) := by decide +kernel
theorem dX6_holds_90 : decode cX6_holds 90 = .ok (.iconst 1, 1) := by decide +kernel
theorem dX6_holds_91 : decode cX6_holds 91 = .ok (.goto 4, 3) := by decide +kernel
theorem dX6_holds_94 : decode cX6_holds 94 = .ok (.iconst 0, 1) := by decide +kernel
theorem dX6_holds_95 : decode cX6_holds 95 = .ok (.ireturn, 1) := by decide +kernel
theorem dX6_callOrEnd_0 : decode cX6_callOrEnd 0 = .ok (.getstatic 182, 3) := by decide +kernel
theorem dX6_callOrEnd_3 : decode cX6_callOrEnd 3 = .ok (.aload_n 1, 1) := by decide +kernel
theorem dX6_callOrEnd_4 : decode cX6_callOrEnd 4 = .ok (.invokevirtual 187, 3) := by decide +kernel
theorem dX6_callOrEnd_7 : decode cX6_callOrEnd 7 = .ok (.iaload, 1) := by decide +kernel
theorem dX6_callOrEnd_8 : decode cX6_callOrEnd 8 = .ok (.lookupswitch 45 #[(19, 28), (20, 33)], 28) := by decide +kernel
theorem dX6_callOrEnd_36 : decode cX6_callOrEnd 36 = .ok (.aload_n 0, 1) := by decide +kernel
theorem dX6_callOrEnd_37 : decode cX6_callOrEnd 37 = .ok (.invokevirtual 236, 3) := by decide +kernel
theorem dX6_callOrEnd_40 : decode cX6_callOrEnd 40 = .ok (.ireturn, 1) := by decide +kernel
theorem dX6_callOrEnd_41 : decode cX6_callOrEnd 41 = .ok (.aload_n 0, 1) := by decide +kernel
theorem dX6_callOrEnd_42 : decode cX6_callOrEnd 42 = .ok (.aload_n 0, 1) := by decide +kernel
theorem dX6_callOrEnd_43 : decode cX6_callOrEnd 43 = .ok (.getfield 99, 3) := by decide +kernel
theorem dX6_callOrEnd_46 : decode cX6_callOrEnd 46 = .ok (.invokevirtual 203, 3) := by decide +kernel
theorem dX6_callOrEnd_49 : decode cX6_callOrEnd 49 = .ok (.invokevirtual 239, 3) := by decide +kernel
theorem dX6_callOrEnd_52 : decode cX6_callOrEnd 52 = .ok (.ireturn, 1) := by decide +kernel
theorem dX6_callOrEnd_53 : decode cX6_callOrEnd 53 = .ok (.aload_n 0, 1) := by decide +kernel
theorem dX6_callOrEnd_54 : decode cX6_callOrEnd 54 = .ok (.aload_n 1, 1) := by decide +kernel
theorem dX6_callOrEnd_55 : decode cX6_callOrEnd 55 = .ok (.invokevirtual 242, 3) := by decide +kernel
theorem dX6_callOrEnd_58 : decode cX6_callOrEnd 58 = .ok (.ireturn, 1) := by decide +kernel
theorem dX6_call_0 : decode cX6_call 0 = .ok (.aload_n 0, 1) := by decide +kernel
theorem dX6_call_1 : decode cX6_call 1 = .ok (.getfield 17, 3) := by decide +kernel
theorem dX6_call_4 : decode cX6_call 4 = .ok (.aload_n 0, 1) := by decide +kernel
theorem dX6_call_5 : decode cX6_call 5 = .ok (.iconst 1, 1) := by decide +kernel
theorem dX6_call_6 : decode cX6_call 6 = .ok (.invokevirtual 197, 3) := by decide +kernel
theorem dX6_call_9 : decode cX6_call 9 = .ok (.bipush 16, 2) := by decide +kernel
theorem dX6_call_11 : decode cX6_call 11 = .ok (.irem, 1) := by decide +kernel
theorem dX6_call_12 : decode cX6_call 12 = .ok (.aaload, 1) := by decide +kernel
theorem dX6_call_13 : decode cX6_call 13 = .ok (.astore_n 2, 1) := by decide +kernel
theorem dX6_call_14 : decode cX6_call 14 = .ok (.aload_n 0, 1) := by decide +kernel
theorem dX6_call_15 : decode cX6_call 15 = .ok (.iconst 2, 1) := by decide +kernel
theorem dX6_call_16 : decode cX6_call 16 = .ok (.invokevirtual 197, 3) := by decide +kernel
theorem dX6_call_19 : decode cX6_call 19 = .ok (.bipush 9, 2) := by decide +kernel
theorem dX6_call_21 : decode cX6_call 21 = .ok (.irem, 1) := by decide +kernel
theorem dX6_call_22 : decode cX6_call 22 = .ok (.istore_n 3, 1) := by decide +kernel
theorem dX6_call_23 : decode cX6_call 23 = .ok (.aload_n 0, 1) := by decide +kernel
theorem dX6_call_24 : decode cX6_call 24 = .ok (.getfield 99, 3) := by decide +kernel
theorem dX6_call_27 : decode cX6_call 27 = .ok (.getfield 147, 3) := by decide +kernel
theorem dX6_call_30 : decode cX6_call 30 = .ok (.iload_n 3, 1) := by decide +kernel
theorem dX6_call_31 : decode cX6_call 31 = .ok (.if_icmp .ge 6, 3) := by decide +kernel
theorem dX6_call_34 : decode cX6_call 34 = .ok (.bipush 6, 2) := by decide +kernel
theorem dX6_call_36 : decode cX6_call 36 = .ok (.ireturn, 1) := by decide +kernel
theorem dX6_call_37 : decode cX6_call 37 = .ok (.aload_n 1, 1) := by decide +kernel
theorem dX6_call_38 : decode cX6_call 38 = .ok (.getstatic 245, 3) := by decide +kernel
theorem dX6_call_41 : decode cX6_call 41 = .ok (.if_acmp .ne 20, 3) := by decide +kernel
theorem dX6_call_44 : decode cX6_call 44 = .ok (.aload_n 2, 1) := by decide +kernel
theorem dX6_call_45 : decode cX6_call 45 = .ok (.getfield 248, 3) := by decide +kernel
theorem dX6_call_48 : decode cX6_call 48 = .ok (.aload_n 0, 1) := by decide +kernel
theorem dX6_call_49 : decode cX6_call 49 = .ok (.getfield 99, 3) := by decide +kernel
theorem dX6_call_52 : decode cX6_call 52 = .ok (.getfield 251, 3) := by decide +kernel
theorem dX6_call_55 : decode cX6_call 55 = .ok (.if_icmp .eq 15, 3) := by decide +kernel
theorem dX6_call_58 : decode cX6_call 58 = .ok (.goto 10, 3) := by decide +kernel
theorem dX6_call_61 : decode cX6_call 61 = .ok (.aload_n 2, 1) := by decide +kernel
theorem dX6_call_62 : decode cX6_call 62 = .ok (.getfield 252, 3) := by decide +kernel
theorem dX6_call_65 : decode cX6_call 65 = .ok (.ifCond .ne 5, 3) := by decide +kernel
theorem dX6_call_68 : decode cX6_call 68 = .ok (.iconst 4, 1) := by decide +kernel
theorem dX6_call_69 : decode cX6_call 69 = .ok (.ireturn, 1) := by decide +kernel
theorem dX6_call_70 : decode cX6_call 70 = .ok (.aload_n 0, 1) := by decide +kernel
theorem dX6_call_71 : decode cX6_call 71 = .ok (.getfield 92, 3) := by decide +kernel
theorem dX6_call_74 : decode cX6_call 74 = .ok (.bipush 8, 2) := by decide +kernel
theorem dX6_call_76 : decode cX6_call 76 = .ok (.if_icmp .ne 6, 3) := by decide +kernel
theorem dX6_call_79 : decode cX6_call 79 = .ok (.bipush 6, 2) := by decide +kernel
theorem dX6_call_81 : decode cX6_call 81 = .ok (.ireturn, 1) := by decide +kernel
theorem dX6_call_82 : decode cX6_call 82 = .ok (.aload_n 0, 1) := by decide +kernel
theorem dX6_call_83 : decode cX6_call 83 = .ok (.getfield 99, 3) := by decide +kernel
theorem dX6_call_86 : decode cX6_call 86 = .ok (.astore 4, 2) := by decide +kernel
theorem dX6_call_88 : decode cX6_call 88 = .ok (.aload_n 0, 1) := by decide +kernel
theorem dX6_call_89 : decode cX6_call 89 = .ok (.aload_n 2, 1) := by decide +kernel
theorem dX6_call_90 : decode cX6_call 90 = .ok (.invokevirtual 95, 3) := by decide +kernel
theorem dX6_call_93 : decode cX6_call 93 = .ok (.iload_n 3, 1) := by decide +kernel
theorem dX6_call_94 : decode cX6_call 94 = .ok (.iconst 1, 1) := by decide +kernel
theorem dX6_call_95 : decode cX6_call 95 = .ok (.isub, 1) := by decide +kernel
theorem dX6_call_96 : decode cX6_call 96 = .ok (.istore 5, 2) := by decide +kernel
theorem dX6_call_98 : decode cX6_call 98 = .ok (.iload 5, 2) := by decide +kernel
theorem dX6_call_100 : decode cX6_call 100 = .ok (.ifCond .lt 24, 3) := by decide +kernel
theorem dX6_call_103 : decode cX6_call 103 = .ok (.aload_n 0, 1) := by decide +kernel
theorem dX6_call_104 : decode cX6_call 104 = .ok (.getfield 99, 3) := by decide +kernel
theorem dX6_call_107 : decode cX6_call 107 = .ok (.getfield 200, 3) := by decide +kernel
theorem dX6_call_110 : decode cX6_call 110 = .ok (.iload 5, 2) := by decide +kernel
theorem dX6_call_112 : decode cX6_call 112 = .ok (.aload 4, 2) := by decide +kernel
theorem dX6_call_114 : decode cX6_call 114 = .ok (.invokevirtual 203, 3) := by decide +kernel
theorem dX6_call_117 : decode cX6_call 117 = .ok (.iastore, 1) := by decide +kernel
theorem dX6_call_118 : decode cX6_call 118 = .ok (.iinc 5 (-1), 3) := by decide +kernel
theorem dX6_call_121 : decode cX6_call 121 = .ok (.goto (-23), 3) := by decide +kernel
theorem dX6_call_124 : decode cX6_call 124 = .ok (.ldc 74, 2) := by decide +kernel
theorem dX6_call_126 : decode cX6_call 126 = .ok (.ireturn, 1) := by decide +kernel
theorem dX6_end_0 : decode cX6_end 0 = .ok (.aload_n 0, 1) := by decide +kernel
theorem dX6_end_1 : decode cX6_end 1 = .ok (.invokevirtual 174, 3) := by decide +kernel
theorem dX6_end_4 : decode cX6_end 4 = .ok (.aload_n 0, 1) := by decide +kernel
theorem dX6_end_5 : decode cX6_end 5 = .ok (.getfield 92, 3) := by decide +kernel
theorem dX6_end_8 : decode cX6_end 8 = .ok (.ifCond .ne 8, 3) := by decide +kernel
theorem dX6_end_11 : decode cX6_end 11 = .ok (.aload_n 0, 1) := by decide +kernel
theorem dX6_end_12 : decode cX6_end 12 = .ok (.iconst 0, 1) := by decide +kernel
theorem dX6_end_13 : decode cX6_end 13 = .ok (.putfield 54, 3) := by decide +kernel
theorem dX6_end_16 : decode cX6_end 16 = .ok (.ldc 74, 2) := by decide +kernel
theorem dX6_end_18 : decode cX6_end 18 = .ok (.ireturn, 1) := by decide +kernel
theorem dX6_endWith_0 : decode cX6_endWith 0 = .ok (.aload_n 0, 1) := by decide +kernel
theorem dX6_endWith_1 : decode cX6_endWith 1 = .ok (.invokevirtual 236, 3) := by decide +kernel
theorem dX6_endWith_4 : decode cX6_endWith 4 = .ok (.pop, 1) := by decide +kernel
theorem dX6_endWith_5 : decode cX6_endWith 5 = .ok (.aload_n 0, 1) := by decide +kernel
theorem dX6_endWith_6 : decode cX6_endWith 6 = .ok (.getfield 92, 3) := by decide +kernel
theorem dX6_endWith_9 : decode cX6_endWith 9 = .ok (.ifCond .ne 11, 3) := by decide +kernel
theorem dX6_endWith_12 : decode cX6_endWith 12 = .ok (.aload_n 0, 1) := by decide +kernel
theorem dX6_endWith_13 : decode cX6_endWith 13 = .ok (.iload_n 1, 1) := by decide +kernel
theorem dX6_endWith_14 : decode cX6_endWith 14 = .ok (.putfield 89, 3) := by decide +kernel
theorem dX6_endWith_17 : decode cX6_endWith 17 = .ok (.ldc 74, 2) := by decide +kernel
theorem dX6_endWith_19 : decode cX6_endWith 19 = .ok (.ireturn, 1) := by decide +kernel
theorem dX6_endWith_20 : decode cX6_endWith 20 = .ok (.aload_n 0, 1) := by decide +kernel
theorem dX6_endWith_21 : decode cX6_endWith 21 = .ok (.getfield 99, 3) := by decide +kernel
theorem dX6_endWith_24 : decode cX6_endWith 24 = .ok (.iconst 1, 1) := by decide +kernel
theorem dX6_endWith_25 : decode cX6_endWith 25 = .ok (.invokevirtual 163, 3) := by decide +kernel
theorem dX6_endWith_28 : decode cX6_endWith 28 = .ok (.ifCond .eq 11, 3) := by decide +kernel
theorem dX6_endWith_31 : decode cX6_endWith 31 = .ok (.aload_n 0, 1) := by decide +kernel
theorem dX6_endWith_32 : decode cX6_endWith 32 = .ok (.iload_n 1, 1) := by decide +kernel
theorem dX6_endWith_33 : decode cX6_endWith 33 = .ok (.invokevirtual 194, 3) := by decide +kernel
theorem dX6_endWith_36 : decode cX6_endWith 36 = .ok (.goto 5, 3) := by decide +kernel
theorem dX6_endWith_39 : decode cX6_endWith 39 = .ok (.bipush 6, 2) := by decide +kernel
theorem dX6_endWith_41 : decode cX6_endWith 41 = .ok (.ireturn, 1) := by decide +kernel
theorem dX6_useObjects_0 : decode cX6_useObjects 0 = .ok (.getstatic 182, 3) := by decide +kernel
theorem dX6_useObjects_3 : decode cX6_useObjects 3 = .ok (.aload_n 1, 1) := by decide +kernel
theorem dX6_useObjects_4 : decode cX6_useObjects 4 = .ok (.invokevirtual 187, 3) := by decide +kernel
theorem dX6_useObjects_7 : decode cX6_useObjects 7 = .ok (.iaload, 1) := by decide +kernel
theorem dX6_useObjects_8 : decode cX6_useObjects 8 = .ok (.tableswitch 104 21 27 #[44, 50, 56, 61, 66, 78, 92], 44) := by decide +kernel
theorem dX6_useObjects_52 : decode cX6_useObjects 52 = .ok (.aload_n 0, 1) := by decide +kernel
theorem dX6_useObjects_53 : decode cX6_useObjects 53 = .ok (.iconst 0, 1) := by decide +kernel
theorem dX6_useObjects_54 : decode cX6_useObjects 54 = .ok (.invokevirtual 255, 3) := by decide +kernel
theorem dX6_useObjects_57 : decode cX6_useObjects 57 = .ok (.ireturn, 1) := by decide +kernel
theorem dX6_useObjects_58 : decode cX6_useObjects 58 = .ok (.aload_n 0, 1) := by decide +kernel
theorem dX6_useObjects_59 : decode cX6_useObjects 59 = .ok (.iconst 1, 1) := by decide +kernel
theorem dX6_useObjects_60 : decode cX6_useObjects 60 = .ok (.invokevirtual 255, 3) := by decide +kernel
theorem dX6_useObjects_63 : decode cX6_useObjects 63 = .ok (.ireturn, 1) := by decide +kernel
theorem dX6_useObjects_64 : decode cX6_useObjects 64 = .ok (.aload_n 0, 1) := by decide +kernel
theorem dX6_useObjects_65 : decode cX6_useObjects 65 = .ok (.invokevirtual 258, 3) := by decide +kernel
theorem dX6_useObjects_68 : decode cX6_useObjects 68 = .ok (.ireturn, 1) := by decide +kernel
theorem dX6_useObjects_69 : decode cX6_useObjects 69 = .ok (.aload_n 0, 1) := by decide +kernel
theorem dX6_useObjects_70 : decode cX6_useObjects 70 = .ok (.invokevirtual 261, 3) := by decide +kernel
theorem dX6_useObjects_73 : decode cX6_useObjects 73 = .ok (.ireturn, 1) := by decide +kernel
theorem dX6_useObjects_74 : decode cX6_useObjects 74 = .ok (.aload_n 0, 1) := by decide +kernel
theorem dX6_useObjects_75 : decode cX6_useObjects 75 = .ok (.aload_n 0, 1) := by decide +kernel
theorem dX6_useObjects_76 : decode cX6_useObjects 76 = .ok (.getfield 99, 3) := by decide +kernel
theorem dX6_useObjects_79 : decode cX6_useObjects 79 = .ok (.invokevirtual 203, 3) := by decide +kernel
theorem dX6_useObjects_82 : decode cX6_useObjects 82 = .ok (.invokevirtual 264, 3) := by decide +kernel
theorem dX6_useObjects_85 : decode cX6_useObjects 85 = .ok (.ireturn, 1) := by decide +kernel
theorem dX6_useObjects_86 : decode cX6_useObjects 86 = .ok (.aload_n 0, 1) := by decide +kernel
theorem dX6_useObjects_87 : decode cX6_useObjects 87 = .ok (.aload_n 0, 1) := by decide +kernel
theorem dX6_useObjects_88 : decode cX6_useObjects 88 = .ok (.getfield 99, 3) := by decide +kernel
theorem dX6_useObjects_91 : decode cX6_useObjects 91 = .ok (.getfield 251, 3) := by decide +kernel
theorem dX6_useObjects_94 : decode cX6_useObjects 94 = .ok (.iconst 1, 1) := by decide +kernel
theorem dX6_useObjects_95 : decode cX6_useObjects 95 = .ok (.iadd, 1) := by decide +kernel
theorem dX6_useObjects_96 : decode cX6_useObjects 96 = .ok (.invokevirtual 194, 3) := by decide +kernel
theorem dX6_useObjects_99 : decode cX6_useObjects 99 = .ok (.ireturn, 1) := by decide +kernel
theorem dX6_useObjects_100 : decode cX6_useObjects 100 = .ok (.aload_n 0, 1) := by decide +kernel
theorem dX6_useObjects_101 : decode cX6_useObjects 101 = .ok (.aload_n 0, 1) := by decide +kernel
theorem dX6_useObjects_102 : decode cX6_useObjects 102 = .ok (.getfield 99, 3) := by decide +kernel
theorem dX6_useObjects_105 : decode cX6_useObjects 105 = .ok (.invokevirtual 203, 3) := by decide +kernel
theorem dX6_useObjects_108 : decode cX6_useObjects 108 = .ok (.invokevirtual 267, 3) := by decide +kernel
theorem dX6_useObjects_111 : decode cX6_useObjects 111 = .ok (.ireturn, 1) := by decide +kernel
theorem dX6_useObjects_112 : decode cX6_useObjects 112 = .ok (.aload_n 0, 1) := by decide +kernel
theorem dX6_useObjects_113 : decode cX6_useObjects 113 = .ok (.invokevirtual 270, 3) := by decide +kernel
theorem dX6_useObjects_116 : decode cX6_useObjects 116 = .ok (.ireturn, 1) := by decide +kernel
theorem dX6_makeObject_0 : decode cX6_makeObject 0 = .ok (.aload_n 0, 1) := by decide +kernel
theorem dX6_makeObject_1 : decode cX6_makeObject 1 = .ok (.iconst 1, 1) := by decide +kernel
theorem dX6_makeObject_2 : decode cX6_makeObject 2 = .ok (.invokevirtual 197, 3) := by decide +kernel
theorem dX6_makeObject_5 : decode cX6_makeObject 5 = .ok (.istore_n 2, 1) := by decide +kernel
theorem dX6_makeObject_6 : decode cX6_makeObject 6 = .ok (.aload_n 0, 1) := by decide +kernel
theorem dX6_makeObject_7 : decode cX6_makeObject 7 = .ok (.getfield 24, 3) := by decide +kernel
theorem dX6_makeObject_10 : decode cX6_makeObject 10 = .ok (.iload_n 2, 1) := by decide +kernel
theorem dX6_makeObject_11 : decode cX6_makeObject 11 = .ok (.invokevirtual 273, 3) := by decide +kernel
theorem dX6_makeObject_14 : decode cX6_makeObject 14 = .ok (.istore_n 3, 1) := by decide +kernel
theorem dX6_makeObject_15 : decode cX6_makeObject 15 = .ok (.iload_n 3, 1) := by decide +kernel
theorem dX6_makeObject_16 : decode cX6_makeObject 16 = .ok (.ldc 74, 2) := by decide +kernel
theorem dX6_makeObject_18 : decode cX6_makeObject 18 = .ok (.if_icmp .eq 5, 3) := by decide +kernel
theorem dX6_makeObject_21 : decode cX6_makeObject 21 = .ok (.iload_n 3, 1) := by decide +kernel
theorem dX6_makeObject_22 : decode cX6_makeObject 22 = .ok (.ireturn, 1) := by decide +kernel
theorem dX6_makeObject_23 : decode cX6_makeObject 23 = .ok (.aload_n 0, 1) := by decide +kernel
theorem dX6_makeObject_24 : decode cX6_makeObject 24 = .ok (.getfield 99, 3) := by decide +kernel
theorem dX6_makeObject_27 : decode cX6_makeObject 27 = .ok (.iconst 1, 1) := by decide +kernel
theorem dX6_makeObject_28 : decode cX6_makeObject 28 = .ok (.invokevirtual 163, 3) := by decide +kernel
theorem dX6_makeObject_31 : decode cX6_makeObject 31 = .ok (.ifCond .ne 6, 3) := by decide +kernel
theorem dX6_makeObject_34 : decode cX6_makeObject 34 = .ok (.bipush 6, 2) := by decide +kernel
theorem dX6_makeObject_36 : decode cX6_makeObject 36 = .ok (.ireturn, 1) := by decide +kernel
theorem dX6_makeObject_37 : decode cX6_makeObject 37 = .ok (.aload_n 0, 1) := by decide +kernel
theorem dX6_makeObject_38 : decode cX6_makeObject 38 = .ok (.aload_n 0, 1) := by decide +kernel
theorem dX6_makeObject_39 : decode cX6_makeObject 39 = .ok (.getfield 24, 3) := by decide +kernel
theorem dX6_makeObject_42 : decode cX6_makeObject 42 = .ok (.aload_n 0, 1) := by decide +kernel
theorem dX6_makeObject_43 : decode cX6_makeObject 43 = .ok (.getfield 99, 3) := by decide +kernel
theorem dX6_makeObject_46 : decode cX6_makeObject 46 = .ok (.getfield 251, 3) := by decide +kernel
theorem dX6_makeObject_49 : decode cX6_makeObject 49 = .ok (.iload_n 1, 1) := by decide +kernel
theorem dX6_makeObject_50 : decode cX6_makeObject 50 = .ok (.iload_n 2, 1) := by decide +kernel
theorem dX6_makeObject_51 : decode cX6_makeObject 51 = .ok (.invokevirtual 276, 3) := by decide +kernel
theorem dX6_makeObject_54 : decode cX6_makeObject 54 = .ok (.invokevirtual 194, 3) := by decide +kernel
theorem dX6_makeObject_57 : decode cX6_makeObject 57 = .ok (.ireturn, 1) := by decide +kernel
theorem dX6_readCell_0 : decode cX6_readCell 0 = .ok (.aload_n 0, 1) := by decide +kernel
theorem dX6_readCell_1 : decode cX6_readCell 1 = .ok (.getfield 99, 3) := by decide +kernel
theorem dX6_readCell_4 : decode cX6_readCell 4 = .ok (.invokevirtual 203, 3) := by decide +kernel
theorem dX6_readCell_7 : decode cX6_readCell 7 = .ok (.istore_n 1, 1) := by decide +kernel
theorem dX6_readCell_8 : decode cX6_readCell 8 = .ok (.aload_n 0, 1) := by decide +kernel
theorem dX6_readCell_9 : decode cX6_readCell 9 = .ok (.getfield 99, 3) := by decide +kernel
theorem dX6_readCell_12 : decode cX6_readCell 12 = .ok (.invokevirtual 203, 3) := by decide +kernel
theorem dX6_readCell_15 : decode cX6_readCell 15 = .ok (.istore_n 2, 1) := by decide +kernel
theorem dX6_readCell_16 : decode cX6_readCell 16 = .ok (.aload_n 0, 1) := by decide +kernel
theorem dX6_readCell_17 : decode cX6_readCell 17 = .ok (.getfield 24, 3) := by decide +kernel
theorem dX6_readCell_20 : decode cX6_readCell 20 = .ok (.aload_n 0, 1) := by decide +kernel
theorem dX6_readCell_21 : decode cX6_readCell 21 = .ok (.getfield 99, 3) := by decide +kernel
theorem dX6_readCell_24 : decode cX6_readCell 24 = .ok (.getfield 251, 3) := by decide +kernel
theorem dX6_readCell_27 : decode cX6_readCell 27 = .ok (.iload_n 2, 1) := by decide +kernel
theorem dX6_readCell_28 : decode cX6_readCell 28 = .ok (.iload_n 1, 1) := by decide +kernel
theorem dX6_readCell_29 : decode cX6_readCell 29 = .ok (.invokevirtual 280, 3) := by decide +kernel
theorem dX6_readCell_32 : decode cX6_readCell 32 = .ok (.istore_n 3, 1) := by decide +kernel
theorem dX6_readCell_33 : decode cX6_readCell 33 = .ok (.iload_n 3, 1) := by decide +kernel
theorem dX6_readCell_34 : decode cX6_readCell 34 = .ok (.ldc 74, 2) := by decide +kernel
theorem dX6_readCell_36 : decode cX6_readCell 36 = .ok (.if_icmp .eq 7, 3) := by decide +kernel
theorem dX6_readCell_39 : decode cX6_readCell 39 = .ok (.iload_n 3, 1) := by decide +kernel
theorem dX6_readCell_40 : decode cX6_readCell 40 = .ok (.goto 16, 3) := by decide +kernel
theorem dX6_readCell_43 : decode cX6_readCell 43 = .ok (.aload_n 0, 1) := by decide +kernel
theorem dX6_readCell_44 : decode cX6_readCell 44 = .ok (.aload_n 0, 1) := by decide +kernel
theorem dX6_readCell_45 : decode cX6_readCell 45 = .ok (.getfield 24, 3) := by decide +kernel
theorem dX6_readCell_48 : decode cX6_readCell 48 = .ok (.iload_n 2, 1) := by decide +kernel
theorem dX6_readCell_49 : decode cX6_readCell 49 = .ok (.iload_n 1, 1) := by decide +kernel
theorem dX6_readCell_50 : decode cX6_readCell 50 = .ok (.invokevirtual 283, 3) := by decide +kernel
theorem dX6_readCell_53 : decode cX6_readCell 53 = .ok (.invokevirtual 194, 3) := by decide +kernel
theorem dX6_readCell_56 : decode cX6_readCell 56 = .ok (.ireturn, 1) := by decide +kernel
theorem dX6_writeCell_0 : decode cX6_writeCell 0 = .ok (.aload_n 0, 1) := by decide +kernel
theorem dX6_writeCell_1 : decode cX6_writeCell 1 = .ok (.getfield 99, 3) := by decide +kernel
theorem dX6_writeCell_4 : decode cX6_writeCell 4 = .ok (.invokevirtual 203, 3) := by decide +kernel
theorem dX6_writeCell_7 : decode cX6_writeCell 7 = .ok (.istore_n 1, 1) := by decide +kernel
theorem dX6_writeCell_8 : decode cX6_writeCell 8 = .ok (.aload_n 0, 1) := by decide +kernel
theorem dX6_writeCell_9 : decode cX6_writeCell 9 = .ok (.getfield 99, 3) := by decide +kernel
theorem dX6_writeCell_12 : decode cX6_writeCell 12 = .ok (.invokevirtual 203, 3) := by decide +kernel
theorem dX6_writeCell_15 : decode cX6_writeCell 15 = .ok (.istore_n 2, 1) := by decide +kernel
theorem dX6_writeCell_16 : decode cX6_writeCell 16 = .ok (.aload_n 0, 1) := by decide +kernel
theorem dX6_writeCell_17 : decode cX6_writeCell 17 = .ok (.getfield 99, 3) := by decide +kernel
theorem dX6_writeCell_20 : decode cX6_writeCell 20 = .ok (.invokevirtual 203, 3) := by decide +kernel
theorem dX6_writeCell_23 : decode cX6_writeCell 23 = .ok (.istore_n 3, 1) := by decide +kernel
theorem dX6_writeCell_24 : decode cX6_writeCell 24 = .ok (.aload_n 0, 1) := by decide +kernel
theorem dX6_writeCell_25 : decode cX6_writeCell 25 = .ok (.getfield 24, 3) := by decide +kernel
theorem dX6_writeCell_28 : decode cX6_writeCell 28 = .ok (.aload_n 0, 1) := by decide +kernel
theorem dX6_writeCell_29 : decode cX6_writeCell 29 = .ok (.getfield 99, 3) := by decide +kernel
theorem dX6_writeCell_32 : decode cX6_writeCell 32 = .ok (.getfield 251, 3) := by decide +kernel
theorem dX6_writeCell_35 : decode cX6_writeCell 35 = .ok (.iload_n 3, 1) := by decide +kernel
theorem dX6_writeCell_36 : decode cX6_writeCell 36 = .ok (.iload_n 2, 1) := by decide +kernel
theorem dX6_writeCell_37 : decode cX6_writeCell 37 = .ok (.invokevirtual 280, 3) := by decide +kernel
theorem dX6_writeCell_40 : decode cX6_writeCell 40 = .ok (.istore 4, 2) := by decide +kernel
theorem dX6_writeCell_42 : decode cX6_writeCell 42 = .ok (.iload 4, 2) := by decide +kernel
theorem dX6_writeCell_44 : decode cX6_writeCell 44 = .ok (.ldc 74, 2) := by decide +kernel
theorem dX6_writeCell_46 : decode cX6_writeCell 46 = .ok (.if_icmp .ne 12, 3) := by decide +kernel
theorem dX6_writeCell_49 : decode cX6_writeCell 49 = .ok (.aload_n 0, 1) := by decide +kernel
theorem dX6_writeCell_50 : decode cX6_writeCell 50 = .ok (.getfield 24, 3) := by decide +kernel
theorem dX6_writeCell_53 : decode cX6_writeCell 53 = .ok (.invokevirtual 286, 3) := by decide +kernel
theorem dX6_writeCell_56 : decode cX6_writeCell 56 = .ok (.istore 4, 2) := by decide +kernel
theorem dX6_writeCell_58 : decode cX6_writeCell 58 = .ok (.iload 4, 2) := by decide +kernel
theorem dX6_writeCell_60 : decode cX6_writeCell 60 = .ok (.ldc 74, 2) := by decide +kernel
theorem dX6_writeCell_62 : decode cX6_writeCell 62 = .ok (.if_icmp .ne 13, 3) := by decide +kernel
theorem dX6_writeCell_65 : decode cX6_writeCell 65 = .ok (.aload_n 0, 1) := by decide +kernel
theorem dX6_writeCell_66 : decode cX6_writeCell 66 = .ok (.getfield 24, 3) := by decide +kernel
theorem dX6_writeCell_69 : decode cX6_writeCell 69 = .ok (.iload_n 3, 1) := by decide +kernel
theorem dX6_writeCell_70 : decode cX6_writeCell 70 = .ok (.iload_n 2, 1) := by decide +kernel
theorem dX6_writeCell_71 : decode cX6_writeCell 71 = .ok (.iload_n 1, 1) := by decide +kernel
theorem dX6_writeCell_72 : decode cX6_writeCell 72 = .ok (.invokevirtual 289, 3) := by decide +kernel
theorem dX6_writeCell_75 : decode cX6_writeCell 75 = .ok (.iload 4, 2) := by decide +kernel
theorem dX6_writeCell_77 : decode cX6_writeCell 77 = .ok (.ireturn, 1) := by decide +kernel
theorem dX6_putSize_0 : decode cX6_putSize 0 = .ok (.aload_n 0, 1) := by decide +kernel
theorem dX6_putSize_1 : decode cX6_putSize 1 = .ok (.getfield 24, 3) := by decide +kernel
theorem dX6_putSize_4 : decode cX6_putSize 4 = .ok (.aload_n 0, 1) := by decide +kernel
theorem dX6_putSize_5 : decode cX6_putSize 5 = .ok (.getfield 99, 3) := by decide +kernel
theorem dX6_putSize_8 : decode cX6_putSize 8 = .ok (.getfield 251, 3) := by decide +kernel
theorem dX6_putSize_11 : decode cX6_putSize 11 = .ok (.iload_n 1, 1) := by decide +kernel
theorem dX6_putSize_12 : decode cX6_putSize 12 = .ok (.iconst 0, 1) := by decide +kernel
theorem dX6_putSize_13 : decode cX6_putSize 13 = .ok (.invokevirtual 280, 3) := by decide +kernel
theorem dX6_putSize_16 : decode cX6_putSize 16 = .ok (.istore_n 2, 1) := by decide +kernel
theorem dX6_putSize_17 : decode cX6_putSize 17 = .ok (.iload_n 2, 1) := by decide +kernel
theorem dX6_putSize_18 : decode cX6_putSize 18 = .ok (.ldc 74, 2) := by decide +kernel
theorem dX6_putSize_20 : decode cX6_putSize 20 = .ok (.if_icmp .eq 7, 3) := by decide +kernel
theorem dX6_putSize_23 : decode cX6_putSize 23 = .ok (.iload_n 2, 1) := by decide +kernel
theorem dX6_putSize_24 : decode cX6_putSize 24 = .ok (.goto 16, 3) := by decide +kernel
theorem dX6_putSize_27 : decode cX6_putSize 27 = .ok (.aload_n 0, 1) := by decide +kernel
theorem dX6_putSize_28 : decode cX6_putSize 28 = .ok (.aload_n 0, 1) := by decide +kernel
theorem dX6_putSize_29 : decode cX6_putSize 29 = .ok (.getfield 24, 3) := by decide +kernel
theorem dX6_putSize_32 : decode cX6_putSize 32 = .ok (.getfield 293, 3) := by decide +kernel
theorem dX6_putSize_35 : decode cX6_putSize 35 = .ok (.iload_n 1, 1) := by decide +kernel
theorem dX6_putSize_36 : decode cX6_putSize 36 = .ok (.iaload, 1) := by decide +kernel
theorem dX6_putSize_37 : decode cX6_putSize 37 = .ok (.invokevirtual 194, 3) := by decide +kernel
theorem dX6_putSize_40 : decode cX6_putSize 40 = .ok (.ireturn, 1) := by decide +kernel
theorem dX6_putOwner_0 : decode cX6_putOwner 0 = .ok (.aload_n 0, 1) := by decide +kernel
theorem dX6_putOwner_1 : decode cX6_putOwner 1 = .ok (.getfield 24, 3) := by decide +kernel
theorem dX6_putOwner_4 : decode cX6_putOwner 4 = .ok (.iload_n 1, 1) := by decide +kernel
theorem dX6_putOwner_5 : decode cX6_putOwner 5 = .ok (.invokevirtual 296, 3) := by decide +kernel
theorem dX6_putOwner_8 : decode cX6_putOwner 8 = .ok (.ifCond .eq 19, 3) := by decide +kernel
theorem dX6_putOwner_11 : decode cX6_putOwner 11 = .ok (.aload_n 0, 1) := by decide +kernel
theorem dX6_putOwner_12 : decode cX6_putOwner 12 = .ok (.aload_n 0, 1) := by decide +kernel
theorem dX6_putOwner_13 : decode cX6_putOwner 13 = .ok (.getfield 24, 3) := by decide +kernel
theorem dX6_putOwner_16 : decode cX6_putOwner 16 = .ok (.getfield 299, 3) := by decide +kernel
theorem dX6_putOwner_19 : decode cX6_putOwner 19 = .ok (.iload_n 1, 1) := by decide +kernel
theorem dX6_putOwner_20 : decode cX6_putOwner 20 = .ok (.iaload, 1) := by decide +kernel
theorem dX6_putOwner_21 : decode cX6_putOwner 21 = .ok (.invokevirtual 194, 3) := by decide +kernel
theorem dX6_putOwner_24 : decode cX6_putOwner 24 = .ok (.goto 4, 3) := by decide +kernel
theorem dX6_putOwner_27 : decode cX6_putOwner 27 = .ok (.iconst 2, 1) := by decide +kernel
theorem dX6_putOwner_28 : decode cX6_putOwner 28 = .ok (.ireturn, 1) := by decide +kernel
theorem dX6_copyCells_0 : decode cX6_copyCells 0 = .ok (.aload_n 0, 1) := by decide +kernel
theorem dX6_copyCells_1 : decode cX6_copyCells 1 = .ok (.getfield 99, 3) := by decide +kernel
theorem dX6_copyCells_4 : decode cX6_copyCells 4 = .ok (.invokevirtual 203, 3) := by decide +kernel
theorem dX6_copyCells_7 : decode cX6_copyCells 7 = .ok (.istore_n 1, 1) := by decide +kernel
theorem dX6_copyCells_8 : decode cX6_copyCells 8 = .ok (.aload_n 0, 1) := by decide +kernel
theorem dX6_copyCells_9 : decode cX6_copyCells 9 = .ok (.getfield 99, 3) := by decide +kernel
theorem dX6_copyCells_12 : decode cX6_copyCells 12 = .ok (.invokevirtual 203, 3) := by decide +kernel
theorem dX6_copyCells_15 : decode cX6_copyCells 15 = .ok (.istore_n 2, 1) := by decide +kernel
theorem dX6_copyCells_16 : decode cX6_copyCells 16 = .ok (.aload_n 0, 1) := by decide +kernel
theorem dX6_copyCells_17 : decode cX6_copyCells 17 = .ok (.getfield 99, 3) := by decide +kernel
theorem dX6_copyCells_20 : decode cX6_copyCells 20 = .ok (.invokevirtual 203, 3) := by decide +kernel
theorem dX6_copyCells_23 : decode cX6_copyCells 23 = .ok (.istore_n 3, 1) := by decide +kernel
theorem dX6_copyCells_24 : decode cX6_copyCells 24 = .ok (.aload_n 0, 1) := by decide +kernel
theorem dX6_copyCells_25 : decode cX6_copyCells 25 = .ok (.getfield 99, 3) := by decide +kernel
theorem dX6_copyCells_28 : decode cX6_copyCells 28 = .ok (.invokevirtual 203, 3) := by decide +kernel
theorem dX6_copyCells_31 : decode cX6_copyCells 31 = .ok (.istore 4, 2) := by decide +kernel
theorem dX6_copyCells_33 : decode cX6_copyCells 33 = .ok (.aload_n 0, 1) := by decide +kernel
theorem dX6_copyCells_34 : decode cX6_copyCells 34 = .ok (.getfield 99, 3) := by decide +kernel
theorem dX6_copyCells_37 : decode cX6_copyCells 37 = .ok (.invokevirtual 203, 3) := by decide +kernel
theorem dX6_copyCells_40 : decode cX6_copyCells 40 = .ok (.istore 5, 2) := by decide +kernel
theorem dX6_copyCells_42 : decode cX6_copyCells 42 = .ok (.aload_n 0, 1) := by decide +kernel
theorem dX6_copyCells_43 : decode cX6_copyCells 43 = .ok (.getfield 24, 3) := by decide +kernel
theorem dX6_copyCells_46 : decode cX6_copyCells 46 = .ok (.aload_n 0, 1) := by decide +kernel
theorem dX6_copyCells_47 : decode cX6_copyCells 47 = .ok (.getfield 99, 3) := by decide +kernel
theorem dX6_copyCells_50 : decode cX6_copyCells 50 = .ok (.getfield 251, 3) := by decide +kernel
theorem dX6_copyCells_53 : decode cX6_copyCells 53 = .ok (.iload 5, 2) := by decide +kernel
theorem dX6_copyCells_55 : decode cX6_copyCells 55 = .ok (.iload 4, 2) := by decide +kernel
theorem dX6_copyCells_57 : decode cX6_copyCells 57 = .ok (.iload_n 3, 1) := by decide +kernel
theorem dX6_copyCells_58 : decode cX6_copyCells 58 = .ok (.iload_n 2, 1) := by decide +kernel
theorem dX6_copyCells_59 : decode cX6_copyCells 59 = .ok (.iload_n 1, 1) := by decide +kernel
theorem dX6_copyCells_60 : decode cX6_copyCells 60 = .ok (.invokevirtual 302, 3) := by decide +kernel
theorem dX6_copyCells_63 : decode cX6_copyCells 63 = .ok (.istore 6, 2) := by decide +kernel
theorem dX6_copyCells_65 : decode cX6_copyCells 65 = .ok (.iload 6, 2) := by decide +kernel
theorem dX6_copyCells_67 : decode cX6_copyCells 67 = .ok (.ldc 74, 2) := by decide +kernel
theorem dX6_copyCells_69 : decode cX6_copyCells 69 = .ok (.if_icmp .eq 6, 3) := by decide +kernel
theorem dX6_copyCells_72 : decode cX6_copyCells 72 = .ok (.iload 6, 2) := by decide +kernel
theorem dX6_copyCells_74 : decode cX6_copyCells 74 = .ok (.ireturn, 1) := by decide +kernel
theorem dX6_copyCells_75 : decode cX6_copyCells 75 = .ok (.iload_n 1, 1) := by decide +kernel
theorem dX6_copyCells_76 : decode cX6_copyCells 76 = .ok (.aload_n 0, 1) := by decide +kernel
theorem dX6_copyCells_77 : decode cX6_copyCells 77 = .ok (.getfield 50, 3) := by decide +kernel
theorem dX6_copyCells_80 : decode cX6_copyCells 80 = .ok (.aload_n 0, 1) := by decide +kernel
theorem dX6_copyCells_81 : decode cX6_copyCells 81 = .ok (.getfield 67, 3) := by decide +kernel
theorem dX6_copyCells_84 : decode cX6_copyCells 84 = .ok (.isub, 1) := by decide +kernel
theorem dX6_copyCells_85 : decode cX6_copyCells 85 = .ok (.if_icmp .le 12, 3) := by decide +kernel
theorem dX6_copyCells_88 : decode cX6_copyCells 88 = .ok (.aload_n 0, 1) := by decide +kernel
theorem dX6_copyCells_89 : decode cX6_copyCells 89 = .ok (.bipush 10, 2) := by decide +kernel
theorem dX6_copyCells_91 : decode cX6_copyCells 91 = .ok (.putfield 54, 3) := by decide +kernel
theorem dX6_copyCells_94 : decode cX6_copyCells 94 = .ok (.ldc 74, 2) := by decide +kernel
theorem dX6_copyCells_96 : decode cX6_copyCells 96 = .ok (.ireturn, 1) := by decide +kernel
theorem dX6_copyCells_97 : decode cX6_copyCells 97 = .ok (.aload_n 0, 1) := by decide +kernel
theorem dX6_copyCells_98 : decode cX6_copyCells 98 = .ok (.dup, 1) := by decide +kernel
theorem dX6_copyCells_99 : decode cX6_copyCells 99 = .ok (.getfield 67, 3) := by decide +kernel
theorem dX6_copyCells_102 : decode cX6_copyCells 102 = .ok (.iload_n 1, 1) := by decide +kernel
theorem dX6_copyCells_103 : decode cX6_copyCells 103 = .ok (.iadd, 1) := by decide +kernel
theorem dX6_copyCells_104 : decode cX6_copyCells 104 = .ok (.putfield 67, 3) := by decide +kernel
theorem dX6_copyCells_107 : decode cX6_copyCells 107 = .ok (.aload_n 0, 1) := by decide +kernel
theorem dX6_copyCells_108 : decode cX6_copyCells 108 = .ok (.getfield 24, 3) := by decide +kernel
theorem dX6_copyCells_111 : decode cX6_copyCells 111 = .ok (.iload 5, 2) := by decide +kernel
theorem dX6_copyCells_113 : decode cX6_copyCells 113 = .ok (.iload 4, 2) := by decide +kernel
theorem dX6_copyCells_115 : decode cX6_copyCells 115 = .ok (.iload_n 3, 1) := by decide +kernel
theorem dX6_copyCells_116 : decode cX6_copyCells 116 = .ok (.iload_n 2, 1) := by decide +kernel
theorem dX6_copyCells_117 : decode cX6_copyCells 117 = .ok (.iload_n 1, 1) := by decide +kernel
theorem dX6_copyCells_118 : decode cX6_copyCells 118 = .ok (.invokevirtual 306, 3) := by decide +kernel
theorem dX6_copyCells_121 : decode cX6_copyCells 121 = .ok (.ldc 74, 2) := by decide +kernel
theorem dX6_copyCells_123 : decode cX6_copyCells 123 = .ok (.ireturn, 1) := by decide +kernel
theorem dX6_changeTransaction_0 : decode cX6_changeTransaction 0 = .ok (.aload_n 1, 1) := by decide +kernel
theorem dX6_changeTransaction_1 : decode cX6_changeTransaction 1 = .ok (.getstatic 310, 3) := by decide +kernel
theorem dX6_changeTransaction_4 : decode cX6_changeTransaction 4 = .ok (.if_acmp .ne 23, 3) := by decide +kernel
theorem dX6_changeTransaction_7 : decode cX6_changeTransaction 7 = .ok (.aload_n 0, 1) := by decide +kernel
theorem dX6_changeTransaction_8 : decode cX6_changeTransaction 8 = .ok (.aload_n 0, 1) := by decide +kernel
theorem dX6_changeTransaction_9 : decode cX6_changeTransaction 9 = .ok (.getfield 24, 3) := by decide +kernel
theorem dX6_changeTransaction_12 : decode cX6_changeTransaction 12 = .ok (.getfield 313, 3) := by decide +kernel
theorem dX6_changeTransaction_15 : decode cX6_changeTransaction 15 = .ok (.ifCond .eq 7, 3) := by decide +kernel
theorem dX6_changeTransaction_18 : decode cX6_changeTransaction 18 = .ok (.iconst 1, 1) := by decide +kernel
theorem dX6_changeTransaction_19 : decode cX6_changeTransaction 19 = .ok (.goto 4, 3) := by decide +kernel
theorem dX6_changeTransaction_22 : decode cX6_changeTransaction 22 = .ok (.iconst 0, 1) := by decide +kernel
theorem dX6_changeTransaction_23 : decode cX6_changeTransaction 23 = .ok (.invokevirtual 194, 3) := by decide +kernel
theorem dX6_changeTransaction_26 : decode cX6_changeTransaction 26 = .ok (.ireturn, 1) := by decide +kernel
theorem dX6_changeTransaction_27 : decode cX6_changeTransaction 27 = .ok (.aload_n 0, 1) := by decide +kernel
theorem dX6_changeTransaction_28 : decode cX6_changeTransaction 28 = .ok (.getfield 24, 3) := by decide +kernel
theorem dX6_changeTransaction_31 : decode cX6_changeTransaction 31 = .ok (.getfield 313, 3) := by decide +kernel
theorem dX6_changeTransaction_34 : decode cX6_changeTransaction 34 = .ok (.aload_n 1, 1) := by decide +kernel
theorem dX6_changeTransaction_35 : decode cX6_changeTransaction 35 = .ok (.getstatic 316, 3) := by decide +kernel
theorem dX6_changeTransaction_38 : decode cX6_changeTransaction 38 = .ok (.if_acmp .ne 7, 3) := by decide +kernel
theorem dX6_changeTransaction_41 : decode cX6_changeTransaction 41 = .ok (.iconst 1, 1) := by decide +kernel
theorem dX6_changeTransaction_42 : decode cX6_changeTransaction 42 = .ok (.goto 4, 3) := by decide +kernel
theorem dX6_changeTransaction_45 : decode cX6_changeTransaction 45 = .ok (.iconst 0, 1) := by decide +kernel
theorem dX6_changeTransaction_46 : decode cX6_changeTransaction 46 = .ok (.if_icmp .ne 6, 3) := by decide +kernel
theorem dX6_changeTransaction_49 : decode cX6_changeTransaction 49 = .ok (.bipush 9, 2) := by decide +kernel
theorem dX6_changeTransaction_51 : decode cX6_changeTransaction 51 = .ok (.ireturn, 1) := by decide +kernel
theorem dX6_changeTransaction_52 : decode cX6_changeTransaction 52 = .ok (.getstatic 182, 3) := by decide +kernel
theorem dX6_changeTransaction_55 : decode cX6_changeTransaction 55 = .ok (.aload_n 1, 1) := by decide +kernel
theorem dX6_changeTransaction_56 : decode cX6_changeTransaction 56 = .ok (.invokevirtual 187, 3) := by decide +kernel
theorem dX6_changeTransaction_59 : decode cX6_changeTransaction 59 = .ok (.iaload, 1) := by decide +kernel
theorem dX6_changeTransaction_60 : decode cX6_changeTransaction 60 = .ok (.lookupswitch 48 #[(28, 28), (29, 38)], 28) := by decide +kernel
theorem dX6_changeTransaction_88 : decode cX6_changeTransaction 88 = .ok (.aload_n 0, 1) := by decide +kernel
theorem dX6_changeTransaction_89 : decode cX6_changeTransaction 89 = .ok (.getfield 24, 3) := by decide +kernel
theorem dX6_changeTransaction_92 : decode cX6_changeTransaction 92 = .ok (.invokevirtual 319, 3) := by decide +kernel
theorem dX6_changeTransaction_95 : decode cX6_changeTransaction 95 = .ok (.ldc 74, 2) := by decide +kernel
theorem dX6_changeTransaction_97 : decode cX6_changeTransaction 97 = .ok (.ireturn, 1) := by decide +kernel
theorem dX6_changeTransaction_98 : decode cX6_changeTransaction 98 = .ok (.aload_n 0, 1) := by decide +kernel
theorem dX6_changeTransaction_99 : decode cX6_changeTransaction 99 = .ok (.getfield 24, 3) := by decide +kernel
theorem dX6_changeTransaction_102 : decode cX6_changeTransaction 102 = .ok (.invokevirtual 321, 3) := by decide +kernel
theorem dX6_changeTransaction_105 : decode cX6_changeTransaction 105 = .ok (.ldc 74, 2) := by decide +kernel
theorem dX6_changeTransaction_107 : decode cX6_changeTransaction 107 = .ok (.ireturn, 1) := by decide +kernel
theorem dX6_changeTransaction_108 : decode cX6_changeTransaction 108 = .ok (.aload_n 0, 1) := by decide +kernel
theorem dX6_changeTransaction_109 : decode cX6_changeTransaction 109 = .ok (.getfield 24, 3) := by decide +kernel
theorem dX6_changeTransaction_112 : decode cX6_changeTransaction 112 = .ok (.invokevirtual 79, 3) := by decide +kernel
theorem dX6_changeTransaction_115 : decode cX6_changeTransaction 115 = .ok (.pop, 1) := by decide +kernel
theorem dX6_changeTransaction_116 : decode cX6_changeTransaction 116 = .ok (.ldc 74, 2) := by decide +kernel
theorem dX6_changeTransaction_118 : decode cX6_changeTransaction 118 = .ok (.ireturn, 1) := by decide +kernel
theorem dX6_talk_0 : decode cX6_talk 0 = .ok (.getstatic 182, 3) := by decide +kernel
theorem dX6_talk_3 : decode cX6_talk 3 = .ok (.aload_n 1, 1) := by decide +kernel
theorem dX6_talk_4 : decode cX6_talk 4 = .ok (.invokevirtual 187, 3) := by decide +kernel
theorem dX6_talk_7 : decode cX6_talk 7 = .ok (.iaload, 1) := by decide +kernel
theorem dX6_talk_8 : decode cX6_talk 8 = .ok (.lookupswitch 52 #[(30, 28), (31, 40)], 28) := by decide +kernel
theorem dX6_talk_36 : decode cX6_talk 36 = .ok (.aload_n 0, 1) := by decide +kernel
theorem dX6_talk_37 : decode cX6_talk 37 = .ok (.aload_n 0, 1) := by decide +kernel
theorem dX6_talk_38 : decode cX6_talk 38 = .ok (.getfield 99, 3) := by decide +kernel
theorem dX6_talk_41 : decode cX6_talk 41 = .ok (.invokevirtual 203, 3) := by decide +kernel
theorem dX6_talk_44 : decode cX6_talk 44 = .ok (.invokevirtual 324, 3) := by decide +kernel
theorem dX6_talk_47 : decode cX6_talk 47 = .ok (.ireturn, 1) := by decide +kernel
theorem dX6_talk_48 : decode cX6_talk 48 = .ok (.aload_n 0, 1) := by decide +kernel
theorem dX6_talk_49 : decode cX6_talk 49 = .ok (.aload_n 0, 1) := by decide +kernel
theorem dX6_talk_50 : decode cX6_talk 50 = .ok (.getfield 31, 3) := by decide +kernel
theorem dX6_talk_53 : decode cX6_talk 53 = .ok (.getfield 83, 3) := by decide +kernel
theorem dX6_talk_56 : decode cX6_talk 56 = .ok (.invokevirtual 194, 3) := by decide +kernel
theorem dX6_talk_59 : decode cX6_talk 59 = .ok (.ireturn, 1) := by decide +kernel
theorem dX6_talk_60 : decode cX6_talk 60 = .ok (.aload_n 0, 1) := by decide +kernel
theorem dX6_talk_61 : decode cX6_talk 61 = .ok (.aload_n 0, 1) := by decide +kernel
theorem dX6_talk_62 : decode cX6_talk 62 = .ok (.getfield 99, 3) := by decide +kernel
theorem dX6_talk_65 : decode cX6_talk 65 = .ok (.invokevirtual 203, 3) := by decide +kernel
theorem dX6_talk_68 : decode cX6_talk 68 = .ok (.sipush 255, 3) := by decide +kernel
theorem dX6_talk_71 : decode cX6_talk 71 = .ok (.iand, 1) := by decide +kernel
theorem dX6_talk_72 : decode cX6_talk 72 = .ok (.invokevirtual 327, 3) := by decide +kernel
theorem dX6_talk_75 : decode cX6_talk 75 = .ok (.ireturn, 1) := by decide +kernel
theorem dX6_putCommandByte_0 : decode cX6_putCommandByte 0 = .ok (.aload_n 0, 1) := by decide +kernel
theorem dX6_putCommandByte_1 : decode cX6_putCommandByte 1 = .ok (.getfield 31, 3) := by decide +kernel
theorem dX6_putCommandByte_4 : decode cX6_putCommandByte 4 = .ok (.iload_n 1, 1) := by decide +kernel
theorem dX6_putCommandByte_5 : decode cX6_putCommandByte 5 = .ok (.invokevirtual 330, 3) := by decide +kernel
theorem dX6_putCommandByte_8 : decode cX6_putCommandByte 8 = .ok (.ifCond .eq 20, 3) := by decide +kernel
theorem dX6_putCommandByte_11 : decode cX6_putCommandByte 11 = .ok (.aload_n 0, 1) := by decide +kernel
theorem dX6_putCommandByte_12 : decode cX6_putCommandByte 12 = .ok (.aload_n 0, 1) := by decide +kernel
theorem dX6_putCommandByte_13 : decode cX6_putCommandByte 13 = .ok (.getfield 31, 3) := by decide +kernel
theorem dX6_putCommandByte_16 : decode cX6_putCommandByte 16 = .ok (.getfield 331, 3) := by decide +kernel
theorem dX6_putCommandByte_19 : decode cX6_putCommandByte 19 = .ok (.iload_n 1, 1) := by decide +kernel
theorem dX6_putCommandByte_20 : decode cX6_putCommandByte 20 = .ok (.iaload, 1) := by decide +kernel
theorem dX6_putCommandByte_21 : decode cX6_putCommandByte 21 = .ok (.i2b, 1) := by decide +kernel
theorem dX6_putCommandByte_22 : decode cX6_putCommandByte 22 = .ok (.invokevirtual 194, 3) := by decide +kernel
theorem dX6_putCommandByte_25 : decode cX6_putCommandByte 25 = .ok (.goto 4, 3) := by decide +kernel
theorem dX6_putCommandByte_28 : decode cX6_putCommandByte 28 = .ok (.iconst 3, 1) := by decide +kernel
theorem dX6_putCommandByte_29 : decode cX6_putCommandByte 29 = .ok (.ireturn, 1) := by decide +kernel
theorem dX6_answerByte_0 : decode cX6_answerByte 0 = .ok (.aload_n 0, 1) := by decide +kernel
theorem dX6_answerByte_1 : decode cX6_answerByte 1 = .ok (.getfield 35, 3) := by decide +kernel
theorem dX6_answerByte_4 : decode cX6_answerByte 4 = .ok (.invokevirtual 334, 3) := by decide +kernel
theorem dX6_answerByte_7 : decode cX6_answerByte 7 = .ok (.ifCond .eq 6, 3) := by decide +kernel
theorem dX6_answerByte_10 : decode cX6_answerByte 10 = .ok (.bipush 6, 2) := by decide +kernel
theorem dX6_answerByte_12 : decode cX6_answerByte 12 = .ok (.ireturn, 1) := by decide +kernel
theorem dX6_answerByte_13 : decode cX6_answerByte 13 = .ok (.aload_n 0, 1) := by decide +kernel
theorem dX6_answerByte_14 : decode cX6_answerByte 14 = .ok (.getfield 35, 3) := by decide +kernel
theorem dX6_answerByte_17 : decode cX6_answerByte 17 = .ok (.iload_n 1, 1) := by decide +kernel
theorem dX6_answerByte_18 : decode cX6_answerByte 18 = .ok (.invokevirtual 337, 3) := by decide +kernel
theorem dX6_answerByte_21 : decode cX6_answerByte 21 = .ok (.ldc 74, 2) := by decide +kernel
theorem dX6_answerByte_23 : decode cX6_answerByte 23 = .ok (.ireturn, 1) := by decide +kernel
theorem dX6_throwOrHandle_0 : decode cX6_throwOrHandle 0 = .ok (.getstatic 182, 3) := by decide +kernel
theorem dX6_throwOrHandle_3 : decode cX6_throwOrHandle 3 = .ok (.aload_n 1, 1) := by decide +kernel
theorem dX6_throwOrHandle_4 : decode cX6_throwOrHandle 4 = .ok (.invokevirtual 187, 3) := by decide +kernel
theorem dX6_throwOrHandle_7 : decode cX6_throwOrHandle 7 = .ok (.iaload, 1) := by decide +kernel
theorem dX6_throwOrHandle_8 : decode cX6_throwOrHandle 8 = .ok (.lookupswitch 56 #[(32, 28), (33, 36)], 28) := by decide +kernel
theorem dX6_throwOrHandle_36 : decode cX6_throwOrHandle 36 = .ok (.aload_n 0, 1) := by decide +kernel
theorem dX6_throwOrHandle_37 : decode cX6_throwOrHandle 37 = .ok (.getfield 99, 3) := by decide +kernel
theorem dX6_throwOrHandle_40 : decode cX6_throwOrHandle 40 = .ok (.invokevirtual 203, 3) := by decide +kernel
theorem dX6_throwOrHandle_43 : decode cX6_throwOrHandle 43 = .ok (.ireturn, 1) := by decide +kernel
theorem dX6_throwOrHandle_44 : decode cX6_throwOrHandle 44 = .ok (.aload_n 0, 1) := by decide +kernel
theorem dX6_throwOrHandle_45 : decode cX6_throwOrHandle 45 = .ok (.getfield 99, 3) := by decide +kernel
theorem dX6_throwOrHandle_48 : decode cX6_throwOrHandle 48 = .ok (.aload_n 0, 1) := by decide +kernel
theorem dX6_throwOrHandle_49 : decode cX6_throwOrHandle 49 = .ok (.getfield 106, 3) := by decide +kernel
theorem dX6_throwOrHandle_52 : decode cX6_throwOrHandle 52 = .ok (.aload_n 0, 1) := by decide +kernel
theorem dX6_throwOrHandle_53 : decode cX6_throwOrHandle 53 = .ok (.iconst 1, 1) := by decide +kernel
theorem dX6_throwOrHandle_54 : decode cX6_throwOrHandle 54 = .ok (.invokevirtual 190, 3) := by decide +kernel
theorem dX6_throwOrHandle_57 : decode cX6_throwOrHandle 57 = .ok (.iadd, 1) := by decide +kernel
theorem dX6_throwOrHandle_58 : decode cX6_throwOrHandle 58 = .ok (.putfield 167, 3) := by decide +kernel
theorem dX6_throwOrHandle_61 : decode cX6_throwOrHandle 61 = .ok (.ldc 74, 2) := by decide +kernel
theorem dX6_throwOrHandle_63 : decode cX6_throwOrHandle 63 = .ok (.ireturn, 1) := by decide +kernel
theorem dX6_throwOrHandle_64 : decode cX6_throwOrHandle 64 = .ok (.aload_n 0, 1) := by decide +kernel
theorem dX6_throwOrHandle_65 : decode cX6_throwOrHandle 65 = .ok (.getfield 99, 3) := by decide +kernel
theorem dX6_throwOrHandle_68 : decode cX6_throwOrHandle 68 = .ok (.ldc 170, 2) := by decide +kernel
theorem dX6_throwOrHandle_70 : decode cX6_throwOrHandle 70 = .ok (.putfield 167, 3) := by decide +kernel
theorem dX6_throwOrHandle_73 : decode cX6_throwOrHandle 73 = .ok (.ldc 74, 2) := by decide +kernel
theorem dX6_throwOrHandle_75 : decode cX6_throwOrHandle 75 = .ok (.ireturn, 1) := by decide +kernel
end
section
theorem dX9_init_0 : decode cX9_init 0 = .ok (.aload_n 0, 1) := by decide +kernel
theorem dX9_init_1 : decode cX9_init 1 = .ok (.invokespecial 1, 3) := by decide +kernel
theorem dX9_init_4 : decode cX9_init 4 = .ok (.aload_n 0, 1) := by decide +kernel
theorem dX9_init_5 : decode cX9_init 5 = .ok (.sipush 512, 3) := by decide +kernel
theorem dX9_init_8 : decode cX9_init 8 = .ok (.newarray .int, 2) := by decide +kernel
theorem dX9_init_10 : decode cX9_init 10 = .ok (.putfield 7, 3) := by decide +kernel
theorem dX9_init_13 : decode cX9_init 13 = .ok (.aload_n 0, 1) := by decide +kernel
theorem dX9_init_14 : decode cX9_init 14 = .ok (.bipush 16, 2) := by decide +kernel
theorem dX9_init_16 : decode cX9_init 16 = .ok (.newarray .int, 2) := by decide +kernel
theorem dX9_init_18 : decode cX9_init 18 = .ok (.putfield 13, 3) := by decide +kernel
theorem dX9_init_21 : decode cX9_init 21 = .ok (.aload_n 0, 1) := by decide +kernel
theorem dX9_init_22 : decode cX9_init 22 = .ok (.bipush 16, 2) := by decide +kernel
theorem dX9_init_24 : decode cX9_init 24 = .ok (.newarray .int, 2) := by decide +kernel
theorem dX9_init_26 : decode cX9_init 26 = .ok (.putfield 16, 3) := by decide +kernel
theorem dX9_init_29 : decode cX9_init 29 = .ok (.aload_n 0, 1) := by decide +kernel
theorem dX9_init_30 : decode cX9_init 30 = .ok (.bipush 16, 2) := by decide +kernel
theorem dX9_init_32 : decode cX9_init 32 = .ok (.newarray .boolean, 2) := by decide +kernel
theorem dX9_init_34 : decode cX9_init 34 = .ok (.putfield 19, 3) := by decide +kernel
theorem dX9_init_37 : decode cX9_init 37 = .ok (.aload_n 0, 1) := by decide +kernel
theorem dX9_init_38 : decode cX9_init 38 = .ok (.bipush 41, 2) := by decide +kernel
theorem dX9_init_40 : decode cX9_init 40 = .ok (.newarray .int, 2) := by decide +kernel
theorem dX9_init_42 : decode cX9_init 42 = .ok (.putfield 23, 3) := by decide +kernel
theorem dX9_init_45 : decode cX9_init 45 = .ok (.aload_n 0, 1) := by decide +kernel
theorem dX9_init_46 : decode cX9_init 46 = .ok (.bipush 41, 2) := by decide +kernel
theorem dX9_init_48 : decode cX9_init 48 = .ok (.newarray .int, 2) := by decide +kernel
theorem dX9_init_50 : decode cX9_init 50 = .ok (.putfield 26, 3) := by decide +kernel
theorem dX9_init_53 : decode cX9_init 53 = .ok (.aload_n 0, 1) := by decide +kernel
theorem dX9_init_54 : decode cX9_init 54 = .ok (.bipush 41, 2) := by decide +kernel
theorem dX9_init_56 : decode cX9_init 56 = .ok (.newarray .int, 2) := by decide +kernel
theorem dX9_init_58 : decode cX9_init 58 = .ok (.putfield 29, 3) := by decide +kernel
theorem dX9_init_61 : decode cX9_init 61 = .ok (.aload_n 0, 1) := by decide +kernel
theorem dX9_init_62 : decode cX9_init 62 = .ok (.bipush 41, 2) := by decide +kernel
theorem dX9_init_64 : decode cX9_init 64 = .ok (.newarray .int, 2) := by decide +kernel
theorem dX9_init_66 : decode cX9_init 66 = .ok (.putfield 32, 3) := by decide +kernel
theorem dX9_init_69 : decode cX9_init 69 = .ok (.aload_n 0, 1) := by decide +kernel
theorem dX9_init_70 : decode cX9_init 70 = .ok (.sipush 240, 3) := by decide +kernel
theorem dX9_init_73 : decode cX9_init 73 = .ok (.newarray .int, 2) := by decide +kernel
theorem dX9_init_75 : decode cX9_init 75 = .ok (.putfield 35, 3) := by decide +kernel
theorem dX9_init_78 : decode cX9_init 78 = .ok (.aload_n 0, 1) := by decide +kernel
theorem dX9_init_79 : decode cX9_init 79 = .ok (.iconst 1, 1) := by decide +kernel
theorem dX9_init_80 : decode cX9_init 80 = .ok (.putfield 38, 3) := by decide +kernel
theorem dX9_init_83 : decode cX9_init 83 = .ok (.aload_n 0, 1) := by decide +kernel
theorem dX9_init_84 : decode cX9_init 84 = .ok (.iconst (-1), 1) := by decide +kernel
theorem dX9_init_85 : decode cX9_init 85 = .ok (.putfield 42, 3) := by decide +kernel
theorem dX9_init_88 : decode cX9_init 88 = .ok (.aload_n 0, 1) := by decide +kernel
theorem dX9_init_89 : decode cX9_init 89 = .ok (.bipush 20, 2) := by decide +kernel
theorem dX9_init_91 : decode cX9_init 91 = .ok (.newarray .int, 2) := by decide +kernel
theorem dX9_init_93 : decode cX9_init 93 = .ok (.putfield 46, 3) := by decide +kernel
theorem dX9_init_96 : decode cX9_init 96 = .ok (.aload_n 0, 1) := by decide +kernel
theorem dX9_init_97 : decode cX9_init 97 = .ok (.bipush 20, 2) := by decide +kernel
theorem dX9_init_99 : decode cX9_init 99 = .ok (.newarray .int, 2) := by decide +kernel
theorem dX9_init_101 : decode cX9_init 101 = .ok (.putfield 49, 3) := by decide +kernel
theorem dX9_init_104 : decode cX9_init 104 = .ok (.aload_n 0, 1) := by decide +kernel
theorem dX9_init_105 : decode cX9_init 105 = .ok (.bipush 32, 2) := by decide +kernel
theorem dX9_init_107 : decode cX9_init 107 = .ok (.newarray .int, 2) := by decide +kernel
theorem dX9_init_109 : decode cX9_init 109 = .ok (.putfield 52, 3) := by decide +kernel
theorem dX9_init_112 : decode cX9_init 112 = .ok (.aload_n 0, 1) := by decide +kernel
theorem dX9_init_113 : decode cX9_init 113 = .ok (.bipush 32, 2) := by decide +kernel
theorem dX9_init_115 : decode cX9_init 115 = .ok (.newarray .int, 2) := by decide +kernel
theorem dX9_init_117 : decode cX9_init 117 = .ok (.putfield 55, 3) := by decide +kernel
theorem dX9_init_120 : decode cX9_init 120 = .ok (.aload_n 0, 1) := by decide +kernel
theorem dX9_init_121 : decode cX9_init 121 = .ok (.bipush 8, 2) := by decide +kernel
theorem dX9_init_123 : decode cX9_init 123 = .ok (.newarray .int, 2) := by decide +kernel
theorem dX9_init_125 : decode cX9_init 125 = .ok (.putfield 58, 3) := by decide +kernel
theorem dX9_init_128 : decode cX9_init 128 = .ok (.aload_n 0, 1) := by decide +kernel
theorem dX9_init_129 : decode cX9_init 129 = .ok (.bipush 8, 2) := by decide +kernel
theorem dX9_init_131 : decode cX9_init 131 = .ok (.newarray .int, 2) := by decide +kernel
theorem dX9_init_133 : decode cX9_init 133 = .ok (.putfield 61, 3) := by decide +kernel
theorem dX9_init_136 : decode cX9_init 136 = .ok (.aload_n 0, 1) := by decide +kernel
theorem dX9_init_137 : decode cX9_init 137 = .ok (.bipush 8, 2) := by decide +kernel
theorem dX9_init_139 : decode cX9_init 139 = .ok (.newarray .int, 2) := by decide +kernel
theorem dX9_init_141 : decode cX9_init 141 = .ok (.putfield 64, 3) := by decide +kernel
theorem dX9_init_144 : decode cX9_init 144 = .ok (.aload_n 0, 1) := by decide +kernel
theorem dX9_init_145 : decode cX9_init 145 = .ok (.bipush 64, 2) := by decide +kernel
theorem dX9_init_147 : decode cX9_init 147 = .ok (.newarray .int, 2) := by decide +kernel
theorem dX9_init_149 : decode cX9_init 149 = .ok (.putfield 67, 3) := by decide +kernel
theorem dX9_init_152 : decode cX9_init 152 = .ok (.aload_n 0, 1) := by decide +kernel
theorem dX9_init_153 : decode cX9_init 153 = .ok (.sipush 128, 3) := by decide +kernel
theorem dX9_init_156 : decode cX9_init 156 = .ok (.newarray .int, 2) := by decide +kernel
theorem dX9_init_158 : decode cX9_init 158 = .ok (.putfield 70, 3) := by decide +kernel
theorem dX9_init_161 : decode cX9_init 161 = .ok (.aload_n 0, 1) := by decide +kernel
theorem dX9_init_162 : decode cX9_init 162 = .ok (.bipush 8, 2) := by decide +kernel
theorem dX9_init_164 : decode cX9_init 164 = .ok (.newarray .int, 2) := by decide +kernel
theorem dX9_init_166 : decode cX9_init 166 = .ok (.putfield 73, 3) := by decide +kernel
theorem dX9_init_169 : decode cX9_init 169 = .ok (.aload_n 0, 1) := by decide +kernel
theorem dX9_init_170 : decode cX9_init 170 = .ok (.bipush 8, 2) := by decide +kernel
theorem dX9_init_172 : decode cX9_init 172 = .ok (.newarray .int, 2) := by decide +kernel
theorem dX9_init_174 : decode cX9_init 174 = .ok (.putfield 76, 3) := by decide +kernel
theorem dX9_init_177 : decode cX9_init 177 = .ok (.iconst 0, 1) := by decide +kernel
theorem dX9_init_178 : decode cX9_init 178 = .ok (.istore_n 1, 1) := by decide +kernel
theorem dX9_init_179 : decode cX9_init 179 = .ok (.iload_n 1, 1) := by decide +kernel
theorem dX9_init_180 : decode cX9_init 180 = .ok (.iconst 4, 1) := by decide +kernel
theorem dX9_init_181 : decode cX9_init 181 = .ok (.if_icmp .ge 17, 3) := by decide +kernel
theorem dX9_init_184 : decode cX9_init 184 = .ok (.aload_n 0, 1) := by decide +kernel
theorem dX9_init_185 : decode cX9_init 185 = .ok (.iload_n 1, 1) := by decide +kernel
theorem dX9_init_186 : decode cX9_init 186 = .ok (.iconst 0, 1) := by decide +kernel
theorem dX9_init_187 : decode cX9_init 187 = .ok (.bipush 8, 2) := by decide +kernel
theorem dX9_init_189 : decode cX9_init 189 = .ok (.invokevirtual 79, 3) := by decide +kernel
theorem dX9_init_192 : decode cX9_init 192 = .ok (.iinc 1 1, 3) := by decide +kernel
theorem dX9_init_195 : decode cX9_init 195 = .ok (.goto (-16), 3) := by decide +kernel
theorem dX9_init_198 : decode cX9_init 198 = .ok (.return_, 1) := by decide +kernel
theorem dX9_isIn_0 : decode cX9_isIn 0 = .ok (.iload_n 0, 1) := by decide +kernel
theorem dX9_isIn_1 : decode cX9_isIn 1 = .ok (.iload_n 1, 1) := by decide +kernel
theorem dX9_isIn_2 : decode cX9_isIn 2 = .ok (.if_icmp .lt 12, 3) := by decide +kernel
theorem dX9_isIn_5 : decode cX9_isIn 5 = .ok (.iload_n 0, 1) := by decide +kernel
theorem dX9_isIn_6 : decode cX9_isIn 6 = .ok (.iload_n 2, 1) := by decide +kernel
theorem dX9_isIn_7 : decode cX9_isIn 7 = .ok (.if_icmp .gt 7, 3) := by decide +kernel
theorem dX9_isIn_10 : decode cX9_isIn 10 = .ok (.iconst 1, 1) := by decide +kernel
theorem dX9_isIn_11 : decode cX9_isIn 11 = .ok (.goto 4, 3) := by decide +kernel
theorem dX9_isIn_14 : decode cX9_isIn 14 = .ok (.iconst 0, 1) := by decide +kernel
theorem dX9_isIn_15 : decode cX9_isIn 15 = .ok (.ireturn, 1) := by decide +kernel
theorem dX9_add_0 : decode cX9_add 0 = .ok (.aload_n 0, 1) := by decide +kernel
theorem dX9_add_1 : decode cX9_add 1 = .ok (.dup, 1) := by decide +kernel
theorem dX9_add_2 : decode cX9_add 2 = .ok (.getfield 83, 3) := by decide +kernel
theorem dX9_add_5 : decode cX9_add 5 = .ok (.iconst 1, 1) := by decide +kernel
theorem dX9_add_6 : decode cX9_add 6 = .ok (.iadd, 1) := by decide +kernel
theorem dX9_add_7 : decode cX9_add 7 = .ok (.putfield 83, 3) := by decide +kernel
theorem dX9_add_10 : decode cX9_add 10 = .ok (.aload_n 0, 1) := by decide +kernel
theorem dX9_add_11 : decode cX9_add 11 = .ok (.getfield 23, 3) := by decide +kernel
theorem dX9_add_14 : decode cX9_add 14 = .ok (.aload_n 0, 1) := by decide +kernel
theorem dX9_add_15 : decode cX9_add 15 = .ok (.getfield 83, 3) := by decide +kernel
theorem dX9_add_18 : decode cX9_add 18 = .ok (.iload_n 1, 1) := by decide +kernel
theorem dX9_add_19 : decode cX9_add 19 = .ok (.iastore, 1) := by decide +kernel
theorem dX9_add_20 : decode cX9_add 20 = .ok (.aload_n 0, 1) := by decide +kernel
theorem dX9_add_21 : decode cX9_add 21 = .ok (.getfield 26, 3) := by decide +kernel
theorem dX9_add_24 : decode cX9_add 24 = .ok (.aload_n 0, 1) := by decide +kernel
theorem dX9_add_25 : decode cX9_add 25 = .ok (.getfield 83, 3) := by decide +kernel
theorem dX9_add_28 : decode cX9_add 28 = .ok (.iload_n 2, 1) := by decide +kernel
theorem dX9_add_29 : decode cX9_add 29 = .ok (.iastore, 1) := by decide +kernel
theorem dX9_add_30 : decode cX9_add 30 = .ok (.aload_n 0, 1) := by decide +kernel
theorem dX9_add_31 : decode cX9_add 31 = .ok (.getfield 29, 3) := by decide +kernel
theorem dX9_add_34 : decode cX9_add 34 = .ok (.aload_n 0, 1) := by decide +kernel
theorem dX9_add_35 : decode cX9_add 35 = .ok (.getfield 83, 3) := by decide +kernel
theorem dX9_add_38 : decode cX9_add 38 = .ok (.iload_n 3, 1) := by decide +kernel
theorem dX9_add_39 : decode cX9_add 39 = .ok (.iastore, 1) := by decide +kernel
theorem dX9_add_40 : decode cX9_add 40 = .ok (.aload_n 0, 1) := by decide +kernel
theorem dX9_add_41 : decode cX9_add 41 = .ok (.getfield 32, 3) := by decide +kernel
theorem dX9_add_44 : decode cX9_add 44 = .ok (.aload_n 0, 1) := by decide +kernel
theorem dX9_add_45 : decode cX9_add 45 = .ok (.getfield 83, 3) := by decide +kernel
theorem dX9_add_48 : decode cX9_add 48 = .ok (.aload_n 0, 1) := by decide +kernel
theorem dX9_add_49 : decode cX9_add 49 = .ok (.getfield 86, 3) := by decide +kernel
theorem dX9_add_52 : decode cX9_add 52 = .ok (.iastore, 1) := by decide +kernel
theorem dX9_add_53 : decode cX9_add 53 = .ok (.iconst 0, 1) := by decide +kernel
theorem dX9_add_54 : decode cX9_add 54 = .ok (.istore 4, 2) := by decide +kernel
theorem dX9_add_56 : decode cX9_add 56 = .ok (.iload 4, 2) := by decide +kernel
theorem dX9_add_58 : decode cX9_add 58 = .ok (.iload_n 3, 1) := by decide +kernel
theorem dX9_add_59 : decode cX9_add 59 = .ok (.if_icmp .ge 22, 3) := by decide +kernel
theorem dX9_add_62 : decode cX9_add 62 = .ok (.aload_n 0, 1) := by decide +kernel
theorem dX9_add_63 : decode cX9_add 63 = .ok (.getfield 35, 3) := by decide +kernel
theorem dX9_add_66 : decode cX9_add 66 = .ok (.aload_n 0, 1) := by decide +kernel
theorem dX9_add_67 : decode cX9_add 67 = .ok (.getfield 86, 3) := by decide +kernel
theorem dX9_add_70 : decode cX9_add 70 = .ok (.iload 4, 2) := by decide +kernel
theorem dX9_add_72 : decode cX9_add 72 = .ok (.iadd, 1) := by decide +kernel
theorem dX9_add_73 : decode cX9_add 73 = .ok (.iconst 0, 1) := by decide +kernel
theorem dX9_add_74 : decode cX9_add 74 = .ok (.iastore, 1) := by decide +kernel
theorem dX9_add_75 : decode cX9_add 75 = .ok (.iinc 4 1, 3) := by decide +kernel
theorem dX9_add_78 : decode cX9_add 78 = .ok (.goto (-22), 3) := by decide +kernel
theorem dX9_add_81 : decode cX9_add 81 = .ok (.aload_n 0, 1) := by decide +kernel
theorem dX9_add_82 : decode cX9_add 82 = .ok (.dup, 1) := by decide +kernel
theorem dX9_add_83 : decode cX9_add 83 = .ok (.getfield 86, 3) := by decide +kernel
theorem dX9_add_86 : decode cX9_add 86 = .ok (.iload_n 3, 1) := by decide +kernel
theorem dX9_add_87 : decode cX9_add 87 = .ok (.iadd, 1) := by decide +kernel
theorem dX9_add_88 : decode cX9_add 88 = .ok (.putfield 86, 3) := by decide +kernel
theorem dX9_add_91 : decode cX9_add 91 = .ok (.return_, 1) := by decide +kernel
theorem dX9_code_0 : decode cX9_code 0 = .ok (.iload_n 1, 1) := by decide +kernel
theorem dX9_code_1 : decode cX9_code 1 = .ok (.iconst 0, 1) := by decide +kernel
theorem dX9_code_2 : decode cX9_code 2 = .ok (.sipush 511, 3) := by decide +kernel
theorem dX9_code_5 : decode cX9_code 5 = .ok (.invokestatic 89, 3) := by decide +kernel
theorem dX9_code_8 : decode cX9_code 8 = .ok (.ifCond .eq 14, 3) := by decide +kernel
theorem dX9_code_11 : decode cX9_code 11 = .ok (.iload_n 2, 1) := by decide +kernel
theorem dX9_code_12 : decode cX9_code 12 = .ok (.iconst 0, 1) := by decide +kernel
theorem dX9_code_13 : decode cX9_code 13 = .ok (.sipush 255, 3) := by decide +kernel
theorem dX9_code_16 : decode cX9_code 16 = .ok (.invokestatic 89, 3) := by decide +kernel
theorem dX9_code_19 : decode cX9_code 19 = .ok (.ifCond .ne 5, 3) := by decide +kernel
theorem dX9_code_22 : decode cX9_code 22 = .ok (.iconst (-1), 1) := by decide +kernel
theorem dX9_code_23 : decode cX9_code 23 = .ok (.ireturn, 1) := by decide +kernel
theorem dX9_code_24 : decode cX9_code 24 = .ok (.aload_n 0, 1) := by decide +kernel
theorem dX9_code_25 : decode cX9_code 25 = .ok (.getfield 7, 3) := by decide +kernel
theorem dX9_code_28 : decode cX9_code 28 = .ok (.iload_n 1, 1) := by decide +kernel
theorem dX9_code_29 : decode cX9_code 29 = .ok (.iload_n 2, 1) := by decide +kernel
theorem dX9_code_30 : decode cX9_code 30 = .ok (.iastore, 1) := by decide +kernel
theorem dX9_code_31 : decode cX9_code 31 = .ok (.iconst 1, 1) := by decide +kernel
theorem dX9_code_32 : decode cX9_code 32 = .ok (.ireturn, 1) := by decide +kernel
theorem dX9_codes_0 : decode cX9_codes 0 = .ok (.iload 4, 2) := by decide +kernel
theorem dX9_codes_2 : decode cX9_codes 2 = .ok (.iconst 1, 1) := by decide +kernel
theorem dX9_codes_3 : decode cX9_codes 3 = .ok (.bipush 8, 2) := by decide +kernel
theorem dX9_codes_5 : decode cX9_codes 5 = .ok (.invokestatic 89, 3) := by decide +kernel
theorem dX9_codes_8 : decode cX9_codes 8 = .ok (.ifCond .eq 17, 3) := by decide +kernel
theorem dX9_codes_11 : decode cX9_codes 11 = .ok (.iload_n 1, 1) := by decide +kernel
theorem dX9_codes_12 : decode cX9_codes 12 = .ok (.iconst 0, 1) := by decide +kernel
theorem dX9_codes_13 : decode cX9_codes 13 = .ok (.sipush 512, 3) := by decide +kernel
theorem dX9_codes_16 : decode cX9_codes 16 = .ok (.iload 4, 2) := by decide +kernel
theorem dX9_codes_18 : decode cX9_codes 18 = .ok (.isub, 1) := by decide +kernel
theorem dX9_codes_19 : decode cX9_codes 19 = .ok (.invokestatic 89, 3) := by decide +kernel
theorem dX9_codes_22 : decode cX9_codes 22 = .ok (.ifCond .ne 5, 3) := by decide +kernel
theorem dX9_codes_25 : decode cX9_codes 25 = .ok (.iconst (-1), 1) := by decide +kernel
theorem dX9_codes_26 : decode cX9_codes 26 = .ok (.ireturn, 1) := by decide +kernel
theorem dX9_codes_27 : decode cX9_codes 27 = .ok (.iconst 0, 1) := by decide +kernel
theorem dX9_codes_28 : decode cX9_codes 28 = .ok (.istore 5, 2) := by decide +kernel
theorem dX9_codes_30 : decode cX9_codes 30 = .ok (.iload 5, 2) := by decide +kernel
theorem dX9_codes_32 : decode cX9_codes 32 = .ok (.iload 4, 2) := by decide +kernel
theorem dX9_codes_34 : decode cX9_codes 34 = .ok (.if_icmp .ge 35, 3) := by decide +kernel
theorem dX9_codes_37 : decode cX9_codes 37 = .ok (.aload_n 0, 1) := by decide +kernel
theorem dX9_codes_38 : decode cX9_codes 38 = .ok (.getfield 7, 3) := by decide +kernel
theorem dX9_codes_41 : decode cX9_codes 41 = .ok (.iload_n 1, 1) := by decide +kernel
theorem dX9_codes_42 : decode cX9_codes 42 = .ok (.iload 5, 2) := by decide +kernel
theorem dX9_codes_44 : decode cX9_codes 44 = .ok (.iadd, 1) := by decide +kernel
theorem dX9_codes_45 : decode cX9_codes 45 = .ok (.lload_n 2, 1) := by decide +kernel
theorem dX9_codes_46 : decode cX9_codes 46 = .ok (.bipush 8, 2) := by decide +kernel
theorem dX9_codes_48 : decode cX9_codes 48 = .ok (.iload 4, 2) := by decide +kernel
theorem dX9_codes_50 : decode cX9_codes 50 = .ok (.iconst 1, 1) := by decide +kernel
theorem dX9_codes_51 : decode cX9_codes 51 = .ok (.isub, 1) := by decide +kernel
theorem dX9_codes_52 : decode cX9_codes 52 = .ok (.iload 5, 2) := by decide +kernel
theorem dX9_codes_54 : decode cX9_codes 54 = .ok (.isub, 1) := by decide +kernel
theorem dX9_codes_55 : decode cX9_codes 55 = .ok (.imul, 1) := by decide +kernel
theorem dX9_codes_56 : decode cX9_codes 56 = .ok (.lshr, 1) := by decide +kernel
theorem dX9_codes_57 : decode cX9_codes 57 = .ok (.ldc2_w 93, 3) := by decide +kernel
theorem dX9_codes_60 : decode cX9_codes 60 = .ok (.land, 1) := by decide +kernel
theorem dX9_codes_61 : decode cX9_codes 61 = .ok (.l2i, 1) := by decide +kernel
theorem dX9_codes_62 : decode cX9_codes 62 = .ok (.iastore, 1) := by decide +kernel
theorem dX9_codes_63 : decode cX9_codes 63 = .ok (.iinc 5 1, 3) := by decide +kernel
theorem dX9_codes_66 : decode cX9_codes 66 = .ok (.goto (-36), 3) := by decide +kernel
theorem dX9_codes_69 : decode cX9_codes 69 = .ok (.iconst 1, 1) := by decide +kernel
theorem dX9_codes_70 : decode cX9_codes 70 = .ok (.ireturn, 1) := by decide +kernel
theorem dX9_method_0 : decode cX9_method 0 = .ok (.iload_n 1, 1) := by decide +kernel
theorem dX9_method_1 : decode cX9_method 1 = .ok (.iconst 0, 1) := by decide +kernel
theorem dX9_method_2 : decode cX9_method 2 = .ok (.bipush 15, 2) := by decide +kernel
theorem dX9_method_4 : decode cX9_method 4 = .ok (.invokestatic 89, 3) := by decide +kernel
theorem dX9_method_7 : decode cX9_method 7 = .ok (.ifCond .eq 23, 3) := by decide +kernel
theorem dX9_method_10 : decode cX9_method 10 = .ok (.iload_n 2, 1) := by decide +kernel
theorem dX9_method_11 : decode cX9_method 11 = .ok (.iconst 0, 1) := by decide +kernel
theorem dX9_method_12 : decode cX9_method 12 = .ok (.iconst 3, 1) := by decide +kernel
theorem dX9_method_13 : decode cX9_method 13 = .ok (.invokestatic 89, 3) := by decide +kernel
theorem dX9_method_16 : decode cX9_method 16 = .ok (.ifCond .eq 14, 3) := by decide +kernel
theorem dX9_method_19 : decode cX9_method 19 = .ok (.iload_n 3, 1) := by decide +kernel
theorem dX9_method_20 : decode cX9_method 20 = .ok (.iconst 0, 1) := by decide +kernel
theorem dX9_method_21 : decode cX9_method 21 = .ok (.sipush 511, 3) := by decide +kernel
theorem dX9_method_24 : decode cX9_method 24 = .ok (.invokestatic 89, 3) := by decide +kernel
theorem dX9_method_27 : decode cX9_method 27 = .ok (.ifCond .ne 5, 3) := by decide +kernel
theorem dX9_method_30 : decode cX9_method 30 = .ok (.iconst (-1), 1) := by decide +kernel
theorem dX9_method_31 : decode cX9_method 31 = .ok (.ireturn, 1) := by decide +kernel
theorem dX9_method_32 : decode cX9_method 32 = .ok (.aload_n 0, 1) := by decide +kernel
theorem dX9_method_33 : decode cX9_method 33 = .ok (.getfield 13, 3) := by decide +kernel
theorem dX9_method_36 : decode cX9_method 36 = .ok (.iload_n 1, 1) := by decide +kernel
theorem dX9_method_37 : decode cX9_method 37 = .ok (.iload_n 2, 1) := by decide +kernel
theorem dX9_method_38 : decode cX9_method 38 = .ok (.iastore, 1) := by decide +kernel
theorem dX9_method_39 : decode cX9_method 39 = .ok (.aload_n 0, 1) := by decide +kernel
theorem dX9_method_40 : decode cX9_method 40 = .ok (.getfield 16, 3) := by decide +kernel
theorem dX9_method_43 : decode cX9_method 43 = .ok (.iload_n 1, 1) := by decide +kernel
theorem dX9_method_44 : decode cX9_method 44 = .ok (.iload_n 3, 1) := by decide +kernel
theorem dX9_method_45 : decode cX9_method 45 = .ok (.iastore, 1) := by decide +kernel
theorem dX9_method_46 : decode cX9_method 46 = .ok (.aload_n 0, 1) := by decide +kernel
theorem dX9_method_47 : decode cX9_method 47 = .ok (.getfield 19, 3) := by decide +kernel
theorem dX9_method_50 : decode cX9_method 50 = .ok (.iload_n 1, 1) := by decide +kernel
theorem dX9_method_51 : decode cX9_method 51 = .ok (.iload 4, 2) := by decide +kernel
theorem dX9_method_53 : decode cX9_method 53 = .ok (.bastore, 1) := by decide +kernel
theorem dX9_method_54 : decode cX9_method 54 = .ok (.iconst 1, 1) := by decide +kernel
theorem dX9_method_55 : decode cX9_method 55 = .ok (.ireturn, 1) := by decide +kernel
theorem dX9_type_0 : decode cX9_type 0 = .ok (.iload_n 1, 1) := by decide +kernel
theorem dX9_type_1 : decode cX9_type 1 = .ok (.iconst 0, 1) := by decide +kernel
theorem dX9_type_2 : decode cX9_type 2 = .ok (.sipush 255, 3) := by decide +kernel
theorem dX9_type_5 : decode cX9_type 5 = .ok (.invokestatic 89, 3) := by decide +kernel
theorem dX9_type_8 : decode cX9_type 8 = .ok (.ifCond .ne 5, 3) := by decide +kernel
theorem dX9_type_11 : decode cX9_type 11 = .ok (.iconst (-1), 1) := by decide +kernel
theorem dX9_type_12 : decode cX9_type 12 = .ok (.ireturn, 1) := by decide +kernel
theorem dX9_type_13 : decode cX9_type 13 = .ok (.aload_n 0, 1) := by decide +kernel
theorem dX9_type_14 : decode cX9_type 14 = .ok (.getfield 95, 3) := by decide +kernel
theorem dX9_type_17 : decode cX9_type 17 = .ok (.bipush 32, 2) := by decide +kernel
theorem dX9_type_19 : decode cX9_type 19 = .ok (.if_icmp .ne 6, 3) := by decide +kernel
theorem dX9_type_22 : decode cX9_type 22 = .ok (.bipush (-3), 2) := by decide +kernel
theorem dX9_type_24 : decode cX9_type 24 = .ok (.ireturn, 1) := by decide +kernel
theorem dX9_type_25 : decode cX9_type 25 = .ok (.aload_n 0, 1) := by decide +kernel
theorem dX9_type_26 : decode cX9_type 26 = .ok (.getfield 52, 3) := by decide +kernel
theorem dX9_type_29 : decode cX9_type 29 = .ok (.aload_n 0, 1) := by decide +kernel
theorem dX9_type_30 : decode cX9_type 30 = .ok (.getfield 95, 3) := by decide +kernel
theorem dX9_type_33 : decode cX9_type 33 = .ok (.iload_n 1, 1) := by decide +kernel
theorem dX9_type_34 : decode cX9_type 34 = .ok (.iastore, 1) := by decide +kernel
theorem dX9_type_35 : decode cX9_type 35 = .ok (.aload_n 0, 1) := by decide +kernel
theorem dX9_type_36 : decode cX9_type 36 = .ok (.dup, 1) := by decide +kernel
theorem dX9_type_37 : decode cX9_type 37 = .ok (.getfield 95, 3) := by decide +kernel
theorem dX9_type_40 : decode cX9_type 40 = .ok (.iconst 1, 1) := by decide +kernel
theorem dX9_type_41 : decode cX9_type 41 = .ok (.iadd, 1) := by decide +kernel
theorem dX9_type_42 : decode cX9_type 42 = .ok (.putfield 95, 3) := by decide +kernel
theorem dX9_type_45 : decode cX9_type 45 = .ok (.aload_n 0, 1) := by decide +kernel
theorem dX9_type_46 : decode cX9_type 46 = .ok (.getfield 95, 3) := by decide +kernel
theorem dX9_type_49 : decode cX9_type 49 = .ok (.ireturn, 1) := by decide +kernel
theorem dX9_top_0 : decode cX9_top 0 = .ok (.aload_n 0, 1) := by decide +kernel
theorem dX9_top_1 : decode cX9_top 1 = .ok (.getfield 98, 3) := by decide +kernel
theorem dX9_top_4 : decode cX9_top 4 = .ok (.iconst 1, 1) := by decide +kernel
theorem dX9_top_5 : decode cX9_top 5 = .ok (.isub, 1) := by decide +kernel
theorem dX9_top_6 : decode cX9_top 6 = .ok (.ireturn, 1) := by decide +kernel
theorem dX9_depth_0 : decode cX9_depth 0 = .ok (.aload_n 0, 1) := by decide +kernel
theorem dX9_depth_1 : decode cX9_depth 1 = .ok (.getfield 73, 3) := by decide +kernel
theorem dX9_depth_4 : decode cX9_depth 4 = .ok (.aload_n 0, 1) := by decide +kernel
theorem dX9_depth_5 : decode cX9_depth 5 = .ok (.invokevirtual 101, 3) := by decide +kernel
theorem dX9_depth_8 : decode cX9_depth 8 = .ok (.iaload, 1) := by decide +kernel
theorem dX9_depth_9 : decode cX9_depth 9 = .ok (.ireturn, 1) := by decide +kernel
theorem dX9_at_0 : decode cX9_at 0 = .ok (.aload_n 0, 1) := by decide +kernel
theorem dX9_at_1 : decode cX9_at 1 = .ok (.getfield 70, 3) := by decide +kernel
theorem dX9_at_4 : decode cX9_at 4 = .ok (.bipush 16, 2) := by decide +kernel
theorem dX9_at_6 : decode cX9_at 6 = .ok (.aload_n 0, 1) := by decide +kernel
theorem dX9_at_7 : decode cX9_at 7 = .ok (.invokevirtual 101, 3) := by decide +kernel
theorem dX9_at_10 : decode cX9_at 10 = .ok (.imul, 1) := by decide +kernel
theorem dX9_at_11 : decode cX9_at 11 = .ok (.aload_n 0, 1) := by decide +kernel
theorem dX9_at_12 : decode cX9_at 12 = .ok (.invokevirtual 105, 3) := by decide +kernel
theorem dX9_at_15 : decode cX9_at 15 = .ok (.iadd, 1) := by decide +kernel
theorem dX9_at_16 : decode cX9_at 16 = .ok (.iconst 1, 1) := by decide +kernel
theorem dX9_at_17 : decode cX9_at 17 = .ok (.isub, 1) := by decide +kernel
theorem dX9_at_18 : decode cX9_at 18 = .ok (.iload_n 1, 1) := by decide +kernel
theorem dX9_at_19 : decode cX9_at 19 = .ok (.isub, 1) := by decide +kernel
theorem dX9_at_20 : decode cX9_at 20 = .ok (.iaload, 1) := by decide +kernel
theorem dX9_at_21 : decode cX9_at 21 = .ok (.ireturn, 1) := by decide +kernel
theorem dX9_put_0 : decode cX9_put 0 = .ok (.aload_n 0, 1) := by decide +kernel
theorem dX9_put_1 : decode cX9_put 1 = .ok (.getfield 70, 3) := by decide +kernel
theorem dX9_put_4 : decode cX9_put 4 = .ok (.bipush 16, 2) := by decide +kernel
theorem dX9_put_6 : decode cX9_put 6 = .ok (.aload_n 0, 1) := by decide +kernel
theorem dX9_put_7 : decode cX9_put 7 = .ok (.invokevirtual 101, 3) := by decide +kernel
theorem dX9_put_10 : decode cX9_put 10 = .ok (.imul, 1) := by decide +kernel
theorem dX9_put_11 : decode cX9_put 11 = .ok (.aload_n 0, 1) := by decide +kernel
theorem dX9_put_12 : decode cX9_put 12 = .ok (.invokevirtual 105, 3) := by decide +kernel
theorem dX9_put_15 : decode cX9_put 15 = .ok (.iadd, 1) := by decide +kernel
theorem dX9_put_16 : decode cX9_put 16 = .ok (.iload_n 1, 1) := by decide +kernel
theorem dX9_put_17 : decode cX9_put 17 = .ok (.i2s, 1) := by decide +kernel
theorem dX9_put_18 : decode cX9_put 18 = .ok (.iastore, 1) := by decide +kernel
theorem dX9_put_19 : decode cX9_put 19 = .ok (.aload_n 0, 1) := by decide +kernel
theorem dX9_put_20 : decode cX9_put 20 = .ok (.getfield 73, 3) := by decide +kernel
theorem dX9_put_23 : decode cX9_put 23 = .ok (.aload_n 0, 1) := by decide +kernel
theorem dX9_put_24 : decode cX9_put 24 = .ok (.invokevirtual 101, 3) := by decide +kernel
theorem dX9_put_27 : decode cX9_put 27 = .ok (.dup2, 1) := by decide +kernel
theorem dX9_put_28 : decode cX9_put 28 = .ok (.iaload, 1) := by decide +kernel
theorem dX9_put_29 : decode cX9_put 29 = .ok (.iconst 1, 1) := by decide +kernel
theorem dX9_put_30 : decode cX9_put 30 = .ok (.iadd, 1) := by decide +kernel
theorem dX9_put_31 : decode cX9_put 31 = .ok (.iastore, 1) := by decide +kernel
theorem dX9_put_32 : decode cX9_put 32 = .ok (.return_, 1) := by decide +kernel
theorem dX9_drop_0 : decode cX9_drop 0 = .ok (.aload_n 0, 1) := by decide +kernel
theorem dX9_drop_1 : decode cX9_drop 1 = .ok (.getfield 73, 3) := by decide +kernel
theorem dX9_drop_4 : decode cX9_drop 4 = .ok (.aload_n 0, 1) := by decide +kernel
theorem dX9_drop_5 : decode cX9_drop 5 = .ok (.invokevirtual 101, 3) := by decide +kernel
theorem dX9_drop_8 : decode cX9_drop 8 = .ok (.dup2, 1) := by decide +kernel
theorem dX9_drop_9 : decode cX9_drop 9 = .ok (.iaload, 1) := by decide +kernel
theorem dX9_drop_10 : decode cX9_drop 10 = .ok (.iload_n 1, 1) := by decide +kernel
theorem dX9_drop_11 : decode cX9_drop 11 = .ok (.isub, 1) := by decide +kernel
theorem dX9_drop_12 : decode cX9_drop 12 = .ok (.iastore, 1) := by decide +kernel
theorem dX9_drop_13 : decode cX9_drop 13 = .ok (.return_, 1) := by decide +kernel
theorem dX9_here_0 : decode cX9_here 0 = .ok (.aload_n 0, 1) := by decide +kernel
theorem dX9_here_1 : decode cX9_here 1 = .ok (.getfield 61, 3) := by decide +kernel
theorem dX9_here_4 : decode cX9_here 4 = .ok (.aload_n 0, 1) := by decide +kernel
theorem dX9_here_5 : decode cX9_here 5 = .ok (.invokevirtual 101, 3) := by decide +kernel
theorem dX9_here_8 : decode cX9_here 8 = .ok (.iaload, 1) := by decide +kernel
theorem dX9_here_9 : decode cX9_here 9 = .ok (.ireturn, 1) := by decide +kernel
theorem dX9_byteAt_0 : decode cX9_byteAt 0 = .ok (.aload_n 0, 1) := by decide +kernel
theorem dX9_byteAt_1 : decode cX9_byteAt 1 = .ok (.getfield 7, 3) := by decide +kernel
theorem dX9_byteAt_4 : decode cX9_byteAt 4 = .ok (.aload_n 0, 1) := by decide +kernel
theorem dX9_byteAt_5 : decode cX9_byteAt 5 = .ok (.invokevirtual 108, 3) := by decide +kernel
theorem dX9_byteAt_8 : decode cX9_byteAt 8 = .ok (.iload_n 1, 1) := by decide +kernel
theorem dX9_byteAt_9 : decode cX9_byteAt 9 = .ok (.iadd, 1) := by decide +kernel
theorem dX9_byteAt_10 : decode cX9_byteAt 10 = .ok (.iaload, 1) := by decide +kernel
theorem dX9_byteAt_11 : decode cX9_byteAt 11 = .ok (.ireturn, 1) := by decide +kernel
theorem dX9_signed_0 : decode cX9_signed 0 = .ok (.aload_n 0, 1) := by decide +kernel
theorem dX9_signed_1 : decode cX9_signed 1 = .ok (.iload_n 1, 1) := by decide +kernel
theorem dX9_signed_2 : decode cX9_signed 2 = .ok (.invokevirtual 111, 3) := by decide +kernel
theorem dX9_signed_5 : decode cX9_signed 5 = .ok (.i2b, 1) := by decide +kernel
theorem dX9_signed_6 : decode cX9_signed 6 = .ok (.ireturn, 1) := by decide +kernel
theorem dX9_on_0 : decode cX9_on 0 = .ok (.aload_n 0, 1) := by decide +kernel
theorem dX9_on_1 : decode cX9_on 1 = .ok (.getfield 61, 3) := by decide +kernel
theorem dX9_on_4 : decode cX9_on 4 = .ok (.aload_n 0, 1) := by decide +kernel
theorem dX9_on_5 : decode cX9_on 5 = .ok (.invokevirtual 101, 3) := by decide +kernel
theorem dX9_on_8 : decode cX9_on 8 = .ok (.aload_n 0, 1) := by decide +kernel
theorem dX9_on_9 : decode cX9_on 9 = .ok (.invokevirtual 108, 3) := by decide +kernel
theorem dX9_on_12 : decode cX9_on 12 = .ok (.iload_n 1, 1) := by decide +kernel
theorem dX9_on_13 : decode cX9_on 13 = .ok (.iadd, 1) := by decide +kernel
theorem dX9_on_14 : decode cX9_on 14 = .ok (.iastore, 1) := by decide +kernel
theorem dX9_on_15 : decode cX9_on 15 = .ok (.return_, 1) := by decide +kernel
theorem dX9_enter_0 : decode cX9_enter 0 = .ok (.aload_n 0, 1) := by decide +kernel
theorem dX9_enter_1 : decode cX9_enter 1 = .ok (.getfield 58, 3) := by decide +kernel
theorem dX9_enter_4 : decode cX9_enter 4 = .ok (.aload_n 0, 1) := by decide +kernel
theorem dX9_enter_5 : decode cX9_enter 5 = .ok (.getfield 98, 3) := by decide +kernel
theorem dX9_enter_8 : decode cX9_enter 8 = .ok (.aload_n 0, 1) := by decide +kernel
theorem dX9_enter_9 : decode cX9_enter 9 = .ok (.getfield 13, 3) := by decide +kernel
theorem dX9_enter_12 : decode cX9_enter 12 = .ok (.iload_n 1, 1) := by decide +kernel
theorem dX9_enter_13 : decode cX9_enter 13 = .ok (.iaload, 1) := by decide +kernel
theorem dX9_enter_14 : decode cX9_enter 14 = .ok (.iastore, 1) := by decide +kernel
theorem dX9_enter_15 : decode cX9_enter 15 = .ok (.aload_n 0, 1) := by decide +kernel
theorem dX9_enter_16 : decode cX9_enter 16 = .ok (.getfield 61, 3) := by decide +kernel
theorem dX9_enter_19 : decode cX9_enter 19 = .ok (.aload_n 0, 1) := by decide +kernel
theorem dX9_enter_20 : decode cX9_enter 20 = .ok (.getfield 98, 3) := by decide +kernel
theorem dX9_enter_23 : decode cX9_enter 23 = .ok (.aload_n 0, 1) := by decide +kernel
theorem dX9_enter_24 : decode cX9_enter 24 = .ok (.getfield 16, 3) := by decide +kernel
theorem dX9_enter_27 : decode cX9_enter 27 = .ok (.iload_n 1, 1) := by decide +kernel
theorem dX9_enter_28 : decode cX9_enter 28 = .ok (.iaload, 1) := by decide +kernel
theorem dX9_enter_29 : decode cX9_enter 29 = .ok (.iastore, 1) := by decide +kernel
theorem dX9_enter_30 : decode cX9_enter 30 = .ok (.aload_n 0, 1) := by decide +kernel
theorem dX9_enter_31 : decode cX9_enter 31 = .ok (.getfield 64, 3) := by decide +kernel
theorem dX9_enter_34 : decode cX9_enter 34 = .ok (.aload_n 0, 1) := by decide +kernel
theorem dX9_enter_35 : decode cX9_enter 35 = .ok (.getfield 98, 3) := by decide +kernel
theorem dX9_enter_38 : decode cX9_enter 38 = .ok (.iconst (-1), 1) := by decide +kernel
theorem dX9_enter_39 : decode cX9_enter 39 = .ok (.iastore, 1) := by decide +kernel
theorem dX9_enter_40 : decode cX9_enter 40 = .ok (.aload_n 0, 1) := by decide +kernel
theorem dX9_enter_41 : decode cX9_enter 41 = .ok (.getfield 73, 3) := by decide +kernel
theorem dX9_enter_44 : decode cX9_enter 44 = .ok (.aload_n 0, 1) := by decide +kernel
theorem dX9_enter_45 : decode cX9_enter 45 = .ok (.getfield 98, 3) := by decide +kernel
theorem dX9_enter_48 : decode cX9_enter 48 = .ok (.iconst 0, 1) := by decide +kernel
theorem dX9_enter_49 : decode cX9_enter 49 = .ok (.iastore, 1) := by decide +kernel
theorem dX9_enter_50 : decode cX9_enter 50 = .ok (.iconst 0, 1) := by decide +kernel
theorem dX9_enter_51 : decode cX9_enter 51 = .ok (.istore_n 2, 1) := by decide +kernel
theorem dX9_enter_52 : decode cX9_enter 52 = .ok (.iload_n 2, 1) := by decide +kernel
theorem dX9_enter_53 : decode cX9_enter 53 = .ok (.bipush 8, 2) := by decide +kernel
theorem dX9_enter_55 : decode cX9_enter 55 = .ok (.if_icmp .ge 24, 3) := by decide +kernel
theorem dX9_enter_58 : decode cX9_enter 58 = .ok (.aload_n 0, 1) := by decide +kernel
theorem dX9_enter_59 : decode cX9_enter 59 = .ok (.getfield 67, 3) := by decide +kernel
theorem dX9_enter_62 : decode cX9_enter 62 = .ok (.bipush 8, 2) := by decide +kernel
theorem dX9_enter_64 : decode cX9_enter 64 = .ok (.aload_n 0, 1) := by decide +kernel
theorem dX9_enter_65 : decode cX9_enter 65 = .ok (.getfield 98, 3) := by decide +kernel
theorem dX9_enter_68 : decode cX9_enter 68 = .ok (.imul, 1) := by decide +kernel
theorem dX9_enter_69 : decode cX9_enter 69 = .ok (.iload_n 2, 1) := by decide +kernel
theorem dX9_enter_70 : decode cX9_enter 70 = .ok (.iadd, 1) := by decide +kernel
theorem dX9_enter_71 : decode cX9_enter 71 = .ok (.iconst 0, 1) := by decide +kernel
theorem dX9_enter_72 : decode cX9_enter 72 = .ok (.iastore, 1) := by decide +kernel
theorem dX9_enter_73 : decode cX9_enter 73 = .ok (.iinc 2 1, 3) := by decide +kernel
theorem dX9_enter_76 : decode cX9_enter 76 = .ok (.goto (-24), 3) := by decide +kernel
theorem dX9_enter_79 : decode cX9_enter 79 = .ok (.aload_n 0, 1) := by decide +kernel
theorem dX9_enter_80 : decode cX9_enter 80 = .ok (.dup, 1) := by decide +kernel
theorem dX9_enter_81 : decode cX9_enter 81 = .ok (.getfield 98, 3) := by decide +kernel
theorem dX9_enter_84 : decode cX9_enter 84 = .ok (.iconst 1, 1) := by decide +kernel
theorem dX9_enter_85 : decode cX9_enter 85 = .ok (.iadd, 1) := by decide +kernel
theorem dX9_enter_86 : decode cX9_enter 86 = .ok (.putfield 98, 3) := by decide +kernel
theorem dX9_enter_89 : decode cX9_enter 89 = .ok (.return_, 1) := by decide +kernel
theorem dX9_length_0 : decode cX9_length 0 = .ok (.iload_n 0, 1) := by decide +kernel
theorem dX9_length_1 : decode cX9_length 1 = .ok (.tableswitch 195 1 44 #[191, 193, 191, 191, 193, 195, 195, 195, 195, 195, 195, 195, 195, 195, 195, 195, 195, 195, 195, 195, 191, 193, 193, 193, 195, 195, 193, 191, 191, 195, 195, 195, 195, 195, 195, 195, 195, 195, 195, 195, 195, 195, 195, 191], 191) := by decide +kernel
theorem dX9_length_192 : decode cX9_length 192 = .ok (.iconst 2, 1) := by decide +kernel
theorem dX9_length_193 : decode cX9_length 193 = .ok (.ireturn, 1) := by decide +kernel
theorem dX9_length_194 : decode cX9_length 194 = .ok (.iconst 3, 1) := by decide +kernel
theorem dX9_length_195 : decode cX9_length 195 = .ok (.ireturn, 1) := by decide +kernel
theorem dX9_length_196 : decode cX9_length 196 = .ok (.iconst 1, 1) := by decide +kernel
theorem dX9_length_197 : decode cX9_length 197 = .ok (.ireturn, 1) := by decide +kernel
theorem dX9_takes_0 : decode cX9_takes 0 = .ok (.iload_n 1, 1) := by decide +kernel
theorem dX9_takes_1 : decode cX9_takes 1 = .ok (.tableswitch 192 4 43 #[175, 192, 177, 177, 177, 177, 177, 175, 177, 177, 177, 177, 177, 177, 175, 175, 177, 192, 175, 177, 183, 192, 175, 183, 192, 192, 177, 179, 175, 192, 175, 181, 192, 192, 192, 192, 175, 192, 175, 175], 175) := by decide +kernel
theorem dX9_takes_176 : decode cX9_takes 176 = .ok (.iconst 1, 1) := by decide +kernel
theorem dX9_takes_177 : decode cX9_takes 177 = .ok (.ireturn, 1) := by decide +kernel
theorem dX9_takes_178 : decode cX9_takes 178 = .ok (.iconst 2, 1) := by decide +kernel
theorem dX9_takes_179 : decode cX9_takes 179 = .ok (.ireturn, 1) := by decide +kernel
theorem dX9_takes_180 : decode cX9_takes 180 = .ok (.iconst 3, 1) := by decide +kernel
theorem dX9_takes_181 : decode cX9_takes 181 = .ok (.ireturn, 1) := by decide +kernel
theorem dX9_takes_182 : decode cX9_takes 182 = .ok (.iconst 5, 1) := by decide +kernel
theorem dX9_takes_183 : decode cX9_takes 183 = .ok (.ireturn, 1) := by decide +kernel
theorem dX9_takes_184 : decode cX9_takes 184 = .ok (.aload_n 0, 1) := by decide +kernel
theorem dX9_takes_185 : decode cX9_takes 185 = .ok (.iconst 2, 1) := by decide +kernel
theorem dX9_takes_186 : decode cX9_takes 186 = .ok (.invokevirtual 111, 3) := by decide +kernel
theorem dX9_takes_189 : decode cX9_takes 189 = .ok (.bipush 9, 2) := by decide +kernel
theorem dX9_takes_191 : decode cX9_takes 191 = .ok (.irem, 1) := by decide +kernel
theorem dX9_takes_192 : decode cX9_takes 192 = .ok (.ireturn, 1) := by decide +kernel
theorem dX9_takes_193 : decode cX9_takes 193 = .ok (.iconst 0, 1) := by decide +kernel
theorem dX9_takes_194 : decode cX9_takes 194 = .ok (.ireturn, 1) := by decide +kernel
theorem dX9_isObject_0 : decode cX9_isObject 0 = .ok (.iload_n 1, 1) := by decide +kernel
theorem dX9_isObject_1 : decode cX9_isObject 1 = .ok (.iconst 1, 1) := by decide +kernel
theorem dX9_isObject_2 : decode cX9_isObject 2 = .ok (.if_icmp .lt 15, 3) := by decide +kernel
theorem dX9_isObject_5 : decode cX9_isObject 5 = .ok (.iload_n 1, 1) := by decide +kernel
theorem dX9_isObject_6 : decode cX9_isObject 6 = .ok (.aload_n 0, 1) := by decide +kernel
theorem dX9_isObject_7 : decode cX9_isObject 7 = .ok (.getfield 83, 3) := by decide +kernel
theorem dX9_isObject_10 : decode cX9_isObject 10 = .ok (.if_icmp .gt 7, 3) := by decide +kernel
theorem dX9_isObject_13 : decode cX9_isObject 13 = .ok (.iconst 1, 1) := by decide +kernel
theorem dX9_isObject_14 : decode cX9_isObject 14 = .ok (.goto 4, 3) := by decide +kernel
theorem dX9_isObject_17 : decode cX9_isObject 17 = .ok (.iconst 0, 1) := by decide +kernel
theorem dX9_isObject_18 : decode cX9_isObject 18 = .ok (.ireturn, 1) := by decide +kernel
theorem dX9_isShut_0 : decode cX9_isShut 0 = .ok (.aload_n 0, 1) := by decide +kernel
theorem dX9_isShut_1 : decode cX9_isShut 1 = .ok (.getfield 58, 3) := by decide +kernel
theorem dX9_isShut_4 : decode cX9_isShut 4 = .ok (.aload_n 0, 1) := by decide +kernel
theorem dX9_isShut_5 : decode cX9_isShut 5 = .ok (.invokevirtual 101, 3) := by decide +kernel
theorem dX9_isShut_8 : decode cX9_isShut 8 = .ok (.iaload, 1) := by decide +kernel
theorem dX9_isShut_9 : decode cX9_isShut 9 = .ok (.ifCond .eq 25, 3) := by decide +kernel
theorem dX9_isShut_12 : decode cX9_isShut 12 = .ok (.aload_n 0, 1) := by decide +kernel
theorem dX9_isShut_13 : decode cX9_isShut 13 = .ok (.getfield 23, 3) := by decide +kernel
theorem dX9_isShut_16 : decode cX9_isShut 16 = .ok (.iload_n 1, 1) := by decide +kernel
theorem dX9_isShut_17 : decode cX9_isShut 17 = .ok (.iaload, 1) := by decide +kernel
theorem dX9_isShut_18 : decode cX9_isShut 18 = .ok (.aload_n 0, 1) := by decide +kernel
theorem dX9_isShut_19 : decode cX9_isShut 19 = .ok (.getfield 58, 3) := by decide +kernel
theorem dX9_isShut_22 : decode cX9_isShut 22 = .ok (.aload_n 0, 1) := by decide +kernel
theorem dX9_isShut_23 : decode cX9_isShut 23 = .ok (.invokevirtual 101, 3) := by decide +kernel
theorem dX9_isShut_26 : decode cX9_isShut 26 = .ok (.iaload, 1) := by decide +kernel
theorem dX9_isShut_27 : decode cX9_isShut 27 = .ok (.if_icmp .eq 7, 3) := by decide +kernel
theorem dX9_isShut_30 : decode cX9_isShut 30 = .ok (.iconst 1, 1) := by decide +kernel
theorem dX9_isShut_31 : decode cX9_isShut 31 = .ok (.goto 4, 3) := by decide +kernel
theorem dX9_isShut_34 : decode cX9_isShut 34 = .ok (.iconst 0, 1) := by decide +kernel
theorem dX9_isShut_35 : decode cX9_isShut 35 = .ok (.ireturn, 1) := by decide +kernel
theorem dX9_fault_0 : decode cX9_fault 0 = .ok (.aload_n 0, 1) := by decide +kernel
theorem dX9_fault_1 : decode cX9_fault 1 = .ok (.invokevirtual 108, 3) := by decide +kernel
theorem dX9_fault_4 : decode cX9_fault 4 = .ok (.ifCond .lt 42, 3) := by decide +kernel
theorem dX9_fault_7 : decode cX9_fault 7 = .ok (.aload_n 0, 1) := by decide +kernel
theorem dX9_fault_8 : decode cX9_fault 8 = .ok (.invokevirtual 108, 3) := by decide +kernel
theorem dX9_fault_11 : decode cX9_fault 11 = .ok (.sipush 512, 3) := by decide +kernel
theorem dX9_fault_14 : decode cX9_fault 14 = .ok (.if_icmp .ge 32, 3) := by decide +kernel
theorem dX9_fault_17 : decode cX9_fault 17 = .ok (.aload_n 0, 1) := by decide +kernel
theorem dX9_fault_18 : decode cX9_fault 18 = .ok (.iconst 0, 1) := by decide +kernel
theorem dX9_fault_19 : decode cX9_fault 19 = .ok (.invokevirtual 111, 3) := by decide +kernel
theorem dX9_fault_22 : decode cX9_fault 22 = .ok (.bipush 45, 2) := by decide +kernel
theorem dX9_fault_24 : decode cX9_fault 24 = .ok (.if_icmp .gt 22, 3) := by decide +kernel
theorem dX9_fault_27 : decode cX9_fault 27 = .ok (.aload_n 0, 1) := by decide +kernel
theorem dX9_fault_28 : decode cX9_fault 28 = .ok (.invokevirtual 108, 3) := by decide +kernel
theorem dX9_fault_31 : decode cX9_fault 31 = .ok (.aload_n 0, 1) := by decide +kernel
theorem dX9_fault_32 : decode cX9_fault 32 = .ok (.iconst 0, 1) := by decide +kernel
theorem dX9_fault_33 : decode cX9_fault 33 = .ok (.invokevirtual 111, 3) := by decide +kernel
theorem dX9_fault_36 : decode cX9_fault 36 = .ok (.invokestatic 115, 3) := by decide +kernel
theorem dX9_fault_39 : decode cX9_fault 39 = .ok (.iadd, 1) := by decide +kernel
theorem dX9_fault_40 : decode cX9_fault 40 = .ok (.sipush 512, 3) := by decide +kernel
theorem dX9_fault_43 : decode cX9_fault 43 = .ok (.if_icmp .le 6, 3) := by decide +kernel
theorem dX9_fault_46 : decode cX9_fault 46 = .ok (.bipush 7, 2) := by decide +kernel
theorem dX9_fault_48 : decode cX9_fault 48 = .ok (.ireturn, 1) := by decide +kernel
theorem dX9_fault_49 : decode cX9_fault 49 = .ok (.aload_n 0, 1) := by decide +kernel
theorem dX9_fault_50 : decode cX9_fault 50 = .ok (.iconst 0, 1) := by decide +kernel
theorem dX9_fault_51 : decode cX9_fault 51 = .ok (.invokevirtual 111, 3) := by decide +kernel
theorem dX9_fault_54 : decode cX9_fault 54 = .ok (.istore_n 1, 1) := by decide +kernel
theorem dX9_fault_55 : decode cX9_fault 55 = .ok (.aload_n 0, 1) := by decide +kernel
theorem dX9_fault_56 : decode cX9_fault 56 = .ok (.invokevirtual 105, 3) := by decide +kernel
theorem dX9_fault_59 : decode cX9_fault 59 = .ok (.aload_n 0, 1) := by decide +kernel
theorem dX9_fault_60 : decode cX9_fault 60 = .ok (.iload_n 1, 1) := by decide +kernel
theorem dX9_fault_61 : decode cX9_fault 61 = .ok (.invokevirtual 118, 3) := by decide +kernel
theorem dX9_fault_64 : decode cX9_fault 64 = .ok (.if_icmp .ge 6, 3) := by decide +kernel
theorem dX9_fault_67 : decode cX9_fault 67 = .ok (.bipush 6, 2) := by decide +kernel
theorem dX9_fault_69 : decode cX9_fault 69 = .ok (.ireturn, 1) := by decide +kernel
theorem dX9_fault_70 : decode cX9_fault 70 = .ok (.iload_n 1, 1) := by decide +kernel
theorem dX9_fault_71 : decode cX9_fault 71 = .ok (.bipush 30, 2) := by decide +kernel
theorem dX9_fault_73 : decode cX9_fault 73 = .ok (.if_icmp .eq 21, 3) := by decide +kernel
theorem dX9_fault_76 : decode cX9_fault 76 = .ok (.iload_n 1, 1) := by decide +kernel
theorem dX9_fault_77 : decode cX9_fault 77 = .ok (.bipush 31, 2) := by decide +kernel
theorem dX9_fault_79 : decode cX9_fault 79 = .ok (.if_icmp .eq 15, 3) := by decide +kernel
theorem dX9_fault_82 : decode cX9_fault 82 = .ok (.iload_n 1, 1) := by decide +kernel
theorem dX9_fault_83 : decode cX9_fault 83 = .ok (.bipush 32, 2) := by decide +kernel
theorem dX9_fault_85 : decode cX9_fault 85 = .ok (.if_icmp .eq 9, 3) := by decide +kernel
theorem dX9_fault_88 : decode cX9_fault 88 = .ok (.iload_n 1, 1) := by decide +kernel
theorem dX9_fault_89 : decode cX9_fault 89 = .ok (.bipush 34, 2) := by decide +kernel
theorem dX9_fault_91 : decode cX9_fault 91 = .ok (.if_icmp .ne 109, 3) := by decide +kernel
theorem dX9_fault_94 : decode cX9_fault 94 = .ok (.aload_n 0, 1) := by decide +kernel
theorem dX9_fault_95 : decode cX9_fault 95 = .ok (.aload_n 0, 1) := by decide +kernel
theorem dX9_fault_96 : decode cX9_fault 96 = .ok (.iload_n 1, 1) := by decide +kernel
theorem dX9_fault_97 : decode cX9_fault 97 = .ok (.invokevirtual 118, 3) := by decide +kernel
theorem dX9_fault_100 : decode cX9_fault 100 = .ok (.iconst 1, 1) := by decide +kernel
theorem dX9_fault_101 : decode cX9_fault 101 = .ok (.isub, 1) := by decide +kernel
theorem dX9_fault_102 : decode cX9_fault 102 = .ok (.invokevirtual 121, 3) := by decide +kernel
theorem dX9_fault_105 : decode cX9_fault 105 = .ok (.istore_n 2, 1) := by decide +kernel
theorem dX9_fault_106 : decode cX9_fault 106 = .ok (.aload_n 0, 1) := by decide +kernel
theorem dX9_fault_107 : decode cX9_fault 107 = .ok (.iload_n 2, 1) := by decide +kernel
theorem dX9_fault_108 : decode cX9_fault 108 = .ok (.invokevirtual 124, 3) := by decide +kernel
theorem dX9_fault_111 : decode cX9_fault 111 = .ok (.ifCond .ne 7, 3) := by decide +kernel
theorem dX9_fault_114 : decode cX9_fault 114 = .ok (.iconst 2, 1) := by decide +kernel
theorem dX9_fault_115 : decode cX9_fault 115 = .ok (.goto 84, 3) := by decide +kernel
theorem dX9_fault_118 : decode cX9_fault 118 = .ok (.iload_n 1, 1) := by decide +kernel
theorem dX9_fault_119 : decode cX9_fault 119 = .ok (.bipush 34, 2) := by decide +kernel
theorem dX9_fault_121 : decode cX9_fault 121 = .ok (.if_icmp .eq 15, 3) := by decide +kernel
theorem dX9_fault_124 : decode cX9_fault 124 = .ok (.aload_n 0, 1) := by decide +kernel
theorem dX9_fault_125 : decode cX9_fault 125 = .ok (.iload_n 2, 1) := by decide +kernel
theorem dX9_fault_126 : decode cX9_fault 126 = .ok (.invokevirtual 128, 3) := by decide +kernel
theorem dX9_fault_129 : decode cX9_fault 129 = .ok (.ifCond .eq 7, 3) := by decide +kernel
theorem dX9_fault_132 : decode cX9_fault 132 = .ok (.iconst 4, 1) := by decide +kernel
theorem dX9_fault_133 : decode cX9_fault 133 = .ok (.goto 66, 3) := by decide +kernel
theorem dX9_fault_136 : decode cX9_fault 136 = .ok (.iload_n 1, 1) := by decide +kernel
theorem dX9_fault_137 : decode cX9_fault 137 = .ok (.bipush 32, 2) := by decide +kernel
theorem dX9_fault_139 : decode cX9_fault 139 = .ok (.if_icmp .ge 33, 3) := by decide +kernel
theorem dX9_fault_142 : decode cX9_fault 142 = .ok (.aload_n 0, 1) := by decide +kernel
theorem dX9_fault_143 : decode cX9_fault 143 = .ok (.aload_n 0, 1) := by decide +kernel
theorem dX9_fault_144 : decode cX9_fault 144 = .ok (.iload_n 1, 1) := by decide +kernel
theorem dX9_fault_145 : decode cX9_fault 145 = .ok (.invokevirtual 118, 3) := by decide +kernel
theorem dX9_fault_148 : decode cX9_fault 148 = .ok (.iconst 2, 1) := by decide +kernel
theorem dX9_fault_149 : decode cX9_fault 149 = .ok (.isub, 1) := by decide +kernel
theorem dX9_fault_150 : decode cX9_fault 150 = .ok (.invokevirtual 121, 3) := by decide +kernel
theorem dX9_fault_153 : decode cX9_fault 153 = .ok (.iconst 0, 1) := by decide +kernel
theorem dX9_fault_154 : decode cX9_fault 154 = .ok (.aload_n 0, 1) := by decide +kernel
theorem dX9_fault_155 : decode cX9_fault 155 = .ok (.getfield 29, 3) := by decide +kernel
theorem dX9_fault_158 : decode cX9_fault 158 = .ok (.iload_n 2, 1) := by decide +kernel
theorem dX9_fault_159 : decode cX9_fault 159 = .ok (.iaload, 1) := by decide +kernel
theorem dX9_fault_160 : decode cX9_fault 160 = .ok (.iconst 1, 1) := by decide +kernel
theorem dX9_fault_161 : decode cX9_fault 161 = .ok (.isub, 1) := by decide +kernel
theorem dX9_fault_162 : decode cX9_fault 162 = .ok (.invokestatic 89, 3) := by decide +kernel
theorem dX9_fault_165 : decode cX9_fault 165 = .ok (.ifCond .ne 7, 3) := by decide +kernel
theorem dX9_fault_168 : decode cX9_fault 168 = .ok (.iconst 3, 1) := by decide +kernel
theorem dX9_fault_169 : decode cX9_fault 169 = .ok (.goto 30, 3) := by decide +kernel
theorem dX9_fault_172 : decode cX9_fault 172 = .ok (.iload_n 1, 1) := by decide +kernel
theorem dX9_fault_173 : decode cX9_fault 173 = .ok (.bipush 31, 2) := by decide +kernel
theorem dX9_fault_175 : decode cX9_fault 175 = .ok (.if_icmp .ne 23, 3) := by decide +kernel
theorem dX9_fault_178 : decode cX9_fault 178 = .ok (.aload_n 0, 1) := by decide +kernel
theorem dX9_fault_179 : decode cX9_fault 179 = .ok (.getfield 131, 3) := by decide +kernel
theorem dX9_fault_182 : decode cX9_fault 182 = .ok (.ifCond .eq 16, 3) := by decide +kernel
theorem dX9_fault_185 : decode cX9_fault 185 = .ok (.aload_n 0, 1) := by decide +kernel
theorem dX9_fault_186 : decode cX9_fault 186 = .ok (.getfield 134, 3) := by decide +kernel
theorem dX9_fault_189 : decode cX9_fault 189 = .ok (.bipush 20, 2) := by decide +kernel
theorem dX9_fault_191 : decode cX9_fault 191 = .ok (.if_icmp .ne 7, 3) := by decide +kernel
theorem dX9_fault_194 : decode cX9_fault 194 = .ok (.iconst 5, 1) := by decide +kernel
theorem dX9_fault_195 : decode cX9_fault 195 = .ok (.goto 4, 3) := by decide +kernel
theorem dX9_fault_198 : decode cX9_fault 198 = .ok (.iconst 0, 1) := by decide +kernel
theorem dX9_fault_199 : decode cX9_fault 199 = .ok (.ireturn, 1) := by decide +kernel
theorem dX9_fault_200 : decode cX9_fault 200 = .ok (.iload_n 1, 1) := by decide +kernel
theorem dX9_fault_201 : decode cX9_fault 201 = .ok (.bipush 35, 2) := by decide +kernel
theorem dX9_fault_203 : decode cX9_fault 203 = .ok (.if_icmp .ne 33, 3) := by decide +kernel
theorem dX9_fault_206 : decode cX9_fault 206 = .ok (.aload_n 0, 1) := by decide +kernel
theorem dX9_fault_207 : decode cX9_fault 207 = .ok (.aload_n 0, 1) := by decide +kernel
theorem dX9_fault_208 : decode cX9_fault 208 = .ok (.iconst 4, 1) := by decide +kernel
theorem dX9_fault_209 : decode cX9_fault 209 = .ok (.invokevirtual 121, 3) := by decide +kernel
theorem dX9_fault_212 : decode cX9_fault 212 = .ok (.aload_n 0, 1) := by decide +kernel
theorem dX9_fault_213 : decode cX9_fault 213 = .ok (.iconst 3, 1) := by decide +kernel
theorem dX9_fault_214 : decode cX9_fault 214 = .ok (.invokevirtual 121, 3) := by decide +kernel
theorem dX9_fault_217 : decode cX9_fault 217 = .ok (.aload_n 0, 1) := by decide +kernel
theorem dX9_fault_218 : decode cX9_fault 218 = .ok (.iconst 2, 1) := by decide +kernel
theorem dX9_fault_219 : decode cX9_fault 219 = .ok (.invokevirtual 121, 3) := by decide +kernel
theorem dX9_fault_222 : decode cX9_fault 222 = .ok (.aload_n 0, 1) := by decide +kernel
theorem dX9_fault_223 : decode cX9_fault 223 = .ok (.iconst 1, 1) := by decide +kernel
theorem dX9_fault_224 : decode cX9_fault 224 = .ok (.invokevirtual 121, 3) := by decide +kernel
theorem dX9_fault_227 : decode cX9_fault 227 = .ok (.aload_n 0, 1) := by decide +kernel
theorem dX9_fault_228 : decode cX9_fault 228 = .ok (.iconst 0, 1) := by decide +kernel
theorem dX9_fault_229 : decode cX9_fault 229 = .ok (.invokevirtual 121, 3) := by decide +kernel
theorem dX9_fault_232 : decode cX9_fault 232 = .ok (.invokevirtual 137, 3) := by decide +kernel
theorem dX9_fault_235 : decode cX9_fault 235 = .ok (.ireturn, 1) := by decide +kernel
theorem dX9_fault_236 : decode cX9_fault 236 = .ok (.iload_n 1, 1) := by decide +kernel
theorem dX9_fault_237 : decode cX9_fault 237 = .ok (.bipush 24, 2) := by decide +kernel
theorem dX9_fault_239 : decode cX9_fault 239 = .ok (.if_icmp .eq 9, 3) := by decide +kernel
theorem dX9_fault_242 : decode cX9_fault 242 = .ok (.iload_n 1, 1) := by decide +kernel
theorem dX9_fault_243 : decode cX9_fault 243 = .ok (.bipush 27, 2) := by decide +kernel
theorem dX9_fault_245 : decode cX9_fault 245 = .ok (.if_icmp .ne 75, 3) := by decide +kernel
theorem dX9_fault_248 : decode cX9_fault 248 = .ok (.aload_n 0, 1) := by decide +kernel
theorem dX9_fault_249 : decode cX9_fault 249 = .ok (.iconst 1, 1) := by decide +kernel
theorem dX9_fault_250 : decode cX9_fault 250 = .ok (.invokevirtual 111, 3) := by decide +kernel
theorem dX9_fault_253 : decode cX9_fault 253 = .ok (.bipush 16, 2) := by decide +kernel
theorem dX9_fault_255 : decode cX9_fault 255 = .ok (.irem, 1) := by decide +kernel
theorem dX9_fault_256 : decode cX9_fault 256 = .ok (.istore_n 2, 1) := by decide +kernel
theorem dX9_fault_257 : decode cX9_fault 257 = .ok (.iload_n 1, 1) := by decide +kernel
theorem dX9_fault_258 : decode cX9_fault 258 = .ok (.bipush 24, 2) := by decide +kernel
theorem dX9_fault_260 : decode cX9_fault 260 = .ok (.if_icmp .ne 29, 3) := by decide +kernel
theorem dX9_fault_263 : decode cX9_fault 263 = .ok (.aload_n 0, 1) := by decide +kernel
theorem dX9_fault_264 : decode cX9_fault 264 = .ok (.getfield 13, 3) := by decide +kernel
theorem dX9_fault_267 : decode cX9_fault 267 = .ok (.iload_n 2, 1) := by decide +kernel
theorem dX9_fault_268 : decode cX9_fault 268 = .ok (.iaload, 1) := by decide +kernel
theorem dX9_fault_269 : decode cX9_fault 269 = .ok (.aload_n 0, 1) := by decide +kernel
theorem dX9_fault_270 : decode cX9_fault 270 = .ok (.getfield 58, 3) := by decide +kernel
theorem dX9_fault_273 : decode cX9_fault 273 = .ok (.aload_n 0, 1) := by decide +kernel
theorem dX9_fault_274 : decode cX9_fault 274 = .ok (.invokevirtual 101, 3) := by decide +kernel
theorem dX9_fault_277 : decode cX9_fault 277 = .ok (.iaload, 1) := by decide +kernel
theorem dX9_fault_278 : decode cX9_fault 278 = .ok (.if_icmp .ne 7, 3) := by decide +kernel
theorem dX9_fault_281 : decode cX9_fault 281 = .ok (.iconst 1, 1) := by decide +kernel
theorem dX9_fault_282 : decode cX9_fault 282 = .ok (.goto 13, 3) := by decide +kernel
theorem dX9_fault_285 : decode cX9_fault 285 = .ok (.iconst 0, 1) := by decide +kernel
theorem dX9_fault_286 : decode cX9_fault 286 = .ok (.goto 9, 3) := by decide +kernel
theorem dX9_fault_289 : decode cX9_fault 289 = .ok (.aload_n 0, 1) := by decide +kernel
theorem dX9_fault_290 : decode cX9_fault 290 = .ok (.getfield 19, 3) := by decide +kernel
theorem dX9_fault_293 : decode cX9_fault 293 = .ok (.iload_n 2, 1) := by decide +kernel
theorem dX9_fault_294 : decode cX9_fault 294 = .ok (.baload, 1) := by decide +kernel
theorem dX9_fault_295 : decode cX9_fault 295 = .ok (.istore_n 3, 1) := by decide +kernel
theorem dX9_fault_296 : decode cX9_fault 296 = .ok (.iload_n 3, 1) := by decide +kernel
theorem dX9_fault_297 : decode cX9_fault 297 = .ok (.ifCond .ne 7, 3) := by decide +kernel
theorem dX9_fault_300 : decode cX9_fault 300 = .ok (.iconst 4, 1) := by decide +kernel
theorem dX9_fault_301 : decode cX9_fault 301 = .ok (.goto 18, 3) := by decide +kernel
theorem dX9_fault_304 : decode cX9_fault 304 = .ok (.aload_n 0, 1) := by decide +kernel
theorem dX9_fault_305 : decode cX9_fault 305 = .ok (.getfield 98, 3) := by decide +kernel
theorem dX9_fault_308 : decode cX9_fault 308 = .ok (.bipush 8, 2) := by decide +kernel
theorem dX9_fault_310 : decode cX9_fault 310 = .ok (.if_icmp .ne 8, 3) := by decide +kernel
theorem dX9_fault_313 : decode cX9_fault 313 = .ok (.bipush 6, 2) := by decide +kernel
theorem dX9_fault_315 : decode cX9_fault 315 = .ok (.goto 4, 3) := by decide +kernel
theorem dX9_fault_318 : decode cX9_fault 318 = .ok (.iconst 0, 1) := by decide +kernel
theorem dX9_fault_319 : decode cX9_fault 319 = .ok (.ireturn, 1) := by decide +kernel
theorem dX9_fault_320 : decode cX9_fault 320 = .ok (.iload_n 1, 1) := by decide +kernel
theorem dX9_fault_321 : decode cX9_fault 321 = .ok (.bipush 28, 2) := by decide +kernel
theorem dX9_fault_323 : decode cX9_fault 323 = .ok (.if_icmp .eq 9, 3) := by decide +kernel
theorem dX9_fault_326 : decode cX9_fault 326 = .ok (.iload_n 1, 1) := by decide +kernel
theorem dX9_fault_327 : decode cX9_fault 327 = .ok (.bipush 29, 2) := by decide +kernel
theorem dX9_fault_329 : decode cX9_fault 329 = .ok (.if_icmp .ne 91, 3) := by decide +kernel
theorem dX9_fault_332 : decode cX9_fault 332 = .ok (.aload_n 0, 1) := by decide +kernel
theorem dX9_fault_333 : decode cX9_fault 333 = .ok (.iconst 1, 1) := by decide +kernel
theorem dX9_fault_334 : decode cX9_fault 334 = .ok (.invokevirtual 111, 3) := by decide +kernel
theorem dX9_fault_337 : decode cX9_fault 337 = .ok (.istore_n 2, 1) := by decide +kernel
theorem dX9_fault_338 : decode cX9_fault 338 = .ok (.iload_n 2, 1) := by decide +kernel
theorem dX9_fault_339 : decode cX9_fault 339 = .ok (.iconst 1, 1) := by decide +kernel
theorem dX9_fault_340 : decode cX9_fault 340 = .ok (.bipush 16, 2) := by decide +kernel
theorem dX9_fault_342 : decode cX9_fault 342 = .ok (.invokestatic 89, 3) := by decide +kernel
theorem dX9_fault_345 : decode cX9_fault 345 = .ok (.ifCond .eq 28, 3) := by decide +kernel
theorem dX9_fault_348 : decode cX9_fault 348 = .ok (.aload_n 0, 1) := by decide +kernel
theorem dX9_fault_349 : decode cX9_fault 349 = .ok (.getfield 83, 3) := by decide +kernel
theorem dX9_fault_352 : decode cX9_fault 352 = .ok (.bipush 40, 2) := by decide +kernel
theorem dX9_fault_354 : decode cX9_fault 354 = .ok (.if_icmp .ge 19, 3) := by decide +kernel
theorem dX9_fault_357 : decode cX9_fault 357 = .ok (.aload_n 0, 1) := by decide +kernel
theorem dX9_fault_358 : decode cX9_fault 358 = .ok (.getfield 86, 3) := by decide +kernel
theorem dX9_fault_361 : decode cX9_fault 361 = .ok (.iload_n 2, 1) := by decide +kernel
theorem dX9_fault_362 : decode cX9_fault 362 = .ok (.iadd, 1) := by decide +kernel
theorem dX9_fault_363 : decode cX9_fault 363 = .ok (.sipush 240, 3) := by decide +kernel
theorem dX9_fault_366 : decode cX9_fault 366 = .ok (.if_icmp .gt 7, 3) := by decide +kernel
theorem dX9_fault_369 : decode cX9_fault 369 = .ok (.iconst 1, 1) := by decide +kernel
theorem dX9_fault_370 : decode cX9_fault 370 = .ok (.goto 4, 3) := by decide +kernel
theorem dX9_fault_373 : decode cX9_fault 373 = .ok (.iconst 0, 1) := by decide +kernel
theorem dX9_fault_374 : decode cX9_fault 374 = .ok (.istore_n 3, 1) := by decide +kernel
theorem dX9_fault_375 : decode cX9_fault 375 = .ok (.iload_n 3, 1) := by decide +kernel
theorem dX9_fault_376 : decode cX9_fault 376 = .ok (.ifCond .ne 8, 3) := by decide +kernel
theorem dX9_fault_379 : decode cX9_fault 379 = .ok (.bipush 8, 2) := by decide +kernel
theorem dX9_fault_381 : decode cX9_fault 381 = .ok (.goto 38, 3) := by decide +kernel
theorem dX9_fault_384 : decode cX9_fault 384 = .ok (.aload_n 0, 1) := by decide +kernel
theorem dX9_fault_385 : decode cX9_fault 385 = .ok (.getfield 131, 3) := by decide +kernel
theorem dX9_fault_388 : decode cX9_fault 388 = .ok (.ifCond .eq 16, 3) := by decide +kernel
theorem dX9_fault_391 : decode cX9_fault 391 = .ok (.aload_n 0, 1) := by decide +kernel
theorem dX9_fault_392 : decode cX9_fault 392 = .ok (.getfield 134, 3) := by decide +kernel
theorem dX9_fault_395 : decode cX9_fault 395 = .ok (.bipush 20, 2) := by decide +kernel
theorem dX9_fault_397 : decode cX9_fault 397 = .ok (.if_icmp .ne 7, 3) := by decide +kernel
theorem dX9_fault_400 : decode cX9_fault 400 = .ok (.iconst 5, 1) := by decide +kernel
theorem dX9_fault_401 : decode cX9_fault 401 = .ok (.goto 18, 3) := by decide +kernel
theorem dX9_fault_404 : decode cX9_fault 404 = .ok (.aload_n 0, 1) := by decide +kernel
theorem dX9_fault_405 : decode cX9_fault 405 = .ok (.invokevirtual 105, 3) := by decide +kernel
theorem dX9_fault_408 : decode cX9_fault 408 = .ok (.bipush 16, 2) := by decide +kernel
theorem dX9_fault_410 : decode cX9_fault 410 = .ok (.if_icmp .ne 8, 3) := by decide +kernel
theorem dX9_fault_413 : decode cX9_fault 413 = .ok (.bipush 6, 2) := by decide +kernel
theorem dX9_fault_415 : decode cX9_fault 415 = .ok (.goto 4, 3) := by decide +kernel
theorem dX9_fault_418 : decode cX9_fault 418 = .ok (.iconst 0, 1) := by decide +kernel
theorem dX9_fault_419 : decode cX9_fault 419 = .ok (.ireturn, 1) := by decide +kernel
theorem dX9_fault_420 : decode cX9_fault 420 = .ok (.iload_n 1, 1) := by decide +kernel
theorem dX9_fault_421 : decode cX9_fault 421 = .ok (.bipush 9, 2) := by decide +kernel
theorem dX9_fault_423 : decode cX9_fault 423 = .ok (.if_icmp .eq 9, 3) := by decide +kernel
theorem dX9_fault_426 : decode cX9_fault 426 = .ok (.iload_n 1, 1) := by decide +kernel
theorem dX9_fault_427 : decode cX9_fault 427 = .ok (.bipush 10, 2) := by decide +kernel
theorem dX9_fault_429 : decode cX9_fault 429 = .ok (.if_icmp .ne 17, 3) := by decide +kernel
theorem dX9_fault_432 : decode cX9_fault 432 = .ok (.aload_n 0, 1) := by decide +kernel
theorem dX9_fault_433 : decode cX9_fault 433 = .ok (.iconst 0, 1) := by decide +kernel
theorem dX9_fault_434 : decode cX9_fault 434 = .ok (.invokevirtual 121, 3) := by decide +kernel
theorem dX9_fault_437 : decode cX9_fault 437 = .ok (.ifCond .ne 7, 3) := by decide +kernel
theorem dX9_fault_440 : decode cX9_fault 440 = .ok (.iconst 1, 1) := by decide +kernel
theorem dX9_fault_441 : decode cX9_fault 441 = .ok (.goto 4, 3) := by decide +kernel
theorem dX9_fault_444 : decode cX9_fault 444 = .ok (.iconst 0, 1) := by decide +kernel
theorem dX9_fault_445 : decode cX9_fault 445 = .ok (.ireturn, 1) := by decide +kernel
theorem dX9_fault_446 : decode cX9_fault 446 = .ok (.iload_n 1, 1) := by decide +kernel
theorem dX9_fault_447 : decode cX9_fault 447 = .ok (.bipush 36, 2) := by decide +kernel
theorem dX9_fault_449 : decode cX9_fault 449 = .ok (.if_icmp .eq 15, 3) := by decide +kernel
theorem dX9_fault_452 : decode cX9_fault 452 = .ok (.iload_n 1, 1) := by decide +kernel
theorem dX9_fault_453 : decode cX9_fault 453 = .ok (.bipush 37, 2) := by decide +kernel
theorem dX9_fault_455 : decode cX9_fault 455 = .ok (.if_icmp .eq 9, 3) := by decide +kernel
theorem dX9_fault_458 : decode cX9_fault 458 = .ok (.iload_n 1, 1) := by decide +kernel
theorem dX9_fault_459 : decode cX9_fault 459 = .ok (.bipush 38, 2) := by decide +kernel
theorem dX9_fault_461 : decode cX9_fault 461 = .ok (.if_icmp .ne 28, 3) := by decide +kernel
theorem dX9_fault_464 : decode cX9_fault 464 = .ok (.aload_n 0, 1) := by decide +kernel
theorem dX9_fault_465 : decode cX9_fault 465 = .ok (.getfield 131, 3) := by decide +kernel
theorem dX9_fault_468 : decode cX9_fault 468 = .ok (.iload_n 1, 1) := by decide +kernel
theorem dX9_fault_469 : decode cX9_fault 469 = .ok (.bipush 36, 2) := by decide +kernel
theorem dX9_fault_471 : decode cX9_fault 471 = .ok (.if_icmp .ne 7, 3) := by decide +kernel
theorem dX9_fault_474 : decode cX9_fault 474 = .ok (.iconst 1, 1) := by decide +kernel
theorem dX9_fault_475 : decode cX9_fault 475 = .ok (.goto 4, 3) := by decide +kernel
theorem dX9_fault_478 : decode cX9_fault 478 = .ok (.iconst 0, 1) := by decide +kernel
theorem dX9_fault_479 : decode cX9_fault 479 = .ok (.if_icmp .ne 8, 3) := by decide +kernel
theorem dX9_fault_482 : decode cX9_fault 482 = .ok (.bipush 9, 2) := by decide +kernel
theorem dX9_fault_484 : decode cX9_fault 484 = .ok (.goto 4, 3) := by decide +kernel
theorem dX9_fault_487 : decode cX9_fault 487 = .ok (.iconst 0, 1) := by decide +kernel
theorem dX9_fault_488 : decode cX9_fault 488 = .ok (.ireturn, 1) := by decide +kernel
theorem dX9_fault_489 : decode cX9_fault 489 = .ok (.iload_n 1, 1) := by decide +kernel
theorem dX9_fault_490 : decode cX9_fault 490 = .ok (.bipush 40, 2) := by decide +kernel
theorem dX9_fault_492 : decode cX9_fault 492 = .ok (.if_icmp .ne 27, 3) := by decide +kernel
theorem dX9_fault_495 : decode cX9_fault 495 = .ok (.aload_n 0, 1) := by decide +kernel
theorem dX9_fault_496 : decode cX9_fault 496 = .ok (.iconst 0, 1) := by decide +kernel
theorem dX9_fault_497 : decode cX9_fault 497 = .ok (.invokevirtual 121, 3) := by decide +kernel
theorem dX9_fault_500 : decode cX9_fault 500 = .ok (.iconst 0, 1) := by decide +kernel
theorem dX9_fault_501 : decode cX9_fault 501 = .ok (.aload_n 0, 1) := by decide +kernel
theorem dX9_fault_502 : decode cX9_fault 502 = .ok (.getfield 95, 3) := by decide +kernel
theorem dX9_fault_505 : decode cX9_fault 505 = .ok (.iconst 1, 1) := by decide +kernel
theorem dX9_fault_506 : decode cX9_fault 506 = .ok (.isub, 1) := by decide +kernel
theorem dX9_fault_507 : decode cX9_fault 507 = .ok (.invokestatic 89, 3) := by decide +kernel
theorem dX9_fault_510 : decode cX9_fault 510 = .ok (.ifCond .eq 7, 3) := by decide +kernel
theorem dX9_fault_513 : decode cX9_fault 513 = .ok (.iconst 0, 1) := by decide +kernel
theorem dX9_fault_514 : decode cX9_fault 514 = .ok (.goto 4, 3) := by decide +kernel
theorem dX9_fault_517 : decode cX9_fault 517 = .ok (.iconst 3, 1) := by decide +kernel
theorem dX9_fault_518 : decode cX9_fault 518 = .ok (.ireturn, 1) := by decide +kernel
theorem dX9_fault_519 : decode cX9_fault 519 = .ok (.iload_n 1, 1) := by decide +kernel
theorem dX9_fault_520 : decode cX9_fault 520 = .ok (.bipush 42, 2) := by decide +kernel
theorem dX9_fault_522 : decode cX9_fault 522 = .ok (.if_icmp .ne 19, 3) := by decide +kernel
theorem dX9_fault_525 : decode cX9_fault 525 = .ok (.aload_n 0, 1) := by decide +kernel
theorem dX9_fault_526 : decode cX9_fault 526 = .ok (.getfield 141, 3) := by decide +kernel
theorem dX9_fault_529 : decode cX9_fault 529 = .ok (.bipush 32, 2) := by decide +kernel
theorem dX9_fault_531 : decode cX9_fault 531 = .ok (.if_icmp .ne 8, 3) := by decide +kernel
theorem dX9_fault_534 : decode cX9_fault 534 = .ok (.bipush 6, 2) := by decide +kernel
theorem dX9_fault_536 : decode cX9_fault 536 = .ok (.goto 4, 3) := by decide +kernel
theorem dX9_fault_539 : decode cX9_fault 539 = .ok (.iconst 0, 1) := by decide +kernel
theorem dX9_fault_540 : decode cX9_fault 540 = .ok (.ireturn, 1) := by decide +kernel
theorem dX9_fault_541 : decode cX9_fault 541 = .ok (.iload_n 1, 1) := by decide +kernel
theorem dX9_fault_542 : decode cX9_fault 542 = .ok (.iconst 1, 1) := by decide +kernel
theorem dX9_fault_543 : decode cX9_fault 543 = .ok (.if_icmp .eq 37, 3) := by decide +kernel
theorem dX9_fault_546 : decode cX9_fault 546 = .ok (.iload_n 1, 1) := by decide +kernel
theorem dX9_fault_547 : decode cX9_fault 547 = .ok (.iconst 2, 1) := by decide +kernel
theorem dX9_fault_548 : decode cX9_fault 548 = .ok (.if_icmp .eq 32, 3) := by decide +kernel
theorem dX9_fault_551 : decode cX9_fault 551 = .ok (.iload_n 1, 1) := by decide +kernel
theorem dX9_fault_552 : decode cX9_fault 552 = .ok (.iconst 3, 1) := by decide +kernel
theorem dX9_fault_553 : decode cX9_fault 553 = .ok (.if_icmp .eq 27, 3) := by decide +kernel
theorem dX9_fault_556 : decode cX9_fault 556 = .ok (.iload_n 1, 1) := by decide +kernel
theorem dX9_fault_557 : decode cX9_fault 557 = .ok (.bipush 18, 2) := by decide +kernel
theorem dX9_fault_559 : decode cX9_fault 559 = .ok (.if_icmp .eq 21, 3) := by decide +kernel
theorem dX9_fault_562 : decode cX9_fault 562 = .ok (.iload_n 1, 1) := by decide +kernel
theorem dX9_fault_563 : decode cX9_fault 563 = .ok (.bipush 33, 2) := by decide +kernel
theorem dX9_fault_565 : decode cX9_fault 565 = .ok (.if_icmp .eq 15, 3) := by decide +kernel
theorem dX9_fault_568 : decode cX9_fault 568 = .ok (.iload_n 1, 1) := by decide +kernel
theorem dX9_fault_569 : decode cX9_fault 569 = .ok (.bipush 39, 2) := by decide +kernel
theorem dX9_fault_571 : decode cX9_fault 571 = .ok (.if_icmp .eq 9, 3) := by decide +kernel
theorem dX9_fault_574 : decode cX9_fault 574 = .ok (.iload_n 1, 1) := by decide +kernel
theorem dX9_fault_575 : decode cX9_fault 575 = .ok (.bipush 41, 2) := by decide +kernel
theorem dX9_fault_577 : decode cX9_fault 577 = .ok (.if_icmp .ne 7, 3) := by decide +kernel
theorem dX9_fault_580 : decode cX9_fault 580 = .ok (.iconst 1, 1) := by decide +kernel
theorem dX9_fault_581 : decode cX9_fault 581 = .ok (.goto 4, 3) := by decide +kernel
theorem dX9_fault_584 : decode cX9_fault 584 = .ok (.iconst 0, 1) := by decide +kernel
theorem dX9_fault_585 : decode cX9_fault 585 = .ok (.istore_n 2, 1) := by decide +kernel
theorem dX9_fault_586 : decode cX9_fault 586 = .ok (.iload_n 2, 1) := by decide +kernel
theorem dX9_fault_587 : decode cX9_fault 587 = .ok (.ifCond .eq 17, 3) := by decide +kernel
theorem dX9_fault_590 : decode cX9_fault 590 = .ok (.aload_n 0, 1) := by decide +kernel
theorem dX9_fault_591 : decode cX9_fault 591 = .ok (.invokevirtual 105, 3) := by decide +kernel
theorem dX9_fault_594 : decode cX9_fault 594 = .ok (.bipush 16, 2) := by decide +kernel
theorem dX9_fault_596 : decode cX9_fault 596 = .ok (.if_icmp .ne 8, 3) := by decide +kernel
theorem dX9_fault_599 : decode cX9_fault 599 = .ok (.bipush 6, 2) := by decide +kernel
theorem dX9_fault_601 : decode cX9_fault 601 = .ok (.goto 4, 3) := by decide +kernel
theorem dX9_fault_604 : decode cX9_fault 604 = .ok (.iconst 0, 1) := by decide +kernel
theorem dX9_fault_605 : decode cX9_fault 605 = .ok (.ireturn, 1) := by decide +kernel
theorem dX9_copyFault_0 : decode cX9_copyFault 0 = .ok (.aload_n 0, 1) := by decide +kernel
theorem dX9_copyFault_1 : decode cX9_copyFault 1 = .ok (.iload_n 1, 1) := by decide +kernel
theorem dX9_copyFault_2 : decode cX9_copyFault 2 = .ok (.invokevirtual 124, 3) := by decide +kernel
theorem dX9_copyFault_5 : decode cX9_copyFault 5 = .ok (.ifCond .eq 11, 3) := by decide +kernel
theorem dX9_copyFault_8 : decode cX9_copyFault 8 = .ok (.aload_n 0, 1) := by decide +kernel
theorem dX9_copyFault_9 : decode cX9_copyFault 9 = .ok (.iload_n 3, 1) := by decide +kernel
theorem dX9_copyFault_10 : decode cX9_copyFault 10 = .ok (.invokevirtual 124, 3) := by decide +kernel
theorem dX9_copyFault_13 : decode cX9_copyFault 13 = .ok (.ifCond .ne 5, 3) := by decide +kernel
theorem dX9_copyFault_16 : decode cX9_copyFault 16 = .ok (.iconst 2, 1) := by decide +kernel
theorem dX9_copyFault_17 : decode cX9_copyFault 17 = .ok (.ireturn, 1) := by decide +kernel
theorem dX9_copyFault_18 : decode cX9_copyFault 18 = .ok (.aload_n 0, 1) := by decide +kernel
theorem dX9_copyFault_19 : decode cX9_copyFault 19 = .ok (.iload_n 1, 1) := by decide +kernel
theorem dX9_copyFault_20 : decode cX9_copyFault 20 = .ok (.invokevirtual 128, 3) := by decide +kernel
theorem dX9_copyFault_23 : decode cX9_copyFault 23 = .ok (.ifCond .ne 11, 3) := by decide +kernel
theorem dX9_copyFault_26 : decode cX9_copyFault 26 = .ok (.aload_n 0, 1) := by decide +kernel
theorem dX9_copyFault_27 : decode cX9_copyFault 27 = .ok (.iload_n 3, 1) := by decide +kernel
theorem dX9_copyFault_28 : decode cX9_copyFault 28 = .ok (.invokevirtual 128, 3) := by decide +kernel
theorem dX9_copyFault_31 : decode cX9_copyFault 31 = .ok (.ifCond .eq 5, 3) := by decide +kernel
theorem dX9_copyFault_34 : decode cX9_copyFault 34 = .ok (.iconst 4, 1) := by decide +kernel
theorem dX9_copyFault_35 : decode cX9_copyFault 35 = .ok (.ireturn, 1) := by decide +kernel
theorem dX9_copyFault_36 : decode cX9_copyFault 36 = .ok (.aload_n 0, 1) := by decide +kernel
theorem dX9_copyFault_37 : decode cX9_copyFault 37 = .ok (.getfield 26, 3) := by decide +kernel
theorem dX9_copyFault_40 : decode cX9_copyFault 40 = .ok (.iload_n 1, 1) := by decide +kernel
theorem dX9_copyFault_41 : decode cX9_copyFault 41 = .ok (.iaload, 1) := by decide +kernel
theorem dX9_copyFault_42 : decode cX9_copyFault 42 = .ok (.ifCond .eq 12, 3) := by decide +kernel
theorem dX9_copyFault_45 : decode cX9_copyFault 45 = .ok (.aload_n 0, 1) := by decide +kernel
theorem dX9_copyFault_46 : decode cX9_copyFault 46 = .ok (.getfield 26, 3) := by decide +kernel
theorem dX9_copyFault_49 : decode cX9_copyFault 49 = .ok (.iload_n 3, 1) := by decide +kernel
theorem dX9_copyFault_50 : decode cX9_copyFault 50 = .ok (.iaload, 1) := by decide +kernel
theorem dX9_copyFault_51 : decode cX9_copyFault 51 = .ok (.ifCond .ne 6, 3) := by decide +kernel
theorem dX9_copyFault_54 : decode cX9_copyFault 54 = .ok (.bipush 11, 2) := by decide +kernel
theorem dX9_copyFault_56 : decode cX9_copyFault 56 = .ok (.ireturn, 1) := by decide +kernel
theorem dX9_copyFault_57 : decode cX9_copyFault 57 = .ok (.iload 5, 2) := by decide +kernel
theorem dX9_copyFault_59 : decode cX9_copyFault 59 = .ok (.ifCond .ge 6, 3) := by decide +kernel
theorem dX9_copyFault_62 : decode cX9_copyFault 62 = .ok (.bipush 8, 2) := by decide +kernel
theorem dX9_copyFault_64 : decode cX9_copyFault 64 = .ok (.ireturn, 1) := by decide +kernel
theorem dX9_copyFault_65 : decode cX9_copyFault 65 = .ok (.iload_n 2, 1) := by decide +kernel
theorem dX9_copyFault_66 : decode cX9_copyFault 66 = .ok (.ifCond .lt 39, 3) := by decide +kernel
theorem dX9_copyFault_69 : decode cX9_copyFault 69 = .ok (.iload 4, 2) := by decide +kernel
theorem dX9_copyFault_71 : decode cX9_copyFault 71 = .ok (.ifCond .lt 34, 3) := by decide +kernel
theorem dX9_copyFault_74 : decode cX9_copyFault 74 = .ok (.iload_n 2, 1) := by decide +kernel
theorem dX9_copyFault_75 : decode cX9_copyFault 75 = .ok (.iload 5, 2) := by decide +kernel
theorem dX9_copyFault_77 : decode cX9_copyFault 77 = .ok (.iadd, 1) := by decide +kernel
theorem dX9_copyFault_78 : decode cX9_copyFault 78 = .ok (.aload_n 0, 1) := by decide +kernel
theorem dX9_copyFault_79 : decode cX9_copyFault 79 = .ok (.getfield 29, 3) := by decide +kernel
theorem dX9_copyFault_82 : decode cX9_copyFault 82 = .ok (.iload_n 1, 1) := by decide +kernel
theorem dX9_copyFault_83 : decode cX9_copyFault 83 = .ok (.iaload, 1) := by decide +kernel
theorem dX9_copyFault_84 : decode cX9_copyFault 84 = .ok (.if_icmp .gt 21, 3) := by decide +kernel
theorem dX9_copyFault_87 : decode cX9_copyFault 87 = .ok (.iload 4, 2) := by decide +kernel
theorem dX9_copyFault_89 : decode cX9_copyFault 89 = .ok (.iload 5, 2) := by decide +kernel
theorem dX9_copyFault_91 : decode cX9_copyFault 91 = .ok (.iadd, 1) := by decide +kernel
theorem dX9_copyFault_92 : decode cX9_copyFault 92 = .ok (.aload_n 0, 1) := by decide +kernel
theorem dX9_copyFault_93 : decode cX9_copyFault 93 = .ok (.getfield 29, 3) := by decide +kernel
theorem dX9_copyFault_96 : decode cX9_copyFault 96 = .ok (.iload_n 3, 1) := by decide +kernel
theorem dX9_copyFault_97 : decode cX9_copyFault 97 = .ok (.iaload, 1) := by decide +kernel
theorem dX9_copyFault_98 : decode cX9_copyFault 98 = .ok (.if_icmp .gt 7, 3) := by decide +kernel
theorem dX9_copyFault_101 : decode cX9_copyFault 101 = .ok (.iconst 1, 1) := by decide +kernel
theorem dX9_copyFault_102 : decode cX9_copyFault 102 = .ok (.goto 4, 3) := by decide +kernel
theorem dX9_copyFault_105 : decode cX9_copyFault 105 = .ok (.iconst 0, 1) := by decide +kernel
theorem dX9_copyFault_106 : decode cX9_copyFault 106 = .ok (.istore 6, 2) := by decide +kernel
theorem dX9_copyFault_108 : decode cX9_copyFault 108 = .ok (.iload 6, 2) := by decide +kernel
theorem dX9_copyFault_110 : decode cX9_copyFault 110 = .ok (.ifCond .eq 7, 3) := by decide +kernel
theorem dX9_copyFault_113 : decode cX9_copyFault 113 = .ok (.iconst 0, 1) := by decide +kernel
theorem dX9_copyFault_114 : decode cX9_copyFault 114 = .ok (.goto 4, 3) := by decide +kernel
theorem dX9_copyFault_117 : decode cX9_copyFault 117 = .ok (.iconst 3, 1) := by decide +kernel
theorem dX9_copyFault_118 : decode cX9_copyFault 118 = .ok (.ireturn, 1) := by decide +kernel
theorem dX9_writes_0 : decode cX9_writes 0 = .ok (.aload_n 0, 1) := by decide +kernel
theorem dX9_writes_1 : decode cX9_writes 1 = .ok (.getfield 42, 3) := by decide +kernel
theorem dX9_writes_4 : decode cX9_writes 4 = .ok (.ifCond .ne 15, 3) := by decide +kernel
theorem dX9_writes_7 : decode cX9_writes 7 = .ok (.aload_n 0, 1) := by decide +kernel
theorem dX9_writes_8 : decode cX9_writes 8 = .ok (.iconst (-1), 1) := by decide +kernel
theorem dX9_writes_9 : decode cX9_writes 9 = .ok (.putfield 42, 3) := by decide +kernel
theorem dX9_writes_12 : decode cX9_writes 12 = .ok (.aload_n 0, 1) := by decide +kernel
theorem dX9_writes_13 : decode cX9_writes 13 = .ok (.iconst 0, 1) := by decide +kernel
theorem dX9_writes_14 : decode cX9_writes 14 = .ok (.putfield 38, 3) := by decide +kernel
theorem dX9_writes_17 : decode cX9_writes 17 = .ok (.iconst 0, 1) := by decide +kernel
theorem dX9_writes_18 : decode cX9_writes 18 = .ok (.ireturn, 1) := by decide +kernel
theorem dX9_writes_19 : decode cX9_writes 19 = .ok (.aload_n 0, 1) := by decide +kernel
theorem dX9_writes_20 : decode cX9_writes 20 = .ok (.aload_n 0, 1) := by decide +kernel
theorem dX9_writes_21 : decode cX9_writes 21 = .ok (.getfield 42, 3) := by decide +kernel
theorem dX9_writes_24 : decode cX9_writes 24 = .ok (.ifCond .le 12, 3) := by decide +kernel
theorem dX9_writes_27 : decode cX9_writes 27 = .ok (.aload_n 0, 1) := by decide +kernel
theorem dX9_writes_28 : decode cX9_writes 28 = .ok (.getfield 42, 3) := by decide +kernel
theorem dX9_writes_31 : decode cX9_writes 31 = .ok (.iconst 1, 1) := by decide +kernel
theorem dX9_writes_32 : decode cX9_writes 32 = .ok (.isub, 1) := by decide +kernel
theorem dX9_writes_33 : decode cX9_writes 33 = .ok (.goto 7, 3) := by decide +kernel
theorem dX9_writes_36 : decode cX9_writes 36 = .ok (.aload_n 0, 1) := by decide +kernel
theorem dX9_writes_37 : decode cX9_writes 37 = .ok (.getfield 42, 3) := by decide +kernel
theorem dX9_writes_40 : decode cX9_writes 40 = .ok (.putfield 42, 3) := by decide +kernel
theorem dX9_writes_43 : decode cX9_writes 43 = .ok (.iconst 1, 1) := by decide +kernel
theorem dX9_writes_44 : decode cX9_writes 44 = .ok (.ireturn, 1) := by decide +kernel
theorem dX9_undoAll_0 : decode cX9_undoAll 0 = .ok (.aload_n 0, 1) := by decide +kernel
theorem dX9_undoAll_1 : decode cX9_undoAll 1 = .ok (.getfield 144, 3) := by decide +kernel
theorem dX9_undoAll_4 : decode cX9_undoAll 4 = .ok (.iconst 1, 1) := by decide +kernel
theorem dX9_undoAll_5 : decode cX9_undoAll 5 = .ok (.isub, 1) := by decide +kernel
theorem dX9_undoAll_6 : decode cX9_undoAll 6 = .ok (.istore_n 1, 1) := by decide +kernel
theorem dX9_undoAll_7 : decode cX9_undoAll 7 = .ok (.iload_n 1, 1) := by decide +kernel
theorem dX9_undoAll_8 : decode cX9_undoAll 8 = .ok (.ifCond .lt 26, 3) := by decide +kernel
theorem dX9_undoAll_11 : decode cX9_undoAll 11 = .ok (.aload_n 0, 1) := by decide +kernel
theorem dX9_undoAll_12 : decode cX9_undoAll 12 = .ok (.getfield 35, 3) := by decide +kernel
theorem dX9_undoAll_15 : decode cX9_undoAll 15 = .ok (.aload_n 0, 1) := by decide +kernel
theorem dX9_undoAll_16 : decode cX9_undoAll 16 = .ok (.getfield 46, 3) := by decide +kernel
theorem dX9_undoAll_19 : decode cX9_undoAll 19 = .ok (.iload_n 1, 1) := by decide +kernel
theorem dX9_undoAll_20 : decode cX9_undoAll 20 = .ok (.iaload, 1) := by decide +kernel
theorem dX9_undoAll_21 : decode cX9_undoAll 21 = .ok (.aload_n 0, 1) := by decide +kernel
theorem dX9_undoAll_22 : decode cX9_undoAll 22 = .ok (.getfield 49, 3) := by decide +kernel
theorem dX9_undoAll_25 : decode cX9_undoAll 25 = .ok (.iload_n 1, 1) := by decide +kernel
theorem dX9_undoAll_26 : decode cX9_undoAll 26 = .ok (.iaload, 1) := by decide +kernel
theorem dX9_undoAll_27 : decode cX9_undoAll 27 = .ok (.iastore, 1) := by decide +kernel
theorem dX9_undoAll_28 : decode cX9_undoAll 28 = .ok (.iinc 1 (-1), 3) := by decide +kernel
theorem dX9_undoAll_31 : decode cX9_undoAll 31 = .ok (.goto (-24), 3) := by decide +kernel
theorem dX9_undoAll_34 : decode cX9_undoAll 34 = .ok (.aload_n 0, 1) := by decide +kernel
theorem dX9_undoAll_35 : decode cX9_undoAll 35 = .ok (.aload_n 0, 1) := by decide +kernel
theorem dX9_undoAll_36 : decode cX9_undoAll 36 = .ok (.getfield 147, 3) := by decide +kernel
theorem dX9_undoAll_39 : decode cX9_undoAll 39 = .ok (.putfield 83, 3) := by decide +kernel
theorem dX9_undoAll_42 : decode cX9_undoAll 42 = .ok (.aload_n 0, 1) := by decide +kernel
theorem dX9_undoAll_43 : decode cX9_undoAll 43 = .ok (.aload_n 0, 1) := by decide +kernel
theorem dX9_undoAll_44 : decode cX9_undoAll 44 = .ok (.getfield 150, 3) := by decide +kernel
theorem dX9_undoAll_47 : decode cX9_undoAll 47 = .ok (.putfield 86, 3) := by decide +kernel
theorem dX9_undoAll_50 : decode cX9_undoAll 50 = .ok (.aload_n 0, 1) := by decide +kernel
theorem dX9_undoAll_51 : decode cX9_undoAll 51 = .ok (.iconst 0, 1) := by decide +kernel
theorem dX9_undoAll_52 : decode cX9_undoAll 52 = .ok (.putfield 131, 3) := by decide +kernel
theorem dX9_undoAll_55 : decode cX9_undoAll 55 = .ok (.return_, 1) := by decide +kernel
theorem dX9_throwIt_0 : decode cX9_throwIt 0 = .ok (.aload_n 0, 1) := by decide +kernel
theorem dX9_throwIt_1 : decode cX9_throwIt 1 = .ok (.getfield 98, 3) := by decide +kernel
theorem dX9_throwIt_4 : decode cX9_throwIt 4 = .ok (.ifCond .le 73, 3) := by decide +kernel
theorem dX9_throwIt_7 : decode cX9_throwIt 7 = .ok (.aload_n 0, 1) := by decide +kernel
theorem dX9_throwIt_8 : decode cX9_throwIt 8 = .ok (.getfield 64, 3) := by decide +kernel
theorem dX9_throwIt_11 : decode cX9_throwIt 11 = .ok (.aload_n 0, 1) := by decide +kernel
theorem dX9_throwIt_12 : decode cX9_throwIt 12 = .ok (.invokevirtual 101, 3) := by decide +kernel
theorem dX9_throwIt_15 : decode cX9_throwIt 15 = .ok (.iaload, 1) := by decide +kernel
theorem dX9_throwIt_16 : decode cX9_throwIt 16 = .ok (.iconst (-1), 1) := by decide +kernel
theorem dX9_throwIt_17 : decode cX9_throwIt 17 = .ok (.if_icmp .eq 47, 3) := by decide +kernel
theorem dX9_throwIt_20 : decode cX9_throwIt 20 = .ok (.aload_n 0, 1) := by decide +kernel
theorem dX9_throwIt_21 : decode cX9_throwIt 21 = .ok (.getfield 73, 3) := by decide +kernel
theorem dX9_throwIt_24 : decode cX9_throwIt 24 = .ok (.aload_n 0, 1) := by decide +kernel
theorem dX9_throwIt_25 : decode cX9_throwIt 25 = .ok (.invokevirtual 101, 3) := by decide +kernel
theorem dX9_throwIt_28 : decode cX9_throwIt 28 = .ok (.iconst 0, 1) := by decide +kernel
theorem dX9_throwIt_29 : decode cX9_throwIt 29 = .ok (.iastore, 1) := by decide +kernel
theorem dX9_throwIt_30 : decode cX9_throwIt 30 = .ok (.aload_n 0, 1) := by decide +kernel
theorem dX9_throwIt_31 : decode cX9_throwIt 31 = .ok (.iload_n 1, 1) := by decide +kernel
theorem dX9_throwIt_32 : decode cX9_throwIt 32 = .ok (.invokevirtual 153, 3) := by decide +kernel
theorem dX9_throwIt_35 : decode cX9_throwIt 35 = .ok (.aload_n 0, 1) := by decide +kernel
theorem dX9_throwIt_36 : decode cX9_throwIt 36 = .ok (.getfield 61, 3) := by decide +kernel
theorem dX9_throwIt_39 : decode cX9_throwIt 39 = .ok (.aload_n 0, 1) := by decide +kernel
theorem dX9_throwIt_40 : decode cX9_throwIt 40 = .ok (.invokevirtual 101, 3) := by decide +kernel
theorem dX9_throwIt_43 : decode cX9_throwIt 43 = .ok (.aload_n 0, 1) := by decide +kernel
theorem dX9_throwIt_44 : decode cX9_throwIt 44 = .ok (.getfield 76, 3) := by decide +kernel
theorem dX9_throwIt_47 : decode cX9_throwIt 47 = .ok (.aload_n 0, 1) := by decide +kernel
theorem dX9_throwIt_48 : decode cX9_throwIt 48 = .ok (.invokevirtual 101, 3) := by decide +kernel
theorem dX9_throwIt_51 : decode cX9_throwIt 51 = .ok (.iaload, 1) := by decide +kernel
theorem dX9_throwIt_52 : decode cX9_throwIt 52 = .ok (.iastore, 1) := by decide +kernel
theorem dX9_throwIt_53 : decode cX9_throwIt 53 = .ok (.aload_n 0, 1) := by decide +kernel
theorem dX9_throwIt_54 : decode cX9_throwIt 54 = .ok (.getfield 64, 3) := by decide +kernel
theorem dX9_throwIt_57 : decode cX9_throwIt 57 = .ok (.aload_n 0, 1) := by decide +kernel
theorem dX9_throwIt_58 : decode cX9_throwIt 58 = .ok (.invokevirtual 101, 3) := by decide +kernel
theorem dX9_throwIt_61 : decode cX9_throwIt 61 = .ok (.iconst (-1), 1) := by decide +kernel
theorem dX9_throwIt_62 : decode cX9_throwIt 62 = .ok (.iastore, 1) := by decide +kernel
theorem dX9_throwIt_63 : decode cX9_throwIt 63 = .ok (.return_, 1) := by decide +kernel
theorem dX9_throwIt_64 : decode cX9_throwIt 64 = .ok (.aload_n 0, 1) := by decide +kernel
theorem dX9_throwIt_65 : decode cX9_throwIt 65 = .ok (.dup, 1) := by decide +kernel
theorem dX9_throwIt_66 : decode cX9_throwIt 66 = .ok (.getfield 98, 3) := by decide +kernel
theorem dX9_throwIt_69 : decode cX9_throwIt 69 = .ok (.iconst 1, 1) := by decide +kernel
theorem dX9_throwIt_70 : decode cX9_throwIt 70 = .ok (.isub, 1) := by decide +kernel
theorem dX9_throwIt_71 : decode cX9_throwIt 71 = .ok (.putfield 98, 3) := by decide +kernel
theorem dX9_throwIt_74 : decode cX9_throwIt 74 = .ok (.goto (-74), 3) := by decide +kernel
theorem dX9_throwIt_77 : decode cX9_throwIt 77 = .ok (.aload_n 0, 1) := by decide +kernel
theorem dX9_throwIt_78 : decode cX9_throwIt 78 = .ok (.bipush 20, 2) := by decide +kernel
theorem dX9_throwIt_80 : decode cX9_throwIt 80 = .ok (.putfield 157, 3) := by decide +kernel
theorem dX9_throwIt_83 : decode cX9_throwIt 83 = .ok (.aload_n 0, 1) := by decide +kernel
theorem dX9_throwIt_84 : decode cX9_throwIt 84 = .ok (.iload_n 1, 1) := by decide +kernel
theorem dX9_throwIt_85 : decode cX9_throwIt 85 = .ok (.i2s, 1) := by decide +kernel
theorem dX9_throwIt_86 : decode cX9_throwIt 86 = .ok (.putfield 160, 3) := by decide +kernel
theorem dX9_throwIt_89 : decode cX9_throwIt 89 = .ok (.return_, 1) := by decide +kernel
theorem dX9_make_0 : decode cX9_make 0 = .ok (.aload_n 0, 1) := by decide +kernel
theorem dX9_make_1 : decode cX9_make 1 = .ok (.iconst 1, 1) := by decide +kernel
theorem dX9_make_2 : decode cX9_make 2 = .ok (.invokevirtual 111, 3) := by decide +kernel
theorem dX9_make_5 : decode cX9_make 5 = .ok (.istore_n 2, 1) := by decide +kernel
theorem dX9_make_6 : decode cX9_make 6 = .ok (.aload_n 0, 1) := by decide +kernel
theorem dX9_make_7 : decode cX9_make 7 = .ok (.invokevirtual 163, 3) := by decide +kernel
theorem dX9_make_10 : decode cX9_make 10 = .ok (.ifCond .ne 4, 3) := by decide +kernel
theorem dX9_make_13 : decode cX9_make 13 = .ok (.return_, 1) := by decide +kernel
theorem dX9_make_14 : decode cX9_make 14 = .ok (.aload_n 0, 1) := by decide +kernel
theorem dX9_make_15 : decode cX9_make 15 = .ok (.dup, 1) := by decide +kernel
theorem dX9_make_16 : decode cX9_make 16 = .ok (.getfield 134, 3) := by decide +kernel
theorem dX9_make_19 : decode cX9_make 19 = .ok (.aload_n 0, 1) := by decide +kernel
theorem dX9_make_20 : decode cX9_make 20 = .ok (.getfield 131, 3) := by decide +kernel
theorem dX9_make_23 : decode cX9_make 23 = .ok (.ifCond .eq 7, 3) := by decide +kernel
theorem dX9_make_26 : decode cX9_make 26 = .ok (.iconst 1, 1) := by decide +kernel
theorem dX9_make_27 : decode cX9_make 27 = .ok (.goto 4, 3) := by decide +kernel
theorem dX9_make_30 : decode cX9_make 30 = .ok (.iconst 0, 1) := by decide +kernel
theorem dX9_make_31 : decode cX9_make 31 = .ok (.iadd, 1) := by decide +kernel
theorem dX9_make_32 : decode cX9_make 32 = .ok (.putfield 134, 3) := by decide +kernel
theorem dX9_make_35 : decode cX9_make 35 = .ok (.aload_n 0, 1) := by decide +kernel
theorem dX9_make_36 : decode cX9_make 36 = .ok (.aload_n 0, 1) := by decide +kernel
theorem dX9_make_37 : decode cX9_make 37 = .ok (.getfield 58, 3) := by decide +kernel
theorem dX9_make_40 : decode cX9_make 40 = .ok (.aload_n 0, 1) := by decide +kernel
theorem dX9_make_41 : decode cX9_make 41 = .ok (.invokevirtual 101, 3) := by decide +kernel
theorem dX9_make_44 : decode cX9_make 44 = .ok (.iaload, 1) := by decide +kernel
theorem dX9_make_45 : decode cX9_make 45 = .ok (.iload_n 1, 1) := by decide +kernel
theorem dX9_make_46 : decode cX9_make 46 = .ok (.iload_n 2, 1) := by decide +kernel
theorem dX9_make_47 : decode cX9_make 47 = .ok (.invokevirtual 79, 3) := by decide +kernel
theorem dX9_make_50 : decode cX9_make 50 = .ok (.aload_n 0, 1) := by decide +kernel
theorem dX9_make_51 : decode cX9_make 51 = .ok (.iconst 2, 1) := by decide +kernel
theorem dX9_make_52 : decode cX9_make 52 = .ok (.invokevirtual 167, 3) := by decide +kernel
theorem dX9_make_55 : decode cX9_make 55 = .ok (.aload_n 0, 1) := by decide +kernel
theorem dX9_make_56 : decode cX9_make 56 = .ok (.aload_n 0, 1) := by decide +kernel
theorem dX9_make_57 : decode cX9_make 57 = .ok (.getfield 83, 3) := by decide +kernel
theorem dX9_make_60 : decode cX9_make 60 = .ok (.invokevirtual 153, 3) := by decide +kernel
theorem dX9_make_63 : decode cX9_make 63 = .ok (.return_, 1) := by decide +kernel
theorem dX9_store_0 : decode cX9_store 0 = .ok (.aload_n 0, 1) := by decide +kernel
theorem dX9_store_1 : decode cX9_store 1 = .ok (.iconst 2, 1) := by decide +kernel
theorem dX9_store_2 : decode cX9_store 2 = .ok (.invokevirtual 121, 3) := by decide +kernel
theorem dX9_store_5 : decode cX9_store 5 = .ok (.istore_n 1, 1) := by decide +kernel
theorem dX9_store_6 : decode cX9_store 6 = .ok (.aload_n 0, 1) := by decide +kernel
theorem dX9_store_7 : decode cX9_store 7 = .ok (.iconst 0, 1) := by decide +kernel
theorem dX9_store_8 : decode cX9_store 8 = .ok (.invokevirtual 121, 3) := by decide +kernel
theorem dX9_store_11 : decode cX9_store 11 = .ok (.istore_n 2, 1) := by decide +kernel
theorem dX9_store_12 : decode cX9_store 12 = .ok (.aload_n 0, 1) := by decide +kernel
theorem dX9_store_13 : decode cX9_store 13 = .ok (.getfield 32, 3) := by decide +kernel
theorem dX9_store_16 : decode cX9_store 16 = .ok (.iload_n 1, 1) := by decide +kernel
theorem dX9_store_17 : decode cX9_store 17 = .ok (.iaload, 1) := by decide +kernel
theorem dX9_store_18 : decode cX9_store 18 = .ok (.aload_n 0, 1) := by decide +kernel
theorem dX9_store_19 : decode cX9_store 19 = .ok (.iconst 1, 1) := by decide +kernel
theorem dX9_store_20 : decode cX9_store 20 = .ok (.invokevirtual 121, 3) := by decide +kernel
theorem dX9_store_23 : decode cX9_store 23 = .ok (.iadd, 1) := by decide +kernel
theorem dX9_store_24 : decode cX9_store 24 = .ok (.istore_n 3, 1) := by decide +kernel
theorem dX9_store_25 : decode cX9_store 25 = .ok (.aload_n 0, 1) := by decide +kernel
theorem dX9_store_26 : decode cX9_store 26 = .ok (.invokevirtual 163, 3) := by decide +kernel
theorem dX9_store_29 : decode cX9_store 29 = .ok (.ifCond .ne 4, 3) := by decide +kernel
theorem dX9_store_32 : decode cX9_store 32 = .ok (.return_, 1) := by decide +kernel
theorem dX9_store_33 : decode cX9_store 33 = .ok (.aload_n 0, 1) := by decide +kernel
theorem dX9_store_34 : decode cX9_store 34 = .ok (.getfield 131, 3) := by decide +kernel
theorem dX9_store_37 : decode cX9_store 37 = .ok (.ifCond .eq 48, 3) := by decide +kernel
theorem dX9_store_40 : decode cX9_store 40 = .ok (.aload_n 0, 1) := by decide +kernel
theorem dX9_store_41 : decode cX9_store 41 = .ok (.dup, 1) := by decide +kernel
theorem dX9_store_42 : decode cX9_store 42 = .ok (.getfield 134, 3) := by decide +kernel
theorem dX9_store_45 : decode cX9_store 45 = .ok (.iconst 1, 1) := by decide +kernel
theorem dX9_store_46 : decode cX9_store 46 = .ok (.iadd, 1) := by decide +kernel
theorem dX9_store_47 : decode cX9_store 47 = .ok (.putfield 134, 3) := by decide +kernel
theorem dX9_store_50 : decode cX9_store 50 = .ok (.aload_n 0, 1) := by decide +kernel
theorem dX9_store_51 : decode cX9_store 51 = .ok (.getfield 46, 3) := by decide +kernel
theorem dX9_store_54 : decode cX9_store 54 = .ok (.aload_n 0, 1) := by decide +kernel
theorem dX9_store_55 : decode cX9_store 55 = .ok (.getfield 144, 3) := by decide +kernel
theorem dX9_store_58 : decode cX9_store 58 = .ok (.iload_n 3, 1) := by decide +kernel
theorem dX9_store_59 : decode cX9_store 59 = .ok (.iastore, 1) := by decide +kernel
theorem dX9_store_60 : decode cX9_store 60 = .ok (.aload_n 0, 1) := by decide +kernel
theorem dX9_store_61 : decode cX9_store 61 = .ok (.getfield 49, 3) := by decide +kernel
theorem dX9_store_64 : decode cX9_store 64 = .ok (.aload_n 0, 1) := by decide +kernel
theorem dX9_store_65 : decode cX9_store 65 = .ok (.getfield 144, 3) := by decide +kernel
theorem dX9_store_68 : decode cX9_store 68 = .ok (.aload_n 0, 1) := by decide +kernel
theorem dX9_store_69 : decode cX9_store 69 = .ok (.getfield 35, 3) := by decide +kernel
theorem dX9_store_72 : decode cX9_store 72 = .ok (.iload_n 3, 1) := by decide +kernel
theorem dX9_store_73 : decode cX9_store 73 = .ok (.iaload, 1) := by decide +kernel
theorem dX9_store_74 : decode cX9_store 74 = .ok (.iastore, 1) := by decide +kernel
theorem dX9_store_75 : decode cX9_store 75 = .ok (.aload_n 0, 1) := by decide +kernel
theorem dX9_store_76 : decode cX9_store 76 = .ok (.dup, 1) := by decide +kernel
theorem dX9_store_77 : decode cX9_store 77 = .ok (.getfield 144, 3) := by decide +kernel
theorem dX9_store_80 : decode cX9_store 80 = .ok (.iconst 1, 1) := by decide +kernel
theorem dX9_store_81 : decode cX9_store 81 = .ok (.iadd, 1) := by decide +kernel
theorem dX9_store_82 : decode cX9_store 82 = .ok (.putfield 144, 3) := by decide +kernel
theorem dX9_store_85 : decode cX9_store 85 = .ok (.aload_n 0, 1) := by decide +kernel
theorem dX9_store_86 : decode cX9_store 86 = .ok (.getfield 35, 3) := by decide +kernel
theorem dX9_store_89 : decode cX9_store 89 = .ok (.iload_n 3, 1) := by decide +kernel
theorem dX9_store_90 : decode cX9_store 90 = .ok (.aload_n 0, 1) := by decide +kernel
theorem dX9_store_91 : decode cX9_store 91 = .ok (.getfield 26, 3) := by decide +kernel
theorem dX9_store_94 : decode cX9_store 94 = .ok (.iload_n 1, 1) := by decide +kernel
theorem dX9_store_95 : decode cX9_store 95 = .ok (.iaload, 1) := by decide +kernel
theorem dX9_store_96 : decode cX9_store 96 = .ok (.iconst 1, 1) := by decide +kernel
theorem dX9_store_97 : decode cX9_store 97 = .ok (.if_icmp .ne 8, 3) := by decide +kernel
theorem dX9_store_100 : decode cX9_store 100 = .ok (.iload_n 2, 1) := by decide +kernel
theorem dX9_store_101 : decode cX9_store 101 = .ok (.i2b, 1) := by decide +kernel
theorem dX9_store_102 : decode cX9_store 102 = .ok (.goto 4, 3) := by decide +kernel
theorem dX9_store_105 : decode cX9_store 105 = .ok (.iload_n 2, 1) := by decide +kernel
theorem dX9_store_106 : decode cX9_store 106 = .ok (.iastore, 1) := by decide +kernel
theorem dX9_store_107 : decode cX9_store 107 = .ok (.aload_n 0, 1) := by decide +kernel
theorem dX9_store_108 : decode cX9_store 108 = .ok (.iconst 3, 1) := by decide +kernel
theorem dX9_store_109 : decode cX9_store 109 = .ok (.invokevirtual 170, 3) := by decide +kernel
theorem dX9_store_112 : decode cX9_store 112 = .ok (.aload_n 0, 1) := by decide +kernel
theorem dX9_store_113 : decode cX9_store 113 = .ok (.iconst 1, 1) := by decide +kernel
theorem dX9_store_114 : decode cX9_store 114 = .ok (.invokevirtual 167, 3) := by decide +kernel
theorem dX9_store_117 : decode cX9_store 117 = .ok (.return_, 1) := by decide +kernel
theorem dX9_copy_0 : decode cX9_copy 0 = .ok (.aload_n 0, 1) := by decide +kernel
theorem dX9_copy_1 : decode cX9_copy 1 = .ok (.iconst 0, 1) := by decide +kernel
theorem dX9_copy_2 : decode cX9_copy 2 = .ok (.invokevirtual 121, 3) := by decide +kernel
theorem dX9_copy_5 : decode cX9_copy 5 = .ok (.istore_n 1, 1) := by decide +kernel
theorem dX9_copy_6 : decode cX9_copy 6 = .ok (.aload_n 0, 1) := by decide +kernel
theorem dX9_copy_7 : decode cX9_copy 7 = .ok (.getfield 173, 3) := by decide +kernel
theorem dX9_copy_10 : decode cX9_copy 10 = .ok (.aload_n 0, 1) := by decide +kernel
theorem dX9_copy_11 : decode cX9_copy 11 = .ok (.getfield 176, 3) := by decide +kernel
theorem dX9_copy_14 : decode cX9_copy 14 = .ok (.isub, 1) := by decide +kernel
theorem dX9_copy_15 : decode cX9_copy 15 = .ok (.iload_n 1, 1) := by decide +kernel
theorem dX9_copy_16 : decode cX9_copy 16 = .ok (.if_icmp .ge 10, 3) := by decide +kernel
theorem dX9_copy_19 : decode cX9_copy 19 = .ok (.aload_n 0, 1) := by decide +kernel
theorem dX9_copy_20 : decode cX9_copy 20 = .ok (.bipush 10, 2) := by decide +kernel
theorem dX9_copy_22 : decode cX9_copy 22 = .ok (.putfield 157, 3) := by decide +kernel
theorem dX9_copy_25 : decode cX9_copy 25 = .ok (.return_, 1) := by decide +kernel
theorem dX9_copy_26 : decode cX9_copy 26 = .ok (.aload_n 0, 1) := by decide +kernel
theorem dX9_copy_27 : decode cX9_copy 27 = .ok (.getfield 32, 3) := by decide +kernel
theorem dX9_copy_30 : decode cX9_copy 30 = .ok (.aload_n 0, 1) := by decide +kernel
theorem dX9_copy_31 : decode cX9_copy 31 = .ok (.iconst 4, 1) := by decide +kernel
theorem dX9_copy_32 : decode cX9_copy 32 = .ok (.invokevirtual 121, 3) := by decide +kernel
theorem dX9_copy_35 : decode cX9_copy 35 = .ok (.iaload, 1) := by decide +kernel
theorem dX9_copy_36 : decode cX9_copy 36 = .ok (.aload_n 0, 1) := by decide +kernel
theorem dX9_copy_37 : decode cX9_copy 37 = .ok (.iconst 3, 1) := by decide +kernel
theorem dX9_copy_38 : decode cX9_copy 38 = .ok (.invokevirtual 121, 3) := by decide +kernel
theorem dX9_copy_41 : decode cX9_copy 41 = .ok (.iadd, 1) := by decide +kernel
theorem dX9_copy_42 : decode cX9_copy 42 = .ok (.istore_n 2, 1) := by decide +kernel
theorem dX9_copy_43 : decode cX9_copy 43 = .ok (.aload_n 0, 1) := by decide +kernel
theorem dX9_copy_44 : decode cX9_copy 44 = .ok (.getfield 32, 3) := by decide +kernel
theorem dX9_copy_47 : decode cX9_copy 47 = .ok (.aload_n 0, 1) := by decide +kernel
theorem dX9_copy_48 : decode cX9_copy 48 = .ok (.iconst 2, 1) := by decide +kernel
theorem dX9_copy_49 : decode cX9_copy 49 = .ok (.invokevirtual 121, 3) := by decide +kernel
theorem dX9_copy_52 : decode cX9_copy 52 = .ok (.iaload, 1) := by decide +kernel
theorem dX9_copy_53 : decode cX9_copy 53 = .ok (.aload_n 0, 1) := by decide +kernel
theorem dX9_copy_54 : decode cX9_copy 54 = .ok (.iconst 1, 1) := by decide +kernel
theorem dX9_copy_55 : decode cX9_copy 55 = .ok (.invokevirtual 121, 3) := by decide +kernel
theorem dX9_copy_58 : decode cX9_copy 58 = .ok (.iadd, 1) := by decide +kernel
theorem dX9_copy_59 : decode cX9_copy 59 = .ok (.istore_n 3, 1) := by decide +kernel
theorem dX9_copy_60 : decode cX9_copy 60 = .ok (.aload_n 0, 1) := by decide +kernel
theorem dX9_copy_61 : decode cX9_copy 61 = .ok (.dup, 1) := by decide +kernel
theorem dX9_copy_62 : decode cX9_copy 62 = .ok (.getfield 176, 3) := by decide +kernel
theorem dX9_copy_65 : decode cX9_copy 65 = .ok (.iload_n 1, 1) := by decide +kernel
theorem dX9_copy_66 : decode cX9_copy 66 = .ok (.iadd, 1) := by decide +kernel
theorem dX9_copy_67 : decode cX9_copy 67 = .ok (.putfield 176, 3) := by decide +kernel
theorem dX9_copy_70 : decode cX9_copy 70 = .ok (.iconst 0, 1) := by decide +kernel
theorem dX9_copy_71 : decode cX9_copy 71 = .ok (.istore 4, 2) := by decide +kernel
theorem dX9_copy_73 : decode cX9_copy 73 = .ok (.iload 4, 2) := by decide +kernel
theorem dX9_copy_75 : decode cX9_copy 75 = .ok (.iload_n 1, 1) := by decide +kernel
theorem dX9_copy_76 : decode cX9_copy 76 = .ok (.if_icmp .ge 35, 3) := by decide +kernel
theorem dX9_copy_79 : decode cX9_copy 79 = .ok (.aload_n 0, 1) := by decide +kernel
theorem dX9_copy_80 : decode cX9_copy 80 = .ok (.invokevirtual 163, 3) := by decide +kernel
theorem dX9_copy_83 : decode cX9_copy 83 = .ok (.ifCond .ne 4, 3) := by decide +kernel
theorem dX9_copy_86 : decode cX9_copy 86 = .ok (.return_, 1) := by decide +kernel
theorem dX9_copy_87 : decode cX9_copy 87 = .ok (.aload_n 0, 1) := by decide +kernel
theorem dX9_copy_88 : decode cX9_copy 88 = .ok (.getfield 35, 3) := by decide +kernel
theorem dX9_copy_91 : decode cX9_copy 91 = .ok (.iload_n 3, 1) := by decide +kernel
theorem dX9_copy_92 : decode cX9_copy 92 = .ok (.iload 4, 2) := by decide +kernel
theorem dX9_copy_94 : decode cX9_copy 94 = .ok (.iadd, 1) := by decide +kernel
theorem dX9_copy_95 : decode cX9_copy 95 = .ok (.aload_n 0, 1) := by decide +kernel
theorem dX9_copy_96 : decode cX9_copy 96 = .ok (.getfield 35, 3) := by decide +kernel
theorem dX9_copy_99 : decode cX9_copy 99 = .ok (.iload_n 2, 1) := by decide +kernel
theorem dX9_copy_100 : decode cX9_copy 100 = .ok (.iload 4, 2) := by decide +kernel
theorem dX9_copy_102 : decode cX9_copy 102 = .ok (.iadd, 1) := by decide +kernel
theorem dX9_copy_103 : decode cX9_copy 103 = .ok (.iaload, 1) := by decide +kernel
theorem dX9_copy_104 : decode cX9_copy 104 = .ok (.iastore, 1) := by decide +kernel
theorem dX9_copy_105 : decode cX9_copy 105 = .ok (.iinc 4 1, 3) := by decide +kernel
theorem dX9_copy_108 : decode cX9_copy 108 = .ok (.goto (-35), 3) := by decide +kernel
theorem dX9_copy_111 : decode cX9_copy 111 = .ok (.aload_n 0, 1) := by decide +kernel
theorem dX9_copy_112 : decode cX9_copy 112 = .ok (.iconst 5, 1) := by decide +kernel
theorem dX9_copy_113 : decode cX9_copy 113 = .ok (.invokevirtual 170, 3) := by decide +kernel
theorem dX9_copy_116 : decode cX9_copy 116 = .ok (.aload_n 0, 1) := by decide +kernel
theorem dX9_copy_117 : decode cX9_copy 117 = .ok (.iconst 1, 1) := by decide +kernel
theorem dX9_copy_118 : decode cX9_copy 118 = .ok (.invokevirtual 167, 3) := by decide +kernel
theorem dX9_copy_121 : decode cX9_copy 121 = .ok (.return_, 1) := by decide +kernel
theorem dX9_callIt_0 : decode cX9_callIt 0 = .ok (.aload_n 0, 1) := by decide +kernel
theorem dX9_callIt_1 : decode cX9_callIt 1 = .ok (.iconst 1, 1) := by decide +kernel
theorem dX9_callIt_2 : decode cX9_callIt 2 = .ok (.invokevirtual 111, 3) := by decide +kernel
theorem dX9_callIt_5 : decode cX9_callIt 5 = .ok (.bipush 16, 2) := by decide +kernel
theorem dX9_callIt_7 : decode cX9_callIt 7 = .ok (.irem, 1) := by decide +kernel
theorem dX9_callIt_8 : decode cX9_callIt 8 = .ok (.istore_n 1, 1) := by decide +kernel
theorem dX9_callIt_9 : decode cX9_callIt 9 = .ok (.aload_n 0, 1) := by decide +kernel
theorem dX9_callIt_10 : decode cX9_callIt 10 = .ok (.iconst 2, 1) := by decide +kernel
theorem dX9_callIt_11 : decode cX9_callIt 11 = .ok (.invokevirtual 111, 3) := by decide +kernel
theorem dX9_callIt_14 : decode cX9_callIt 14 = .ok (.bipush 9, 2) := by decide +kernel
theorem dX9_callIt_16 : decode cX9_callIt 16 = .ok (.irem, 1) := by decide +kernel
theorem dX9_callIt_17 : decode cX9_callIt 17 = .ok (.istore_n 2, 1) := by decide +kernel
theorem dX9_callIt_18 : decode cX9_callIt 18 = .ok (.aload_n 0, 1) := by decide +kernel
theorem dX9_callIt_19 : decode cX9_callIt 19 = .ok (.invokevirtual 101, 3) := by decide +kernel
theorem dX9_callIt_22 : decode cX9_callIt 22 = .ok (.istore_n 3, 1) := by decide +kernel
theorem dX9_callIt_23 : decode cX9_callIt 23 = .ok (.aload_n 0, 1) := by decide +kernel
theorem dX9_callIt_24 : decode cX9_callIt 24 = .ok (.iconst 3, 1) := by decide +kernel
theorem dX9_callIt_25 : decode cX9_callIt 25 = .ok (.invokevirtual 167, 3) := by decide +kernel
theorem dX9_callIt_28 : decode cX9_callIt 28 = .ok (.aload_n 0, 1) := by decide +kernel
theorem dX9_callIt_29 : decode cX9_callIt 29 = .ok (.iload_n 2, 1) := by decide +kernel
theorem dX9_callIt_30 : decode cX9_callIt 30 = .ok (.invokevirtual 170, 3) := by decide +kernel
theorem dX9_callIt_33 : decode cX9_callIt 33 = .ok (.aload_n 0, 1) := by decide +kernel
theorem dX9_callIt_34 : decode cX9_callIt 34 = .ok (.iload_n 1, 1) := by decide +kernel
theorem dX9_callIt_35 : decode cX9_callIt 35 = .ok (.invokevirtual 179, 3) := by decide +kernel
theorem dX9_callIt_38 : decode cX9_callIt 38 = .ok (.iconst 0, 1) := by decide +kernel
theorem dX9_callIt_39 : decode cX9_callIt 39 = .ok (.istore 4, 2) := by decide +kernel
theorem dX9_callIt_41 : decode cX9_callIt 41 = .ok (.iload 4, 2) := by decide +kernel
theorem dX9_callIt_43 : decode cX9_callIt 43 = .ok (.iload_n 2, 1) := by decide +kernel
theorem dX9_callIt_44 : decode cX9_callIt 44 = .ok (.if_icmp .ge 43, 3) := by decide +kernel
theorem dX9_callIt_47 : decode cX9_callIt 47 = .ok (.aload_n 0, 1) := by decide +kernel
theorem dX9_callIt_48 : decode cX9_callIt 48 = .ok (.getfield 67, 3) := by decide +kernel
theorem dX9_callIt_51 : decode cX9_callIt 51 = .ok (.bipush 8, 2) := by decide +kernel
theorem dX9_callIt_53 : decode cX9_callIt 53 = .ok (.aload_n 0, 1) := by decide +kernel
theorem dX9_callIt_54 : decode cX9_callIt 54 = .ok (.invokevirtual 101, 3) := by decide +kernel
theorem dX9_callIt_57 : decode cX9_callIt 57 = .ok (.imul, 1) := by decide +kernel
theorem dX9_callIt_58 : decode cX9_callIt 58 = .ok (.iload 4, 2) := by decide +kernel
theorem dX9_callIt_60 : decode cX9_callIt 60 = .ok (.iadd, 1) := by decide +kernel
theorem dX9_callIt_61 : decode cX9_callIt 61 = .ok (.aload_n 0, 1) := by decide +kernel
theorem dX9_callIt_62 : decode cX9_callIt 62 = .ok (.getfield 70, 3) := by decide +kernel
theorem dX9_callIt_65 : decode cX9_callIt 65 = .ok (.bipush 16, 2) := by decide +kernel
theorem dX9_callIt_67 : decode cX9_callIt 67 = .ok (.iload_n 3, 1) := by decide +kernel
theorem dX9_callIt_68 : decode cX9_callIt 68 = .ok (.imul, 1) := by decide +kernel
theorem dX9_callIt_69 : decode cX9_callIt 69 = .ok (.aload_n 0, 1) := by decide +kernel
theorem dX9_callIt_70 : decode cX9_callIt 70 = .ok (.getfield 73, 3) := by decide +kernel
theorem dX9_callIt_73 : decode cX9_callIt 73 = .ok (.iload_n 3, 1) := by decide +kernel
theorem dX9_callIt_74 : decode cX9_callIt 74 = .ok (.iaload, 1) := by decide +kernel
theorem dX9_callIt_75 : decode cX9_callIt 75 = .ok (.iadd, 1) := by decide +kernel
theorem dX9_callIt_76 : decode cX9_callIt 76 = .ok (.iload 4, 2) := by decide +kernel
theorem dX9_callIt_78 : decode cX9_callIt 78 = .ok (.iadd, 1) := by decide +kernel
theorem dX9_callIt_79 : decode cX9_callIt 79 = .ok (.iaload, 1) := by decide +kernel
theorem dX9_callIt_80 : decode cX9_callIt 80 = .ok (.iastore, 1) := by decide +kernel
theorem dX9_callIt_81 : decode cX9_callIt 81 = .ok (.iinc 4 1, 3) := by decide +kernel
theorem dX9_callIt_84 : decode cX9_callIt 84 = .ok (.goto (-43), 3) := by decide +kernel
theorem dX9_callIt_87 : decode cX9_callIt 87 = .ok (.return_, 1) := by decide +kernel
theorem dX9_leave_0 : decode cX9_leave 0 = .ok (.iload_n 1, 1) := by decide +kernel
theorem dX9_leave_1 : decode cX9_leave 1 = .ok (.ifCond .eq 11, 3) := by decide +kernel
theorem dX9_leave_4 : decode cX9_leave 4 = .ok (.aload_n 0, 1) := by decide +kernel
theorem dX9_leave_5 : decode cX9_leave 5 = .ok (.iconst 0, 1) := by decide +kernel
theorem dX9_leave_6 : decode cX9_leave 6 = .ok (.invokevirtual 121, 3) := by decide +kernel
theorem dX9_leave_9 : decode cX9_leave 9 = .ok (.goto 4, 3) := by decide +kernel
theorem dX9_leave_12 : decode cX9_leave 12 = .ok (.iconst 0, 1) := by decide +kernel
theorem dX9_leave_13 : decode cX9_leave 13 = .ok (.istore_n 2, 1) := by decide +kernel
theorem dX9_leave_14 : decode cX9_leave 14 = .ok (.aload_n 0, 1) := by decide +kernel
theorem dX9_leave_15 : decode cX9_leave 15 = .ok (.dup, 1) := by decide +kernel
theorem dX9_leave_16 : decode cX9_leave 16 = .ok (.getfield 98, 3) := by decide +kernel
theorem dX9_leave_19 : decode cX9_leave 19 = .ok (.iconst 1, 1) := by decide +kernel
theorem dX9_leave_20 : decode cX9_leave 20 = .ok (.isub, 1) := by decide +kernel
theorem dX9_leave_21 : decode cX9_leave 21 = .ok (.putfield 98, 3) := by decide +kernel
theorem dX9_leave_24 : decode cX9_leave 24 = .ok (.aload_n 0, 1) := by decide +kernel
theorem dX9_leave_25 : decode cX9_leave 25 = .ok (.getfield 98, 3) := by decide +kernel
theorem dX9_leave_28 : decode cX9_leave 28 = .ok (.ifCond .ne 16, 3) := by decide +kernel
theorem dX9_leave_31 : decode cX9_leave 31 = .ok (.aload_n 0, 1) := by decide +kernel
theorem dX9_leave_32 : decode cX9_leave 32 = .ok (.iconst 0, 1) := by decide +kernel
theorem dX9_leave_33 : decode cX9_leave 33 = .ok (.putfield 157, 3) := by decide +kernel
theorem dX9_leave_36 : decode cX9_leave 36 = .ok (.aload_n 0, 1) := by decide +kernel
theorem dX9_leave_37 : decode cX9_leave 37 = .ok (.iload_n 2, 1) := by decide +kernel
theorem dX9_leave_38 : decode cX9_leave 38 = .ok (.putfield 182, 3) := by decide +kernel
theorem dX9_leave_41 : decode cX9_leave 41 = .ok (.goto 34, 3) := by decide +kernel
theorem dX9_leave_44 : decode cX9_leave 44 = .ok (.iload_n 1, 1) := by decide +kernel
theorem dX9_leave_45 : decode cX9_leave 45 = .ok (.ifCond .eq 21, 3) := by decide +kernel
theorem dX9_leave_48 : decode cX9_leave 48 = .ok (.aload_n 0, 1) := by decide +kernel
theorem dX9_leave_49 : decode cX9_leave 49 = .ok (.invokevirtual 105, 3) := by decide +kernel
theorem dX9_leave_52 : decode cX9_leave 52 = .ok (.bipush 16, 2) := by decide +kernel
theorem dX9_leave_54 : decode cX9_leave 54 = .ok (.if_icmp .ne 12, 3) := by decide +kernel
theorem dX9_leave_57 : decode cX9_leave 57 = .ok (.aload_n 0, 1) := by decide +kernel
theorem dX9_leave_58 : decode cX9_leave 58 = .ok (.bipush 6, 2) := by decide +kernel
theorem dX9_leave_60 : decode cX9_leave 60 = .ok (.invokevirtual 185, 3) := by decide +kernel
theorem dX9_leave_63 : decode cX9_leave 63 = .ok (.goto 12, 3) := by decide +kernel
theorem dX9_leave_66 : decode cX9_leave 66 = .ok (.iload_n 1, 1) := by decide +kernel
theorem dX9_leave_67 : decode cX9_leave 67 = .ok (.ifCond .eq 8, 3) := by decide +kernel
theorem dX9_leave_70 : decode cX9_leave 70 = .ok (.aload_n 0, 1) := by decide +kernel
theorem dX9_leave_71 : decode cX9_leave 71 = .ok (.iload_n 2, 1) := by decide +kernel
theorem dX9_leave_72 : decode cX9_leave 72 = .ok (.invokevirtual 153, 3) := by decide +kernel
theorem dX9_leave_75 : decode cX9_leave 75 = .ok (.return_, 1) := by decide +kernel
theorem dX9_holds_0 : decode cX9_holds 0 = .ok (.iload_n 0, 1) := by decide +kernel
theorem dX9_holds_1 : decode cX9_holds 1 = .ok (.tableswitch 85 0 4 #[35, 45, 55, 65, 75], 35) := by decide +kernel
theorem dX9_holds_36 : decode cX9_holds 36 = .ok (.iload_n 1, 1) := by decide +kernel
theorem dX9_holds_37 : decode cX9_holds 37 = .ok (.ifCond .ne 7, 3) := by decide +kernel
theorem dX9_holds_40 : decode cX9_holds 40 = .ok (.iconst 1, 1) := by decide +kernel
theorem dX9_holds_41 : decode cX9_holds 41 = .ok (.goto 4, 3) := by decide +kernel
theorem dX9_holds_44 : decode cX9_holds 44 = .ok (.iconst 0, 1) := by decide +kernel
theorem dX9_holds_45 : decode cX9_holds 45 = .ok (.ireturn, 1) := by decide +kernel
theorem dX9_holds_46 : decode cX9_holds 46 = .ok (.iload_n 1, 1) := by decide +kernel
theorem dX9_holds_47 : decode cX9_holds 47 = .ok (.ifCond .eq 7, 3) := by decide +kernel
theorem dX9_holds_50 : decode cX9_holds 50 = .ok (.iconst 1, 1) := by decide +kernel
theorem dX9_holds_51 : decode cX9_holds 51 = .ok (.goto 4, 3) := by decide +kernel
theorem dX9_holds_54 : decode cX9_holds 54 = .ok (.iconst 0, 1) := by decide +kernel
theorem dX9_holds_55 : decode cX9_holds 55 = .ok (.ireturn, 1) := by decide +kernel
theorem dX9_holds_56 : decode cX9_holds 56 = .ok (.iload_n 1, 1) := by decide +kernel
theorem dX9_holds_57 : decode cX9_holds 57 = .ok (.ifCond .ge 7, 3) := by decide +kernel
theorem dX9_holds_60 : decode cX9_holds 60 = .ok (.iconst 1, 1) := by decide +kernel
theorem dX9_holds_61 : decode cX9_holds 61 = .ok (.goto 4, 3) := by decide +kernel
theorem dX9_holds_64 : decode cX9_holds 64 = .ok (.iconst 0, 1) := by decide +kernel
theorem dX9_holds_65 : decode cX9_holds 65 = .ok (.ireturn, 1) := by decide +kernel
theorem dX9_holds_66 : decode cX9_holds 66 = .ok (.iload_n 1, 1) := by decide +kernel
theorem dX9_holds_67 : decode cX9_holds 67 = .ok (.ifCond .lt 7, 3) := by decide +kernel
theorem dX9_holds_70 : decode cX9_holds 70 = .ok (.iconst 1, 1) := by decide +kernel
theorem dX9_holds_71 : decode cX9_holds 71 = .ok (.goto 4, 3) := by decide +kernel
theorem dX9_holds_74 : decode cX9_holds 74 = .ok (.iconst 0, 1) := by decide +kernel
theorem dX9_holds_75 : decode cX9_holds 75 = .ok (.ireturn, 1) := by decide +kernel
theorem dX9_holds_76 : decode cX9_holds 76 = .ok (.iload_n 1, 1) := by decide +kernel
theorem dX9_holds_77 : decode cX9_holds 77 = .ok (.ifCond .le 7, 3) := by decide +kernel
theorem dX9_holds_80 : decode cX9_holds 80 = .ok (.iconst 1, 1) := by decide +kernel
theorem dX9_holds_81 : decode cX9_holds 81 = .ok (.goto 4, 3) := by decide +kernel
theorem dX9_holds_84 : decode cX9_holds 84 = .ok (.iconst 0, 1) := by decide +kernel
theorem dX9_holds_85 : decode cX9_holds 85 = .ok (.ireturn, 1) := by decide +kernel
theorem dX9_holds_86 : decode cX9_holds 86 = .ok (.iload_n 1, 1) := by decide +kernel
theorem dX9_holds_87 : decode cX9_holds 87 = .ok (.ifCond .gt 7, 3) := by decide +kernel
theorem dX9_holds_90 : decode cX9_holds 90 = .ok (.iconst 1, 1) := by decide +kernel
theorem dX9_holds_91 : decode cX9_holds 91 = .ok (.goto 4, 3) := by decide +kernel
theorem dX9_holds_94 : decode cX9_holds 94 = .ok (.iconst 0, 1) := by decide +kernel
theorem dX9_holds_95 : decode cX9_holds 95 = .ok (.ireturn, 1) := by decide +kernel
theorem dX9_reckon_0 : decode cX9_reckon 0 = .ok (.iload_n 0, 1) := by decide +kernel
theorem dX9_reckon_1 : decode cX9_reckon 1 = .ok (.tableswitch 105 6 16 #[59, 63, 67, 71, 75, 105, 79, 83, 87, 91, 98], 59) := by decide +kernel
theorem dX9_reckon_60 : decode cX9_reckon 60 = .ok (.iload_n 1, 1) := by decide +kernel
theorem dX9_reckon_61 : decode cX9_reckon 61 = .ok (.iload_n 2, 1) := by decide +kernel
theorem dX9_reckon_62 : decode cX9_reckon 62 = .ok (.iadd, 1) := by decide +kernel
theorem dX9_reckon_63 : decode cX9_reckon 63 = .ok (.ireturn, 1) := by decide +kernel
theorem dX9_reckon_64 : decode cX9_reckon 64 = .ok (.iload_n 1, 1) := by decide +kernel
theorem dX9_reckon_65 : decode cX9_reckon 65 = .ok (.iload_n 2, 1) := by decide +kernel
theorem dX9_reckon_66 : decode cX9_reckon 66 = .ok (.isub, 1) := by decide +kernel
theorem dX9_reckon_67 : decode cX9_reckon 67 = .ok (.ireturn, 1) := by decide +kernel
theorem dX9_reckon_68 : decode cX9_reckon 68 = .ok (.iload_n 1, 1) := by decide +kernel
theorem dX9_reckon_69 : decode cX9_reckon 69 = .ok (.iload_n 2, 1) := by decide +kernel
theorem dX9_reckon_70 : decode cX9_reckon 70 = .ok (.imul, 1) := by decide +kernel
theorem dX9_reckon_71 : decode cX9_reckon 71 = .ok (.ireturn, 1) := by decide +kernel
theorem dX9_reckon_72 : decode cX9_reckon 72 = .ok (.iload_n 1, 1) := by decide +kernel
theorem dX9_reckon_73 : decode cX9_reckon 73 = .ok (.iload_n 2, 1) := by decide +kernel
theorem dX9_reckon_74 : decode cX9_reckon 74 = .ok (.idiv, 1) := by decide +kernel
theorem dX9_reckon_75 : decode cX9_reckon 75 = .ok (.ireturn, 1) := by decide +kernel
theorem dX9_reckon_76 : decode cX9_reckon 76 = .ok (.iload_n 1, 1) := by decide +kernel
theorem dX9_reckon_77 : decode cX9_reckon 77 = .ok (.iload_n 2, 1) := by decide +kernel
theorem dX9_reckon_78 : decode cX9_reckon 78 = .ok (.irem, 1) := by decide +kernel
theorem dX9_reckon_79 : decode cX9_reckon 79 = .ok (.ireturn, 1) := by decide +kernel
theorem dX9_reckon_80 : decode cX9_reckon 80 = .ok (.iload_n 1, 1) := by decide +kernel
theorem dX9_reckon_81 : decode cX9_reckon 81 = .ok (.iload_n 2, 1) := by decide +kernel
theorem dX9_reckon_82 : decode cX9_reckon 82 = .ok (.iand, 1) := by decide +kernel
theorem dX9_reckon_83 : decode cX9_reckon 83 = .ok (.ireturn, 1) := by decide +kernel
theorem dX9_reckon_84 : decode cX9_reckon 84 = .ok (.iload_n 1, 1) := by decide +kernel
theorem dX9_reckon_85 : decode cX9_reckon 85 = .ok (.iload_n 2, 1) := by decide +kernel
theorem dX9_reckon_86 : decode cX9_reckon 86 = .ok (.ior, 1) := by decide +kernel
theorem dX9_reckon_87 : decode cX9_reckon 87 = .ok (.ireturn, 1) := by decide +kernel
theorem dX9_reckon_88 : decode cX9_reckon 88 = .ok (.iload_n 1, 1) := by decide +kernel
theorem dX9_reckon_89 : decode cX9_reckon 89 = .ok (.iload_n 2, 1) := by decide +kernel
theorem dX9_reckon_90 : decode cX9_reckon 90 = .ok (.ixor, 1) := by decide +kernel
theorem dX9_reckon_91 : decode cX9_reckon 91 = .ok (.ireturn, 1) := by decide +kernel
theorem dX9_reckon_92 : decode cX9_reckon 92 = .ok (.iload_n 1, 1) := by decide +kernel
theorem dX9_reckon_93 : decode cX9_reckon 93 = .ok (.iload_n 2, 1) := by decide +kernel
theorem dX9_reckon_94 : decode cX9_reckon 94 = .ok (.bipush 15, 2) := by decide +kernel
theorem dX9_reckon_96 : decode cX9_reckon 96 = .ok (.iand, 1) := by decide +kernel
theorem dX9_reckon_97 : decode cX9_reckon 97 = .ok (.ishl, 1) := by decide +kernel
theorem dX9_reckon_98 : decode cX9_reckon 98 = .ok (.ireturn, 1) := by decide +kernel
theorem dX9_reckon_99 : decode cX9_reckon 99 = .ok (.iload_n 1, 1) := by decide +kernel
theorem dX9_reckon_100 : decode cX9_reckon 100 = .ok (.iload_n 2, 1) := by decide +kernel
theorem dX9_reckon_101 : decode cX9_reckon 101 = .ok (.bipush 15, 2) := by decide +kernel
theorem dX9_reckon_103 : decode cX9_reckon 103 = .ok (.iand, 1) := by decide +kernel
theorem dX9_reckon_104 : decode cX9_reckon 104 = .ok (.ishr, 1) := by decide +kernel
theorem dX9_reckon_105 : decode cX9_reckon 105 = .ok (.ireturn, 1) := by decide +kernel
theorem dX9_reckon_106 : decode cX9_reckon 106 = .ok (.iload_n 1, 1) := by decide +kernel
theorem dX9_reckon_107 : decode cX9_reckon 107 = .ok (.ldc 188, 2) := by decide +kernel
theorem dX9_reckon_109 : decode cX9_reckon 109 = .ok (.iand, 1) := by decide +kernel
theorem dX9_reckon_110 : decode cX9_reckon 110 = .ok (.iload_n 2, 1) := by decide +kernel
theorem dX9_reckon_111 : decode cX9_reckon 111 = .ok (.bipush 15, 2) := by decide +kernel
theorem dX9_reckon_113 : decode cX9_reckon 113 = .ok (.iand, 1) := by decide +kernel
theorem dX9_reckon_114 : decode cX9_reckon 114 = .ok (.ishr, 1) := by decide +kernel
theorem dX9_reckon_115 : decode cX9_reckon 115 = .ok (.ireturn, 1) := by decide +kernel
theorem dX9_jump_0 : decode cX9_jump 0 = .ok (.iload_n 1, 1) := by decide +kernel
theorem dX9_jump_1 : decode cX9_jump 1 = .ok (.bipush 21, 2) := by decide +kernel
theorem dX9_jump_3 : decode cX9_jump 3 = .ok (.if_icmp .ne 7, 3) := by decide +kernel
theorem dX9_jump_6 : decode cX9_jump 6 = .ok (.iconst 0, 1) := by decide +kernel
theorem dX9_jump_7 : decode cX9_jump 7 = .ok (.goto 28, 3) := by decide +kernel
theorem dX9_jump_10 : decode cX9_jump 10 = .ok (.iload_n 1, 1) := by decide +kernel
theorem dX9_jump_11 : decode cX9_jump 11 = .ok (.bipush 22, 2) := by decide +kernel
theorem dX9_jump_13 : decode cX9_jump 13 = .ok (.if_icmp .ne 11, 3) := by decide +kernel
theorem dX9_jump_16 : decode cX9_jump 16 = .ok (.aload_n 0, 1) := by decide +kernel
theorem dX9_jump_17 : decode cX9_jump 17 = .ok (.iconst 0, 1) := by decide +kernel
theorem dX9_jump_18 : decode cX9_jump 18 = .ok (.invokevirtual 121, 3) := by decide +kernel
theorem dX9_jump_21 : decode cX9_jump 21 = .ok (.goto 14, 3) := by decide +kernel
theorem dX9_jump_24 : decode cX9_jump 24 = .ok (.aload_n 0, 1) := by decide +kernel
theorem dX9_jump_25 : decode cX9_jump 25 = .ok (.iconst 1, 1) := by decide +kernel
theorem dX9_jump_26 : decode cX9_jump 26 = .ok (.invokevirtual 121, 3) := by decide +kernel
theorem dX9_jump_29 : decode cX9_jump 29 = .ok (.aload_n 0, 1) := by decide +kernel
theorem dX9_jump_30 : decode cX9_jump 30 = .ok (.iconst 0, 1) := by decide +kernel
theorem dX9_jump_31 : decode cX9_jump 31 = .ok (.invokevirtual 121, 3) := by decide +kernel
theorem dX9_jump_34 : decode cX9_jump 34 = .ok (.isub, 1) := by decide +kernel
theorem dX9_jump_35 : decode cX9_jump 35 = .ok (.istore_n 2, 1) := by decide +kernel
theorem dX9_jump_36 : decode cX9_jump 36 = .ok (.iload_n 1, 1) := by decide +kernel
theorem dX9_jump_37 : decode cX9_jump 37 = .ok (.bipush 21, 2) := by decide +kernel
theorem dX9_jump_39 : decode cX9_jump 39 = .ok (.if_icmp .eq 18, 3) := by decide +kernel
theorem dX9_jump_42 : decode cX9_jump 42 = .ok (.aload_n 0, 1) := by decide +kernel
theorem dX9_jump_43 : decode cX9_jump 43 = .ok (.iconst 1, 1) := by decide +kernel
theorem dX9_jump_44 : decode cX9_jump 44 = .ok (.invokevirtual 111, 3) := by decide +kernel
theorem dX9_jump_47 : decode cX9_jump 47 = .ok (.bipush 6, 2) := by decide +kernel
theorem dX9_jump_49 : decode cX9_jump 49 = .ok (.irem, 1) := by decide +kernel
theorem dX9_jump_50 : decode cX9_jump 50 = .ok (.iload_n 2, 1) := by decide +kernel
theorem dX9_jump_51 : decode cX9_jump 51 = .ok (.invokestatic 189, 3) := by decide +kernel
theorem dX9_jump_54 : decode cX9_jump 54 = .ok (.ifCond .eq 7, 3) := by decide +kernel
theorem dX9_jump_57 : decode cX9_jump 57 = .ok (.iconst 1, 1) := by decide +kernel
theorem dX9_jump_58 : decode cX9_jump 58 = .ok (.goto 4, 3) := by decide +kernel
theorem dX9_jump_61 : decode cX9_jump 61 = .ok (.iconst 0, 1) := by decide +kernel
theorem dX9_jump_62 : decode cX9_jump 62 = .ok (.istore_n 3, 1) := by decide +kernel
theorem dX9_jump_63 : decode cX9_jump 63 = .ok (.iload_n 1, 1) := by decide +kernel
theorem dX9_jump_64 : decode cX9_jump 64 = .ok (.bipush 21, 2) := by decide +kernel
theorem dX9_jump_66 : decode cX9_jump 66 = .ok (.if_icmp .ne 11, 3) := by decide +kernel
theorem dX9_jump_69 : decode cX9_jump 69 = .ok (.aload_n 0, 1) := by decide +kernel
theorem dX9_jump_70 : decode cX9_jump 70 = .ok (.iconst 1, 1) := by decide +kernel
theorem dX9_jump_71 : decode cX9_jump 71 = .ok (.invokevirtual 193, 3) := by decide +kernel
theorem dX9_jump_74 : decode cX9_jump 74 = .ok (.goto 8, 3) := by decide +kernel
theorem dX9_jump_77 : decode cX9_jump 77 = .ok (.aload_n 0, 1) := by decide +kernel
theorem dX9_jump_78 : decode cX9_jump 78 = .ok (.iconst 2, 1) := by decide +kernel
theorem dX9_jump_79 : decode cX9_jump 79 = .ok (.invokevirtual 193, 3) := by decide +kernel
theorem dX9_jump_82 : decode cX9_jump 82 = .ok (.istore 4, 2) := by decide +kernel
theorem dX9_jump_84 : decode cX9_jump 84 = .ok (.aload_n 0, 1) := by decide +kernel
theorem dX9_jump_85 : decode cX9_jump 85 = .ok (.iload_n 1, 1) := by decide +kernel
theorem dX9_jump_86 : decode cX9_jump 86 = .ok (.bipush 21, 2) := by decide +kernel
theorem dX9_jump_88 : decode cX9_jump 88 = .ok (.if_icmp .ne 7, 3) := by decide +kernel
theorem dX9_jump_91 : decode cX9_jump 91 = .ok (.iconst 0, 1) := by decide +kernel
theorem dX9_jump_92 : decode cX9_jump 92 = .ok (.goto 14, 3) := by decide +kernel
theorem dX9_jump_95 : decode cX9_jump 95 = .ok (.iload_n 1, 1) := by decide +kernel
theorem dX9_jump_96 : decode cX9_jump 96 = .ok (.bipush 22, 2) := by decide +kernel
theorem dX9_jump_98 : decode cX9_jump 98 = .ok (.if_icmp .ne 7, 3) := by decide +kernel
theorem dX9_jump_101 : decode cX9_jump 101 = .ok (.iconst 1, 1) := by decide +kernel
theorem dX9_jump_102 : decode cX9_jump 102 = .ok (.goto 4, 3) := by decide +kernel
theorem dX9_jump_105 : decode cX9_jump 105 = .ok (.iconst 2, 1) := by decide +kernel
theorem dX9_jump_106 : decode cX9_jump 106 = .ok (.invokevirtual 170, 3) := by decide +kernel
theorem dX9_jump_109 : decode cX9_jump 109 = .ok (.aload_n 0, 1) := by decide +kernel
theorem dX9_jump_110 : decode cX9_jump 110 = .ok (.iload_n 3, 1) := by decide +kernel
theorem dX9_jump_111 : decode cX9_jump 111 = .ok (.ifCond .eq 8, 3) := by decide +kernel
theorem dX9_jump_114 : decode cX9_jump 114 = .ok (.iload 4, 2) := by decide +kernel
theorem dX9_jump_116 : decode cX9_jump 116 = .ok (.goto 7, 3) := by decide +kernel
theorem dX9_jump_119 : decode cX9_jump 119 = .ok (.iload_n 1, 1) := by decide +kernel
theorem dX9_jump_120 : decode cX9_jump 120 = .ok (.invokestatic 115, 3) := by decide +kernel
theorem dX9_jump_123 : decode cX9_jump 123 = .ok (.invokevirtual 167, 3) := by decide +kernel
theorem dX9_jump_126 : decode cX9_jump 126 = .ok (.return_, 1) := by decide +kernel
theorem dX9_local_0 : decode cX9_local 0 = .ok (.bipush 8, 2) := by decide +kernel
theorem dX9_local_2 : decode cX9_local 2 = .ok (.aload_n 0, 1) := by decide +kernel
theorem dX9_local_3 : decode cX9_local 3 = .ok (.invokevirtual 101, 3) := by decide +kernel
theorem dX9_local_6 : decode cX9_local 6 = .ok (.imul, 1) := by decide +kernel
theorem dX9_local_7 : decode cX9_local 7 = .ok (.aload_n 0, 1) := by decide +kernel
theorem dX9_local_8 : decode cX9_local 8 = .ok (.iconst 1, 1) := by decide +kernel
theorem dX9_local_9 : decode cX9_local 9 = .ok (.invokevirtual 111, 3) := by decide +kernel
theorem dX9_local_12 : decode cX9_local 12 = .ok (.bipush 8, 2) := by decide +kernel
theorem dX9_local_14 : decode cX9_local 14 = .ok (.irem, 1) := by decide +kernel
theorem dX9_local_15 : decode cX9_local 15 = .ok (.iadd, 1) := by decide +kernel
theorem dX9_local_16 : decode cX9_local 16 = .ok (.istore_n 2, 1) := by decide +kernel
theorem dX9_local_17 : decode cX9_local 17 = .ok (.iload_n 1, 1) := by decide +kernel
theorem dX9_local_18 : decode cX9_local 18 = .ok (.iconst 3, 1) := by decide +kernel
theorem dX9_local_19 : decode cX9_local 19 = .ok (.if_icmp .ne 16, 3) := by decide +kernel
theorem dX9_local_22 : decode cX9_local 22 = .ok (.aload_n 0, 1) := by decide +kernel
theorem dX9_local_23 : decode cX9_local 23 = .ok (.aload_n 0, 1) := by decide +kernel
theorem dX9_local_24 : decode cX9_local 24 = .ok (.getfield 67, 3) := by decide +kernel
theorem dX9_local_27 : decode cX9_local 27 = .ok (.iload_n 2, 1) := by decide +kernel
theorem dX9_local_28 : decode cX9_local 28 = .ok (.iaload, 1) := by decide +kernel
theorem dX9_local_29 : decode cX9_local 29 = .ok (.invokevirtual 153, 3) := by decide +kernel
theorem dX9_local_32 : decode cX9_local 32 = .ok (.goto 46, 3) := by decide +kernel
theorem dX9_local_35 : decode cX9_local 35 = .ok (.iload_n 1, 1) := by decide +kernel
theorem dX9_local_36 : decode cX9_local 36 = .ok (.iconst 4, 1) := by decide +kernel
theorem dX9_local_37 : decode cX9_local 37 = .ok (.if_icmp .ne 22, 3) := by decide +kernel
theorem dX9_local_40 : decode cX9_local 40 = .ok (.aload_n 0, 1) := by decide +kernel
theorem dX9_local_41 : decode cX9_local 41 = .ok (.getfield 67, 3) := by decide +kernel
theorem dX9_local_44 : decode cX9_local 44 = .ok (.iload_n 2, 1) := by decide +kernel
theorem dX9_local_45 : decode cX9_local 45 = .ok (.aload_n 0, 1) := by decide +kernel
theorem dX9_local_46 : decode cX9_local 46 = .ok (.iconst 0, 1) := by decide +kernel
theorem dX9_local_47 : decode cX9_local 47 = .ok (.invokevirtual 121, 3) := by decide +kernel
theorem dX9_local_50 : decode cX9_local 50 = .ok (.iastore, 1) := by decide +kernel
theorem dX9_local_51 : decode cX9_local 51 = .ok (.aload_n 0, 1) := by decide +kernel
theorem dX9_local_52 : decode cX9_local 52 = .ok (.iconst 1, 1) := by decide +kernel
theorem dX9_local_53 : decode cX9_local 53 = .ok (.invokevirtual 170, 3) := by decide +kernel
theorem dX9_local_56 : decode cX9_local 56 = .ok (.goto 22, 3) := by decide +kernel
theorem dX9_local_59 : decode cX9_local 59 = .ok (.aload_n 0, 1) := by decide +kernel
theorem dX9_local_60 : decode cX9_local 60 = .ok (.getfield 67, 3) := by decide +kernel
theorem dX9_local_63 : decode cX9_local 63 = .ok (.iload_n 2, 1) := by decide +kernel
theorem dX9_local_64 : decode cX9_local 64 = .ok (.aload_n 0, 1) := by decide +kernel
theorem dX9_local_65 : decode cX9_local 65 = .ok (.getfield 67, 3) := by decide +kernel
theorem dX9_local_68 : decode cX9_local 68 = .ok (.iload_n 2, 1) := by decide +kernel
theorem dX9_local_69 : decode cX9_local 69 = .ok (.iaload, 1) := by decide +kernel
theorem dX9_local_70 : decode cX9_local 70 = .ok (.aload_n 0, 1) := by decide +kernel
theorem dX9_local_71 : decode cX9_local 71 = .ok (.iconst 2, 1) := by decide +kernel
theorem dX9_local_72 : decode cX9_local 72 = .ok (.invokevirtual 193, 3) := by decide +kernel
theorem dX9_local_75 : decode cX9_local 75 = .ok (.iadd, 1) := by decide +kernel
theorem dX9_local_76 : decode cX9_local 76 = .ok (.i2s, 1) := by decide +kernel
theorem dX9_local_77 : decode cX9_local 77 = .ok (.iastore, 1) := by decide +kernel
theorem dX9_local_78 : decode cX9_local 78 = .ok (.aload_n 0, 1) := by decide +kernel
theorem dX9_local_79 : decode cX9_local 79 = .ok (.iload_n 1, 1) := by decide +kernel
theorem dX9_local_80 : decode cX9_local 80 = .ok (.invokestatic 115, 3) := by decide +kernel
theorem dX9_local_83 : decode cX9_local 83 = .ok (.invokevirtual 167, 3) := by decide +kernel
theorem dX9_local_86 : decode cX9_local 86 = .ok (.return_, 1) := by decide +kernel
theorem dX9_replace_0 : decode cX9_replace 0 = .ok (.aload_n 0, 1) := by decide +kernel
theorem dX9_replace_1 : decode cX9_replace 1 = .ok (.iload_n 1, 1) := by decide +kernel
theorem dX9_replace_2 : decode cX9_replace 2 = .ok (.invokevirtual 170, 3) := by decide +kernel
theorem dX9_replace_5 : decode cX9_replace 5 = .ok (.aload_n 0, 1) := by decide +kernel
theorem dX9_replace_6 : decode cX9_replace 6 = .ok (.iload_n 2, 1) := by decide +kernel
theorem dX9_replace_7 : decode cX9_replace 7 = .ok (.invokevirtual 153, 3) := by decide +kernel
theorem dX9_replace_10 : decode cX9_replace 10 = .ok (.aload_n 0, 1) := by decide +kernel
theorem dX9_replace_11 : decode cX9_replace 11 = .ok (.iconst 1, 1) := by decide +kernel
theorem dX9_replace_12 : decode cX9_replace 12 = .ok (.invokevirtual 167, 3) := by decide +kernel
theorem dX9_replace_15 : decode cX9_replace 15 = .ok (.return_, 1) := by decide +kernel
theorem dX9_transact_0 : decode cX9_transact 0 = .ok (.iload_n 1, 1) := by decide +kernel
theorem dX9_transact_1 : decode cX9_transact 1 = .ok (.bipush 37, 2) := by decide +kernel
theorem dX9_transact_3 : decode cX9_transact 3 = .ok (.if_icmp .ne 11, 3) := by decide +kernel
theorem dX9_transact_6 : decode cX9_transact 6 = .ok (.aload_n 0, 1) := by decide +kernel
theorem dX9_transact_7 : decode cX9_transact 7 = .ok (.invokevirtual 163, 3) := by decide +kernel
theorem dX9_transact_10 : decode cX9_transact 10 = .ok (.ifCond .ne 4, 3) := by decide +kernel
theorem dX9_transact_13 : decode cX9_transact 13 = .ok (.return_, 1) := by decide +kernel
theorem dX9_transact_14 : decode cX9_transact 14 = .ok (.iload_n 1, 1) := by decide +kernel
theorem dX9_transact_15 : decode cX9_transact 15 = .ok (.bipush 36, 2) := by decide +kernel
theorem dX9_transact_17 : decode cX9_transact 17 = .ok (.if_icmp .ne 37, 3) := by decide +kernel
theorem dX9_transact_20 : decode cX9_transact 20 = .ok (.aload_n 0, 1) := by decide +kernel
theorem dX9_transact_21 : decode cX9_transact 21 = .ok (.iconst 1, 1) := by decide +kernel
theorem dX9_transact_22 : decode cX9_transact 22 = .ok (.putfield 131, 3) := by decide +kernel
theorem dX9_transact_25 : decode cX9_transact 25 = .ok (.aload_n 0, 1) := by decide +kernel
theorem dX9_transact_26 : decode cX9_transact 26 = .ok (.iconst 0, 1) := by decide +kernel
theorem dX9_transact_27 : decode cX9_transact 27 = .ok (.putfield 134, 3) := by decide +kernel
theorem dX9_transact_30 : decode cX9_transact 30 = .ok (.aload_n 0, 1) := by decide +kernel
theorem dX9_transact_31 : decode cX9_transact 31 = .ok (.iconst 0, 1) := by decide +kernel
theorem dX9_transact_32 : decode cX9_transact 32 = .ok (.putfield 144, 3) := by decide +kernel
theorem dX9_transact_35 : decode cX9_transact 35 = .ok (.aload_n 0, 1) := by decide +kernel
theorem dX9_transact_36 : decode cX9_transact 36 = .ok (.aload_n 0, 1) := by decide +kernel
theorem dX9_transact_37 : decode cX9_transact 37 = .ok (.getfield 83, 3) := by decide +kernel
theorem dX9_transact_40 : decode cX9_transact 40 = .ok (.putfield 147, 3) := by decide +kernel
theorem dX9_transact_43 : decode cX9_transact 43 = .ok (.aload_n 0, 1) := by decide +kernel
theorem dX9_transact_44 : decode cX9_transact 44 = .ok (.aload_n 0, 1) := by decide +kernel
theorem dX9_transact_45 : decode cX9_transact 45 = .ok (.getfield 86, 3) := by decide +kernel
theorem dX9_transact_48 : decode cX9_transact 48 = .ok (.putfield 150, 3) := by decide +kernel
theorem dX9_transact_51 : decode cX9_transact 51 = .ok (.goto 21, 3) := by decide +kernel
theorem dX9_transact_54 : decode cX9_transact 54 = .ok (.iload_n 1, 1) := by decide +kernel
theorem dX9_transact_55 : decode cX9_transact 55 = .ok (.bipush 37, 2) := by decide +kernel
theorem dX9_transact_57 : decode cX9_transact 57 = .ok (.if_icmp .ne 11, 3) := by decide +kernel
theorem dX9_transact_60 : decode cX9_transact 60 = .ok (.aload_n 0, 1) := by decide +kernel
theorem dX9_transact_61 : decode cX9_transact 61 = .ok (.iconst 0, 1) := by decide +kernel
theorem dX9_transact_62 : decode cX9_transact 62 = .ok (.putfield 131, 3) := by decide +kernel
theorem dX9_transact_65 : decode cX9_transact 65 = .ok (.goto 7, 3) := by decide +kernel
theorem dX9_transact_68 : decode cX9_transact 68 = .ok (.aload_n 0, 1) := by decide +kernel
theorem dX9_transact_69 : decode cX9_transact 69 = .ok (.invokevirtual 196, 3) := by decide +kernel
theorem dX9_transact_72 : decode cX9_transact 72 = .ok (.aload_n 0, 1) := by decide +kernel
theorem dX9_transact_73 : decode cX9_transact 73 = .ok (.iconst 1, 1) := by decide +kernel
theorem dX9_transact_74 : decode cX9_transact 74 = .ok (.invokevirtual 167, 3) := by decide +kernel
theorem dX9_transact_77 : decode cX9_transact 77 = .ok (.return_, 1) := by decide +kernel
theorem dX9_act_0 : decode cX9_act 0 = .ok (.iload_n 1, 1) := by decide +kernel
theorem dX9_act_1 : decode cX9_act 1 = .ok (.bipush 6, 2) := by decide +kernel
theorem dX9_act_3 : decode cX9_act 3 = .ok (.if_icmp .lt 37, 3) := by decide +kernel
theorem dX9_act_6 : decode cX9_act 6 = .ok (.iload_n 1, 1) := by decide +kernel
theorem dX9_act_7 : decode cX9_act 7 = .ok (.bipush 17, 2) := by decide +kernel
theorem dX9_act_9 : decode cX9_act 9 = .ok (.if_icmp .gt 31, 3) := by decide +kernel
theorem dX9_act_12 : decode cX9_act 12 = .ok (.iload_n 1, 1) := by decide +kernel
theorem dX9_act_13 : decode cX9_act 13 = .ok (.bipush 11, 2) := by decide +kernel
theorem dX9_act_15 : decode cX9_act 15 = .ok (.if_icmp .eq 25, 3) := by decide +kernel
theorem dX9_act_18 : decode cX9_act 18 = .ok (.aload_n 0, 1) := by decide +kernel
theorem dX9_act_19 : decode cX9_act 19 = .ok (.iconst 2, 1) := by decide +kernel
theorem dX9_act_20 : decode cX9_act 20 = .ok (.iload_n 1, 1) := by decide +kernel
theorem dX9_act_21 : decode cX9_act 21 = .ok (.aload_n 0, 1) := by decide +kernel
theorem dX9_act_22 : decode cX9_act 22 = .ok (.iconst 1, 1) := by decide +kernel
theorem dX9_act_23 : decode cX9_act 23 = .ok (.invokevirtual 121, 3) := by decide +kernel
theorem dX9_act_26 : decode cX9_act 26 = .ok (.aload_n 0, 1) := by decide +kernel
theorem dX9_act_27 : decode cX9_act 27 = .ok (.iconst 0, 1) := by decide +kernel
theorem dX9_act_28 : decode cX9_act 28 = .ok (.invokevirtual 121, 3) := by decide +kernel
theorem dX9_act_31 : decode cX9_act 31 = .ok (.invokestatic 199, 3) := by decide +kernel
theorem dX9_act_34 : decode cX9_act 34 = .ok (.invokevirtual 203, 3) := by decide +kernel
theorem dX9_act_37 : decode cX9_act 37 = .ok (.goto 164, 3) := by decide +kernel
theorem dX9_act_40 : decode cX9_act 40 = .ok (.iload_n 1, 1) := by decide +kernel
theorem dX9_act_41 : decode cX9_act 41 = .ok (.bipush 21, 2) := by decide +kernel
theorem dX9_act_43 : decode cX9_act 43 = .ok (.if_icmp .lt 17, 3) := by decide +kernel
theorem dX9_act_46 : decode cX9_act 46 = .ok (.iload_n 1, 1) := by decide +kernel
theorem dX9_act_47 : decode cX9_act 47 = .ok (.bipush 23, 2) := by decide +kernel
theorem dX9_act_49 : decode cX9_act 49 = .ok (.if_icmp .gt 11, 3) := by decide +kernel
theorem dX9_act_52 : decode cX9_act 52 = .ok (.aload_n 0, 1) := by decide +kernel
theorem dX9_act_53 : decode cX9_act 53 = .ok (.iload_n 1, 1) := by decide +kernel
theorem dX9_act_54 : decode cX9_act 54 = .ok (.invokevirtual 207, 3) := by decide +kernel
theorem dX9_act_57 : decode cX9_act 57 = .ok (.goto 144, 3) := by decide +kernel
theorem dX9_act_60 : decode cX9_act 60 = .ok (.iload_n 1, 1) := by decide +kernel
theorem dX9_act_61 : decode cX9_act 61 = .ok (.iconst 3, 1) := by decide +kernel
theorem dX9_act_62 : decode cX9_act 62 = .ok (.if_icmp .lt 16, 3) := by decide +kernel
theorem dX9_act_65 : decode cX9_act 65 = .ok (.iload_n 1, 1) := by decide +kernel
theorem dX9_act_66 : decode cX9_act 66 = .ok (.iconst 5, 1) := by decide +kernel
theorem dX9_act_67 : decode cX9_act 67 = .ok (.if_icmp .gt 11, 3) := by decide +kernel
theorem dX9_act_70 : decode cX9_act 70 = .ok (.aload_n 0, 1) := by decide +kernel
theorem dX9_act_71 : decode cX9_act 71 = .ok (.iload_n 1, 1) := by decide +kernel
theorem dX9_act_72 : decode cX9_act 72 = .ok (.invokevirtual 210, 3) := by decide +kernel
theorem dX9_act_75 : decode cX9_act 75 = .ok (.goto 126, 3) := by decide +kernel
theorem dX9_act_78 : decode cX9_act 78 = .ok (.iload_n 1, 1) := by decide +kernel
theorem dX9_act_79 : decode cX9_act 79 = .ok (.bipush 36, 2) := by decide +kernel
theorem dX9_act_81 : decode cX9_act 81 = .ok (.if_icmp .lt 17, 3) := by decide +kernel
theorem dX9_act_84 : decode cX9_act 84 = .ok (.iload_n 1, 1) := by decide +kernel
theorem dX9_act_85 : decode cX9_act 85 = .ok (.bipush 38, 2) := by decide +kernel
theorem dX9_act_87 : decode cX9_act 87 = .ok (.if_icmp .gt 11, 3) := by decide +kernel
theorem dX9_act_90 : decode cX9_act 90 = .ok (.aload_n 0, 1) := by decide +kernel
theorem dX9_act_91 : decode cX9_act 91 = .ok (.iload_n 1, 1) := by decide +kernel
theorem dX9_act_92 : decode cX9_act 92 = .ok (.invokevirtual 213, 3) := by decide +kernel
theorem dX9_act_95 : decode cX9_act 95 = .ok (.goto 106, 3) := by decide +kernel
theorem dX9_act_98 : decode cX9_act 98 = .ok (.iload_n 1, 1) := by decide +kernel
theorem dX9_act_99 : decode cX9_act 99 = .ok (.bipush 24, 2) := by decide +kernel
theorem dX9_act_101 : decode cX9_act 101 = .ok (.if_icmp .eq 9, 3) := by decide +kernel
theorem dX9_act_104 : decode cX9_act 104 = .ok (.iload_n 1, 1) := by decide +kernel
theorem dX9_act_105 : decode cX9_act 105 = .ok (.bipush 27, 2) := by decide +kernel
theorem dX9_act_107 : decode cX9_act 107 = .ok (.if_icmp .ne 10, 3) := by decide +kernel
theorem dX9_act_110 : decode cX9_act 110 = .ok (.aload_n 0, 1) := by decide +kernel
theorem dX9_act_111 : decode cX9_act 111 = .ok (.invokevirtual 216, 3) := by decide +kernel
theorem dX9_act_114 : decode cX9_act 114 = .ok (.goto 87, 3) := by decide +kernel
theorem dX9_act_117 : decode cX9_act 117 = .ok (.iload_n 1, 1) := by decide +kernel
theorem dX9_act_118 : decode cX9_act 118 = .ok (.bipush 25, 2) := by decide +kernel
theorem dX9_act_120 : decode cX9_act 120 = .ok (.if_icmp .eq 9, 3) := by decide +kernel
theorem dX9_act_123 : decode cX9_act 123 = .ok (.iload_n 1, 1) := by decide +kernel
theorem dX9_act_124 : decode cX9_act 124 = .ok (.bipush 26, 2) := by decide +kernel
theorem dX9_act_126 : decode cX9_act 126 = .ok (.if_icmp .ne 21, 3) := by decide +kernel
theorem dX9_act_129 : decode cX9_act 129 = .ok (.aload_n 0, 1) := by decide +kernel
theorem dX9_act_130 : decode cX9_act 130 = .ok (.iload_n 1, 1) := by decide +kernel
theorem dX9_act_131 : decode cX9_act 131 = .ok (.bipush 26, 2) := by decide +kernel
theorem dX9_act_133 : decode cX9_act 133 = .ok (.if_icmp .ne 7, 3) := by decide +kernel
theorem dX9_act_136 : decode cX9_act 136 = .ok (.iconst 1, 1) := by decide +kernel
theorem dX9_act_137 : decode cX9_act 137 = .ok (.goto 4, 3) := by decide +kernel
theorem dX9_act_140 : decode cX9_act 140 = .ok (.iconst 0, 1) := by decide +kernel
theorem dX9_act_141 : decode cX9_act 141 = .ok (.invokevirtual 219, 3) := by decide +kernel
theorem dX9_act_144 : decode cX9_act 144 = .ok (.goto 57, 3) := by decide +kernel
theorem dX9_act_147 : decode cX9_act 147 = .ok (.iload_n 1, 1) := by decide +kernel
theorem dX9_act_148 : decode cX9_act 148 = .ok (.bipush 28, 2) := by decide +kernel
theorem dX9_act_150 : decode cX9_act 150 = .ok (.if_icmp .eq 9, 3) := by decide +kernel
theorem dX9_act_153 : decode cX9_act 153 = .ok (.iload_n 1, 1) := by decide +kernel
theorem dX9_act_154 : decode cX9_act 154 = .ok (.bipush 29, 2) := by decide +kernel
theorem dX9_act_156 : decode cX9_act 156 = .ok (.if_icmp .ne 14, 3) := by decide +kernel
theorem dX9_act_159 : decode cX9_act 159 = .ok (.aload_n 0, 1) := by decide +kernel
theorem dX9_act_160 : decode cX9_act 160 = .ok (.iload_n 1, 1) := by decide +kernel
theorem dX9_act_161 : decode cX9_act 161 = .ok (.bipush 28, 2) := by decide +kernel
theorem dX9_act_163 : decode cX9_act 163 = .ok (.isub, 1) := by decide +kernel
theorem dX9_act_164 : decode cX9_act 164 = .ok (.invokevirtual 223, 3) := by decide +kernel
theorem dX9_act_167 : decode cX9_act 167 = .ok (.goto 34, 3) := by decide +kernel
theorem dX9_act_170 : decode cX9_act 170 = .ok (.iload_n 1, 1) := by decide +kernel
theorem dX9_act_171 : decode cX9_act 171 = .ok (.bipush 31, 2) := by decide +kernel
theorem dX9_act_173 : decode cX9_act 173 = .ok (.if_icmp .ne 10, 3) := by decide +kernel
theorem dX9_act_176 : decode cX9_act 176 = .ok (.aload_n 0, 1) := by decide +kernel
theorem dX9_act_177 : decode cX9_act 177 = .ok (.invokevirtual 226, 3) := by decide +kernel
theorem dX9_act_180 : decode cX9_act 180 = .ok (.goto 21, 3) := by decide +kernel
theorem dX9_act_183 : decode cX9_act 183 = .ok (.iload_n 1, 1) := by decide +kernel
theorem dX9_act_184 : decode cX9_act 184 = .ok (.bipush 35, 2) := by decide +kernel
theorem dX9_act_186 : decode cX9_act 186 = .ok (.if_icmp .ne 10, 3) := by decide +kernel
theorem dX9_act_189 : decode cX9_act 189 = .ok (.aload_n 0, 1) := by decide +kernel
theorem dX9_act_190 : decode cX9_act 190 = .ok (.invokevirtual 229, 3) := by decide +kernel
theorem dX9_act_193 : decode cX9_act 193 = .ok (.goto 8, 3) := by decide +kernel
theorem dX9_act_196 : decode cX9_act 196 = .ok (.aload_n 0, 1) := by decide +kernel
theorem dX9_act_197 : decode cX9_act 197 = .ok (.iload_n 1, 1) := by decide +kernel
theorem dX9_act_198 : decode cX9_act 198 = .ok (.invokevirtual 232, 3) := by decide +kernel
theorem dX9_act_201 : decode cX9_act 201 = .ok (.return_, 1) := by decide +kernel
theorem dX9_actSmall_0 : decode cX9_actSmall 0 = .ok (.aload_n 0, 1) := by decide +kernel
theorem dX9_actSmall_1 : decode cX9_actSmall 1 = .ok (.invokevirtual 105, 3) := by decide +kernel
theorem dX9_actSmall_4 : decode cX9_actSmall 4 = .ok (.ifCond .le 11, 3) := by decide +kernel
theorem dX9_actSmall_7 : decode cX9_actSmall 7 = .ok (.aload_n 0, 1) := by decide +kernel
theorem dX9_actSmall_8 : decode cX9_actSmall 8 = .ok (.iconst 0, 1) := by decide +kernel
theorem dX9_actSmall_9 : decode cX9_actSmall 9 = .ok (.invokevirtual 121, 3) := by decide +kernel
theorem dX9_actSmall_12 : decode cX9_actSmall 12 = .ok (.goto 4, 3) := by decide +kernel
theorem dX9_actSmall_15 : decode cX9_actSmall 15 = .ok (.iconst 0, 1) := by decide +kernel
theorem dX9_actSmall_16 : decode cX9_actSmall 16 = .ok (.istore_n 2, 1) := by decide +kernel
theorem dX9_actSmall_17 : decode cX9_actSmall 17 = .ok (.iload_n 1, 1) := by decide +kernel
theorem dX9_actSmall_18 : decode cX9_actSmall 18 = .ok (.tableswitch 519 1 45 #[194, 194, 519, 519, 519, 519, 519, 519, 519, 519, 237, 519, 519, 519, 519, 519, 519, 247, 256, 269, 519, 519, 519, 519, 519, 519, 519, 519, 519, 300, 519, 325, 339, 358, 519, 519, 519, 519, 372, 392, 407, 419, 456, 464, 501], 194) := by decide +kernel
theorem dX9_actSmall_212 : decode cX9_actSmall 212 = .ok (.iload_n 1, 1) := by decide +kernel
theorem dX9_actSmall_213 : decode cX9_actSmall 213 = .ok (.iconst 1, 1) := by decide +kernel
theorem dX9_actSmall_214 : decode cX9_actSmall 214 = .ok (.if_icmp .ne 11, 3) := by decide +kernel
theorem dX9_actSmall_217 : decode cX9_actSmall 217 = .ok (.aload_n 0, 1) := by decide +kernel
theorem dX9_actSmall_218 : decode cX9_actSmall 218 = .ok (.iconst 1, 1) := by decide +kernel
theorem dX9_actSmall_219 : decode cX9_actSmall 219 = .ok (.invokevirtual 193, 3) := by decide +kernel
theorem dX9_actSmall_222 : decode cX9_actSmall 222 = .ok (.goto 17, 3) := by decide +kernel
theorem dX9_actSmall_225 : decode cX9_actSmall 225 = .ok (.aload_n 0, 1) := by decide +kernel
theorem dX9_actSmall_226 : decode cX9_actSmall 226 = .ok (.iconst 1, 1) := by decide +kernel
theorem dX9_actSmall_227 : decode cX9_actSmall 227 = .ok (.invokevirtual 193, 3) := by decide +kernel
theorem dX9_actSmall_230 : decode cX9_actSmall 230 = .ok (.bipush 8, 2) := by decide +kernel
theorem dX9_actSmall_232 : decode cX9_actSmall 232 = .ok (.ishl, 1) := by decide +kernel
theorem dX9_actSmall_233 : decode cX9_actSmall 233 = .ok (.aload_n 0, 1) := by decide +kernel
theorem dX9_actSmall_234 : decode cX9_actSmall 234 = .ok (.iconst 2, 1) := by decide +kernel
theorem dX9_actSmall_235 : decode cX9_actSmall 235 = .ok (.invokevirtual 111, 3) := by decide +kernel
theorem dX9_actSmall_238 : decode cX9_actSmall 238 = .ok (.ior, 1) := by decide +kernel
theorem dX9_actSmall_239 : decode cX9_actSmall 239 = .ok (.istore_n 3, 1) := by decide +kernel
theorem dX9_actSmall_240 : decode cX9_actSmall 240 = .ok (.aload_n 0, 1) := by decide +kernel
theorem dX9_actSmall_241 : decode cX9_actSmall 241 = .ok (.iload_n 1, 1) := by decide +kernel
theorem dX9_actSmall_242 : decode cX9_actSmall 242 = .ok (.iconst 1, 1) := by decide +kernel
theorem dX9_actSmall_243 : decode cX9_actSmall 243 = .ok (.iadd, 1) := by decide +kernel
theorem dX9_actSmall_244 : decode cX9_actSmall 244 = .ok (.invokevirtual 167, 3) := by decide +kernel
theorem dX9_actSmall_247 : decode cX9_actSmall 247 = .ok (.aload_n 0, 1) := by decide +kernel
theorem dX9_actSmall_248 : decode cX9_actSmall 248 = .ok (.iload_n 3, 1) := by decide +kernel
theorem dX9_actSmall_249 : decode cX9_actSmall 249 = .ok (.invokevirtual 153, 3) := by decide +kernel
theorem dX9_actSmall_252 : decode cX9_actSmall 252 = .ok (.goto 290, 3) := by decide +kernel
theorem dX9_actSmall_255 : decode cX9_actSmall 255 = .ok (.aload_n 0, 1) := by decide +kernel
theorem dX9_actSmall_256 : decode cX9_actSmall 256 = .ok (.iconst 1, 1) := by decide +kernel
theorem dX9_actSmall_257 : decode cX9_actSmall 257 = .ok (.iload_n 2, 1) := by decide +kernel
theorem dX9_actSmall_258 : decode cX9_actSmall 258 = .ok (.ineg, 1) := by decide +kernel
theorem dX9_actSmall_259 : decode cX9_actSmall 259 = .ok (.invokevirtual 203, 3) := by decide +kernel
theorem dX9_actSmall_262 : decode cX9_actSmall 262 = .ok (.goto 280, 3) := by decide +kernel
theorem dX9_actSmall_265 : decode cX9_actSmall 265 = .ok (.aload_n 0, 1) := by decide +kernel
theorem dX9_actSmall_266 : decode cX9_actSmall 266 = .ok (.iconst 0, 1) := by decide +kernel
theorem dX9_actSmall_267 : decode cX9_actSmall 267 = .ok (.iload_n 2, 1) := by decide +kernel
theorem dX9_actSmall_268 : decode cX9_actSmall 268 = .ok (.invokevirtual 203, 3) := by decide +kernel
theorem dX9_actSmall_271 : decode cX9_actSmall 271 = .ok (.goto 271, 3) := by decide +kernel
theorem dX9_actSmall_274 : decode cX9_actSmall 274 = .ok (.aload_n 0, 1) := by decide +kernel
theorem dX9_actSmall_275 : decode cX9_actSmall 275 = .ok (.iconst 1, 1) := by decide +kernel
theorem dX9_actSmall_276 : decode cX9_actSmall 276 = .ok (.invokevirtual 170, 3) := by decide +kernel
theorem dX9_actSmall_279 : decode cX9_actSmall 279 = .ok (.aload_n 0, 1) := by decide +kernel
theorem dX9_actSmall_280 : decode cX9_actSmall 280 = .ok (.iconst 1, 1) := by decide +kernel
theorem dX9_actSmall_281 : decode cX9_actSmall 281 = .ok (.invokevirtual 167, 3) := by decide +kernel
theorem dX9_actSmall_284 : decode cX9_actSmall 284 = .ok (.goto 258, 3) := by decide +kernel
theorem dX9_actSmall_287 : decode cX9_actSmall 287 = .ok (.aload_n 0, 1) := by decide +kernel
theorem dX9_actSmall_288 : decode cX9_actSmall 288 = .ok (.iconst 1, 1) := by decide +kernel
theorem dX9_actSmall_289 : decode cX9_actSmall 289 = .ok (.invokevirtual 121, 3) := by decide +kernel
theorem dX9_actSmall_292 : decode cX9_actSmall 292 = .ok (.istore 4, 2) := by decide +kernel
theorem dX9_actSmall_294 : decode cX9_actSmall 294 = .ok (.aload_n 0, 1) := by decide +kernel
theorem dX9_actSmall_295 : decode cX9_actSmall 295 = .ok (.iconst 2, 1) := by decide +kernel
theorem dX9_actSmall_296 : decode cX9_actSmall 296 = .ok (.invokevirtual 170, 3) := by decide +kernel
theorem dX9_actSmall_299 : decode cX9_actSmall 299 = .ok (.aload_n 0, 1) := by decide +kernel
theorem dX9_actSmall_300 : decode cX9_actSmall 300 = .ok (.iload_n 2, 1) := by decide +kernel
theorem dX9_actSmall_301 : decode cX9_actSmall 301 = .ok (.invokevirtual 153, 3) := by decide +kernel
theorem dX9_actSmall_304 : decode cX9_actSmall 304 = .ok (.aload_n 0, 1) := by decide +kernel
theorem dX9_actSmall_305 : decode cX9_actSmall 305 = .ok (.iload 4, 2) := by decide +kernel
theorem dX9_actSmall_307 : decode cX9_actSmall 307 = .ok (.invokevirtual 153, 3) := by decide +kernel
theorem dX9_actSmall_310 : decode cX9_actSmall 310 = .ok (.aload_n 0, 1) := by decide +kernel
theorem dX9_actSmall_311 : decode cX9_actSmall 311 = .ok (.iconst 1, 1) := by decide +kernel
theorem dX9_actSmall_312 : decode cX9_actSmall 312 = .ok (.invokevirtual 167, 3) := by decide +kernel
theorem dX9_actSmall_315 : decode cX9_actSmall 315 = .ok (.goto 227, 3) := by decide +kernel
theorem dX9_actSmall_318 : decode cX9_actSmall 318 = .ok (.aload_n 0, 1) := by decide +kernel
theorem dX9_actSmall_319 : decode cX9_actSmall 319 = .ok (.iconst 2, 1) := by decide +kernel
theorem dX9_actSmall_320 : decode cX9_actSmall 320 = .ok (.aload_n 0, 1) := by decide +kernel
theorem dX9_actSmall_321 : decode cX9_actSmall 321 = .ok (.getfield 35, 3) := by decide +kernel
theorem dX9_actSmall_324 : decode cX9_actSmall 324 = .ok (.aload_n 0, 1) := by decide +kernel
theorem dX9_actSmall_325 : decode cX9_actSmall 325 = .ok (.getfield 32, 3) := by decide +kernel
theorem dX9_actSmall_328 : decode cX9_actSmall 328 = .ok (.aload_n 0, 1) := by decide +kernel
theorem dX9_actSmall_329 : decode cX9_actSmall 329 = .ok (.iconst 1, 1) := by decide +kernel
theorem dX9_actSmall_330 : decode cX9_actSmall 330 = .ok (.invokevirtual 121, 3) := by decide +kernel
theorem dX9_actSmall_333 : decode cX9_actSmall 333 = .ok (.iaload, 1) := by decide +kernel
theorem dX9_actSmall_334 : decode cX9_actSmall 334 = .ok (.iload_n 2, 1) := by decide +kernel
theorem dX9_actSmall_335 : decode cX9_actSmall 335 = .ok (.iadd, 1) := by decide +kernel
theorem dX9_actSmall_336 : decode cX9_actSmall 336 = .ok (.iaload, 1) := by decide +kernel
theorem dX9_actSmall_337 : decode cX9_actSmall 337 = .ok (.invokevirtual 203, 3) := by decide +kernel
theorem dX9_actSmall_340 : decode cX9_actSmall 340 = .ok (.goto 202, 3) := by decide +kernel
theorem dX9_actSmall_343 : decode cX9_actSmall 343 = .ok (.aload_n 0, 1) := by decide +kernel
theorem dX9_actSmall_344 : decode cX9_actSmall 344 = .ok (.iconst 1, 1) := by decide +kernel
theorem dX9_actSmall_345 : decode cX9_actSmall 345 = .ok (.aload_n 0, 1) := by decide +kernel
theorem dX9_actSmall_346 : decode cX9_actSmall 346 = .ok (.getfield 29, 3) := by decide +kernel
theorem dX9_actSmall_349 : decode cX9_actSmall 349 = .ok (.iload_n 2, 1) := by decide +kernel
theorem dX9_actSmall_350 : decode cX9_actSmall 350 = .ok (.iaload, 1) := by decide +kernel
theorem dX9_actSmall_351 : decode cX9_actSmall 351 = .ok (.invokevirtual 203, 3) := by decide +kernel
theorem dX9_actSmall_354 : decode cX9_actSmall 354 = .ok (.goto 188, 3) := by decide +kernel
theorem dX9_actSmall_357 : decode cX9_actSmall 357 = .ok (.aload_n 0, 1) := by decide +kernel
theorem dX9_actSmall_358 : decode cX9_actSmall 358 = .ok (.iconst 0, 1) := by decide +kernel
theorem dX9_actSmall_359 : decode cX9_actSmall 359 = .ok (.aload_n 0, 1) := by decide +kernel
theorem dX9_actSmall_360 : decode cX9_actSmall 360 = .ok (.getfield 58, 3) := by decide +kernel
theorem dX9_actSmall_363 : decode cX9_actSmall 363 = .ok (.aload_n 0, 1) := by decide +kernel
theorem dX9_actSmall_364 : decode cX9_actSmall 364 = .ok (.invokevirtual 101, 3) := by decide +kernel
theorem dX9_actSmall_367 : decode cX9_actSmall 367 = .ok (.iaload, 1) := by decide +kernel
theorem dX9_actSmall_368 : decode cX9_actSmall 368 = .ok (.iconst 1, 1) := by decide +kernel
theorem dX9_actSmall_369 : decode cX9_actSmall 369 = .ok (.iadd, 1) := by decide +kernel
theorem dX9_actSmall_370 : decode cX9_actSmall 370 = .ok (.invokevirtual 203, 3) := by decide +kernel
theorem dX9_actSmall_373 : decode cX9_actSmall 373 = .ok (.goto 169, 3) := by decide +kernel
theorem dX9_actSmall_376 : decode cX9_actSmall 376 = .ok (.aload_n 0, 1) := by decide +kernel
theorem dX9_actSmall_377 : decode cX9_actSmall 377 = .ok (.iconst 1, 1) := by decide +kernel
theorem dX9_actSmall_378 : decode cX9_actSmall 378 = .ok (.aload_n 0, 1) := by decide +kernel
theorem dX9_actSmall_379 : decode cX9_actSmall 379 = .ok (.getfield 23, 3) := by decide +kernel
theorem dX9_actSmall_382 : decode cX9_actSmall 382 = .ok (.iload_n 2, 1) := by decide +kernel
theorem dX9_actSmall_383 : decode cX9_actSmall 383 = .ok (.iaload, 1) := by decide +kernel
theorem dX9_actSmall_384 : decode cX9_actSmall 384 = .ok (.invokevirtual 203, 3) := by decide +kernel
theorem dX9_actSmall_387 : decode cX9_actSmall 387 = .ok (.goto 155, 3) := by decide +kernel
theorem dX9_actSmall_390 : decode cX9_actSmall 390 = .ok (.aload_n 0, 1) := by decide +kernel
theorem dX9_actSmall_391 : decode cX9_actSmall 391 = .ok (.iconst 0, 1) := by decide +kernel
theorem dX9_actSmall_392 : decode cX9_actSmall 392 = .ok (.aload_n 0, 1) := by decide +kernel
theorem dX9_actSmall_393 : decode cX9_actSmall 393 = .ok (.getfield 131, 3) := by decide +kernel
theorem dX9_actSmall_396 : decode cX9_actSmall 396 = .ok (.ifCond .eq 7, 3) := by decide +kernel
theorem dX9_actSmall_399 : decode cX9_actSmall 399 = .ok (.iconst 1, 1) := by decide +kernel
theorem dX9_actSmall_400 : decode cX9_actSmall 400 = .ok (.goto 4, 3) := by decide +kernel
theorem dX9_actSmall_403 : decode cX9_actSmall 403 = .ok (.iconst 0, 1) := by decide +kernel
theorem dX9_actSmall_404 : decode cX9_actSmall 404 = .ok (.invokevirtual 203, 3) := by decide +kernel
theorem dX9_actSmall_407 : decode cX9_actSmall 407 = .ok (.goto 135, 3) := by decide +kernel
theorem dX9_actSmall_410 : decode cX9_actSmall 410 = .ok (.aload_n 0, 1) := by decide +kernel
theorem dX9_actSmall_411 : decode cX9_actSmall 411 = .ok (.iconst 1, 1) := by decide +kernel
theorem dX9_actSmall_412 : decode cX9_actSmall 412 = .ok (.aload_n 0, 1) := by decide +kernel
theorem dX9_actSmall_413 : decode cX9_actSmall 413 = .ok (.getfield 52, 3) := by decide +kernel
theorem dX9_actSmall_416 : decode cX9_actSmall 416 = .ok (.iload_n 2, 1) := by decide +kernel
theorem dX9_actSmall_417 : decode cX9_actSmall 417 = .ok (.iaload, 1) := by decide +kernel
theorem dX9_actSmall_418 : decode cX9_actSmall 418 = .ok (.i2b, 1) := by decide +kernel
theorem dX9_actSmall_419 : decode cX9_actSmall 419 = .ok (.invokevirtual 203, 3) := by decide +kernel
theorem dX9_actSmall_422 : decode cX9_actSmall 422 = .ok (.goto 120, 3) := by decide +kernel
theorem dX9_actSmall_425 : decode cX9_actSmall 425 = .ok (.aload_n 0, 1) := by decide +kernel
theorem dX9_actSmall_426 : decode cX9_actSmall 426 = .ok (.iconst 0, 1) := by decide +kernel
theorem dX9_actSmall_427 : decode cX9_actSmall 427 = .ok (.aload_n 0, 1) := by decide +kernel
theorem dX9_actSmall_428 : decode cX9_actSmall 428 = .ok (.getfield 95, 3) := by decide +kernel
theorem dX9_actSmall_431 : decode cX9_actSmall 431 = .ok (.invokevirtual 203, 3) := by decide +kernel
theorem dX9_actSmall_434 : decode cX9_actSmall 434 = .ok (.goto 108, 3) := by decide +kernel
theorem dX9_actSmall_437 : decode cX9_actSmall 437 = .ok (.aload_n 0, 1) := by decide +kernel
theorem dX9_actSmall_438 : decode cX9_actSmall 438 = .ok (.getfield 55, 3) := by decide +kernel
theorem dX9_actSmall_441 : decode cX9_actSmall 441 = .ok (.aload_n 0, 1) := by decide +kernel
theorem dX9_actSmall_442 : decode cX9_actSmall 442 = .ok (.getfield 141, 3) := by decide +kernel
theorem dX9_actSmall_445 : decode cX9_actSmall 445 = .ok (.iload_n 2, 1) := by decide +kernel
theorem dX9_actSmall_446 : decode cX9_actSmall 446 = .ok (.sipush 255, 3) := by decide +kernel
theorem dX9_actSmall_449 : decode cX9_actSmall 449 = .ok (.iand, 1) := by decide +kernel
theorem dX9_actSmall_450 : decode cX9_actSmall 450 = .ok (.iastore, 1) := by decide +kernel
theorem dX9_actSmall_451 : decode cX9_actSmall 451 = .ok (.aload_n 0, 1) := by decide +kernel
theorem dX9_actSmall_452 : decode cX9_actSmall 452 = .ok (.dup, 1) := by decide +kernel
theorem dX9_actSmall_453 : decode cX9_actSmall 453 = .ok (.getfield 141, 3) := by decide +kernel
theorem dX9_actSmall_456 : decode cX9_actSmall 456 = .ok (.iconst 1, 1) := by decide +kernel
theorem dX9_actSmall_457 : decode cX9_actSmall 457 = .ok (.iadd, 1) := by decide +kernel
theorem dX9_actSmall_458 : decode cX9_actSmall 458 = .ok (.putfield 141, 3) := by decide +kernel
theorem dX9_actSmall_461 : decode cX9_actSmall 461 = .ok (.aload_n 0, 1) := by decide +kernel
theorem dX9_actSmall_462 : decode cX9_actSmall 462 = .ok (.iconst 1, 1) := by decide +kernel
theorem dX9_actSmall_463 : decode cX9_actSmall 463 = .ok (.invokevirtual 170, 3) := by decide +kernel
theorem dX9_actSmall_466 : decode cX9_actSmall 466 = .ok (.aload_n 0, 1) := by decide +kernel
theorem dX9_actSmall_467 : decode cX9_actSmall 467 = .ok (.iconst 1, 1) := by decide +kernel
theorem dX9_actSmall_468 : decode cX9_actSmall 468 = .ok (.invokevirtual 167, 3) := by decide +kernel
theorem dX9_actSmall_471 : decode cX9_actSmall 471 = .ok (.goto 71, 3) := by decide +kernel
theorem dX9_actSmall_474 : decode cX9_actSmall 474 = .ok (.aload_n 0, 1) := by decide +kernel
theorem dX9_actSmall_475 : decode cX9_actSmall 475 = .ok (.iload_n 2, 1) := by decide +kernel
theorem dX9_actSmall_476 : decode cX9_actSmall 476 = .ok (.invokevirtual 185, 3) := by decide +kernel
theorem dX9_actSmall_479 : decode cX9_actSmall 479 = .ok (.goto 63, 3) := by decide +kernel
theorem dX9_actSmall_482 : decode cX9_actSmall 482 = .ok (.aload_n 0, 1) := by decide +kernel
theorem dX9_actSmall_483 : decode cX9_actSmall 483 = .ok (.getfield 64, 3) := by decide +kernel
theorem dX9_actSmall_486 : decode cX9_actSmall 486 = .ok (.aload_n 0, 1) := by decide +kernel
theorem dX9_actSmall_487 : decode cX9_actSmall 487 = .ok (.invokevirtual 101, 3) := by decide +kernel
theorem dX9_actSmall_490 : decode cX9_actSmall 490 = .ok (.iconst 1, 1) := by decide +kernel
theorem dX9_actSmall_491 : decode cX9_actSmall 491 = .ok (.iastore, 1) := by decide +kernel
theorem dX9_actSmall_492 : decode cX9_actSmall 492 = .ok (.aload_n 0, 1) := by decide +kernel
theorem dX9_actSmall_493 : decode cX9_actSmall 493 = .ok (.getfield 76, 3) := by decide +kernel
theorem dX9_actSmall_496 : decode cX9_actSmall 496 = .ok (.aload_n 0, 1) := by decide +kernel
theorem dX9_actSmall_497 : decode cX9_actSmall 497 = .ok (.invokevirtual 101, 3) := by decide +kernel
theorem dX9_actSmall_500 : decode cX9_actSmall 500 = .ok (.aload_n 0, 1) := by decide +kernel
theorem dX9_actSmall_501 : decode cX9_actSmall 501 = .ok (.invokevirtual 108, 3) := by decide +kernel
theorem dX9_actSmall_504 : decode cX9_actSmall 504 = .ok (.aload_n 0, 1) := by decide +kernel
theorem dX9_actSmall_505 : decode cX9_actSmall 505 = .ok (.iconst 1, 1) := by decide +kernel
theorem dX9_actSmall_506 : decode cX9_actSmall 506 = .ok (.invokevirtual 193, 3) := by decide +kernel
theorem dX9_actSmall_509 : decode cX9_actSmall 509 = .ok (.iadd, 1) := by decide +kernel
theorem dX9_actSmall_510 : decode cX9_actSmall 510 = .ok (.iastore, 1) := by decide +kernel
theorem dX9_actSmall_511 : decode cX9_actSmall 511 = .ok (.aload_n 0, 1) := by decide +kernel
theorem dX9_actSmall_512 : decode cX9_actSmall 512 = .ok (.iconst 2, 1) := by decide +kernel
theorem dX9_actSmall_513 : decode cX9_actSmall 513 = .ok (.invokevirtual 167, 3) := by decide +kernel
theorem dX9_actSmall_516 : decode cX9_actSmall 516 = .ok (.goto 26, 3) := by decide +kernel
theorem dX9_actSmall_519 : decode cX9_actSmall 519 = .ok (.aload_n 0, 1) := by decide +kernel
theorem dX9_actSmall_520 : decode cX9_actSmall 520 = .ok (.getfield 64, 3) := by decide +kernel
theorem dX9_actSmall_523 : decode cX9_actSmall 523 = .ok (.aload_n 0, 1) := by decide +kernel
theorem dX9_actSmall_524 : decode cX9_actSmall 524 = .ok (.invokevirtual 101, 3) := by decide +kernel
theorem dX9_actSmall_527 : decode cX9_actSmall 527 = .ok (.iconst (-1), 1) := by decide +kernel
theorem dX9_actSmall_528 : decode cX9_actSmall 528 = .ok (.iastore, 1) := by decide +kernel
theorem dX9_actSmall_529 : decode cX9_actSmall 529 = .ok (.aload_n 0, 1) := by decide +kernel
theorem dX9_actSmall_530 : decode cX9_actSmall 530 = .ok (.iconst 1, 1) := by decide +kernel
theorem dX9_actSmall_531 : decode cX9_actSmall 531 = .ok (.invokevirtual 167, 3) := by decide +kernel
theorem dX9_actSmall_534 : decode cX9_actSmall 534 = .ok (.goto 8, 3) := by decide +kernel
theorem dX9_actSmall_537 : decode cX9_actSmall 537 = .ok (.aload_n 0, 1) := by decide +kernel
theorem dX9_actSmall_538 : decode cX9_actSmall 538 = .ok (.iconst 1, 1) := by decide +kernel
theorem dX9_actSmall_539 : decode cX9_actSmall 539 = .ok (.invokevirtual 167, 3) := by decide +kernel
theorem dX9_actSmall_542 : decode cX9_actSmall 542 = .ok (.return_, 1) := by decide +kernel
theorem dX9_step_0 : decode cX9_step 0 = .ok (.aload_n 0, 1) := by decide +kernel
theorem dX9_step_1 : decode cX9_step 1 = .ok (.getfield 176, 3) := by decide +kernel
theorem dX9_step_4 : decode cX9_step 4 = .ok (.aload_n 0, 1) := by decide +kernel
theorem dX9_step_5 : decode cX9_step 5 = .ok (.getfield 173, 3) := by decide +kernel
theorem dX9_step_8 : decode cX9_step 8 = .ok (.if_icmp .ne 10, 3) := by decide +kernel
theorem dX9_step_11 : decode cX9_step 11 = .ok (.aload_n 0, 1) := by decide +kernel
theorem dX9_step_12 : decode cX9_step 12 = .ok (.bipush 10, 2) := by decide +kernel
theorem dX9_step_14 : decode cX9_step 14 = .ok (.putfield 157, 3) := by decide +kernel
theorem dX9_step_17 : decode cX9_step 17 = .ok (.return_, 1) := by decide +kernel
theorem dX9_step_18 : decode cX9_step 18 = .ok (.aload_n 0, 1) := by decide +kernel
theorem dX9_step_19 : decode cX9_step 19 = .ok (.dup, 1) := by decide +kernel
theorem dX9_step_20 : decode cX9_step 20 = .ok (.getfield 176, 3) := by decide +kernel
theorem dX9_step_23 : decode cX9_step 23 = .ok (.iconst 1, 1) := by decide +kernel
theorem dX9_step_24 : decode cX9_step 24 = .ok (.iadd, 1) := by decide +kernel
theorem dX9_step_25 : decode cX9_step 25 = .ok (.putfield 176, 3) := by decide +kernel
theorem dX9_step_28 : decode cX9_step 28 = .ok (.aload_n 0, 1) := by decide +kernel
theorem dX9_step_29 : decode cX9_step 29 = .ok (.invokevirtual 235, 3) := by decide +kernel
theorem dX9_step_32 : decode cX9_step 32 = .ok (.istore_n 1, 1) := by decide +kernel
theorem dX9_step_33 : decode cX9_step 33 = .ok (.iload_n 1, 1) := by decide +kernel
theorem dX9_step_34 : decode cX9_step 34 = .ok (.ifCond .le 11, 3) := by decide +kernel
theorem dX9_step_37 : decode cX9_step 37 = .ok (.aload_n 0, 1) := by decide +kernel
theorem dX9_step_38 : decode cX9_step 38 = .ok (.iload_n 1, 1) := by decide +kernel
theorem dX9_step_39 : decode cX9_step 39 = .ok (.invokevirtual 185, 3) := by decide +kernel
theorem dX9_step_42 : decode cX9_step 42 = .ok (.goto 12, 3) := by decide +kernel
theorem dX9_step_45 : decode cX9_step 45 = .ok (.aload_n 0, 1) := by decide +kernel
theorem dX9_step_46 : decode cX9_step 46 = .ok (.aload_n 0, 1) := by decide +kernel
theorem dX9_step_47 : decode cX9_step 47 = .ok (.iconst 0, 1) := by decide +kernel
theorem dX9_step_48 : decode cX9_step 48 = .ok (.invokevirtual 111, 3) := by decide +kernel
theorem dX9_step_51 : decode cX9_step 51 = .ok (.invokevirtual 238, 3) := by decide +kernel
theorem dX9_step_54 : decode cX9_step 54 = .ok (.return_, 1) := by decide +kernel
theorem dX9_run_0 : decode cX9_run 0 = .ok (.iload_n 1, 1) := by decide +kernel
theorem dX9_run_1 : decode cX9_run 1 = .ok (.iconst 0, 1) := by decide +kernel
theorem dX9_run_2 : decode cX9_run 2 = .ok (.bipush 15, 2) := by decide +kernel
theorem dX9_run_4 : decode cX9_run 4 = .ok (.invokestatic 89, 3) := by decide +kernel
theorem dX9_run_7 : decode cX9_run 7 = .ok (.ifCond .eq 14, 3) := by decide +kernel
theorem dX9_run_10 : decode cX9_run 10 = .ok (.iload_n 2, 1) := by decide +kernel
theorem dX9_run_11 : decode cX9_run 11 = .ok (.iconst 1, 1) := by decide +kernel
theorem dX9_run_12 : decode cX9_run 12 = .ok (.sipush 3000, 3) := by decide +kernel
theorem dX9_run_15 : decode cX9_run 15 = .ok (.invokestatic 89, 3) := by decide +kernel
theorem dX9_run_18 : decode cX9_run 18 = .ok (.ifCond .ne 5, 3) := by decide +kernel
theorem dX9_run_21 : decode cX9_run 21 = .ok (.iconst (-1), 1) := by decide +kernel
theorem dX9_run_22 : decode cX9_run 22 = .ok (.ireturn, 1) := by decide +kernel
theorem dX9_run_23 : decode cX9_run 23 = .ok (.aload_n 0, 1) := by decide +kernel
theorem dX9_run_24 : decode cX9_run 24 = .ok (.iconst 0, 1) := by decide +kernel
theorem dX9_run_25 : decode cX9_run 25 = .ok (.putfield 141, 3) := by decide +kernel
theorem dX9_run_28 : decode cX9_run 28 = .ok (.aload_n 0, 1) := by decide +kernel
theorem dX9_run_29 : decode cX9_run 29 = .ok (.iconst 0, 1) := by decide +kernel
theorem dX9_run_30 : decode cX9_run 30 = .ok (.putfield 176, 3) := by decide +kernel
theorem dX9_run_33 : decode cX9_run 33 = .ok (.aload_n 0, 1) := by decide +kernel
theorem dX9_run_34 : decode cX9_run 34 = .ok (.iconst 0, 1) := by decide +kernel
theorem dX9_run_35 : decode cX9_run 35 = .ok (.putfield 160, 3) := by decide +kernel
theorem dX9_run_38 : decode cX9_run 38 = .ok (.aload_n 0, 1) := by decide +kernel
theorem dX9_run_39 : decode cX9_run 39 = .ok (.iconst 0, 1) := by decide +kernel
theorem dX9_run_40 : decode cX9_run 40 = .ok (.putfield 182, 3) := by decide +kernel
theorem dX9_run_43 : decode cX9_run 43 = .ok (.aload_n 0, 1) := by decide +kernel
theorem dX9_run_44 : decode cX9_run 44 = .ok (.getfield 38, 3) := by decide +kernel
theorem dX9_run_47 : decode cX9_run 47 = .ok (.ifCond .eq 45, 3) := by decide +kernel
theorem dX9_run_50 : decode cX9_run 50 = .ok (.aload_n 0, 1) := by decide +kernel
theorem dX9_run_51 : decode cX9_run 51 = .ok (.iload_n 2, 1) := by decide +kernel
theorem dX9_run_52 : decode cX9_run 52 = .ok (.putfield 173, 3) := by decide +kernel
theorem dX9_run_55 : decode cX9_run 55 = .ok (.aload_n 0, 1) := by decide +kernel
theorem dX9_run_56 : decode cX9_run 56 = .ok (.iconst 0, 1) := by decide +kernel
theorem dX9_run_57 : decode cX9_run 57 = .ok (.putfield 98, 3) := by decide +kernel
theorem dX9_run_60 : decode cX9_run 60 = .ok (.aload_n 0, 1) := by decide +kernel
theorem dX9_run_61 : decode cX9_run 61 = .ok (.iconst (-1), 1) := by decide +kernel
theorem dX9_run_62 : decode cX9_run 62 = .ok (.putfield 157, 3) := by decide +kernel
theorem dX9_run_65 : decode cX9_run 65 = .ok (.aload_n 0, 1) := by decide +kernel
theorem dX9_run_66 : decode cX9_run 66 = .ok (.iload_n 1, 1) := by decide +kernel
theorem dX9_run_67 : decode cX9_run 67 = .ok (.invokevirtual 179, 3) := by decide +kernel
theorem dX9_run_70 : decode cX9_run 70 = .ok (.aload_n 0, 1) := by decide +kernel
theorem dX9_run_71 : decode cX9_run 71 = .ok (.getfield 38, 3) := by decide +kernel
theorem dX9_run_74 : decode cX9_run 74 = .ok (.ifCond .eq 18, 3) := by decide +kernel
theorem dX9_run_77 : decode cX9_run 77 = .ok (.aload_n 0, 1) := by decide +kernel
theorem dX9_run_78 : decode cX9_run 78 = .ok (.getfield 157, 3) := by decide +kernel
theorem dX9_run_81 : decode cX9_run 81 = .ok (.iconst (-1), 1) := by decide +kernel
theorem dX9_run_82 : decode cX9_run 82 = .ok (.if_icmp .ne 10, 3) := by decide +kernel
theorem dX9_run_85 : decode cX9_run 85 = .ok (.aload_n 0, 1) := by decide +kernel
theorem dX9_run_86 : decode cX9_run 86 = .ok (.invokevirtual 241, 3) := by decide +kernel
theorem dX9_run_89 : decode cX9_run 89 = .ok (.goto (-19), 3) := by decide +kernel
theorem dX9_run_92 : decode cX9_run 92 = .ok (.aload_n 0, 1) := by decide +kernel
theorem dX9_run_93 : decode cX9_run 93 = .ok (.iconst 0, 1) := by decide +kernel
theorem dX9_run_94 : decode cX9_run 94 = .ok (.putfield 95, 3) := by decide +kernel
theorem dX9_run_97 : decode cX9_run 97 = .ok (.aload_n 0, 1) := by decide +kernel
theorem dX9_run_98 : decode cX9_run 98 = .ok (.getfield 38, 3) := by decide +kernel
theorem dX9_run_101 : decode cX9_run 101 = .ok (.ifCond .ne 21, 3) := by decide +kernel
theorem dX9_run_104 : decode cX9_run 104 = .ok (.aload_n 0, 1) := by decide +kernel
theorem dX9_run_105 : decode cX9_run 105 = .ok (.iconst 0, 1) := by decide +kernel
theorem dX9_run_106 : decode cX9_run 106 = .ok (.putfield 141, 3) := by decide +kernel
theorem dX9_run_109 : decode cX9_run 109 = .ok (.aload_n 0, 1) := by decide +kernel
theorem dX9_run_110 : decode cX9_run 110 = .ok (.iconst 0, 1) := by decide +kernel
theorem dX9_run_111 : decode cX9_run 111 = .ok (.putfield 182, 3) := by decide +kernel
theorem dX9_run_114 : decode cX9_run 114 = .ok (.aload_n 0, 1) := by decide +kernel
theorem dX9_run_115 : decode cX9_run 115 = .ok (.iconst 0, 1) := by decide +kernel
theorem dX9_run_116 : decode cX9_run 116 = .ok (.putfield 160, 3) := by decide +kernel
theorem dX9_run_119 : decode cX9_run 119 = .ok (.bipush (-2), 2) := by decide +kernel
theorem dX9_run_121 : decode cX9_run 121 = .ok (.ireturn, 1) := by decide +kernel
theorem dX9_run_122 : decode cX9_run 122 = .ok (.aload_n 0, 1) := by decide +kernel
theorem dX9_run_123 : decode cX9_run 123 = .ok (.getfield 131, 3) := by decide +kernel
theorem dX9_run_126 : decode cX9_run 126 = .ok (.ifCond .eq 7, 3) := by decide +kernel
theorem dX9_run_129 : decode cX9_run 129 = .ok (.aload_n 0, 1) := by decide +kernel
theorem dX9_run_130 : decode cX9_run 130 = .ok (.invokevirtual 196, 3) := by decide +kernel
theorem dX9_run_133 : decode cX9_run 133 = .ok (.aload_n 0, 1) := by decide +kernel
theorem dX9_run_134 : decode cX9_run 134 = .ok (.getfield 157, 3) := by decide +kernel
theorem dX9_run_137 : decode cX9_run 137 = .ok (.ireturn, 1) := by decide +kernel
theorem dX9_thrown0_0 : decode cX9_thrown0 0 = .ok (.aload_n 0, 1) := by decide +kernel
theorem dX9_thrown0_1 : decode cX9_thrown0 1 = .ok (.getfield 160, 3) := by decide +kernel
theorem dX9_thrown0_4 : decode cX9_thrown0 4 = .ok (.ireturn, 1) := by decide +kernel
theorem dX9_value_0 : decode cX9_value 0 = .ok (.aload_n 0, 1) := by decide +kernel
theorem dX9_value_1 : decode cX9_value 1 = .ok (.getfield 182, 3) := by decide +kernel
theorem dX9_value_4 : decode cX9_value 4 = .ok (.ireturn, 1) := by decide +kernel
theorem dX9_reply_0 : decode cX9_reply 0 = .ok (.iload_n 1, 1) := by decide +kernel
theorem dX9_reply_1 : decode cX9_reply 1 = .ok (.ifCond .lt 20, 3) := by decide +kernel
theorem dX9_reply_4 : decode cX9_reply 4 = .ok (.iload_n 1, 1) := by decide +kernel
theorem dX9_reply_5 : decode cX9_reply 5 = .ok (.aload_n 0, 1) := by decide +kernel
theorem dX9_reply_6 : decode cX9_reply 6 = .ok (.getfield 141, 3) := by decide +kernel
theorem dX9_reply_9 : decode cX9_reply 9 = .ok (.if_icmp .ge 12, 3) := by decide +kernel
theorem dX9_reply_12 : decode cX9_reply 12 = .ok (.aload_n 0, 1) := by decide +kernel
theorem dX9_reply_13 : decode cX9_reply 13 = .ok (.getfield 55, 3) := by decide +kernel
theorem dX9_reply_16 : decode cX9_reply 16 = .ok (.iload_n 1, 1) := by decide +kernel
theorem dX9_reply_17 : decode cX9_reply 17 = .ok (.iaload, 1) := by decide +kernel
theorem dX9_reply_18 : decode cX9_reply 18 = .ok (.goto 4, 3) := by decide +kernel
theorem dX9_reply_21 : decode cX9_reply 21 = .ok (.iconst (-1), 1) := by decide +kernel
theorem dX9_reply_22 : decode cX9_reply 22 = .ok (.ireturn, 1) := by decide +kernel
theorem dX9_used_0 : decode cX9_used 0 = .ok (.aload_n 0, 1) := by decide +kernel
theorem dX9_used_1 : decode cX9_used 1 = .ok (.getfield 176, 3) := by decide +kernel
theorem dX9_used_4 : decode cX9_used 4 = .ok (.ireturn, 1) := by decide +kernel
theorem dX9_tear_0 : decode cX9_tear 0 = .ok (.aload_n 0, 1) := by decide +kernel
theorem dX9_tear_1 : decode cX9_tear 1 = .ok (.iload_n 1, 1) := by decide +kernel
theorem dX9_tear_2 : decode cX9_tear 2 = .ok (.ifCond .ge 7, 3) := by decide +kernel
theorem dX9_tear_5 : decode cX9_tear 5 = .ok (.iconst (-1), 1) := by decide +kernel
theorem dX9_tear_6 : decode cX9_tear 6 = .ok (.goto 4, 3) := by decide +kernel
theorem dX9_tear_9 : decode cX9_tear 9 = .ok (.iload_n 1, 1) := by decide +kernel
theorem dX9_tear_10 : decode cX9_tear 10 = .ok (.putfield 42, 3) := by decide +kernel
theorem dX9_tear_13 : decode cX9_tear 13 = .ok (.iconst 1, 1) := by decide +kernel
theorem dX9_tear_14 : decode cX9_tear 14 = .ok (.ireturn, 1) := by decide +kernel
theorem dX9_reset_0 : decode cX9_reset 0 = .ok (.aload_n 0, 1) := by decide +kernel
theorem dX9_reset_1 : decode cX9_reset 1 = .ok (.getfield 38, 3) := by decide +kernel
theorem dX9_reset_4 : decode cX9_reset 4 = .ok (.ifCond .eq 5, 3) := by decide +kernel
theorem dX9_reset_7 : decode cX9_reset 7 = .ok (.iconst 0, 1) := by decide +kernel
theorem dX9_reset_8 : decode cX9_reset 8 = .ok (.ireturn, 1) := by decide +kernel
theorem dX9_reset_9 : decode cX9_reset 9 = .ok (.aload_n 0, 1) := by decide +kernel
theorem dX9_reset_10 : decode cX9_reset 10 = .ok (.iconst 1, 1) := by decide +kernel
theorem dX9_reset_11 : decode cX9_reset 11 = .ok (.putfield 38, 3) := by decide +kernel
theorem dX9_reset_14 : decode cX9_reset 14 = .ok (.aload_n 0, 1) := by decide +kernel
theorem dX9_reset_15 : decode cX9_reset 15 = .ok (.getfield 131, 3) := by decide +kernel
theorem dX9_reset_18 : decode cX9_reset 18 = .ok (.ifCond .ne 5, 3) := by decide +kernel
theorem dX9_reset_21 : decode cX9_reset 21 = .ok (.iconst 0, 1) := by decide +kernel
theorem dX9_reset_22 : decode cX9_reset 22 = .ok (.ireturn, 1) := by decide +kernel
theorem dX9_reset_23 : decode cX9_reset 23 = .ok (.aload_n 0, 1) := by decide +kernel
theorem dX9_reset_24 : decode cX9_reset 24 = .ok (.invokevirtual 196, 3) := by decide +kernel
theorem dX9_reset_27 : decode cX9_reset 27 = .ok (.iconst 1, 1) := by decide +kernel
theorem dX9_reset_28 : decode cX9_reset 28 = .ok (.ireturn, 1) := by decide +kernel
theorem dX9_objects_0 : decode cX9_objects 0 = .ok (.aload_n 0, 1) := by decide +kernel
theorem dX9_objects_1 : decode cX9_objects 1 = .ok (.getfield 38, 3) := by decide +kernel
theorem dX9_objects_4 : decode cX9_objects 4 = .ok (.ifCond .eq 10, 3) := by decide +kernel
theorem dX9_objects_7 : decode cX9_objects 7 = .ok (.aload_n 0, 1) := by decide +kernel
theorem dX9_objects_8 : decode cX9_objects 8 = .ok (.getfield 83, 3) := by decide +kernel
theorem dX9_objects_11 : decode cX9_objects 11 = .ok (.goto 4, 3) := by decide +kernel
theorem dX9_objects_14 : decode cX9_objects 14 = .ok (.iconst (-1), 1) := by decide +kernel
theorem dX9_objects_15 : decode cX9_objects 15 = .ok (.ireturn, 1) := by decide +kernel
theorem dX9_told_0 : decode cX9_told 0 = .ok (.aload_n 0, 1) := by decide +kernel
theorem dX9_told_1 : decode cX9_told 1 = .ok (.getfield 38, 3) := by decide +kernel
theorem dX9_told_4 : decode cX9_told 4 = .ok (.ifCond .eq 20, 3) := by decide +kernel
theorem dX9_told_7 : decode cX9_told 7 = .ok (.aload_n 0, 1) := by decide +kernel
theorem dX9_told_8 : decode cX9_told 8 = .ok (.iload_n 1, 1) := by decide +kernel
theorem dX9_told_9 : decode cX9_told 9 = .ok (.invokevirtual 124, 3) := by decide +kernel
theorem dX9_told_12 : decode cX9_told 12 = .ok (.ifCond .eq 12, 3) := by decide +kernel
theorem dX9_told_15 : decode cX9_told 15 = .ok (.iload_n 2, 1) := by decide +kernel
theorem dX9_told_16 : decode cX9_told 16 = .ok (.iconst 0, 1) := by decide +kernel
theorem dX9_told_17 : decode cX9_told 17 = .ok (.iconst 2, 1) := by decide +kernel
theorem dX9_told_18 : decode cX9_told 18 = .ok (.invokestatic 89, 3) := by decide +kernel
theorem dX9_told_21 : decode cX9_told 21 = .ok (.ifCond .ne 5, 3) := by decide +kernel
theorem dX9_told_24 : decode cX9_told 24 = .ok (.iconst (-1), 1) := by decide +kernel
theorem dX9_told_25 : decode cX9_told 25 = .ok (.ireturn, 1) := by decide +kernel
theorem dX9_told_26 : decode cX9_told 26 = .ok (.iload_n 2, 1) := by decide +kernel
theorem dX9_told_27 : decode cX9_told 27 = .ok (.ifCond .ne 12, 3) := by decide +kernel
theorem dX9_told_30 : decode cX9_told 30 = .ok (.aload_n 0, 1) := by decide +kernel
theorem dX9_told_31 : decode cX9_told 31 = .ok (.getfield 23, 3) := by decide +kernel
theorem dX9_told_34 : decode cX9_told 34 = .ok (.iload_n 1, 1) := by decide +kernel
theorem dX9_told_35 : decode cX9_told 35 = .ok (.iaload, 1) := by decide +kernel
theorem dX9_told_36 : decode cX9_told 36 = .ok (.goto 23, 3) := by decide +kernel
theorem dX9_told_39 : decode cX9_told 39 = .ok (.iload_n 2, 1) := by decide +kernel
theorem dX9_told_40 : decode cX9_told 40 = .ok (.iconst 1, 1) := by decide +kernel
theorem dX9_told_41 : decode cX9_told 41 = .ok (.if_icmp .ne 12, 3) := by decide +kernel
theorem dX9_told_44 : decode cX9_told 44 = .ok (.aload_n 0, 1) := by decide +kernel
theorem dX9_told_45 : decode cX9_told 45 = .ok (.getfield 26, 3) := by decide +kernel
theorem dX9_told_48 : decode cX9_told 48 = .ok (.iload_n 1, 1) := by decide +kernel
theorem dX9_told_49 : decode cX9_told 49 = .ok (.iaload, 1) := by decide +kernel
theorem dX9_told_50 : decode cX9_told 50 = .ok (.goto 9, 3) := by decide +kernel
theorem dX9_told_53 : decode cX9_told 53 = .ok (.aload_n 0, 1) := by decide +kernel
theorem dX9_told_54 : decode cX9_told 54 = .ok (.getfield 29, 3) := by decide +kernel
theorem dX9_told_57 : decode cX9_told 57 = .ok (.iload_n 1, 1) := by decide +kernel
theorem dX9_told_58 : decode cX9_told 58 = .ok (.iaload, 1) := by decide +kernel
theorem dX9_told_59 : decode cX9_told 59 = .ok (.ireturn, 1) := by decide +kernel
theorem dX9_cell_0 : decode cX9_cell 0 = .ok (.aload_n 0, 1) := by decide +kernel
theorem dX9_cell_1 : decode cX9_cell 1 = .ok (.getfield 38, 3) := by decide +kernel
theorem dX9_cell_4 : decode cX9_cell 4 = .ok (.ifCond .eq 43, 3) := by decide +kernel
theorem dX9_cell_7 : decode cX9_cell 7 = .ok (.aload_n 0, 1) := by decide +kernel
theorem dX9_cell_8 : decode cX9_cell 8 = .ok (.iload_n 1, 1) := by decide +kernel
theorem dX9_cell_9 : decode cX9_cell 9 = .ok (.invokevirtual 124, 3) := by decide +kernel
theorem dX9_cell_12 : decode cX9_cell 12 = .ok (.ifCond .eq 35, 3) := by decide +kernel
theorem dX9_cell_15 : decode cX9_cell 15 = .ok (.iload_n 2, 1) := by decide +kernel
theorem dX9_cell_16 : decode cX9_cell 16 = .ok (.iconst 0, 1) := by decide +kernel
theorem dX9_cell_17 : decode cX9_cell 17 = .ok (.aload_n 0, 1) := by decide +kernel
theorem dX9_cell_18 : decode cX9_cell 18 = .ok (.getfield 29, 3) := by decide +kernel
theorem dX9_cell_21 : decode cX9_cell 21 = .ok (.iload_n 1, 1) := by decide +kernel
theorem dX9_cell_22 : decode cX9_cell 22 = .ok (.iaload, 1) := by decide +kernel
theorem dX9_cell_23 : decode cX9_cell 23 = .ok (.iconst 1, 1) := by decide +kernel
theorem dX9_cell_24 : decode cX9_cell 24 = .ok (.isub, 1) := by decide +kernel
theorem dX9_cell_25 : decode cX9_cell 25 = .ok (.invokestatic 89, 3) := by decide +kernel
theorem dX9_cell_28 : decode cX9_cell 28 = .ok (.ifCond .eq 19, 3) := by decide +kernel
theorem dX9_cell_31 : decode cX9_cell 31 = .ok (.aload_n 0, 1) := by decide +kernel
theorem dX9_cell_32 : decode cX9_cell 32 = .ok (.getfield 35, 3) := by decide +kernel
theorem dX9_cell_35 : decode cX9_cell 35 = .ok (.aload_n 0, 1) := by decide +kernel
theorem dX9_cell_36 : decode cX9_cell 36 = .ok (.getfield 32, 3) := by decide +kernel
theorem dX9_cell_39 : decode cX9_cell 39 = .ok (.iload_n 1, 1) := by decide +kernel
theorem dX9_cell_40 : decode cX9_cell 40 = .ok (.iaload, 1) := by decide +kernel
theorem dX9_cell_41 : decode cX9_cell 41 = .ok (.iload_n 2, 1) := by decide +kernel
theorem dX9_cell_42 : decode cX9_cell 42 = .ok (.iadd, 1) := by decide +kernel
theorem dX9_cell_43 : decode cX9_cell 43 = .ok (.iaload, 1) := by decide +kernel
theorem dX9_cell_44 : decode cX9_cell 44 = .ok (.goto 4, 3) := by decide +kernel
theorem dX9_cell_47 : decode cX9_cell 47 = .ok (.iconst 0, 1) := by decide +kernel
theorem dX9_cell_48 : decode cX9_cell 48 = .ok (.ireturn, 1) := by decide +kernel
theorem dL_law_0 : decode cL_law 0 = .ok (.new 7, 3) := by decide +kernel
theorem dL_law_3 : decode cL_law 3 = .ok (.dup, 1) := by decide +kernel
theorem dL_law_4 : decode cL_law 4 = .ok (.invokespecial 9, 3) := by decide +kernel
theorem dL_law_7 : decode cL_law 7 = .ok (.astore_n 1, 1) := by decide +kernel
theorem dL_law_8 : decode cL_law 8 = .ok (.new 10, 3) := by decide +kernel
theorem dL_law_11 : decode cL_law 11 = .ok (.dup, 1) := by decide +kernel
theorem dL_law_12 : decode cL_law 12 = .ok (.invokespecial 12, 3) := by decide +kernel
theorem dL_law_15 : decode cL_law 15 = .ok (.astore_n 2, 1) := by decide +kernel
theorem dL_law_16 : decode cL_law 16 = .ok (.iconst 0, 1) := by decide +kernel
theorem dL_law_17 : decode cL_law 17 = .ok (.istore_n 3, 1) := by decide +kernel
theorem dL_law_18 : decode cL_law 18 = .ok (.iload_n 3, 1) := by decide +kernel
theorem dL_law_19 : decode cL_law 19 = .ok (.aload_n 0, 1) := by decide +kernel
theorem dL_law_20 : decode cL_law 20 = .ok (.arraylength, 1) := by decide +kernel
theorem dL_law_21 : decode cL_law 21 = .ok (.iconst 5, 1) := by decide +kernel
theorem dL_law_22 : decode cL_law 22 = .ok (.isub, 1) := by decide +kernel
theorem dL_law_23 : decode cL_law 23 = .ok (.if_icmp .gt 495, 3) := by decide +kernel
theorem dL_law_26 : decode cL_law 26 = .ok (.aload_n 0, 1) := by decide +kernel
theorem dL_law_27 : decode cL_law 27 = .ok (.iload_n 3, 1) := by decide +kernel
theorem dL_law_28 : decode cL_law 28 = .ok (.iaload, 1) := by decide +kernel
theorem dL_law_29 : decode cL_law 29 = .ok (.bipush 15, 2) := by decide +kernel
theorem dL_law_31 : decode cL_law 31 = .ok (.iand, 1) := by decide +kernel
theorem dL_law_32 : decode cL_law 32 = .ok (.tableswitch 480 0 13 #[72, 105, 178, 247, 270, 303, 316, 329, 352, 365, 388, 401, 414, 447], 72) := by decide +kernel
theorem dL_law_104 : decode cL_law 104 = .ok (.aload_n 1, 1) := by decide +kernel
theorem dL_law_105 : decode cL_law 105 = .ok (.aload_n 0, 1) := by decide +kernel
theorem dL_law_106 : decode cL_law 106 = .ok (.iload_n 3, 1) := by decide +kernel
theorem dL_law_107 : decode cL_law 107 = .ok (.iconst 1, 1) := by decide +kernel
theorem dL_law_108 : decode cL_law 108 = .ok (.iadd, 1) := by decide +kernel
theorem dL_law_109 : decode cL_law 109 = .ok (.iaload, 1) := by decide +kernel
theorem dL_law_110 : decode cL_law 110 = .ok (.aload_n 0, 1) := by decide +kernel
theorem dL_law_111 : decode cL_law 111 = .ok (.iload_n 3, 1) := by decide +kernel
theorem dL_law_112 : decode cL_law 112 = .ok (.iconst 2, 1) := by decide +kernel
theorem dL_law_113 : decode cL_law 113 = .ok (.iadd, 1) := by decide +kernel
theorem dL_law_114 : decode cL_law 114 = .ok (.iaload, 1) := by decide +kernel
theorem dL_law_115 : decode cL_law 115 = .ok (.invokevirtual 13, 3) := by decide +kernel
theorem dL_law_118 : decode cL_law 118 = .ok (.aload_n 2, 1) := by decide +kernel
theorem dL_law_119 : decode cL_law 119 = .ok (.aload_n 0, 1) := by decide +kernel
theorem dL_law_120 : decode cL_law 120 = .ok (.iload_n 3, 1) := by decide +kernel
theorem dL_law_121 : decode cL_law 121 = .ok (.iconst 1, 1) := by decide +kernel
theorem dL_law_122 : decode cL_law 122 = .ok (.iadd, 1) := by decide +kernel
theorem dL_law_123 : decode cL_law 123 = .ok (.iaload, 1) := by decide +kernel
theorem dL_law_124 : decode cL_law 124 = .ok (.aload_n 0, 1) := by decide +kernel
theorem dL_law_125 : decode cL_law 125 = .ok (.iload_n 3, 1) := by decide +kernel
theorem dL_law_126 : decode cL_law 126 = .ok (.iconst 2, 1) := by decide +kernel
theorem dL_law_127 : decode cL_law 127 = .ok (.iadd, 1) := by decide +kernel
theorem dL_law_128 : decode cL_law 128 = .ok (.iaload, 1) := by decide +kernel
theorem dL_law_129 : decode cL_law 129 = .ok (.invokevirtual 17, 3) := by decide +kernel
theorem dL_law_132 : decode cL_law 132 = .ok (.if_icmp .eq 380, 3) := by decide +kernel
theorem dL_law_135 : decode cL_law 135 = .ok (.iconst 0, 1) := by decide +kernel
theorem dL_law_136 : decode cL_law 136 = .ok (.ireturn, 1) := by decide +kernel
theorem dL_law_137 : decode cL_law 137 = .ok (.aload_n 1, 1) := by decide +kernel
theorem dL_law_138 : decode cL_law 138 = .ok (.aload_n 0, 1) := by decide +kernel
theorem dL_law_139 : decode cL_law 139 = .ok (.iload_n 3, 1) := by decide +kernel
theorem dL_law_140 : decode cL_law 140 = .ok (.iconst 1, 1) := by decide +kernel
theorem dL_law_141 : decode cL_law 141 = .ok (.iadd, 1) := by decide +kernel
theorem dL_law_142 : decode cL_law 142 = .ok (.iaload, 1) := by decide +kernel
theorem dL_law_143 : decode cL_law 143 = .ok (.aload_n 0, 1) := by decide +kernel
theorem dL_law_144 : decode cL_law 144 = .ok (.iload_n 3, 1) := by decide +kernel
theorem dL_law_145 : decode cL_law 145 = .ok (.iconst 2, 1) := by decide +kernel
theorem dL_law_146 : decode cL_law 146 = .ok (.iadd, 1) := by decide +kernel
theorem dL_law_147 : decode cL_law 147 = .ok (.iaload, 1) := by decide +kernel
theorem dL_law_148 : decode cL_law 148 = .ok (.i2l, 1) := by decide +kernel
theorem dL_law_149 : decode cL_law 149 = .ok (.bipush 32, 2) := by decide +kernel
theorem dL_law_151 : decode cL_law 151 = .ok (.lshl, 1) := by decide +kernel
theorem dL_law_152 : decode cL_law 152 = .ok (.aload_n 0, 1) := by decide +kernel
theorem dL_law_153 : decode cL_law 153 = .ok (.iload_n 3, 1) := by decide +kernel
theorem dL_law_154 : decode cL_law 154 = .ok (.iconst 3, 1) := by decide +kernel
theorem dL_law_155 : decode cL_law 155 = .ok (.iadd, 1) := by decide +kernel
theorem dL_law_156 : decode cL_law 156 = .ok (.iaload, 1) := by decide +kernel
theorem dL_law_157 : decode cL_law 157 = .ok (.i2l, 1) := by decide +kernel
theorem dL_law_158 : decode cL_law 158 = .ok (.ldc2_w 18, 3) := by decide +kernel
theorem dL_law_161 : decode cL_law 161 = .ok (.land, 1) := by decide +kernel
theorem dL_law_162 : decode cL_law 162 = .ok (.lor, 1) := by decide +kernel
theorem dL_law_163 : decode cL_law 163 = .ok (.aload_n 0, 1) := by decide +kernel
theorem dL_law_164 : decode cL_law 164 = .ok (.iload_n 3, 1) := by decide +kernel
theorem dL_law_165 : decode cL_law 165 = .ok (.iconst 4, 1) := by decide +kernel
theorem dL_law_166 : decode cL_law 166 = .ok (.iadd, 1) := by decide +kernel
theorem dL_law_167 : decode cL_law 167 = .ok (.iaload, 1) := by decide +kernel
theorem dL_law_168 : decode cL_law 168 = .ok (.invokevirtual 20, 3) := by decide +kernel
theorem dL_law_171 : decode cL_law 171 = .ok (.aload_n 2, 1) := by decide +kernel
theorem dL_law_172 : decode cL_law 172 = .ok (.aload_n 0, 1) := by decide +kernel
theorem dL_law_173 : decode cL_law 173 = .ok (.iload_n 3, 1) := by decide +kernel
theorem dL_law_174 : decode cL_law 174 = .ok (.iconst 1, 1) := by decide +kernel
theorem dL_law_175 : decode cL_law 175 = .ok (.iadd, 1) := by decide +kernel
theorem dL_law_176 : decode cL_law 176 = .ok (.iaload, 1) := by decide +kernel
theorem dL_law_177 : decode cL_law 177 = .ok (.aload_n 0, 1) := by decide +kernel
theorem dL_law_178 : decode cL_law 178 = .ok (.iload_n 3, 1) := by decide +kernel
theorem dL_law_179 : decode cL_law 179 = .ok (.iconst 2, 1) := by decide +kernel
theorem dL_law_180 : decode cL_law 180 = .ok (.iadd, 1) := by decide +kernel
theorem dL_law_181 : decode cL_law 181 = .ok (.iaload, 1) := by decide +kernel
theorem dL_law_182 : decode cL_law 182 = .ok (.i2l, 1) := by decide +kernel
theorem dL_law_183 : decode cL_law 183 = .ok (.bipush 32, 2) := by decide +kernel
theorem dL_law_185 : decode cL_law 185 = .ok (.lshl, 1) := by decide +kernel
theorem dL_law_186 : decode cL_law 186 = .ok (.aload_n 0, 1) := by decide +kernel
theorem dL_law_187 : decode cL_law 187 = .ok (.iload_n 3, 1) := by decide +kernel
theorem dL_law_188 : decode cL_law 188 = .ok (.iconst 3, 1) := by decide +kernel
theorem dL_law_189 : decode cL_law 189 = .ok (.iadd, 1) := by decide +kernel
theorem dL_law_190 : decode cL_law 190 = .ok (.iaload, 1) := by decide +kernel
theorem dL_law_191 : decode cL_law 191 = .ok (.i2l, 1) := by decide +kernel
theorem dL_law_192 : decode cL_law 192 = .ok (.ldc2_w 18, 3) := by decide +kernel
theorem dL_law_195 : decode cL_law 195 = .ok (.land, 1) := by decide +kernel
theorem dL_law_196 : decode cL_law 196 = .ok (.lor, 1) := by decide +kernel
theorem dL_law_197 : decode cL_law 197 = .ok (.aload_n 0, 1) := by decide +kernel
theorem dL_law_198 : decode cL_law 198 = .ok (.iload_n 3, 1) := by decide +kernel
theorem dL_law_199 : decode cL_law 199 = .ok (.iconst 4, 1) := by decide +kernel
theorem dL_law_200 : decode cL_law 200 = .ok (.iadd, 1) := by decide +kernel
theorem dL_law_201 : decode cL_law 201 = .ok (.iaload, 1) := by decide +kernel
theorem dL_law_202 : decode cL_law 202 = .ok (.invokevirtual 24, 3) := by decide +kernel
theorem dL_law_205 : decode cL_law 205 = .ok (.if_icmp .eq 307, 3) := by decide +kernel
theorem dL_law_208 : decode cL_law 208 = .ok (.iconst 0, 1) := by decide +kernel
theorem dL_law_209 : decode cL_law 209 = .ok (.ireturn, 1) := by decide +kernel
theorem dL_law_210 : decode cL_law 210 = .ok (.aload_n 1, 1) := by decide +kernel
theorem dL_law_211 : decode cL_law 211 = .ok (.aload_n 0, 1) := by decide +kernel
theorem dL_law_212 : decode cL_law 212 = .ok (.iload_n 3, 1) := by decide +kernel
theorem dL_law_213 : decode cL_law 213 = .ok (.iconst 1, 1) := by decide +kernel
theorem dL_law_214 : decode cL_law 214 = .ok (.iadd, 1) := by decide +kernel
theorem dL_law_215 : decode cL_law 215 = .ok (.iaload, 1) := by decide +kernel
theorem dL_law_216 : decode cL_law 216 = .ok (.aload_n 0, 1) := by decide +kernel
theorem dL_law_217 : decode cL_law 217 = .ok (.iload_n 3, 1) := by decide +kernel
theorem dL_law_218 : decode cL_law 218 = .ok (.iconst 2, 1) := by decide +kernel
theorem dL_law_219 : decode cL_law 219 = .ok (.iadd, 1) := by decide +kernel
theorem dL_law_220 : decode cL_law 220 = .ok (.iaload, 1) := by decide +kernel
theorem dL_law_221 : decode cL_law 221 = .ok (.aload_n 0, 1) := by decide +kernel
theorem dL_law_222 : decode cL_law 222 = .ok (.iload_n 3, 1) := by decide +kernel
theorem dL_law_223 : decode cL_law 223 = .ok (.iconst 3, 1) := by decide +kernel
theorem dL_law_224 : decode cL_law 224 = .ok (.iadd, 1) := by decide +kernel
theorem dL_law_225 : decode cL_law 225 = .ok (.iaload, 1) := by decide +kernel
theorem dL_law_226 : decode cL_law 226 = .ok (.aload_n 0, 1) := by decide +kernel
theorem dL_law_227 : decode cL_law 227 = .ok (.iload_n 3, 1) := by decide +kernel
theorem dL_law_228 : decode cL_law 228 = .ok (.iconst 4, 1) := by decide +kernel
theorem dL_law_229 : decode cL_law 229 = .ok (.iadd, 1) := by decide +kernel
theorem dL_law_230 : decode cL_law 230 = .ok (.iaload, 1) := by decide +kernel
theorem dL_law_231 : decode cL_law 231 = .ok (.ifCond .eq 7, 3) := by decide +kernel
theorem dL_law_234 : decode cL_law 234 = .ok (.iconst 1, 1) := by decide +kernel
theorem dL_law_235 : decode cL_law 235 = .ok (.goto 4, 3) := by decide +kernel
theorem dL_law_238 : decode cL_law 238 = .ok (.iconst 0, 1) := by decide +kernel
theorem dL_law_239 : decode cL_law 239 = .ok (.invokevirtual 25, 3) := by decide +kernel
theorem dL_law_242 : decode cL_law 242 = .ok (.aload_n 2, 1) := by decide +kernel
theorem dL_law_243 : decode cL_law 243 = .ok (.aload_n 0, 1) := by decide +kernel
theorem dL_law_244 : decode cL_law 244 = .ok (.iload_n 3, 1) := by decide +kernel
theorem dL_law_245 : decode cL_law 245 = .ok (.iconst 1, 1) := by decide +kernel
theorem dL_law_246 : decode cL_law 246 = .ok (.iadd, 1) := by decide +kernel
theorem dL_law_247 : decode cL_law 247 = .ok (.iaload, 1) := by decide +kernel
theorem dL_law_248 : decode cL_law 248 = .ok (.aload_n 0, 1) := by decide +kernel
theorem dL_law_249 : decode cL_law 249 = .ok (.iload_n 3, 1) := by decide +kernel
theorem dL_law_250 : decode cL_law 250 = .ok (.iconst 2, 1) := by decide +kernel
theorem dL_law_251 : decode cL_law 251 = .ok (.iadd, 1) := by decide +kernel
theorem dL_law_252 : decode cL_law 252 = .ok (.iaload, 1) := by decide +kernel
theorem dL_law_253 : decode cL_law 253 = .ok (.aload_n 0, 1) := by decide +kernel
theorem dL_law_254 : decode cL_law 254 = .ok (.iload_n 3, 1) := by decide +kernel
theorem dL_law_255 : decode cL_law 255 = .ok (.iconst 3, 1) := by decide +kernel
theorem dL_law_256 : decode cL_law 256 = .ok (.iadd, 1) := by decide +kernel
theorem dL_law_257 : decode cL_law 257 = .ok (.iaload, 1) := by decide +kernel
theorem dL_law_258 : decode cL_law 258 = .ok (.aload_n 0, 1) := by decide +kernel
theorem dL_law_259 : decode cL_law 259 = .ok (.iload_n 3, 1) := by decide +kernel
theorem dL_law_260 : decode cL_law 260 = .ok (.iconst 4, 1) := by decide +kernel
theorem dL_law_261 : decode cL_law 261 = .ok (.iadd, 1) := by decide +kernel
theorem dL_law_262 : decode cL_law 262 = .ok (.iaload, 1) := by decide +kernel
theorem dL_law_263 : decode cL_law 263 = .ok (.ifCond .eq 7, 3) := by decide +kernel
theorem dL_law_266 : decode cL_law 266 = .ok (.iconst 1, 1) := by decide +kernel
theorem dL_law_267 : decode cL_law 267 = .ok (.goto 4, 3) := by decide +kernel
theorem dL_law_270 : decode cL_law 270 = .ok (.iconst 0, 1) := by decide +kernel
theorem dL_law_271 : decode cL_law 271 = .ok (.invokevirtual 29, 3) := by decide +kernel
theorem dL_law_274 : decode cL_law 274 = .ok (.if_icmp .eq 238, 3) := by decide +kernel
theorem dL_law_277 : decode cL_law 277 = .ok (.iconst 0, 1) := by decide +kernel
theorem dL_law_278 : decode cL_law 278 = .ok (.ireturn, 1) := by decide +kernel
theorem dL_law_279 : decode cL_law 279 = .ok (.aload_n 1, 1) := by decide +kernel
theorem dL_law_280 : decode cL_law 280 = .ok (.aload_n 0, 1) := by decide +kernel
theorem dL_law_281 : decode cL_law 281 = .ok (.iload_n 3, 1) := by decide +kernel
theorem dL_law_282 : decode cL_law 282 = .ok (.iconst 1, 1) := by decide +kernel
theorem dL_law_283 : decode cL_law 283 = .ok (.iadd, 1) := by decide +kernel
theorem dL_law_284 : decode cL_law 284 = .ok (.iaload, 1) := by decide +kernel
theorem dL_law_285 : decode cL_law 285 = .ok (.invokevirtual 30, 3) := by decide +kernel
theorem dL_law_288 : decode cL_law 288 = .ok (.aload_n 2, 1) := by decide +kernel
theorem dL_law_289 : decode cL_law 289 = .ok (.aload_n 0, 1) := by decide +kernel
theorem dL_law_290 : decode cL_law 290 = .ok (.iload_n 3, 1) := by decide +kernel
theorem dL_law_291 : decode cL_law 291 = .ok (.iconst 1, 1) := by decide +kernel
theorem dL_law_292 : decode cL_law 292 = .ok (.iadd, 1) := by decide +kernel
theorem dL_law_293 : decode cL_law 293 = .ok (.iaload, 1) := by decide +kernel
theorem dL_law_294 : decode cL_law 294 = .ok (.invokevirtual 34, 3) := by decide +kernel
theorem dL_law_297 : decode cL_law 297 = .ok (.if_icmp .eq 215, 3) := by decide +kernel
theorem dL_law_300 : decode cL_law 300 = .ok (.iconst 0, 1) := by decide +kernel
theorem dL_law_301 : decode cL_law 301 = .ok (.ireturn, 1) := by decide +kernel
theorem dL_law_302 : decode cL_law 302 = .ok (.aload_n 1, 1) := by decide +kernel
theorem dL_law_303 : decode cL_law 303 = .ok (.aload_n 0, 1) := by decide +kernel
theorem dL_law_304 : decode cL_law 304 = .ok (.iload_n 3, 1) := by decide +kernel
theorem dL_law_305 : decode cL_law 305 = .ok (.iconst 1, 1) := by decide +kernel
theorem dL_law_306 : decode cL_law 306 = .ok (.iadd, 1) := by decide +kernel
theorem dL_law_307 : decode cL_law 307 = .ok (.iaload, 1) := by decide +kernel
theorem dL_law_308 : decode cL_law 308 = .ok (.aload_n 0, 1) := by decide +kernel
theorem dL_law_309 : decode cL_law 309 = .ok (.iload_n 3, 1) := by decide +kernel
theorem dL_law_310 : decode cL_law 310 = .ok (.iconst 2, 1) := by decide +kernel
theorem dL_law_311 : decode cL_law 311 = .ok (.iadd, 1) := by decide +kernel
theorem dL_law_312 : decode cL_law 312 = .ok (.iaload, 1) := by decide +kernel
theorem dL_law_313 : decode cL_law 313 = .ok (.invokevirtual 35, 3) := by decide +kernel
theorem dL_law_316 : decode cL_law 316 = .ok (.aload_n 2, 1) := by decide +kernel
theorem dL_law_317 : decode cL_law 317 = .ok (.aload_n 0, 1) := by decide +kernel
theorem dL_law_318 : decode cL_law 318 = .ok (.iload_n 3, 1) := by decide +kernel
theorem dL_law_319 : decode cL_law 319 = .ok (.iconst 1, 1) := by decide +kernel
theorem dL_law_320 : decode cL_law 320 = .ok (.iadd, 1) := by decide +kernel
theorem dL_law_321 : decode cL_law 321 = .ok (.iaload, 1) := by decide +kernel
theorem dL_law_322 : decode cL_law 322 = .ok (.aload_n 0, 1) := by decide +kernel
theorem dL_law_323 : decode cL_law 323 = .ok (.iload_n 3, 1) := by decide +kernel
theorem dL_law_324 : decode cL_law 324 = .ok (.iconst 2, 1) := by decide +kernel
theorem dL_law_325 : decode cL_law 325 = .ok (.iadd, 1) := by decide +kernel
theorem dL_law_326 : decode cL_law 326 = .ok (.iaload, 1) := by decide +kernel
theorem dL_law_327 : decode cL_law 327 = .ok (.invokevirtual 38, 3) := by decide +kernel
theorem dL_law_330 : decode cL_law 330 = .ok (.if_icmp .eq 182, 3) := by decide +kernel
theorem dL_law_333 : decode cL_law 333 = .ok (.iconst 0, 1) := by decide +kernel
theorem dL_law_334 : decode cL_law 334 = .ok (.ireturn, 1) := by decide +kernel
theorem dL_law_335 : decode cL_law 335 = .ok (.aload_n 1, 1) := by decide +kernel
theorem dL_law_336 : decode cL_law 336 = .ok (.invokevirtual 39, 3) := by decide +kernel
theorem dL_law_339 : decode cL_law 339 = .ok (.aload_n 2, 1) := by decide +kernel
theorem dL_law_340 : decode cL_law 340 = .ok (.invokevirtual 43, 3) := by decide +kernel
theorem dL_law_343 : decode cL_law 343 = .ok (.if_icmp .eq 169, 3) := by decide +kernel
theorem dL_law_346 : decode cL_law 346 = .ok (.iconst 0, 1) := by decide +kernel
theorem dL_law_347 : decode cL_law 347 = .ok (.ireturn, 1) := by decide +kernel
theorem dL_law_348 : decode cL_law 348 = .ok (.aload_n 1, 1) := by decide +kernel
theorem dL_law_349 : decode cL_law 349 = .ok (.invokevirtual 44, 3) := by decide +kernel
theorem dL_law_352 : decode cL_law 352 = .ok (.aload_n 2, 1) := by decide +kernel
theorem dL_law_353 : decode cL_law 353 = .ok (.invokevirtual 47, 3) := by decide +kernel
theorem dL_law_356 : decode cL_law 356 = .ok (.if_icmp .eq 156, 3) := by decide +kernel
theorem dL_law_359 : decode cL_law 359 = .ok (.iconst 0, 1) := by decide +kernel
theorem dL_law_360 : decode cL_law 360 = .ok (.ireturn, 1) := by decide +kernel
theorem dL_law_361 : decode cL_law 361 = .ok (.aload_n 1, 1) := by decide +kernel
theorem dL_law_362 : decode cL_law 362 = .ok (.aload_n 0, 1) := by decide +kernel
theorem dL_law_363 : decode cL_law 363 = .ok (.iload_n 3, 1) := by decide +kernel
theorem dL_law_364 : decode cL_law 364 = .ok (.iconst 1, 1) := by decide +kernel
theorem dL_law_365 : decode cL_law 365 = .ok (.iadd, 1) := by decide +kernel
theorem dL_law_366 : decode cL_law 366 = .ok (.iaload, 1) := by decide +kernel
theorem dL_law_367 : decode cL_law 367 = .ok (.invokevirtual 48, 3) := by decide +kernel
theorem dL_law_370 : decode cL_law 370 = .ok (.aload_n 2, 1) := by decide +kernel
theorem dL_law_371 : decode cL_law 371 = .ok (.aload_n 0, 1) := by decide +kernel
theorem dL_law_372 : decode cL_law 372 = .ok (.iload_n 3, 1) := by decide +kernel
theorem dL_law_373 : decode cL_law 373 = .ok (.iconst 1, 1) := by decide +kernel
theorem dL_law_374 : decode cL_law 374 = .ok (.iadd, 1) := by decide +kernel
theorem dL_law_375 : decode cL_law 375 = .ok (.iaload, 1) := by decide +kernel
theorem dL_law_376 : decode cL_law 376 = .ok (.invokevirtual 51, 3) := by decide +kernel
theorem dL_law_379 : decode cL_law 379 = .ok (.if_icmp .eq 133, 3) := by decide +kernel
theorem dL_law_382 : decode cL_law 382 = .ok (.iconst 0, 1) := by decide +kernel
theorem dL_law_383 : decode cL_law 383 = .ok (.ireturn, 1) := by decide +kernel
theorem dL_law_384 : decode cL_law 384 = .ok (.aload_n 1, 1) := by decide +kernel
theorem dL_law_385 : decode cL_law 385 = .ok (.invokevirtual 52, 3) := by decide +kernel
theorem dL_law_388 : decode cL_law 388 = .ok (.aload_n 2, 1) := by decide +kernel
theorem dL_law_389 : decode cL_law 389 = .ok (.invokevirtual 55, 3) := by decide +kernel
theorem dL_law_392 : decode cL_law 392 = .ok (.if_icmp .eq 120, 3) := by decide +kernel
theorem dL_law_395 : decode cL_law 395 = .ok (.iconst 0, 1) := by decide +kernel
theorem dL_law_396 : decode cL_law 396 = .ok (.ireturn, 1) := by decide +kernel
theorem dL_law_397 : decode cL_law 397 = .ok (.aload_n 1, 1) := by decide +kernel
theorem dL_law_398 : decode cL_law 398 = .ok (.aload_n 0, 1) := by decide +kernel
theorem dL_law_399 : decode cL_law 399 = .ok (.iload_n 3, 1) := by decide +kernel
theorem dL_law_400 : decode cL_law 400 = .ok (.iconst 1, 1) := by decide +kernel
theorem dL_law_401 : decode cL_law 401 = .ok (.iadd, 1) := by decide +kernel
theorem dL_law_402 : decode cL_law 402 = .ok (.iaload, 1) := by decide +kernel
theorem dL_law_403 : decode cL_law 403 = .ok (.invokevirtual 56, 3) := by decide +kernel
theorem dL_law_406 : decode cL_law 406 = .ok (.aload_n 2, 1) := by decide +kernel
theorem dL_law_407 : decode cL_law 407 = .ok (.aload_n 0, 1) := by decide +kernel
theorem dL_law_408 : decode cL_law 408 = .ok (.iload_n 3, 1) := by decide +kernel
theorem dL_law_409 : decode cL_law 409 = .ok (.iconst 1, 1) := by decide +kernel
theorem dL_law_410 : decode cL_law 410 = .ok (.iadd, 1) := by decide +kernel
theorem dL_law_411 : decode cL_law 411 = .ok (.iaload, 1) := by decide +kernel
theorem dL_law_412 : decode cL_law 412 = .ok (.invokevirtual 59, 3) := by decide +kernel
theorem dL_law_415 : decode cL_law 415 = .ok (.if_icmp .eq 97, 3) := by decide +kernel
theorem dL_law_418 : decode cL_law 418 = .ok (.iconst 0, 1) := by decide +kernel
theorem dL_law_419 : decode cL_law 419 = .ok (.ireturn, 1) := by decide +kernel
theorem dL_law_420 : decode cL_law 420 = .ok (.aload_n 1, 1) := by decide +kernel
theorem dL_law_421 : decode cL_law 421 = .ok (.invokevirtual 60, 3) := by decide +kernel
theorem dL_law_424 : decode cL_law 424 = .ok (.aload_n 2, 1) := by decide +kernel
theorem dL_law_425 : decode cL_law 425 = .ok (.invokevirtual 63, 3) := by decide +kernel
theorem dL_law_428 : decode cL_law 428 = .ok (.if_icmp .eq 84, 3) := by decide +kernel
theorem dL_law_431 : decode cL_law 431 = .ok (.iconst 0, 1) := by decide +kernel
theorem dL_law_432 : decode cL_law 432 = .ok (.ireturn, 1) := by decide +kernel
theorem dL_law_433 : decode cL_law 433 = .ok (.aload_n 1, 1) := by decide +kernel
theorem dL_law_434 : decode cL_law 434 = .ok (.invokevirtual 64, 3) := by decide +kernel
theorem dL_law_437 : decode cL_law 437 = .ok (.aload_n 2, 1) := by decide +kernel
theorem dL_law_438 : decode cL_law 438 = .ok (.invokevirtual 67, 3) := by decide +kernel
theorem dL_law_441 : decode cL_law 441 = .ok (.if_icmp .eq 71, 3) := by decide +kernel
theorem dL_law_444 : decode cL_law 444 = .ok (.iconst 0, 1) := by decide +kernel
theorem dL_law_445 : decode cL_law 445 = .ok (.ireturn, 1) := by decide +kernel
theorem dL_law_446 : decode cL_law 446 = .ok (.aload_n 1, 1) := by decide +kernel
theorem dL_law_447 : decode cL_law 447 = .ok (.aload_n 0, 1) := by decide +kernel
theorem dL_law_448 : decode cL_law 448 = .ok (.iload_n 3, 1) := by decide +kernel
theorem dL_law_449 : decode cL_law 449 = .ok (.iconst 1, 1) := by decide +kernel
theorem dL_law_450 : decode cL_law 450 = .ok (.iadd, 1) := by decide +kernel
theorem dL_law_451 : decode cL_law 451 = .ok (.iaload, 1) := by decide +kernel
theorem dL_law_452 : decode cL_law 452 = .ok (.aload_n 0, 1) := by decide +kernel
theorem dL_law_453 : decode cL_law 453 = .ok (.iload_n 3, 1) := by decide +kernel
theorem dL_law_454 : decode cL_law 454 = .ok (.iconst 2, 1) := by decide +kernel
theorem dL_law_455 : decode cL_law 455 = .ok (.iadd, 1) := by decide +kernel
theorem dL_law_456 : decode cL_law 456 = .ok (.iaload, 1) := by decide +kernel
theorem dL_law_457 : decode cL_law 457 = .ok (.invokevirtual 68, 3) := by decide +kernel
theorem dL_law_460 : decode cL_law 460 = .ok (.aload_n 2, 1) := by decide +kernel
theorem dL_law_461 : decode cL_law 461 = .ok (.aload_n 0, 1) := by decide +kernel
theorem dL_law_462 : decode cL_law 462 = .ok (.iload_n 3, 1) := by decide +kernel
theorem dL_law_463 : decode cL_law 463 = .ok (.iconst 1, 1) := by decide +kernel
theorem dL_law_464 : decode cL_law 464 = .ok (.iadd, 1) := by decide +kernel
theorem dL_law_465 : decode cL_law 465 = .ok (.iaload, 1) := by decide +kernel
theorem dL_law_466 : decode cL_law 466 = .ok (.aload_n 0, 1) := by decide +kernel
theorem dL_law_467 : decode cL_law 467 = .ok (.iload_n 3, 1) := by decide +kernel
theorem dL_law_468 : decode cL_law 468 = .ok (.iconst 2, 1) := by decide +kernel
theorem dL_law_469 : decode cL_law 469 = .ok (.iadd, 1) := by decide +kernel
theorem dL_law_470 : decode cL_law 470 = .ok (.iaload, 1) := by decide +kernel
theorem dL_law_471 : decode cL_law 471 = .ok (.invokevirtual 71, 3) := by decide +kernel
theorem dL_law_474 : decode cL_law 474 = .ok (.if_icmp .eq 38, 3) := by decide +kernel
theorem dL_law_477 : decode cL_law 477 = .ok (.iconst 0, 1) := by decide +kernel
theorem dL_law_478 : decode cL_law 478 = .ok (.ireturn, 1) := by decide +kernel
theorem dL_law_479 : decode cL_law 479 = .ok (.aload_n 1, 1) := by decide +kernel
theorem dL_law_480 : decode cL_law 480 = .ok (.aload_n 0, 1) := by decide +kernel
theorem dL_law_481 : decode cL_law 481 = .ok (.iload_n 3, 1) := by decide +kernel
theorem dL_law_482 : decode cL_law 482 = .ok (.iconst 1, 1) := by decide +kernel
theorem dL_law_483 : decode cL_law 483 = .ok (.iadd, 1) := by decide +kernel
theorem dL_law_484 : decode cL_law 484 = .ok (.iaload, 1) := by decide +kernel
theorem dL_law_485 : decode cL_law 485 = .ok (.aload_n 0, 1) := by decide +kernel
theorem dL_law_486 : decode cL_law 486 = .ok (.iload_n 3, 1) := by decide +kernel
theorem dL_law_487 : decode cL_law 487 = .ok (.iconst 2, 1) := by decide +kernel
theorem dL_law_488 : decode cL_law 488 = .ok (.iadd, 1) := by decide +kernel
theorem dL_law_489 : decode cL_law 489 = .ok (.iaload, 1) := by decide +kernel
theorem dL_law_490 : decode cL_law 490 = .ok (.invokevirtual 72, 3) := by decide +kernel
theorem dL_law_493 : decode cL_law 493 = .ok (.aload_n 2, 1) := by decide +kernel
theorem dL_law_494 : decode cL_law 494 = .ok (.aload_n 0, 1) := by decide +kernel
theorem dL_law_495 : decode cL_law 495 = .ok (.iload_n 3, 1) := by decide +kernel
theorem dL_law_496 : decode cL_law 496 = .ok (.iconst 1, 1) := by decide +kernel
theorem dL_law_497 : decode cL_law 497 = .ok (.iadd, 1) := by decide +kernel
theorem dL_law_498 : decode cL_law 498 = .ok (.iaload, 1) := by decide +kernel
theorem dL_law_499 : decode cL_law 499 = .ok (.aload_n 0, 1) := by decide +kernel
theorem dL_law_500 : decode cL_law 500 = .ok (.iload_n 3, 1) := by decide +kernel
theorem dL_law_501 : decode cL_law 501 = .ok (.iconst 2, 1) := by decide +kernel
theorem dL_law_502 : decode cL_law 502 = .ok (.iadd, 1) := by decide +kernel
theorem dL_law_503 : decode cL_law 503 = .ok (.iaload, 1) := by decide +kernel
theorem dL_law_504 : decode cL_law 504 = .ok (.invokevirtual 75, 3) := by decide +kernel
theorem dL_law_507 : decode cL_law 507 = .ok (.if_icmp .eq 5, 3) := by decide +kernel
theorem dL_law_510 : decode cL_law 510 = .ok (.iconst 0, 1) := by decide +kernel
theorem dL_law_511 : decode cL_law 511 = .ok (.ireturn, 1) := by decide +kernel
theorem dL_law_512 : decode cL_law 512 = .ok (.iinc 3 5, 3) := by decide +kernel
theorem dL_law_515 : decode cL_law 515 = .ok (.goto (-497), 3) := by decide +kernel
theorem dL_law_518 : decode cL_law 518 = .ok (.iconst 1, 1) := by decide +kernel
theorem dL_law_519 : decode cL_law 519 = .ok (.ireturn, 1) := by decide +kernel
end
section
/-! THE BASE: words, worlds by an index, contracts of one form, rows in that form. -/
-- the words of the tables that pass from a caller to its callee
def BW : List Cond := lw_tbl.filter goodWord
theorem bw_of {w : Cond} (h : w ∈ lw_tbl) (hg : goodWord w = true) : w ∈ BW := List.mem_filter.mpr ⟨h, hg⟩
theorem bw_t1 {w : Cond} (i : Nat) (h : tables_1_1[i]? = some w) (hg : goodWord w = true) : w ∈ BW :=
  bw_of (List.mem_append_right _ (List.mem_append_left _ (List.mem_of_getElem? h))) hg
theorem bw_t2 {w : Cond} (i : Nat) (h : tables_1_2[i]? = some w) (hg : goodWord w = true) : w ∈ BW :=
  bw_of (List.mem_append_right _ (List.mem_append_right _ (List.mem_append_left _ (List.mem_of_getElem? h)))) hg
theorem bw_t3 {w : Cond} (i : Nat) (h : tables_1_3[i]? = some w) (hg : goodWord w = true) : w ∈ BW :=
  bw_of (List.mem_append_right _ (List.mem_append_right _ (List.mem_append_right _ (List.mem_append_left _ (List.mem_of_getElem? h))))) hg
theorem bw_t4 {w : Cond} (i : Nat) (h : tables_1_4[i]? = some w) (hg : goodWord w = true) : w ∈ BW :=
  bw_of (List.mem_append_right _ (List.mem_append_right _ (List.mem_append_right _ (List.mem_append_right _ (List.mem_of_getElem? h))))) hg
theorem bw_s {w : Cond} (h : w ∈ k2_sels lw_privs) (hg : goodWord w = true) : w ∈ BW := bw_of (List.mem_append_left _ h) hg
theorem bw_good {ws : List Cond} (h : ∀ w ∈ ws, w ∈ BW) : GoodIn BW ws := fun w hw =>
  ⟨h w hw, good_of_word (List.mem_filter.mp (h w hw)).2⟩
theorem bw_cons {c : Cond} (h : c ∈ BW) : ∀ w ∈ c :: BW, w ∈ BW := fun w hw => (List.mem_cons.mp hw).elim (fun e => e ▸ h) id
-- the state of a world: a row of numbers for each cell
abbrev St : Type := Nat → Nat → Int32
def up2 (M : St) (a j : Nat) (v : Int32) : St := fun b => if b = a then upd (M a) j v else M b
theorem up2_same (M : St) (a j : Nat) (v : Int32) : up2 M a j v a = upd (M a) j v := by simp [up2]
theorem up2_ne (M : St) {a b : Nat} (j : Nat) (v : Int32) (h : b ≠ a) : up2 M a j v b = M b := by simp [up2, h]
abbrev ix (i : Int32) : Nat := i.toNatClampNeg
def inb (i : Int32) (n : Nat) : Bool := decide (0 ≤ i.toInt ∧ i.toInt < n)
theorem inb_in {i : Int32} {n : Nat} (h : inb i n = true) : vp_in i n := vp_in_iff.mpr (of_decide_eq_true h)
theorem inb_of {i : Int32} {n : Nat} (h : vp_in i n) : inb i n = true := decide_eq_true (vp_in_iff.mp h)
theorem inb_lt {i : Int32} {n : Nat} (h : inb i n = true) : ix i < n := Nat.not_le.mp fun q => inb_in h (Or.inr q)
theorem inb_nI {k n : Nat} (h : k < n) (hn : n < 2 ^ 31) : inb (nI k) n = true := inb_of (vp_in_nI h hn)
-- the little words of which the pure functions are made
def gd {α : Type} (b : Bool) (x : Option α) : Option α := if b = true then x else none
def lt {α β : Type} (v : α) (f : α → Option β) : Option β := f v
def bn {α β : Type} (x : Option α) (f : α → Option β) : Option β := x.bind f
theorem gd_some {α : Type} {b : Bool} {x : Option α} {r : α} (h : gd b x = some r) : b = true ∧ x = some r := by
  unfold gd at h
  by_cases hb : b = true
  · rw [if_pos hb] at h; exact ⟨hb, h⟩
  · rw [if_neg hb] at h; cases h
theorem lt_some {α β : Type} {v : α} {f : α → Option β} {r : β} (h : lt v f = some r) : ∃ x, x = v ∧ f x = some r := ⟨v, rfl, h⟩
theorem bn_some {α β : Type} {x : Option α} {f : α → Option β} {r : β} (h : bn x f = some r) : ∃ y, x = some y ∧ f y = some r := by
  unfold bn at h
  cases x with
  | none => cases h
  | some y => exact ⟨y, rfl, h⟩
theorem it_t {α : Type} {c : Prop} [Decidable c] {a b r : α} (hc : c) (h : (if c then a else b) = r) : a = r := by rw [if_pos hc] at h; exact h
theorem it_f {α : Type} {c : Prop} [Decidable c] {a b r : α} (hc : ¬ c) (h : (if c then a else b) = r) : b = r := by rw [if_neg hc] at h; exact h
def isb (v : Int32) : Bool := v == 0 || v == 1
theorem isb_nar {v : Int32} (h : isb v = true) : narrow .boolean (.int v) = .int v := by
  simp only [isb, Bool.or_eq_true, beq_iff_eq] at h
  rcases h with h | h <;> subst h <;> rfl
theorem isb_vp {v : Int32} (h : isb v = true) : vp_nar .boolean v = v := by
  simp only [isb, Bool.or_eq_true, beq_iff_eq] at h
  rcases h with h | h <;> subst h <;> rfl
-- worlds by an index
def zwl (N : Nat) (q : Nat → Nat) (e : Nat → va_E) : va_W := (List.range N).map (fun k => (q k, e k))
theorem zwl_at {N : Nat} {q : Nat → Nat} {e : Nat → va_E} {k : Nat} {x : va_E} (h : k < N) (he : e k = x) : (zwl N q e)[k]? = some (q k, x) := by
  subst he; simp [zwl, h]
theorem zwl_inv {N : Nat} {q : Nat → Nat} {e : Nat → va_E} {k : Nat} {x : Nat × va_E} (h : (zwl N q e)[k]? = some x) : k < N ∧ x = (q k, e k) := by
  have hk : k < N := by
    have := (List.getElem?_eq_some_iff.mp h).1
    simpa [zwl] using this
  exact ⟨hk, Option.some.inj (h.symm.trans (zwl_at hk rfl))⟩
theorem zwl_set {N : Nat} {q : Nat → Nat} {e e' : Nat → va_E} {k : Nat} {x : va_E} (h1 : e' k = x) (h2 : ∀ j, j ≠ k → e' j = e j) : (zwl N q e).set k (q k, x) = zwl N q e' := by
  apply List.ext_getElem?
  intro j
  by_cases hj : j < N
  · by_cases hk : j = k
    · subst hk
      rw [List.getElem?_set_self (by simpa [zwl] using hj), zwl_at hj h1]
    · rw [List.getElem?_set_ne (Ne.symm hk), zwl_at hj rfl, zwl_at hj (h2 j hk)]
  · rw [List.getElem?_eq_none (by simpa [zwl] using Nat.not_lt.mp hj), List.getElem?_eq_none (by simpa [zwl] using Nat.not_lt.mp hj)]
def zQD (A : Nat → Prop) (N : Nat) (q : Nat → Nat) : Prop := (∀ i j, i < N → j < N → q i = q j → i = j) ∧ ∀ i, i < N → A (q i)
theorem zQD.D {A : Nat → Prop} {N : Nat} {q : Nat → Nat} (h : zQD A N q) (e : Nat → va_E) : va_D A (zwl N q e) := by
  refine ⟨fun i j x y hi hj hxy => ?_, fun k x hk => ?_⟩
  · obtain ⟨l1, e1⟩ := zwl_inv hi
    obtain ⟨l2, e2⟩ := zwl_inv hj
    exact h.1 i j l1 l2 (by rw [e1, e2] at hxy; exact hxy)
  · obtain ⟨l1, e1⟩ := zwl_inv hk
    rw [e1]; exact h.2 k l1
-- the world of a layout 'ent' (what a cell is, out of its row) at state M
abbrev zEnt : Type := Nat → (Nat → Int32) → va_E
def zP (D : va_G) (N : Nat) (q : Nat → Nat) (ent : zEnt) (M : St) (H : Heap) : Prop := va_P D vwCl (zwl N q (fun k => ent k (M k))) H
theorem zP.upd {D : va_G} {N : Nat} {q : Nat → Nat} {ent : zEnt} {M M1 : St} {H : Heap} {k j : Nat} {v : Int32} {x : va_E} (e : M1 = up2 M k j v) (hx : ent k (upd (M k) j v) = x) (h : va_P D vwCl ((zwl N q (fun i => ent i (M i))).set k (q k, x)) H) : zP D N q ent M1 H := by
  subst e
  unfold zP
  rw [← zwl_set (N := N) (q := q) (e := fun i => ent i (M i)) (e' := fun i => ent i (up2 M k j v i)) (k := k) (x := x) (by simp only [up2_same]; exact hx) (fun i hi => by simp only [up2_ne M j v hi])]
  exact h
/-- cell a is an int array of n places -/
def zAR (ent : zEnt) (cI : ClassId) (N a n : Nat) : Prop := a < N ∧ ∀ r, ent a r = .inl (cI, n, .inl r)
-- the classes' constants
def opNm : List String := ["NOTHING", "PUT_BYTE", "PUT_WORD", "LOCAL", "SET_LOCAL", "ADD_TO_LOCAL", "ADD", "SUBTRACT", "MULTIPLY", "DIVIDE", "REMAINDER", "NEGATE", "AND", "OR", "XOR", "SHIFT_LEFT", "SHIFT_RIGHT", "SHIFT_BITS_RIGHT", "DOUBLE", "DROP", "SWAP", "GO", "GO_IF", "GO_IF_COMPARED", "CALL_OWN", "END", "END_WITH", "CALL_OPEN", "NEW_SHORTS", "NEW_BYTES", "READ", "WRITE", "SIZE", "ROOT", "OWNER", "COPY", "OPEN", "CLOSE", "UNDO", "IS_OPEN", "COMMAND_BYTE", "COMMAND_LENGTH", "REPLY_BYTE", "THROW_VALUE", "HANDLE", "HANDLE_NOT"]
def opKind : List Int32 := [0, 0, 0, 0, 0, 0, 1, 1, 1, 1, 1, 1, 1, 1, 1, 1, 1, 1, 0, 0, 0, 2, 2, 2, 3, 3, 3, 3, 4, 4, 4, 4, 4, 4, 4, 4, 5, 5, 5, 5, 6, 6, 6, 7, 7, 7]
def opLength : List Int32 := [1, 2, 3, 2, 2, 3, 1, 1, 1, 1, 1, 1, 1, 1, 1, 1, 1, 1, 1, 1, 1, 2, 3, 3, 3, 1, 1, 3, 2, 2, 1, 1, 1, 1, 1, 1, 1, 1, 1, 1, 1, 1, 1, 1, 2, 1]
def opTakes : List Int32 := [0, 0, 0, 0, 1, 0, 2, 2, 2, 2, 2, 1, 2, 2, 2, 2, 2, 2, 1, 1, 2, 0, 1, 2, 0, 0, 1, 0, 0, 0, 2, 3, 1, 0, 1, 5, 0, 0, 0, 0, 1, 0, 1, 1, 0, 0]
def opPuts : List Int32 := [0, 1, 1, 1, 0, 0, 1, 1, 1, 1, 1, 1, 1, 1, 1, 1, 1, 1, 2, 0, 2, 0, 0, 0, 0, 0, 0, 0, 1, 1, 1, 0, 1, 1, 1, 0, 0, 0, 0, 1, 1, 1, 0, 0, 0, 0]
def opOrd : List Int32 := [0, 1, 2, 3, 4, 5, 6, 7, 8, 9, 10, 11, 12, 13, 14, 15, 16, 17, 18, 19, 20, 21, 22, 23, 24, 25, 26, 27, 28, 29, 30, 31, 32, 33, 34, 35, 36, 37, 38, 39, 40, 41, 42, 43, 44, 45]
def opSw : List Int32 := [0, 1, 2, 3, 4, 5, 9, 10, 11, 12, 13, 0, 14, 15, 16, 17, 18, 0, 6, 7, 8, 0, 0, 0, 0, 19, 20, 0, 21, 22, 23, 24, 25, 26, 27, 0, 28, 29, 0, 0, 30, 31, 0, 32, 33, 0]
def opF : List (String × String × String × List Int32) := [("CardMachine$Op", "kind", "I", opKind), ("CardMachine$Op", "length", "I", opLength), ("CardMachine$Op", "takes", "I", opTakes), ("CardMachine$Op", "puts", "I", opPuts), ("java/lang/Enum", "ordinal", "I", opOrd)]
/-- what is given of the start and stays: the constants, the array of them, the switches' table -/
def zSF (ad : Nat → Nat) (tO tS : Nat) (A : Nat → Prop) (U : State) (H : Heap) : Prop :=
  va_En "CardMachine$Op" "LCardMachine$Op;" opNm opF ad A U H ∧
  (va_Z "CardMachine" "OPS" "[LCardMachine$Op;" (.ref tO) A U H ∧ va_T (.object "CardMachine$Op") tO 46 (fun j => .ref (ad j)) A U H) ∧
  (va_Z "CardMachine$1" "$SwitchMap$CardMachine$Op" "[I" (.ref tS) A U H ∧ va_T .int tS 46 (fun j => .int (opSw.getD j 0)) A U H) ∧
  va_Nw (.fieldLinkNest "CardMachine$Processor" 112 "CardMachine" "OPS" "[LCardMachine$Op;" "CardMachine") U
theorem zSF.kept {ad : Nat → Nat} {tO tS : Nat} {A : Nat → Prop} {U : State} {H H1 : Heap} (h : zSF ad tO tS A U H) (hq : ∀ a : Nat, a < H.size → ¬ A a → H1[a]? = H[a]?) : zSF ad tO tS A U H1 :=
  ⟨h.1.kept hq, ⟨h.2.1.1.kept hq, h.2.1.2.kept hq⟩, ⟨h.2.2.1.1.kept hq, h.2.2.1.2.kept hq⟩, h.2.2.2⟩
theorem zSF.narrow {ad : Nat → Nat} {tO tS : Nat} {A B : Nat → Prop} {U : State} {H : Heap} (h : zSF ad tO tS A U H) (hAB : ∀ q, B q → A q) : zSF ad tO tS B U H :=
  ⟨h.1.narrow hAB, ⟨h.2.1.1.narrow hAB, h.2.1.2.narrow hAB⟩, ⟨h.2.2.1.1.narrow hAB, h.2.2.1.2.narrow hAB⟩, h.2.2.2⟩
theorem zSF.warm {ad : Nat → Nat} {tO tS : Nat} {A : Nat → Prop} {u U : State} {H : Heap} (hW : u.WarmedH U.vm) (h : zSF ad tO tS A u H) : zSF ad tO tS A U H :=
  ⟨va_En.moved hW.alike h.1, ⟨va_Z.moved hW.alike h.2.1.1, va_T.moved hW.alike h.2.1.2⟩, ⟨va_Z.moved hW.alike h.2.2.1.1, va_T.moved hW.alike h.2.2.1.2⟩, va_Nw.warmF hW h.2.2.2⟩
theorem zSF.call {ad : Nat → Nat} {tO tS : Nat} {A : Nat → Prop} {U : State} {g : JFrame} {mk : MethodId} {a : Array Value} (h : zSF ad tO tS A U U.heap) : zSF ad tO tS A (U.calling g mk a) (U.calling g mk a).heap :=
  ⟨va_En.moved (u := U) (U := U.calling g mk a) (Vm.Alike.refl U.vm) h.1, ⟨va_Z.moved (u := U) (U := U.calling g mk a) (Vm.Alike.refl U.vm) h.2.1.1, va_T.moved (u := U) (U := U.calling g mk a) (Vm.Alike.refl U.vm) h.2.1.2⟩, ⟨va_Z.moved (u := U) (U := U.calling g mk a) (Vm.Alike.refl U.vm) h.2.2.1.1, va_T.moved (u := U) (U := U.calling g mk a) (Vm.Alike.refl U.vm) h.2.2.1.2⟩, va_Nw.same rfl rfl h.2.2.2⟩
-- the classes of arrays
def zT (cI cZ cM cF : ClassId) : List (ClassId × FieldType) := [(cI, .int), (cZ, .boolean), (cM, .object "CardMachine$Method"), (cF, .object "CardMachine$Frame")]
-- a world's numbers that never change: class ids, the arrays' classes, the constants' addresses
abbrev zG : Type := va_G × (ClassId × ClassId × ClassId × ClassId) × ((Nat → Nat) × Nat × Nat)
def zKS (G : zG) (A : Nat → Prop) (U : State) : Prop := va_K G.1 vwCl (zT G.2.1.1 G.2.1.2.1 G.2.1.2.2.1 G.2.1.2.2.2) U ∧ zSF G.2.2.1 G.2.2.2.1 G.2.2.2.2 A U U.heap
-- the contracts of one form
def zPre (G : zG) (A : Nat → Prop) (P0 : Heap → Prop) : State → Prop := fun U => P0 U.heap ∧ zKS G A U
def zKI (l : Launch) (y : MethodName) (cc : ByteArray) (nL : Nat) (ret : Option FieldType) (fr lo : Nat) (G : zG) (A : Nat → Prop) (P0 : Heap → Prop) (as : List Value) (r : Int32) (P1 : Heap → Prop) : Prop :=
  Met l y (Cond.code y cc nL ret :: BW) { frames := fr, cells := 0, slots := 0, locals := lo } (va_Pc as (zPre G A P0)) (va_Qi (fun (r' : Int32) (_ : Unit) => r' = r) (fun _ U => P1 U.heap) A) 0 0 A
def zKV (l : Launch) (y : MethodName) (cc : ByteArray) (nL : Nat) (fr lo : Nat) (G : zG) (A : Nat → Prop) (P0 : Heap → Prop) (as : List Value) (P1 : Heap → Prop) : Prop :=
  Met l y (Cond.code y cc nL none :: BW) { frames := fr, cells := 0, slots := 0, locals := lo } (va_Pc as (zPre G A P0)) (va_Qv (fun (_ : Unit) => True) (fun _ U => P1 U.heap) A) 0 0 A
theorem zPre_blind (G : zG) (A : Nat → Prop) (P0 : Heap → Prop) (as : List Value) : FrameBlind (va_Pc as (zPre G A P0)) := fun a U g mk h =>
  ⟨h.1, h.2.1, va_K.moved (u := U) (U := U.calling g mk a) (Vm.Alike.refl U.vm) h.2.2.1, h.2.2.2.call⟩
/-- what a method's body stands on -/
def zFx (p : Program) (s : State) (m : MethodId) (args : Array Value) (meth : Method) (c : Code) (cc : ByteArray) (own : String) (nL : Nat) (ret : Option FieldType) (G : zG) (A : Nat → Prop) : Prop :=
  p.tables.exec = Jvm.exec ∧ c.code = cc ∧ c.maxLocals = nL ∧ s.vm.findClass own = some m.cls ∧ (∀ w ∈ BW, w.before args s = true) ∧ meth.locks = false ∧ meth.sig.returnType = ret ∧ zKS G A s
theorem zFx.ws {p : Program} {s : State} {m : MethodId} {args : Array Value} {meth : Method} {c : Code} {cc : ByteArray} {own : String} {nL : Nat} {ret : Option FieldType} {G : zG} {A : Nat → Prop} (F : zFx p s m args meth c cc own nL ret G A) {w : Cond} (h : w ∈ BW) : w.before args s = true := F.2.2.2.2.1 w h
theorem zFx.K {p : Program} {s : State} {m : MethodId} {args : Array Value} {meth : Method} {c : Code} {cc : ByteArray} {own : String} {nL : Nat} {ret : Option FieldType} {G : zG} {A : Nat → Prop} (F : zFx p s m args meth c cc own nL ret G A) : va_K G.1 vwCl (zT G.2.1.1 G.2.1.2.1 G.2.1.2.2.1 G.2.1.2.2.2) s := F.2.2.2.2.2.2.2.1
theorem zFx.S {p : Program} {s : State} {m : MethodId} {args : Array Value} {meth : Method} {c : Code} {cc : ByteArray} {own : String} {nL : Nat} {ret : Option FieldType} {G : zG} {A : Nat → Prop} (F : zFx p s m args meth c cc own nL ret G A) : zSF G.2.2.1 G.2.2.2.1 G.2.2.2.2 A s s.heap := F.2.2.2.2.2.2.2.2
theorem zKI_of {l : Launch} {y : MethodName} {cc : ByteArray} {nL : Nat} {ret : Option FieldType} {fr lo : Nat} {G : zG} {A : Nat → Prop} {P0 : Heap → Prop} {as : List Value} {r : Int32} {P1 : Heap → Prop} (hy : plainName y.cls = true) (hL : (lg_sl as).length ≤ nL)
    (body : ∀ (p : Program) (e : Env) (s : State) (m : MethodId) (args : Array Value) (below : List Frame) (meth : Method) (c : Code) (H : Heap) (ls : Array Slot), zFx p s m args meth c cc y.cls nL ret G A → H = s.heap → P0 H → lv_has ls nL (lv_args 0 as) →
      W p l e { frames := fr, cells := 0, slots := 0, locals := lo } s m args below meth c H [] 0 0 (MQ below (va_Qi (fun (r' : Int32) (_ : Unit) => r' = r) (fun _ U => P1 U.heap) A) args s 0 0 A) (F0 m 0 ls [])) : zKI l y cc nL ret fr lo G A P0 as r P1 := by
  refine Met.ofW (cc := cc) (maxL := nL) (ret := ret) hy rfl ?_
  intro p e s m args below meth c s₁ B hml hv
  obtain ⟨rfl, hP, hKS⟩ := hv
  have hts := atoms_spec (ws := Cond.code y cc nL ret :: BW) B.pre
  have hown : s.vm.findClass y.cls = some m.cls := findClass_of_methodNamed B.named
  have hl := lv_entry as (n := nL) hL
  rw [lg_entry_eq]
  exact body p e s m _ below meth c s.heap _ ⟨B.exec, B.bytes, hml, hown, fun w hw => hts w (List.mem_cons_of_mem _ hw), B.notSynchronized, B.returns, hKS⟩ rfl hP hl
theorem zKV_of {l : Launch} {y : MethodName} {cc : ByteArray} {nL : Nat} {fr lo : Nat} {G : zG} {A : Nat → Prop} {P0 : Heap → Prop} {as : List Value} {P1 : Heap → Prop} (hy : plainName y.cls = true) (hL : (lg_sl as).length ≤ nL)
    (body : ∀ (p : Program) (e : Env) (s : State) (m : MethodId) (args : Array Value) (below : List Frame) (meth : Method) (c : Code) (H : Heap) (ls : Array Slot), zFx p s m args meth c cc y.cls nL none G A → H = s.heap → P0 H → lv_has ls nL (lv_args 0 as) →
      W p l e { frames := fr, cells := 0, slots := 0, locals := lo } s m args below meth c H [] 0 0 (MQ below (va_Qv (fun (_ : Unit) => True) (fun _ U => P1 U.heap) A) args s 0 0 A) (F0 m 0 ls [])) : zKV l y cc nL fr lo G A P0 as P1 := by
  refine Met.ofW (cc := cc) (maxL := nL) (ret := none) hy rfl ?_
  intro p e s m args below meth c s₁ B hml hv
  obtain ⟨rfl, hP, hKS⟩ := hv
  have hts := atoms_spec (ws := Cond.code y cc nL none :: BW) B.pre
  have hown : s.vm.findClass y.cls = some m.cls := findClass_of_methodNamed B.named
  have hl := lv_entry as (n := nL) hL
  rw [lg_entry_eq]
  exact body p e s m _ below meth c s.heap _ ⟨B.exec, B.bytes, hml, hown, fun w hw => hts w (List.mem_cons_of_mem _ hw), B.notSynchronized, B.returns, hKS⟩ rfl hP hl
-- what the tables say of a call
def zWV (own : String) (idx : Nat) (C : String) (y : MethodName) (cc : ByteArray) (nL : Nat) (ret : Option FieldType) (n : Nat) : Prop :=
  (Cond.methodLink own idx y ∈ BW ∧ Cond.instanceMethod y ∈ BW ∧ Cond.selects C y y ∈ BW ∧ Cond.initialized C ∈ BW ∧ Cond.code y cc nL ret ∈ BW) ∧ (y.cls = C ∧ y.cls ≠ "java/lang/invoke/MethodHandle" ∧ y.cls ≠ "java/lang/invoke/VarHandle" ∧ (parseMethodDescriptor y.desc).map (fun d => d.parameters.length) = some n)
def zWS (own : String) (idx : Nat) (y : MethodName) (cc : ByteArray) (nL : Nat) (ret : Option FieldType) (n : Nat) : Prop :=
  (Cond.methodLink own idx y ∈ BW ∧ Cond.static y ∈ BW ∧ Cond.initialized y.cls ∈ BW ∧ Cond.code y cc nL ret ∈ BW) ∧ (y.cls ≠ "java/lang/invoke/MethodHandle" ∧ y.cls ≠ "java/lang/invoke/VarHandle" ∧ (parseMethodDescriptor y.desc).map (fun d => d.parameters.length) = some n)
theorem zWV.good {own : String} {idx : Nat} {C : String} {y : MethodName} {cc : ByteArray} {nL : Nat} {ret : Option FieldType} {n : Nat} (h : zWV own idx C y cc nL ret n) : GoodIn BW (wsV own idx C y (Cond.code y cc nL ret :: BW)) := by
  refine bw_good fun w hw => ?_
  obtain ⟨⟨h1, h2, h3, h4, h5⟩, -⟩ := h
  simp only [wsV, List.cons_append, List.nil_append, List.mem_cons] at hw
  rcases hw with e | e | e | e | e | e
  · rw [e]; exact h1
  · rw [e]; exact h2
  · rw [e]; exact h3
  · rw [e]; exact h4
  · rw [e]; exact h5
  · exact e
theorem zWS.good {own : String} {idx : Nat} {y : MethodName} {cc : ByteArray} {nL : Nat} {ret : Option FieldType} {n : Nat} (h : zWS own idx y cc nL ret n) : GoodIn BW (va_wsS own idx y (Cond.code y cc nL ret :: BW)) := by
  refine bw_good fun w hw => ?_
  obtain ⟨⟨h1, h2, h3, h5⟩, -⟩ := h
  simp only [va_wsS, List.cons_append, List.nil_append, List.mem_cons] at hw
  rcases hw with e | e | e | e | e
  · rw [e]; exact h1
  · rw [e]; exact h2
  · rw [e]; exact h3
  · rw [e]; exact h5
  · exact e
end
section
/-! ROWS of the one form. -/
section ZR
variable {p : Program} {l : Launch} {e : Env} {R : Room} {s : State} {m : MethodId} {args : Array Value} {below : List Frame} {meth : Method} {c : Code} {H : Heap} {locs : List Loc} {cells slots : Nat} {Q : State → Prop}
variable {cc : ByteArray} {own : String} {nL : Nat} {ret : Option FieldType} {G : zG} {A : Nat → Prop} {pc : Nat} {ls : Array Slot} {rest : List Value}
variable {N : Nat} {q : Nat → Nat} {ent : zEnt} {M M1 : St}
-- the ends
theorem x_iret {v r : Int32} {P1 : Heap → Prop} {ty : FieldType} (F : zFx p s m args meth c cc own nL (some ty) G A) (hn : narrow ty (.int v) = .int v) (hv : v = r) (hP : P1 H) (hS : va_S A s.heap H locs) (hdg : decode cc pc = .ok (.ireturn, 1)) :
    W p l e R s m args below meth c H locs 0 0 (MQ below (va_Qi (fun (r' : Int32) (_ : Unit) => r' = r) (fun _ U => P1 U.heap) A) args s 0 0 A) (F0 m pc ls [.int v]) :=
  W.zret F.1 F.2.1 F.2.2.2.2.2.2.1 hn (fun t ht _ => ⟨⟨v, (), rfl, hv, by show P1 t.heap; rw [ht]; exact hP⟩, hS.F ht⟩) hS.2.2 hdg (hlocks := F.2.2.2.2.2.1)
theorem x_vret {P1 : Heap → Prop} (F : zFx p s m args meth c cc own nL none G A) (hP : P1 H) (hS : va_S A s.heap H locs) (hdg : decode cc pc = .ok (.return_, 1)) :
    W p l e R s m args below meth c H locs 0 0 (MQ below (va_Qv (fun (_ : Unit) => True) (fun _ U => P1 U.heap) A) args s 0 0 A) (F0 m pc ls []) :=
  W.vret F.1 F.2.1 F.2.2.2.2.2.2.1 (fun t ht _ => ⟨⟨(), rfl, trivial, by show P1 t.heap; rw [ht]; exact hP⟩, hS.F ht⟩) hS.2.2 hdg (hlocks := F.2.2.2.2.2.1)
-- reading and writing int arrays
theorem x_iald {a n : Nat} {i : Int32} (F : zFx p s m args meth c cc own nL ret G A) (hP : zP G.1 N q ent M H) (ha : zAR ent G.2.1.1 N a n) (hi : inb i n = true) (hdg : decode cc pc = .ok (.iaload, 1))
    (kk : W p l e R s m args below meth c H locs cells slots Q (F0 m (pc + 1) ls (.int (M a (ix i)) :: rest))) : W p l e R s m args below meth c H locs cells slots Q (F0 m pc ls (.int i :: .ref (q a) :: rest)) :=
  va_iald F.1 F.2.1 F.K hP a 0 (zwl_at ha.1 (ha.2 _)) rfl (inb_in hi) hdg kk
theorem x_iast {a n : Nat} {i x : Int32} (F : zFx p s m args meth c cc own nL ret G A) (hq : zQD A N q) (hP : zP G.1 N q ent M H) (hS : va_S A s.heap H locs) (ha : zAR ent G.2.1.1 N a n) (hi : inb i n = true) (he : M1 = up2 M a (ix i) x) (hdg : decode cc pc = .ok (.iastore, 1))
    (kk : ∀ (H1 : Heap) (locs1 : List Loc), zP G.1 N q ent M1 H1 → va_S A s.heap H1 locs1 → W p l e R s m args below meth c H1 locs1 cells slots Q (F0 m (pc + 1) ls rest)) : W p l e R s m args below meth c H locs cells slots Q (F0 m pc ls (.int x :: .int i :: .ref (q a) :: rest)) :=
  va_iast F.1 F.2.1 F.K hP (hq.D _) hS a 0 (zwl_at ha.1 (ha.2 _)) rfl (inb_in hi) hdg (fun H1 locs1 h1 _ h3 => kk H1 locs1 (zP.upd he (ha.2 _) h1) h3)
theorem x_alen {a n : Nat} {v : Int32} (F : zFx p s m args meth c cc own nL ret G A) (hP : zP G.1 N q ent M H) (ha : zAR ent G.2.1.1 N a n) (hv : nI n = v) (hdg : decode cc pc = .ok (.arraylength, 1))
    (kk : W p l e R s m args below meth c H locs cells slots Q (F0 m (pc + 1) ls (.int v :: rest))) : W p l e R s m args below meth c H locs cells slots Q (F0 m pc ls (.ref (q a) :: rest)) :=
  va_alen F.1 F.2.1 F.K hP a 0 (zwl_at ha.1 (ha.2 (M a))) (ty := .int) rfl hv hdg kk
-- boolean arrays
def zAZ (ent : zEnt) (cZ : ClassId) (N a n : Nat) : Prop := a < N ∧ ∀ r, ent a r = .inl (cZ, n, .inl r)
theorem x_zald {a n : Nat} {i : Int32} (F : zFx p s m args meth c cc own nL ret G A) (hP : zP G.1 N q ent M H) (ha : zAZ ent G.2.1.2.1 N a n) (hi : inb i n = true) (hdg : decode cc pc = .ok (.baload, 1))
    (kk : W p l e R s m args below meth c H locs cells slots Q (F0 m (pc + 1) ls (.int (M a (ix i)) :: rest))) : W p l e R s m args below meth c H locs cells slots Q (F0 m pc ls (.int i :: .ref (q a) :: rest)) :=
  va_zald F.1 F.2.1 F.K hP a 1 (zwl_at ha.1 (ha.2 _)) rfl (inb_in hi) hdg kk
theorem x_zast {a n : Nat} {i x : Int32} (F : zFx p s m args meth c cc own nL ret G A) (hq : zQD A N q) (hP : zP G.1 N q ent M H) (hS : va_S A s.heap H locs) (ha : zAZ ent G.2.1.2.1 N a n) (hi : inb i n = true) (hx : isb x = true) (he : M1 = up2 M a (ix i) x) (hdg : decode cc pc = .ok (.bastore, 1))
    (kk : ∀ (H1 : Heap) (locs1 : List Loc), zP G.1 N q ent M1 H1 → va_S A s.heap H1 locs1 → W p l e R s m args below meth c H1 locs1 cells slots Q (F0 m (pc + 1) ls rest)) : W p l e R s m args below meth c H locs cells slots Q (F0 m pc ls (.int x :: .int i :: .ref (q a) :: rest)) :=
  va_zast F.1 F.2.1 F.K hP (hq.D _) hS a 1 (zwl_at ha.1 (ha.2 _)) rfl (inb_in hi) hdg (fun H1 locs1 h1 _ h3 => kk H1 locs1 (zP.upd (x := .inl (G.2.1.2.1, n, .inl (upd (M a) (ix i) (vp_nar .boolean x)))) he (by rw [isb_vp hx]; exact ha.2 _) h1) h3)
-- a row of references that never changes: place i of it is cell b + i
def zAQ (ent : zEnt) (cA : ClassId) (N a n b : Nat) (q : Nat → Nat) : Prop := a < N ∧ ∀ r, ent a r = .inl (cA, n, .inr (.inr (.inr (.inr (fun i => some (q (b + i)))))))
theorem x_aaldM {a n b k : Nat} {i : Int32} (hx : ix i = k) (F : zFx p s m args meth c cc own nL ret G A) (hP : zP G.1 N q ent M H) (ha : zAQ ent G.2.1.2.2.1 N a n b q) (hi : inb i n = true) (hdg : decode cc pc = .ok (.aaload, 1))
    (kk : W p l e R s m args below meth c H locs cells slots Q (F0 m (pc + 1) ls (.ref (q (b + k)) :: rest))) : W p l e R s m args below meth c H locs cells slots Q (F0 m pc ls (.int i :: .ref (q a) :: rest)) :=
  va_aldq F.1 F.2.1 F.K hP a 2 (C := "CardMachine$Method") (zwl_at ha.1 (ha.2 (M a))) rfl (inb_in hi) hdg (by subst hx; exact kk)
theorem x_aaldF {a n b k : Nat} {i : Int32} (hx : ix i = k) (F : zFx p s m args meth c cc own nL ret G A) (hP : zP G.1 N q ent M H) (ha : zAQ ent G.2.1.2.2.2 N a n b q) (hi : inb i n = true) (hdg : decode cc pc = .ok (.aaload, 1))
    (kk : W p l e R s m args below meth c H locs cells slots Q (F0 m (pc + 1) ls (.ref (q (b + k)) :: rest))) : W p l e R s m args below meth c H locs cells slots Q (F0 m pc ls (.int i :: .ref (q a) :: rest)) :=
  va_aldq F.1 F.2.1 F.K hP a 3 (C := "CardMachine$Frame") (zwl_at ha.1 (ha.2 (M a))) rfl (inb_in hi) hdg (by subst hx; exact kk)
-- fields: cell k is an object of class ci with fields fs
theorem x_getf {C ref : String} {T : u_T} {n ci k j index : Nat} {fs : List Value} {v : Value} (hin : ∀ w ∈ u_ws C T n, w ∈ BW) (hc : vwCl[ci]? = some (C, T, n)) (hj : j < n) (hlink : Cond.fieldLink own index ref (T j).2.1 (T j).2.2.1 ∈ BW) (href : (T j).1 = ref)
    (F : zFx p s m args meth c cc own nL ret G A) (hP : zP G.1 N q ent M H) (hk : k < N) (he : ent k (M k) = .inr (ci, fs)) (hv : fs[j]? = some v) (hdg : decode cc pc = .ok (.getfield index, 3))
    (kk : W p l e R s m args below meth c H locs cells slots Q (F0 m (pc + 3) ls (v :: rest))) : W p l e R s m args below meth c H locs cells slots Q (F0 m pc ls (.ref (q k) :: rest)) := by
  subst href
  exact va_get F.1 F.2.1 F.2.2.2.2.1 hin F.2.2.2.1 F.K hP k (zwl_at hk he) hc j hj (F.ws hlink) (fun _ h => h) hv hdg kk
theorem x_putf {C ref : String} {T : u_T} {n ci k j i index : Nat} {fs fs1 : List Value} {v : Value} {x : Int32} {ty0 : Nat → FieldType} {ty : FieldType} (hin : ∀ w ∈ u_ws C T n, w ∈ BW) (hty : ∀ k, k < n → parseFieldDescriptor (T k).2.2.1 = some (ty0 k)) (hnm : ∀ a, a < n → ∀ b, b < n → a ≠ b → (T a).2.1 ≠ (T b).2.1) (hc : vwCl[ci]? = some (C, T, n)) (hj : j < n) (hlink : Cond.fieldLink own index ref (T j).2.1 (T j).2.2.1 ∈ BW) (href : (T j).1 = ref) (hfin : (T j).2.2.2 = false) (hd : parseFieldDescriptor (T j).2.2.1 = some ty)
    (F : zFx p s m args meth c cc own nL ret G A) (hq : zQD A N q) (hP : zP G.1 N q ent M H) (hS : va_S A s.heap H locs) (hk : k < N) (he : ent k (M k) = .inr (ci, fs)) (hl : j < fs.length) (he1 : ent k (upd (M k) i x) = .inr (ci, fs1)) (hs : fs.set j v = fs1) (hn : narrow ty v = v) (hfit : fits ty v = true) (hM : M1 = up2 M k i x) (hdg : decode cc pc = .ok (.putfield index, 3))
    (kk : ∀ (H1 : Heap) (locs1 : List Loc), zP G.1 N q ent M1 H1 → va_S A s.heap H1 locs1 → W p l e R s m args below meth c H1 locs1 cells slots Q (F0 m (pc + 3) ls rest)) : W p l e R s m args below meth c H locs cells slots Q (F0 m pc ls (v :: .ref (q k) :: rest)) := by
  subst href
  exact va_put F.1 F.2.1 F.2.2.2.2.1 hin ty0 hty hnm F.2.2.2.1 F.K hP (hq.D _) hS k (zwl_at hk he) hc j hj (F.ws hlink) (fun _ h => h) hfin hd hn hfit hl hdg (fun H1 locs1 h1 _ h3 => kk H1 locs1 (zP.upd hM he1 (by rw [← hs]; exact h1)) h3)
-- the enum's constants
theorem x_getE {ref fn : String} {vs : List Int32} {index j : Nat} (hq : ("CardMachine$Op", fn, "I", vs) ∈ opF) (hlink : Cond.fieldLink own index "CardMachine$Op" fn "I" ∈ BW)
    (F : zFx p s m args meth c cc own nL ret G A) (hS : va_S A s.heap H locs) (hj : j < 46) (hdg : decode cc pc = .ok (.getfield index, 3))
    (kk : W p l e R s m args below meth c H locs cells slots Q (F0 m (pc + 3) ls (.int (vs.getD j 0) :: rest))) : W p l e R s m args below meth c H locs cells slots Q (F0 m pc ls (.ref (G.2.2.1 j) :: rest)) :=
  va_getE F.1 F.2.1 F.S.1 hj hS F.2.2.2.1 hq (F.ws hlink) (fun _ h => h) hdg kk
theorem x_constE {nm : String} {index i : Nat} (hi : i < 46) (hnm : opNm.getD i "" = nm) (hlink : Cond.fieldLink own index "CardMachine$Op" nm "LCardMachine$Op;" ∈ BW)
    (F : zFx p s m args meth c cc own nL ret G A) (hS : va_S A s.heap H locs) (hdg : decode cc pc = .ok (.getstatic index, 3))
    (kk : W p l e R s m args below meth c H locs cells slots Q (F0 m (pc + 3) ls (.ref (G.2.2.1 i) :: rest))) : W p l e R s m args below meth c H locs cells slots Q (F0 m pc ls rest) := by
  subst hnm
  exact va_gets F.1 F.2.1 (F.S.1.1 i hi).1 hS F.2.2.2.1 (F.ws hlink) (fun _ h => h) hdg kk
theorem x_getO (F : zFx p s m args meth c cc "CardMachine$Processor" nL ret G A) (hS : va_S A s.heap H locs) (hdg : decode cc pc = .ok (.getstatic 112, 3))
    (kk : W p l e R s m args below meth c H locs cells slots Q (F0 m (pc + 3) ls (.ref G.2.2.2.1 :: rest))) : W p l e R s m args below meth c H locs cells slots Q (F0 m pc ls rest) :=
  va_getsN F.1 F.2.1 F.S.2.1.1 hS F.2.2.2.1 (va_Nw.use rfl F.S.2.2.2) (fun _ h => h) hdg kk
theorem x_aaldO {k : Nat} {i : Int32} (hx : ix i = k) (F : zFx p s m args meth c cc own nL ret G A) (hS : va_S A s.heap H locs) (hi : inb i 46 = true) (hdg : decode cc pc = .ok (.aaload, 1))
    (kk : W p l e R s m args below meth c H locs cells slots Q (F0 m (pc + 1) ls (.ref (G.2.2.1 k) :: rest))) : W p l e R s m args below meth c H locs cells slots Q (F0 m pc ls (.int i :: .ref G.2.2.2.1 :: rest)) :=
  vb_tq F.1 F.2.1 F.S.2.1.2 hS (inb_in hi) (by rw [← hx]) hdg kk
theorem x_alenO (F : zFx p s m args meth c cc own nL ret G A) (hS : va_S A s.heap H locs) (hdg : decode cc pc = .ok (.arraylength, 1))
    (kk : W p l e R s m args below meth c H locs cells slots Q (F0 m (pc + 1) ls (.int 46 :: rest))) : W p l e R s m args below meth c H locs cells slots Q (F0 m pc ls (.ref G.2.2.2.1 :: rest)) :=
  va_tlen F.1 F.2.1 F.S.2.1.2 hS rfl hdg kk
theorem x_getS {index : Nat} (hlink : Cond.fieldLink own index "CardMachine$1" "$SwitchMap$CardMachine$Op" "[I" ∈ BW) (F : zFx p s m args meth c cc own nL ret G A) (hS : va_S A s.heap H locs) (hdg : decode cc pc = .ok (.getstatic index, 3))
    (kk : W p l e R s m args below meth c H locs cells slots Q (F0 m (pc + 3) ls (.ref G.2.2.2.2 :: rest))) : W p l e R s m args below meth c H locs cells slots Q (F0 m pc ls rest) :=
  va_gets F.1 F.2.1 F.S.2.2.1.1 hS F.2.2.2.1 (F.ws hlink) (fun _ h => h) hdg kk
theorem x_ialdS {i : Int32} (F : zFx p s m args meth c cc own nL ret G A) (hS : va_S A s.heap H locs) (hi : inb i 46 = true) (hdg : decode cc pc = .ok (.iaload, 1))
    (kk : W p l e R s m args below meth c H locs cells slots Q (F0 m (pc + 1) ls (.int (opSw.getD (ix i) 0) :: rest))) : W p l e R s m args below meth c H locs cells slots Q (F0 m pc ls (.int i :: .ref G.2.2.2.2 :: rest)) :=
  va_ti F.1 F.2.1 F.S.2.2.1.2 hS (inb_in hi) rfl hdg kk
theorem x_acmp_ne {j i : Nat} {off : Int} {tgt : Nat} (F : zFx p s m args meth c cc own nL ret G A) (hj : j < 46) (hi : i < 46) (hdg : decode cc pc = .ok (.if_acmp .ne off, 3)) (ht : (pc : Int) + off = (tgt : Int))
    (kt : ¬ j = i → W p l e R s m args below meth c H locs cells slots Q (F0 m tgt ls rest)) (kf : j = i → W p l e R s m args below meth c H locs cells slots Q (F0 m (pc + 3) ls rest)) : W p l e R s m args below meth c H locs cells slots Q (F0 m pc ls (.ref (G.2.2.1 i) :: .ref (G.2.2.1 j) :: rest)) :=
  lv_acmp_ne (rx := some (G.2.2.1 j)) (ry := some (G.2.2.1 i)) F.1 F.2.1 hdg ht (fun h => kt (fun z => h (by rw [z]))) (fun h => kf (F.S.1.2 j i hj hi (Option.some.inj h)))
theorem x_acmp_eq {j i : Nat} {off : Int} {tgt : Nat} (F : zFx p s m args meth c cc own nL ret G A) (hj : j < 46) (hi : i < 46) (hdg : decode cc pc = .ok (.if_acmp .eq off, 3)) (ht : (pc : Int) + off = (tgt : Int))
    (kt : j = i → W p l e R s m args below meth c H locs cells slots Q (F0 m tgt ls rest)) (kf : ¬ j = i → W p l e R s m args below meth c H locs cells slots Q (F0 m (pc + 3) ls rest)) : W p l e R s m args below meth c H locs cells slots Q (F0 m pc ls (.ref (G.2.2.1 i) :: .ref (G.2.2.1 j) :: rest)) :=
  lv_acmp_eq (rx := some (G.2.2.1 j)) (ry := some (G.2.2.1 i)) F.1 F.2.1 hdg ht (fun h => kt (F.S.1.2 j i hj hi (Option.some.inj h))) (fun h => kf (fun z => h (by rw [z])))
-- calls
theorem zKS.go {U : State} (hK : zKS G A s) (hS : ∀ a : Nat, a < s.heap.size → ¬ A a → H[a]? = s.heap[a]?) (h1 : U.heap = H) (hW : s.WarmedH U.vm) : zKS G A U := by
  refine ⟨va_K.moved hW.alike hK.1, ?_⟩
  rw [h1]
  exact (hK.2.kept hS).warm hW
theorem x_callI {C : String} {y : MethodName} {cc' : ByteArray} {nL' n idx fr lo b : Nat} {ret' : Option FieldType} {P0 P1 : Heap → Prop} {as st : List Value} {r : Int32} {A0 : Nat → Prop} (wv : zWV own idx C y cc' nL' ret' n) (F : zFx p s m args meth c cc own nL ret G A) (hS : va_S A0 s.heap H locs) (hA : ∀ a, A a → A0 a) (hSA : ∀ a : Nat, a < s.heap.size → ¬ A a → H[a]? = s.heap[a]?) (hM : zKI l y cc' nL' ret' fr lo G A P0 (.ref b :: as) r P1) (h0 : P0 H)
    (hrc : ∃ cell : Cell, H[b]? = some cell ∧ cell.vm.isStatics = false ∧ s.vm.findClass C = some cell.cls) (hst : as.reverse ++ .ref b :: rest = st) (hls : ls.size = nL) (hn : as.length = n) (hR : fr + 1 ≤ R.frames ∧ 8 + (nL' + 11) + lo ≤ R.locals) (hcs : cells ≤ R.cells ∧ slots ≤ R.slots) (hcat : (rest.map fun v => v.category).sum ≤ 8) (hdg : decode cc pc = .ok (.invokevirtual idx, 3))
    (kk : ∀ (H1 : Heap) (locs1 : List Loc), P1 H1 → va_S A0 s.heap H1 locs1 → (∀ a : Nat, a < H.size → ¬ A a → H1[a]? = H[a]?) → H.size ≤ H1.size → W p l e R s m args below meth c H1 locs1 cells slots Q (F0 m (pc + 3) ls (.int r :: rest))) : W p l e R s m args below meth c H locs cells slots Q (F0 m pc ls st) := by
  subst hst
  refine va_calli (va_runV (As := as) (rest := rest) (b := b) ⟨F.1, F.2.1, F.2.2.1, F.2.2.2.1, F.2.2.2.2.1⟩ hM (cwV n F.2.2.2.2.1 wv.good rfl rfl rfl wv.2 hR) ⟨zPre_blind G A P0 _, hrc, fun U hU hW => ⟨rfl, by rw [hU]; exact h0, F.2.2.2.2.2.2.2.go hSA hU hW⟩⟩ rfl hn hls rfl (lv_room hcat) hdg hcs) hS (fun a _ h => hA a h) hA (fun r' u t H1 locs1 ht hvm hw hB hz hk hS1 => ?_)
  subst hw
  subst ht
  exact kk _ locs1 hB hS1 hk hz
theorem x_callV {C : String} {y : MethodName} {cc' : ByteArray} {nL' n idx fr lo b : Nat} {P0 P1 : Heap → Prop} {as st : List Value} {A0 : Nat → Prop} (wv : zWV own idx C y cc' nL' none n) (F : zFx p s m args meth c cc own nL ret G A) (hS : va_S A0 s.heap H locs) (hA : ∀ a, A a → A0 a) (hSA : ∀ a : Nat, a < s.heap.size → ¬ A a → H[a]? = s.heap[a]?) (hM : zKV l y cc' nL' fr lo G A P0 (.ref b :: as) P1) (h0 : P0 H)
    (hrc : ∃ cell : Cell, H[b]? = some cell ∧ cell.vm.isStatics = false ∧ s.vm.findClass C = some cell.cls) (hst : as.reverse ++ .ref b :: rest = st) (hls : ls.size = nL) (hn : as.length = n) (hR : fr + 1 ≤ R.frames ∧ 8 + (nL' + 11) + lo ≤ R.locals) (hcs : cells ≤ R.cells ∧ slots ≤ R.slots) (hcat : (rest.map fun v => v.category).sum ≤ 8) (hdg : decode cc pc = .ok (.invokevirtual idx, 3))
    (kk : ∀ (H1 : Heap) (locs1 : List Loc), P1 H1 → va_S A0 s.heap H1 locs1 → (∀ a : Nat, a < H.size → ¬ A a → H1[a]? = H[a]?) → H.size ≤ H1.size → W p l e R s m args below meth c H1 locs1 cells slots Q (F0 m (pc + 3) ls rest)) : W p l e R s m args below meth c H locs cells slots Q (F0 m pc ls st) := by
  subst hst
  refine va_callv (va_runV (As := as) (rest := rest) (b := b) ⟨F.1, F.2.1, F.2.2.1, F.2.2.2.1, F.2.2.2.2.1⟩ hM (cwV n F.2.2.2.2.1 wv.good rfl rfl rfl wv.2 hR) ⟨zPre_blind G A P0 _, hrc, fun U hU hW => ⟨rfl, by rw [hU]; exact h0, F.2.2.2.2.2.2.2.go hSA hU hW⟩⟩ rfl hn hls rfl (lv_room hcat) hdg hcs) hS (fun a _ h => hA a h) hA (fun u t H1 locs1 ht hvm hw hB hz hk hS1 => ?_)
  subst ht
  exact kk _ locs1 hB hS1 hk hz
theorem x_callSI {y : MethodName} {cc' : ByteArray} {nL' n idx fr lo : Nat} {ret' : Option FieldType} {P0 P1 : Heap → Prop} {as st : List Value} {r : Int32} {A0 : Nat → Prop} (wv : zWS own idx y cc' nL' ret' n) (F : zFx p s m args meth c cc own nL ret G A) (hS : va_S A0 s.heap H locs) (hA : ∀ a, A a → A0 a) (hSA : ∀ a : Nat, a < s.heap.size → ¬ A a → H[a]? = s.heap[a]?) (hM : zKI l y cc' nL' ret' fr lo G A P0 as r P1) (h0 : P0 H)
    (hst : as.reverse ++ rest = st) (hls : ls.size = nL) (hn : as.length = n) (hR : fr + 1 ≤ R.frames ∧ 8 + (nL' + 11) + lo ≤ R.locals) (hcs : cells ≤ R.cells ∧ slots ≤ R.slots) (hcat : (rest.map fun v => v.category).sum ≤ 8) (hdg : decode cc pc = .ok (.invokestatic idx, 3))
    (kk : ∀ (H1 : Heap) (locs1 : List Loc), P1 H1 → va_S A0 s.heap H1 locs1 → (∀ a : Nat, a < H.size → ¬ A a → H1[a]? = H[a]?) → H.size ≤ H1.size → W p l e R s m args below meth c H1 locs1 cells slots Q (F0 m (pc + 3) ls (.int r :: rest))) : W p l e R s m args below meth c H locs cells slots Q (F0 m pc ls st) := by
  subst hst
  refine va_calli (va_runS (As := as) (rest := rest) ⟨F.1, F.2.1, F.2.2.1, F.2.2.2.1, F.2.2.2.2.1⟩ hM (va_cwS n F.2.2.2.2.1 wv.good rfl rfl rfl wv.2 hR) ⟨zPre_blind G A P0 _, fun U hU hW => ⟨rfl, by rw [hU]; exact h0, F.2.2.2.2.2.2.2.go hSA hU hW⟩⟩ rfl hn hls rfl (lv_room hcat) hdg hcs) hS (fun a _ h => hA a h) hA (fun r' u t H1 locs1 ht hvm hw hB hz hk hS1 => ?_)
  subst hw
  subst ht
  exact kk _ locs1 hB hS1 hk hz
theorem x_callSV {y : MethodName} {cc' : ByteArray} {nL' n idx fr lo : Nat} {P0 P1 : Heap → Prop} {as st : List Value} {A0 : Nat → Prop} (wv : zWS own idx y cc' nL' none n) (F : zFx p s m args meth c cc own nL ret G A) (hS : va_S A0 s.heap H locs) (hA : ∀ a, A a → A0 a) (hSA : ∀ a : Nat, a < s.heap.size → ¬ A a → H[a]? = s.heap[a]?) (hM : zKV l y cc' nL' fr lo G A P0 as P1) (h0 : P0 H)
    (hst : as.reverse ++ rest = st) (hls : ls.size = nL) (hn : as.length = n) (hR : fr + 1 ≤ R.frames ∧ 8 + (nL' + 11) + lo ≤ R.locals) (hcs : cells ≤ R.cells ∧ slots ≤ R.slots) (hcat : (rest.map fun v => v.category).sum ≤ 8) (hdg : decode cc pc = .ok (.invokestatic idx, 3))
    (kk : ∀ (H1 : Heap) (locs1 : List Loc), P1 H1 → va_S A0 s.heap H1 locs1 → (∀ a : Nat, a < H.size → ¬ A a → H1[a]? = H[a]?) → H.size ≤ H1.size → W p l e R s m args below meth c H1 locs1 cells slots Q (F0 m (pc + 3) ls rest)) : W p l e R s m args below meth c H locs cells slots Q (F0 m pc ls st) := by
  subst hst
  refine va_callv (va_runS (As := as) (rest := rest) ⟨F.1, F.2.1, F.2.2.1, F.2.2.2.1, F.2.2.2.2.1⟩ hM (va_cwS n F.2.2.2.2.1 wv.good rfl rfl rfl wv.2 hR) ⟨zPre_blind G A P0 _, fun U hU hW => ⟨rfl, by rw [hU]; exact h0, F.2.2.2.2.2.2.2.go hSA hU hW⟩⟩ rfl hn hls rfl (lv_room hcat) hdg hcs) hS (fun a _ h => hA a h) hA (fun u t H1 locs1 ht hvm hw hB hz hk hS1 => ?_)
  subst ht
  exact kk _ locs1 hB hS1 hk hz
/-- the receiver is an object of the world -/
theorem x_recv {ci k : Nat} {C : String} {T : u_T} {n : Nat} {fs : List Value} (F : zFx p s m args meth c cc own nL ret G A) (hP : zP G.1 N q ent M H) (hc : vwCl[ci]? = some (C, T, n)) (hk : k < N) (he : ent k (M k) = .inr (ci, fs)) : ∃ cell : Cell, H[q k]? = some cell ∧ cell.vm.isStatics = false ∧ s.vm.findClass C = some cell.cls :=
  va_recv F.K hP hc (zwl_at hk he)
end ZR
end
section
/-! THE LAYOUTS: which cell is what. -/
def frq (q : Nat → Nat) (x : Int32) : Option Nat := if inb x 8 = true then some (q (27 + ix x)) else none
/-- the class: 0 the card, 1 its processor, 2 its store, 3 its power, 4 code, 5 the methods (6 .. 21), 22 command (23 its bytes), 24 reply (25), 26 the frames (27 .. 34; locals 35 .. 42, stacks 43 .. 50), 51 .. 57 the store's rows -/
def eC (G : zG) (q : Nat → Nat) : zEnt := fun i r =>
  if i = 0 then .inr (6, [.ref (q 1)])
  else if i = 1 then .inr (4, [.ref (q 4), .ref (q 5), .ref (q 2), .ref (q 22), .ref (q 24), .int (r 5), .int (r 6), .int (r 7), .ref (q 26), .int (r 9), va_rf (frq q (r 10)), .int (r 11), .int (r 12), .int (r 13)])
  else if i = 2 then .inr (5, [.ref (q 3), .ref (q 51), .ref (q 52), .ref (q 53), .int (r 4), .int (r 5), .ref (q 54), .ref (q 55), .int (r 8), .ref (q 56), .ref (q 57), .int (r 11), .int (r 12), .int (r 13), .int (r 14)])
  else if i = 3 then .inr (3, [.int (r 0), .int (r 1)])
  else if i = 4 then .inl (G.2.1.1, 512, .inl r)
  else if i = 5 then .inl (G.2.1.2.2.1, 16, .inr (.inr (.inr (.inr (fun k => some (q (6 + k)))))))
  else if i < 22 then .inr (2, [.int (r 0), .int (r 1), .int (r 2)])
  else if i = 22 then .inr (0, [.ref (q (23)), .int (r 1)])
  else if i = 24 then .inr (0, [.ref (q (25)), .int (r 1)])
  else if i < 26 then .inl (G.2.1.1, 32, .inl r)
  else if i = 26 then .inl (G.2.1.2.2.2, 8, .inr (.inr (.inr (.inr (fun k => some (q (27 + k)))))))
  else if i < 35 then .inr (1, [.ref (q (i + 8)), .ref (q (i + 16)), .int (r 2), .int (r 3), .int (r 4), .int (r 5)])
  else if i < 43 then .inl (G.2.1.1, 8, .inl r)
  else if i < 51 then .inl (G.2.1.1, 16, .inl r)
  else if i < 55 then .inl (G.2.1.1, 41, .inl r)
  else if i = 55 then .inl (G.2.1.1, 240, .inl r)
  else .inl (G.2.1.1, 20, .inl r)
theorem eC_0 (G : zG) (q : Nat → Nat) (r : Nat → Int32) : eC G q 0 r = .inr (6, [.ref (q 1)]) := rfl
theorem eC_1 (G : zG) (q : Nat → Nat) (r : Nat → Int32) : eC G q 1 r = .inr (4, [.ref (q 4), .ref (q 5), .ref (q 2), .ref (q 22), .ref (q 24), .int (r 5), .int (r 6), .int (r 7), .ref (q 26), .int (r 9), va_rf (frq q (r 10)), .int (r 11), .int (r 12), .int (r 13)]) := rfl
theorem eC_2 (G : zG) (q : Nat → Nat) (r : Nat → Int32) : eC G q 2 r = .inr (5, [.ref (q 3), .ref (q 51), .ref (q 52), .ref (q 53), .int (r 4), .int (r 5), .ref (q 54), .ref (q 55), .int (r 8), .ref (q 56), .ref (q 57), .int (r 11), .int (r 12), .int (r 13), .int (r 14)]) := rfl
theorem eC_3 (G : zG) (q : Nat → Nat) (r : Nat → Int32) : eC G q 3 r = .inr (3, [.int (r 0), .int (r 1)]) := rfl
theorem eC_M (G : zG) (q : Nat → Nat) {k : Nat} (hk : k < 16) (r : Nat → Int32) : eC G q (6 + k) r = .inr (2, [.int (r 0), .int (r 1), .int (r 2)]) := by
  unfold eC
  rw [if_neg (by omega), if_neg (by omega), if_neg (by omega), if_neg (by omega), if_neg (by omega), if_neg (by omega), if_pos (by omega)]
theorem eC_B (G : zG) (q : Nat → Nat) {k : Nat} (hk : k = 22 ∨ k = 24) (r : Nat → Int32) : eC G q k r = .inr (0, [.ref (q (k + 1)), .int (r 1)]) := by
  rcases hk with h | h <;> subst h <;> rfl
theorem eC_F (G : zG) (q : Nat → Nat) {k : Nat} (hk : k < 8) (r : Nat → Int32) : eC G q (27 + k) r = .inr (1, [.ref (q (35 + k)), .ref (q (43 + k)), .int (r 2), .int (r 3), .int (r 4), .int (r 5)]) := by
  unfold eC
  rw [if_neg (by omega), if_neg (by omega), if_neg (by omega), if_neg (by omega), if_neg (by omega), if_neg (by omega), if_neg (by omega), if_neg (by omega), if_neg (by omega), if_neg (by omega), if_neg (by omega), if_pos (by omega), show 27 + k + 8 = 35 + k by omega, show 27 + k + 16 = 43 + k by omega]
theorem arC_4 (G : zG) (q : Nat → Nat) : zAR (eC G q) G.2.1.1 58 4 512 := ⟨by decide, fun _ => rfl⟩
theorem arC_51 (G : zG) (q : Nat → Nat) : zAR (eC G q) G.2.1.1 58 51 41 := ⟨by decide, fun _ => rfl⟩
theorem arC_52 (G : zG) (q : Nat → Nat) : zAR (eC G q) G.2.1.1 58 52 41 := ⟨by decide, fun _ => rfl⟩
theorem arC_53 (G : zG) (q : Nat → Nat) : zAR (eC G q) G.2.1.1 58 53 41 := ⟨by decide, fun _ => rfl⟩
theorem arC_54 (G : zG) (q : Nat → Nat) : zAR (eC G q) G.2.1.1 58 54 41 := ⟨by decide, fun _ => rfl⟩
theorem arC_55 (G : zG) (q : Nat → Nat) : zAR (eC G q) G.2.1.1 58 55 240 := ⟨by decide, fun _ => rfl⟩
theorem arC_56 (G : zG) (q : Nat → Nat) : zAR (eC G q) G.2.1.1 58 56 20 := ⟨by decide, fun _ => rfl⟩
theorem arC_57 (G : zG) (q : Nat → Nat) : zAR (eC G q) G.2.1.1 58 57 20 := ⟨by decide, fun _ => rfl⟩
theorem arC_B (G : zG) (q : Nat → Nat) {k : Nat} (hk : k = 22 ∨ k = 24) : zAR (eC G q) G.2.1.1 58 (k + 1) 32 := ⟨by omega, fun _ => by rcases hk with h | h <;> subst h <;> rfl⟩
theorem arC_l (G : zG) (q : Nat → Nat) {k : Nat} (hk : k < 8) : zAR (eC G q) G.2.1.1 58 (35 + k) 8 := ⟨by omega, fun r => by
  unfold eC
  rw [if_neg (by omega), if_neg (by omega), if_neg (by omega), if_neg (by omega), if_neg (by omega), if_neg (by omega), if_neg (by omega), if_neg (by omega), if_neg (by omega), if_neg (by omega), if_neg (by omega), if_neg (by omega), if_pos (by omega)]⟩
theorem arC_s (G : zG) (q : Nat → Nat) {k : Nat} (hk : k < 8) : zAR (eC G q) G.2.1.1 58 (43 + k) 16 := ⟨by omega, fun r => by
  unfold eC
  rw [if_neg (by omega), if_neg (by omega), if_neg (by omega), if_neg (by omega), if_neg (by omega), if_neg (by omega), if_neg (by omega), if_neg (by omega), if_neg (by omega), if_neg (by omega), if_neg (by omega), if_neg (by omega), if_neg (by omega), if_pos (by omega)]⟩
theorem aqC_M (G : zG) (q : Nat → Nat) : zAQ (eC G q) G.2.1.2.2.1 58 5 16 6 q := ⟨by decide, fun _ => rfl⟩
theorem aqC_F (G : zG) (q : Nat → Nat) : zAQ (eC G q) G.2.1.2.2.2 58 26 8 27 q := ⟨by decide, fun _ => rfl⟩
/-- the reference: 0 itself, 1 .. 20 its rows -/
def eM (G : zG) (q : Nat → Nat) : zEnt := fun i r =>
  if i = 0 then .inr (7, [.ref (q 1), .ref (q 2), .ref (q 3), .ref (q 4), .int (r 4), .ref (q 5), .ref (q 6), .ref (q 7), .ref (q 8), .ref (q 9), .int (r 10), .int (r 11), .int (r 12), .int (r 13), .int (r 14), .int (r 15), .ref (q 10), .ref (q 11), .int (r 18), .int (r 19), .ref (q 12), .int (r 21), .ref (q 13), .int (r 23), .int (r 24), .ref (q 14), .ref (q 15), .ref (q 16), .ref (q 17), .ref (q 18), .ref (q 19), .int (r 31), .int (r 32), .int (r 33), .int (r 34), .int (r 35), .ref (q 20)])
  else if i = 1 then .inl (G.2.1.1, 512, .inl r)
  else if i = 2 then .inl (G.2.1.1, 16, .inl r)
  else if i = 3 then .inl (G.2.1.1, 16, .inl r)
  else if i = 4 then .inl (G.2.1.2.1, 16, .inl r)
  else if i = 5 then .inl (G.2.1.1, 41, .inl r)
  else if i = 6 then .inl (G.2.1.1, 41, .inl r)
  else if i = 7 then .inl (G.2.1.1, 41, .inl r)
  else if i = 8 then .inl (G.2.1.1, 41, .inl r)
  else if i = 9 then .inl (G.2.1.1, 240, .inl r)
  else if i = 10 then .inl (G.2.1.1, 20, .inl r)
  else if i = 11 then .inl (G.2.1.1, 20, .inl r)
  else if i = 12 then .inl (G.2.1.1, 32, .inl r)
  else if i = 13 then .inl (G.2.1.1, 32, .inl r)
  else if i = 14 then .inl (G.2.1.1, 8, .inl r)
  else if i = 15 then .inl (G.2.1.1, 8, .inl r)
  else if i = 16 then .inl (G.2.1.1, 8, .inl r)
  else if i = 17 then .inl (G.2.1.1, 64, .inl r)
  else if i = 18 then .inl (G.2.1.1, 128, .inl r)
  else if i = 19 then .inl (G.2.1.1, 8, .inl r)
  else if i = 20 then .inl (G.2.1.1, 8, .inl r)
  else .inl (G.2.1.1, 0, .inl r)
theorem eM_0 (G : zG) (q : Nat → Nat) (r : Nat → Int32) : eM G q 0 r = .inr (7, [.ref (q 1), .ref (q 2), .ref (q 3), .ref (q 4), .int (r 4), .ref (q 5), .ref (q 6), .ref (q 7), .ref (q 8), .ref (q 9), .int (r 10), .int (r 11), .int (r 12), .int (r 13), .int (r 14), .int (r 15), .ref (q 10), .ref (q 11), .int (r 18), .int (r 19), .ref (q 12), .int (r 21), .ref (q 13), .int (r 23), .int (r 24), .ref (q 14), .ref (q 15), .ref (q 16), .ref (q 17), .ref (q 18), .ref (q 19), .int (r 31), .int (r 32), .int (r 33), .int (r 34), .int (r 35), .ref (q 20)]) := rfl
theorem arM_1 (G : zG) (q : Nat → Nat) : zAR (eM G q) G.2.1.1 21 1 512 := ⟨by decide, fun _ => rfl⟩
theorem arM_2 (G : zG) (q : Nat → Nat) : zAR (eM G q) G.2.1.1 21 2 16 := ⟨by decide, fun _ => rfl⟩
theorem arM_3 (G : zG) (q : Nat → Nat) : zAR (eM G q) G.2.1.1 21 3 16 := ⟨by decide, fun _ => rfl⟩
theorem arM_4 (G : zG) (q : Nat → Nat) : zAZ (eM G q) G.2.1.2.1 21 4 16 := ⟨by decide, fun _ => rfl⟩
theorem arM_5 (G : zG) (q : Nat → Nat) : zAR (eM G q) G.2.1.1 21 5 41 := ⟨by decide, fun _ => rfl⟩
theorem arM_6 (G : zG) (q : Nat → Nat) : zAR (eM G q) G.2.1.1 21 6 41 := ⟨by decide, fun _ => rfl⟩
theorem arM_7 (G : zG) (q : Nat → Nat) : zAR (eM G q) G.2.1.1 21 7 41 := ⟨by decide, fun _ => rfl⟩
theorem arM_8 (G : zG) (q : Nat → Nat) : zAR (eM G q) G.2.1.1 21 8 41 := ⟨by decide, fun _ => rfl⟩
theorem arM_9 (G : zG) (q : Nat → Nat) : zAR (eM G q) G.2.1.1 21 9 240 := ⟨by decide, fun _ => rfl⟩
theorem arM_10 (G : zG) (q : Nat → Nat) : zAR (eM G q) G.2.1.1 21 10 20 := ⟨by decide, fun _ => rfl⟩
theorem arM_11 (G : zG) (q : Nat → Nat) : zAR (eM G q) G.2.1.1 21 11 20 := ⟨by decide, fun _ => rfl⟩
theorem arM_12 (G : zG) (q : Nat → Nat) : zAR (eM G q) G.2.1.1 21 12 32 := ⟨by decide, fun _ => rfl⟩
theorem arM_13 (G : zG) (q : Nat → Nat) : zAR (eM G q) G.2.1.1 21 13 32 := ⟨by decide, fun _ => rfl⟩
theorem arM_14 (G : zG) (q : Nat → Nat) : zAR (eM G q) G.2.1.1 21 14 8 := ⟨by decide, fun _ => rfl⟩
theorem arM_15 (G : zG) (q : Nat → Nat) : zAR (eM G q) G.2.1.1 21 15 8 := ⟨by decide, fun _ => rfl⟩
theorem arM_16 (G : zG) (q : Nat → Nat) : zAR (eM G q) G.2.1.1 21 16 8 := ⟨by decide, fun _ => rfl⟩
theorem arM_17 (G : zG) (q : Nat → Nat) : zAR (eM G q) G.2.1.1 21 17 64 := ⟨by decide, fun _ => rfl⟩
theorem arM_18 (G : zG) (q : Nat → Nat) : zAR (eM G q) G.2.1.1 21 18 128 := ⟨by decide, fun _ => rfl⟩
theorem arM_19 (G : zG) (q : Nat → Nat) : zAR (eM G q) G.2.1.1 21 19 8 := ⟨by decide, fun _ => rfl⟩
theorem arM_20 (G : zG) (q : Nat → Nat) : zAR (eM G q) G.2.1.1 21 20 8 := ⟨by decide, fun _ => rfl⟩
/-- a store alone: 0 itself, 1 its power, 2 .. 8 its rows -/
def eS (G : zG) (q : Nat → Nat) : zEnt := fun i r =>
  if i = 0 then .inr (5, [.ref (q 1), .ref (q 2), .ref (q 3), .ref (q 4), .int (r 4), .int (r 5), .ref (q 5), .ref (q 6), .int (r 8), .ref (q 7), .ref (q 8), .int (r 11), .int (r 12), .int (r 13), .int (r 14)])
  else if i = 1 then .inr (3, [.int (r 0), .int (r 1)])
  else if i < 6 then .inl (G.2.1.1, 41, .inl r)
  else if i = 6 then .inl (G.2.1.1, 240, .inl r)
  else .inl (G.2.1.1, 20, .inl r)
theorem eS_0 (G : zG) (q : Nat → Nat) (r : Nat → Int32) : eS G q 0 r = .inr (5, [.ref (q 1), .ref (q 2), .ref (q 3), .ref (q 4), .int (r 4), .int (r 5), .ref (q 5), .ref (q 6), .int (r 8), .ref (q 7), .ref (q 8), .int (r 11), .int (r 12), .int (r 13), .int (r 14)]) := rfl
theorem eS_1 (G : zG) (q : Nat → Nat) (r : Nat → Int32) : eS G q 1 r = .inr (3, [.int (r 0), .int (r 1)]) := rfl
theorem arS_2 (G : zG) (q : Nat → Nat) : zAR (eS G q) G.2.1.1 9 2 41 := ⟨by decide, fun _ => rfl⟩
theorem arS_3 (G : zG) (q : Nat → Nat) : zAR (eS G q) G.2.1.1 9 3 41 := ⟨by decide, fun _ => rfl⟩
theorem arS_4 (G : zG) (q : Nat → Nat) : zAR (eS G q) G.2.1.1 9 4 41 := ⟨by decide, fun _ => rfl⟩
theorem arS_5 (G : zG) (q : Nat → Nat) : zAR (eS G q) G.2.1.1 9 5 41 := ⟨by decide, fun _ => rfl⟩
theorem arS_6 (G : zG) (q : Nat → Nat) : zAR (eS G q) G.2.1.1 9 6 240 := ⟨by decide, fun _ => rfl⟩
theorem arS_7 (G : zG) (q : Nat → Nat) : zAR (eS G q) G.2.1.1 9 7 20 := ⟨by decide, fun _ => rfl⟩
theorem arS_8 (G : zG) (q : Nat → Nat) : zAR (eS G q) G.2.1.1 9 8 20 := ⟨by decide, fun _ => rfl⟩
/-! little words, and rows that speak of them -/
def LF : Nat := 5000
def ic {β : Type} (x : Int32) (n : Nat) (f : Nat → Option β) : Option β := if inb x n = true then f (ix x) else none
theorem ic_some {β : Type} {x : Int32} {n : Nat} {f : Nat → Option β} {r : β} (h : ic x n f = some r) : ∃ k, inb x n = true ∧ ix x = k ∧ k < n ∧ f k = some r := by
  unfold ic at h
  by_cases hb : inb x n = true
  · rw [if_pos hb] at h; exact ⟨_, hb, rfl, inb_lt hb, h⟩
  · rw [if_neg hb] at h; cases h
def bn2 {α β γ : Type} (x : Option (α × β)) (f : α → β → Option γ) : Option γ := x.bind fun y => f y.1 y.2
theorem bn2_some {α β γ : Type} {x : Option (α × β)} {f : α → β → Option γ} {r : γ} (h : bn2 x f = some r) : ∃ a b, x = some (a, b) ∧ f a b = some r := by
  unfold bn2 at h
  cases x with
  | none => cases h
  | some y => exact ⟨y.1, y.2, rfl, h⟩
theorem nz_of {y : Int32} (h : (y != 0) = true) : ¬ y = 0 := by simpa using h
theorem isb_fit {v : Int32} (h : isb v = true) : fits .boolean (.int v) = true := by
  simp only [isb, Bool.or_eq_true, beq_iff_eq] at h
  rcases h with h | h <;> subst h <;> rfl
theorem frq_nI {q : Nat → Nat} {x : Nat} (hx : x < 8) : frq q (nI x) = some (q (27 + x)) := by
  unfold frq
  rw [if_pos (inb_nI hx (by omega)), show ix (nI x) = x from nI_clamp (by omega)]
theorem e_kind : ("CardMachine$Op", "kind", "I", opKind) ∈ opF := List.mem_of_getElem? (i := 0) rfl
theorem e_length : ("CardMachine$Op", "length", "I", opLength) ∈ opF := List.mem_of_getElem? (i := 1) rfl
theorem e_takes : ("CardMachine$Op", "takes", "I", opTakes) ∈ opF := List.mem_of_getElem? (i := 2) rfl
theorem e_puts : ("CardMachine$Op", "puts", "I", opPuts) ∈ opF := List.mem_of_getElem? (i := 3) rfl
theorem e_ordinal : ("java/lang/Enum", "ordinal", "I", opOrd) ∈ opF := List.mem_of_getElem? (i := 4) rfl

theorem in_X1 : ∀ w ∈ wsX10, w ∈ BW := by decide +kernel
theorem in_X2 : ∀ w ∈ wsX20, w ∈ BW := by decide +kernel
theorem in_X3 : ∀ w ∈ wsX30, w ∈ BW := by decide +kernel
theorem in_X5 : ∀ w ∈ wsX50, w ∈ BW := by decide +kernel
theorem in_X6 : ∀ w ∈ wsX60, w ∈ BW := by decide +kernel
theorem in_X7 : ∀ w ∈ wsX70, w ∈ BW := by decide +kernel
theorem in_X8 : ∀ w ∈ wsX80, w ∈ BW := by decide +kernel
theorem in_X9 : ∀ w ∈ wsX90, w ∈ BW := by decide +kernel
end
section
/-! WORDS of the tables, by their places -/
theorem m_0_5 : (Jvm.Cond.initialized "java/util/Arrays") ∈ BW := bw_t1 5 (by decide +kernel) (by decide +kernel)
theorem m_0_8 : (Jvm.Cond.initialized "CardMachine$Frame") ∈ BW := bw_t1 8 (by decide +kernel) (by decide +kernel)
theorem m_0_10 : (Jvm.Cond.initialized "java/lang/Enum") ∈ BW := bw_t1 10 (by decide +kernel) (by decide +kernel)
theorem m_0_42 : (Jvm.Cond.fieldLink "CardMachine$Power" (9 : Nat) "CardMachine$Power" "on" "Z") ∈ BW := bw_t1 42 (by decide +kernel) (by decide +kernel)
theorem m_0_45 : (Jvm.Cond.fieldLink "CardMachine$Power" (15 : Nat) "CardMachine$Power" "writesLeft" "I") ∈ BW := bw_t1 45 (by decide +kernel) (by decide +kernel)
theorem m_0_123 : (Jvm.Cond.fieldLink "CardMachine$ByteRow" (9 : Nat) "CardMachine$ByteRow" "bytes" "[I") ∈ BW := bw_t1 123 (by decide +kernel) (by decide +kernel)
theorem m_0_126 : (Jvm.Cond.fieldLink "CardMachine$ByteRow" (15 : Nat) "CardMachine$ByteRow" "length" "I") ∈ BW := bw_t1 126 (by decide +kernel) (by decide +kernel)
theorem m_0_141 : (Jvm.Cond.fieldLink "CardMachine$Frame" (28 : Nat) "CardMachine$Method" "owner" "I") ∈ BW := bw_t1 141 (by decide +kernel) (by decide +kernel)
theorem m_0_144 : (Jvm.Cond.fieldLink "CardMachine$Frame" (34 : Nat) "CardMachine$Method" "from" "I") ∈ BW := bw_t1 144 (by decide +kernel) (by decide +kernel)
theorem m_0_160 : (Jvm.Cond.fieldLink "CardMachine$Frame" (9 : Nat) "CardMachine$Frame" "locals" "[I") ∈ BW := bw_t1 160 (by decide +kernel) (by decide +kernel)
theorem m_0_162 : (Jvm.Cond.fieldLink "CardMachine$Frame" (15 : Nat) "CardMachine$Frame" "stack" "[I") ∈ BW := bw_t1 162 (by decide +kernel) (by decide +kernel)
theorem m_0_163 : (Jvm.Cond.fieldLink "CardMachine$Frame" (24 : Nat) "CardMachine$Frame" "height" "I") ∈ BW := bw_t1 163 (by decide +kernel) (by decide +kernel)
theorem m_0_165 : (Jvm.Cond.fieldLink "CardMachine$Frame" (33 : Nat) "CardMachine$Frame" "owner" "I") ∈ BW := bw_t1 165 (by decide +kernel) (by decide +kernel)
theorem m_0_167 : (Jvm.Cond.fieldLink "CardMachine$Frame" (37 : Nat) "CardMachine$Frame" "place" "I") ∈ BW := bw_t1 167 (by decide +kernel) (by decide +kernel)
theorem m_0_169 : (Jvm.Cond.fieldLink "CardMachine$Frame" (41 : Nat) "CardMachine$Frame" "handler" "I") ∈ BW := bw_t1 169 (by decide +kernel) (by decide +kernel)
theorem m_1_50 : (Jvm.Cond.methodLink "CardMachine$Frame" (18 : Nat) ({ cls := "java/util/Arrays", name := "fill", desc := "([II)V" } : Jvm.MethodName)) ∈ BW := bw_t2 50 (by decide +kernel) (by decide +kernel)
theorem m_1_51 : (Jvm.Cond.static ({ cls := "java/util/Arrays", name := "fill", desc := "([II)V" } : Jvm.MethodName)) ∈ BW := bw_t2 51 (by decide +kernel) (by decide +kernel)
theorem m_1_52 : (Jvm.Cond.code ({ cls := "java/util/Arrays", name := "fill", desc := "([II)V" } : Jvm.MethodName) prog_14_method_103_code (4 : Nat) (Option.none : Option Jvm.ClassFile.FieldType)) ∈ BW := bw_t2 52 (by decide +kernel) (by decide +kernel)
theorem m_1_53 : (Jvm.Cond.constant "CardMachine$Frame" (40 : Nat) (-2147483648 : Int32)) ∈ BW := bw_t2 53 (by decide +kernel) (by decide +kernel)
theorem m_1_80 : (Jvm.Cond.sameMethod "CardMachine$Op" "java/lang/Enum" "ordinal" "()I") ∈ BW := bw_t2 80 (by decide +kernel) (by decide +kernel)
theorem m_1_82 : (Jvm.Cond.selects "CardMachine$Op" ({ cls := "CardMachine$Op", name := "ordinal", desc := "()I" } : Jvm.MethodName) ({ cls := "java/lang/Enum", name := "ordinal", desc := "()I" } : Jvm.MethodName)) ∈ BW := bw_t2 82 (by decide +kernel) (by decide +kernel)
theorem m_1_83 : (Jvm.Cond.instanceMethod ({ cls := "java/lang/Enum", name := "ordinal", desc := "()I" } : Jvm.MethodName)) ∈ BW := bw_t2 83 (by decide +kernel) (by decide +kernel)
theorem m_1_84 : (Jvm.Cond.code ({ cls := "java/lang/Enum", name := "ordinal", desc := "()I" } : Jvm.MethodName) prog_12_method_2_code (1 : Nat) (Option.some Jvm.ClassFile.FieldType.int)) ∈ BW := bw_t2 84 (by decide +kernel) (by decide +kernel)
theorem m_1_94 : (Jvm.Cond.instanceMethod ({ cls := "CardMachine$Frame", name := "push", desc := "(I)V" } : Jvm.MethodName)) ∈ BW := bw_t2 94 (by decide +kernel) (by decide +kernel)
theorem m_1_95 : (Jvm.Cond.selects "CardMachine$Frame" ({ cls := "CardMachine$Frame", name := "push", desc := "(I)V" } : Jvm.MethodName) ({ cls := "CardMachine$Frame", name := "push", desc := "(I)V" } : Jvm.MethodName)) ∈ BW := bw_t2 95 (by decide +kernel) (by decide +kernel)
theorem m_1_96 : (Jvm.Cond.code ({ cls := "CardMachine$Frame", name := "push", desc := "(I)V" } : Jvm.MethodName) prog_4_method_4_code (2 : Nat) (Option.none : Option Jvm.ClassFile.FieldType)) ∈ BW := bw_t2 96 (by decide +kernel) (by decide +kernel)
theorem m_2_50 : (Jvm.Cond.methodLink "CardMachine$Frame" (44 : Nat) ({ cls := "CardMachine$Frame", name := "push", desc := "(I)V" } : Jvm.MethodName)) ∈ BW := bw_t3 50 (by decide +kernel) (by decide +kernel)
theorem m_3_174 : (Jvm.Cond.fieldLink "java/lang/Enum" (7 : Nat) "java/lang/Enum" "ordinal" "I") ∈ BW := bw_t4 174 (by decide +kernel) (by decide +kernel)
theorem wv_X2_44 : zWV RX2 44 RX2 yX2_push cX2_push 2 none 1 := ⟨⟨m_2_50, m_1_94, m_1_95, m_0_8, m_1_96⟩, rfl, by decide, by decide, by decide +kernel⟩
theorem wv_X2_18 : zWS RX2 18 yJ7_fill_53178 cJ7_fill_53178 4 none 2 := ⟨⟨m_1_50, m_1_51, m_0_5, m_1_52⟩, by decide, by decide, by decide +kernel⟩
end
section
/-! ROWS of fields -/
theorem gC_X1_15 {p : Program} {l : Launch} {e : Env} {R : Room} {s : State} {m : MethodId} {args : Array Value} {below : List Frame} {meth : Method} {c : Code} {H : Heap} {locs : List Loc} {cells slots : Nat} {Q : State → Prop} {cc : ByteArray} {nL : Nat} {ret : Option FieldType} {G : zG} {A : Nat → Prop} {pc : Nat} {ls : Array Slot} {rest : List Value} {q : Nat → Nat} {M : St} {k : Nat} (hk : k = 22 ∨ k = 24) (F : zFx p s m args meth c cc RX1 nL ret G A) (hP : zP G.1 58 q (eC G q) M H) (hdg : decode cc pc = .ok (.getfield 15, 3))
    (kk : W p l e R s m args below meth c H locs cells slots Q (F0 m (pc + 3) ls (.int (M k 1) :: rest))) : W p l e R s m args below meth c H locs cells slots Q (F0 m pc ls (.ref (q k) :: rest)) :=
  x_getf (T := TX1) (j := 1) in_X1 (ci := 0) rfl (by decide) m_0_126 rfl F hP (by omega) (eC_B G q hk _) rfl hdg kk
theorem gC_X1_9 {p : Program} {l : Launch} {e : Env} {R : Room} {s : State} {m : MethodId} {args : Array Value} {below : List Frame} {meth : Method} {c : Code} {H : Heap} {locs : List Loc} {cells slots : Nat} {Q : State → Prop} {cc : ByteArray} {nL : Nat} {ret : Option FieldType} {G : zG} {A : Nat → Prop} {pc : Nat} {ls : Array Slot} {rest : List Value} {q : Nat → Nat} {M : St} {k : Nat} (hk : k = 22 ∨ k = 24) (F : zFx p s m args meth c cc RX1 nL ret G A) (hP : zP G.1 58 q (eC G q) M H) (hdg : decode cc pc = .ok (.getfield 9, 3))
    (kk : W p l e R s m args below meth c H locs cells slots Q (F0 m (pc + 3) ls (.ref (q (k + 1)) :: rest))) : W p l e R s m args below meth c H locs cells slots Q (F0 m pc ls (.ref (q k) :: rest)) :=
  x_getf (T := TX1) (j := 0) in_X1 (ci := 0) rfl (by decide) m_0_123 rfl F hP (by omega) (eC_B G q hk _) rfl hdg kk
theorem hC_X1_15 {p : Program} {l : Launch} {e : Env} {R : Room} {s : State} {m : MethodId} {args : Array Value} {below : List Frame} {meth : Method} {c : Code} {H : Heap} {locs : List Loc} {cells slots : Nat} {Q : State → Prop} {cc : ByteArray} {nL : Nat} {ret : Option FieldType} {G : zG} {A : Nat → Prop} {pc : Nat} {ls : Array Slot} {rest : List Value} {q : Nat → Nat} {M M1 : St} {k : Nat} (hk : k = 22 ∨ k = 24) {v : Int32} (F : zFx p s m args meth c cc RX1 nL ret G A) (hq : zQD A 58 q) (hP : zP G.1 58 q (eC G q) M H) (hS : va_S A s.heap H locs) (hM : M1 = up2 M k 1 v) (hdg : decode cc pc = .ok (.putfield 15, 3))
    (kk : ∀ (H1 : Heap) (locs1 : List Loc), zP G.1 58 q (eC G q) M1 H1 → va_S A s.heap H1 locs1 → W p l e R s m args below meth c H1 locs1 cells slots Q (F0 m (pc + 3) ls rest)) : W p l e R s m args below meth c H locs cells slots Q (F0 m pc ls (.int v :: .ref (q k) :: rest)) :=
  x_putf (T := TX1) (j := 1) (ty := .int) in_X1 tyX1_ok nmX1 (ci := 0) rfl (by decide) m_0_126 rfl rfl rfl F hq hP hS (by omega) (eC_B G q hk _) (Nat.le_of_ble_eq_true rfl) (eC_B G q hk _) rfl rfl rfl hM hdg kk
theorem gC_X2_24 {p : Program} {l : Launch} {e : Env} {R : Room} {s : State} {m : MethodId} {args : Array Value} {below : List Frame} {meth : Method} {c : Code} {H : Heap} {locs : List Loc} {cells slots : Nat} {Q : State → Prop} {cc : ByteArray} {nL : Nat} {ret : Option FieldType} {G : zG} {A : Nat → Prop} {pc : Nat} {ls : Array Slot} {rest : List Value} {q : Nat → Nat} {M : St} {k : Nat} (hk : k < 8) (F : zFx p s m args meth c cc RX2 nL ret G A) (hP : zP G.1 58 q (eC G q) M H) (hdg : decode cc pc = .ok (.getfield 24, 3))
    (kk : W p l e R s m args below meth c H locs cells slots Q (F0 m (pc + 3) ls (.int (M (27 + k) 2) :: rest))) : W p l e R s m args below meth c H locs cells slots Q (F0 m pc ls (.ref (q (27 + k)) :: rest)) :=
  x_getf (T := TX2) (j := 2) in_X2 (ci := 1) rfl (by decide) m_0_163 rfl F hP (by omega) (eC_F G q hk _) rfl hdg kk
theorem gC_X2_15 {p : Program} {l : Launch} {e : Env} {R : Room} {s : State} {m : MethodId} {args : Array Value} {below : List Frame} {meth : Method} {c : Code} {H : Heap} {locs : List Loc} {cells slots : Nat} {Q : State → Prop} {cc : ByteArray} {nL : Nat} {ret : Option FieldType} {G : zG} {A : Nat → Prop} {pc : Nat} {ls : Array Slot} {rest : List Value} {q : Nat → Nat} {M : St} {k : Nat} (hk : k < 8) (F : zFx p s m args meth c cc RX2 nL ret G A) (hP : zP G.1 58 q (eC G q) M H) (hdg : decode cc pc = .ok (.getfield 15, 3))
    (kk : W p l e R s m args below meth c H locs cells slots Q (F0 m (pc + 3) ls (.ref (q (43 + k)) :: rest))) : W p l e R s m args below meth c H locs cells slots Q (F0 m pc ls (.ref (q (27 + k)) :: rest)) :=
  x_getf (T := TX2) (j := 1) in_X2 (ci := 1) rfl (by decide) m_0_162 rfl F hP (by omega) (eC_F G q hk _) rfl hdg kk
theorem hC_X2_24 {p : Program} {l : Launch} {e : Env} {R : Room} {s : State} {m : MethodId} {args : Array Value} {below : List Frame} {meth : Method} {c : Code} {H : Heap} {locs : List Loc} {cells slots : Nat} {Q : State → Prop} {cc : ByteArray} {nL : Nat} {ret : Option FieldType} {G : zG} {A : Nat → Prop} {pc : Nat} {ls : Array Slot} {rest : List Value} {q : Nat → Nat} {M M1 : St} {k : Nat} (hk : k < 8) {v : Int32} (F : zFx p s m args meth c cc RX2 nL ret G A) (hq : zQD A 58 q) (hP : zP G.1 58 q (eC G q) M H) (hS : va_S A s.heap H locs) (hM : M1 = up2 M (27 + k) 2 v) (hdg : decode cc pc = .ok (.putfield 24, 3))
    (kk : ∀ (H1 : Heap) (locs1 : List Loc), zP G.1 58 q (eC G q) M1 H1 → va_S A s.heap H1 locs1 → W p l e R s m args below meth c H1 locs1 cells slots Q (F0 m (pc + 3) ls rest)) : W p l e R s m args below meth c H locs cells slots Q (F0 m pc ls (.int v :: .ref (q (27 + k)) :: rest)) :=
  x_putf (T := TX2) (j := 2) (ty := .int) in_X2 tyX2_ok nmX2 (ci := 1) rfl (by decide) m_0_163 rfl rfl rfl F hq hP hS (by omega) (eC_F G q hk _) (Nat.le_of_ble_eq_true rfl) (eC_F G q hk _) rfl rfl rfl hM hdg kk
theorem gC_X2_9 {p : Program} {l : Launch} {e : Env} {R : Room} {s : State} {m : MethodId} {args : Array Value} {below : List Frame} {meth : Method} {c : Code} {H : Heap} {locs : List Loc} {cells slots : Nat} {Q : State → Prop} {cc : ByteArray} {nL : Nat} {ret : Option FieldType} {G : zG} {A : Nat → Prop} {pc : Nat} {ls : Array Slot} {rest : List Value} {q : Nat → Nat} {M : St} {k : Nat} (hk : k < 8) (F : zFx p s m args meth c cc RX2 nL ret G A) (hP : zP G.1 58 q (eC G q) M H) (hdg : decode cc pc = .ok (.getfield 9, 3))
    (kk : W p l e R s m args below meth c H locs cells slots Q (F0 m (pc + 3) ls (.ref (q (35 + k)) :: rest))) : W p l e R s m args below meth c H locs cells slots Q (F0 m pc ls (.ref (q (27 + k)) :: rest)) :=
  x_getf (T := TX2) (j := 0) in_X2 (ci := 1) rfl (by decide) m_0_160 rfl F hP (by omega) (eC_F G q hk _) rfl hdg kk
theorem gC_X2_41 {p : Program} {l : Launch} {e : Env} {R : Room} {s : State} {m : MethodId} {args : Array Value} {below : List Frame} {meth : Method} {c : Code} {H : Heap} {locs : List Loc} {cells slots : Nat} {Q : State → Prop} {cc : ByteArray} {nL : Nat} {ret : Option FieldType} {G : zG} {A : Nat → Prop} {pc : Nat} {ls : Array Slot} {rest : List Value} {q : Nat → Nat} {M : St} {k : Nat} (hk : k < 8) (F : zFx p s m args meth c cc RX2 nL ret G A) (hP : zP G.1 58 q (eC G q) M H) (hdg : decode cc pc = .ok (.getfield 41, 3))
    (kk : W p l e R s m args below meth c H locs cells slots Q (F0 m (pc + 3) ls (.int (M (27 + k) 5) :: rest))) : W p l e R s m args below meth c H locs cells slots Q (F0 m pc ls (.ref (q (27 + k)) :: rest)) :=
  x_getf (T := TX2) (j := 5) in_X2 (ci := 1) rfl (by decide) m_0_169 rfl F hP (by omega) (eC_F G q hk _) rfl hdg kk
theorem hC_X2_37 {p : Program} {l : Launch} {e : Env} {R : Room} {s : State} {m : MethodId} {args : Array Value} {below : List Frame} {meth : Method} {c : Code} {H : Heap} {locs : List Loc} {cells slots : Nat} {Q : State → Prop} {cc : ByteArray} {nL : Nat} {ret : Option FieldType} {G : zG} {A : Nat → Prop} {pc : Nat} {ls : Array Slot} {rest : List Value} {q : Nat → Nat} {M M1 : St} {k : Nat} (hk : k < 8) {v : Int32} (F : zFx p s m args meth c cc RX2 nL ret G A) (hq : zQD A 58 q) (hP : zP G.1 58 q (eC G q) M H) (hS : va_S A s.heap H locs) (hM : M1 = up2 M (27 + k) 4 v) (hdg : decode cc pc = .ok (.putfield 37, 3))
    (kk : ∀ (H1 : Heap) (locs1 : List Loc), zP G.1 58 q (eC G q) M1 H1 → va_S A s.heap H1 locs1 → W p l e R s m args below meth c H1 locs1 cells slots Q (F0 m (pc + 3) ls rest)) : W p l e R s m args below meth c H locs cells slots Q (F0 m pc ls (.int v :: .ref (q (27 + k)) :: rest)) :=
  x_putf (T := TX2) (j := 4) (ty := .int) in_X2 tyX2_ok nmX2 (ci := 1) rfl (by decide) m_0_167 rfl rfl rfl F hq hP hS (by omega) (eC_F G q hk _) (Nat.le_of_ble_eq_true rfl) (eC_F G q hk _) rfl rfl rfl hM hdg kk
theorem hC_X2_41 {p : Program} {l : Launch} {e : Env} {R : Room} {s : State} {m : MethodId} {args : Array Value} {below : List Frame} {meth : Method} {c : Code} {H : Heap} {locs : List Loc} {cells slots : Nat} {Q : State → Prop} {cc : ByteArray} {nL : Nat} {ret : Option FieldType} {G : zG} {A : Nat → Prop} {pc : Nat} {ls : Array Slot} {rest : List Value} {q : Nat → Nat} {M M1 : St} {k : Nat} (hk : k < 8) {v : Int32} (F : zFx p s m args meth c cc RX2 nL ret G A) (hq : zQD A 58 q) (hP : zP G.1 58 q (eC G q) M H) (hS : va_S A s.heap H locs) (hM : M1 = up2 M (27 + k) 5 v) (hdg : decode cc pc = .ok (.putfield 41, 3))
    (kk : ∀ (H1 : Heap) (locs1 : List Loc), zP G.1 58 q (eC G q) M1 H1 → va_S A s.heap H1 locs1 → W p l e R s m args below meth c H1 locs1 cells slots Q (F0 m (pc + 3) ls rest)) : W p l e R s m args below meth c H locs cells slots Q (F0 m pc ls (.int v :: .ref (q (27 + k)) :: rest)) :=
  x_putf (T := TX2) (j := 5) (ty := .int) in_X2 tyX2_ok nmX2 (ci := 1) rfl (by decide) m_0_169 rfl rfl rfl F hq hP hS (by omega) (eC_F G q hk _) (Nat.le_of_ble_eq_true rfl) (eC_F G q hk _) rfl rfl rfl hM hdg kk
theorem gC_X2_28 {p : Program} {l : Launch} {e : Env} {R : Room} {s : State} {m : MethodId} {args : Array Value} {below : List Frame} {meth : Method} {c : Code} {H : Heap} {locs : List Loc} {cells slots : Nat} {Q : State → Prop} {cc : ByteArray} {nL : Nat} {ret : Option FieldType} {G : zG} {A : Nat → Prop} {pc : Nat} {ls : Array Slot} {rest : List Value} {q : Nat → Nat} {M : St} {k : Nat} (hk : k < 16) (F : zFx p s m args meth c cc RX2 nL ret G A) (hP : zP G.1 58 q (eC G q) M H) (hdg : decode cc pc = .ok (.getfield 28, 3))
    (kk : W p l e R s m args below meth c H locs cells slots Q (F0 m (pc + 3) ls (.int (M (6 + k) 0) :: rest))) : W p l e R s m args below meth c H locs cells slots Q (F0 m pc ls (.ref (q (6 + k)) :: rest)) :=
  x_getf (T := TX3) (j := 0) in_X3 (ci := 2) rfl (by decide) m_0_141 rfl F hP (by omega) (eC_M G q hk _) rfl hdg kk
theorem hC_X2_33 {p : Program} {l : Launch} {e : Env} {R : Room} {s : State} {m : MethodId} {args : Array Value} {below : List Frame} {meth : Method} {c : Code} {H : Heap} {locs : List Loc} {cells slots : Nat} {Q : State → Prop} {cc : ByteArray} {nL : Nat} {ret : Option FieldType} {G : zG} {A : Nat → Prop} {pc : Nat} {ls : Array Slot} {rest : List Value} {q : Nat → Nat} {M M1 : St} {k : Nat} (hk : k < 8) {v : Int32} (F : zFx p s m args meth c cc RX2 nL ret G A) (hq : zQD A 58 q) (hP : zP G.1 58 q (eC G q) M H) (hS : va_S A s.heap H locs) (hM : M1 = up2 M (27 + k) 3 v) (hdg : decode cc pc = .ok (.putfield 33, 3))
    (kk : ∀ (H1 : Heap) (locs1 : List Loc), zP G.1 58 q (eC G q) M1 H1 → va_S A s.heap H1 locs1 → W p l e R s m args below meth c H1 locs1 cells slots Q (F0 m (pc + 3) ls rest)) : W p l e R s m args below meth c H locs cells slots Q (F0 m pc ls (.int v :: .ref (q (27 + k)) :: rest)) :=
  x_putf (T := TX2) (j := 3) (ty := .int) in_X2 tyX2_ok nmX2 (ci := 1) rfl (by decide) m_0_165 rfl rfl rfl F hq hP hS (by omega) (eC_F G q hk _) (Nat.le_of_ble_eq_true rfl) (eC_F G q hk _) rfl rfl rfl hM hdg kk
theorem gC_X2_34 {p : Program} {l : Launch} {e : Env} {R : Room} {s : State} {m : MethodId} {args : Array Value} {below : List Frame} {meth : Method} {c : Code} {H : Heap} {locs : List Loc} {cells slots : Nat} {Q : State → Prop} {cc : ByteArray} {nL : Nat} {ret : Option FieldType} {G : zG} {A : Nat → Prop} {pc : Nat} {ls : Array Slot} {rest : List Value} {q : Nat → Nat} {M : St} {k : Nat} (hk : k < 16) (F : zFx p s m args meth c cc RX2 nL ret G A) (hP : zP G.1 58 q (eC G q) M H) (hdg : decode cc pc = .ok (.getfield 34, 3))
    (kk : W p l e R s m args below meth c H locs cells slots Q (F0 m (pc + 3) ls (.int (M (6 + k) 1) :: rest))) : W p l e R s m args below meth c H locs cells slots Q (F0 m pc ls (.ref (q (6 + k)) :: rest)) :=
  x_getf (T := TX3) (j := 1) in_X3 (ci := 2) rfl (by decide) m_0_144 rfl F hP (by omega) (eC_M G q hk _) rfl hdg kk
theorem hC_X5_15 {p : Program} {l : Launch} {e : Env} {R : Room} {s : State} {m : MethodId} {args : Array Value} {below : List Frame} {meth : Method} {c : Code} {H : Heap} {locs : List Loc} {cells slots : Nat} {Q : State → Prop} {cc : ByteArray} {nL : Nat} {ret : Option FieldType} {G : zG} {A : Nat → Prop} {pc : Nat} {ls : Array Slot} {rest : List Value} {q : Nat → Nat} {M M1 : St} {v : Int32} (F : zFx p s m args meth c cc RX5 nL ret G A) (hq : zQD A 58 q) (hP : zP G.1 58 q (eC G q) M H) (hS : va_S A s.heap H locs) (hM : M1 = up2 M 3 1 v) (hdg : decode cc pc = .ok (.putfield 15, 3))
    (kk : ∀ (H1 : Heap) (locs1 : List Loc), zP G.1 58 q (eC G q) M1 H1 → va_S A s.heap H1 locs1 → W p l e R s m args below meth c H1 locs1 cells slots Q (F0 m (pc + 3) ls rest)) : W p l e R s m args below meth c H locs cells slots Q (F0 m pc ls (.int v :: .ref (q 3) :: rest)) :=
  x_putf (T := TX5) (j := 1) (ty := .int) in_X5 tyX5_ok nmX5 (ci := 3) rfl (by decide) m_0_45 rfl rfl rfl F hq hP hS (by decide) (eC_3 G q _) (Nat.le_of_ble_eq_true rfl) (eC_3 G q _) rfl rfl rfl hM hdg kk
theorem gC_X5_15 {p : Program} {l : Launch} {e : Env} {R : Room} {s : State} {m : MethodId} {args : Array Value} {below : List Frame} {meth : Method} {c : Code} {H : Heap} {locs : List Loc} {cells slots : Nat} {Q : State → Prop} {cc : ByteArray} {nL : Nat} {ret : Option FieldType} {G : zG} {A : Nat → Prop} {pc : Nat} {ls : Array Slot} {rest : List Value} {q : Nat → Nat} {M : St} (F : zFx p s m args meth c cc RX5 nL ret G A) (hP : zP G.1 58 q (eC G q) M H) (hdg : decode cc pc = .ok (.getfield 15, 3))
    (kk : W p l e R s m args below meth c H locs cells slots Q (F0 m (pc + 3) ls (.int (M 3 1) :: rest))) : W p l e R s m args below meth c H locs cells slots Q (F0 m pc ls (.ref (q 3) :: rest)) :=
  x_getf (T := TX5) (j := 1) in_X5 (ci := 3) rfl (by decide) m_0_45 rfl F hP (by decide) (eC_3 G q _) rfl hdg kk
theorem gC_X5_9 {p : Program} {l : Launch} {e : Env} {R : Room} {s : State} {m : MethodId} {args : Array Value} {below : List Frame} {meth : Method} {c : Code} {H : Heap} {locs : List Loc} {cells slots : Nat} {Q : State → Prop} {cc : ByteArray} {nL : Nat} {ret : Option FieldType} {G : zG} {A : Nat → Prop} {pc : Nat} {ls : Array Slot} {rest : List Value} {q : Nat → Nat} {M : St} (F : zFx p s m args meth c cc RX5 nL ret G A) (hP : zP G.1 58 q (eC G q) M H) (hdg : decode cc pc = .ok (.getfield 9, 3))
    (kk : W p l e R s m args below meth c H locs cells slots Q (F0 m (pc + 3) ls (.int (M 3 0) :: rest))) : W p l e R s m args below meth c H locs cells slots Q (F0 m pc ls (.ref (q 3) :: rest)) :=
  x_getf (T := TX5) (j := 0) in_X5 (ci := 3) rfl (by decide) m_0_42 rfl F hP (by decide) (eC_3 G q _) rfl hdg kk
theorem hC_X5_9 {p : Program} {l : Launch} {e : Env} {R : Room} {s : State} {m : MethodId} {args : Array Value} {below : List Frame} {meth : Method} {c : Code} {H : Heap} {locs : List Loc} {cells slots : Nat} {Q : State → Prop} {cc : ByteArray} {nL : Nat} {ret : Option FieldType} {G : zG} {A : Nat → Prop} {pc : Nat} {ls : Array Slot} {rest : List Value} {q : Nat → Nat} {M M1 : St} {v : Int32} (hz : isb v = true) (F : zFx p s m args meth c cc RX5 nL ret G A) (hq : zQD A 58 q) (hP : zP G.1 58 q (eC G q) M H) (hS : va_S A s.heap H locs) (hM : M1 = up2 M 3 0 v) (hdg : decode cc pc = .ok (.putfield 9, 3))
    (kk : ∀ (H1 : Heap) (locs1 : List Loc), zP G.1 58 q (eC G q) M1 H1 → va_S A s.heap H1 locs1 → W p l e R s m args below meth c H1 locs1 cells slots Q (F0 m (pc + 3) ls rest)) : W p l e R s m args below meth c H locs cells slots Q (F0 m pc ls (.int v :: .ref (q 3) :: rest)) :=
  x_putf (T := TX5) (j := 0) (ty := .boolean) in_X5 tyX5_ok nmX5 (ci := 3) rfl (by decide) m_0_42 rfl rfl rfl F hq hP hS (by decide) (eC_3 G q _) (Nat.le_of_ble_eq_true rfl) (eC_3 G q _) rfl (isb_nar hz) (isb_fit hz) hM hdg kk

-- Enum.ordinal
theorem c_ord (l : Launch) (G : zG) (A : Nat → Prop) (P0 : Heap → Prop) {j : Nat} (hj : j < 46) : zKI l yJx29ce0_ordinal_8abf5 cJx29ce0_ordinal_8abf5 1 (some .int) 0 0 G A P0 [.ref (G.2.2.1 j)] (opOrd.getD j 0) P0 := by
  refine zKI_of (by decide) (Nat.le_of_ble_eq_true rfl) (fun p e s m args below meth c H ls F hH hP hl => ?_)
  have F : zFx p s m args meth c cJx29ce0_ordinal_8abf5 RJx29ce0 1 (some .int) G A := F
  have hS : va_S A s.heap H [] := hH ▸ va_S.rf
  have hl : lv_has ls 1 [(0, .ref (G.2.2.1 j))] := hl
  refine lv_aload_n F.1 F.2.1 dJx29ce0_ordinal_8abf5_0 rfl (lv_at hl 0 rfl) ?_
  refine va_getE (q := ("java/lang/Enum", "ordinal", "I", opOrd)) F.1 F.2.1 F.S.1 hj hS F.2.2.2.1 e_ordinal (F.ws m_3_174) (fun _ h => h) dJx29ce0_ordinal_8abf5_1 ?_
  exact x_iret F rfl rfl hP hS dJx29ce0_ordinal_8abf5_4
theorem w_ord {own : String} {idx : Nat} (h : Cond.methodLink own idx ⟨"CardMachine$Op", "ordinal", "()I"⟩ ∈ BW) : GoodIn BW (va_wsU own idx "CardMachine$Op" "java/lang/Enum" ⟨"CardMachine$Op", "ordinal", "()I"⟩ yJx29ce0_ordinal_8abf5 (Cond.code yJx29ce0_ordinal_8abf5 cJx29ce0_ordinal_8abf5 1 (some .int) :: BW)) := by
  refine bw_good fun w hw => ?_
  simp only [va_wsU, List.cons_append, List.nil_append, List.mem_cons] at hw
  rcases hw with e | e | e | e | e | e | e
  · rw [e]; exact h
  · rw [e]; exact m_1_80
  · rw [e]; exact m_1_82
  · rw [e]; exact m_1_83
  · rw [e]; exact m_0_10
  · rw [e]; exact m_1_84
  · exact e
theorem x_ord {p : Program} {l : Launch} {e : Env} {R : Room} {s : State} {m : MethodId} {args : Array Value} {below : List Frame} {meth : Method} {c : Code} {H : Heap} {locs : List Loc} {cells slots : Nat} {Q : State → Prop} {cc : ByteArray} {own : String} {nL : Nat} {ret : Option FieldType} {G : zG} {A : Nat → Prop} {pc : Nat} {ls : Array Slot} {rest : List Value} {idx j : Nat} {P0 : Heap → Prop} (h : Cond.methodLink own idx ⟨"CardMachine$Op", "ordinal", "()I"⟩ ∈ BW) (F : zFx p s m args meth c cc own nL ret G A) (hS : va_S A s.heap H locs) (hj : j < 46) (h0 : P0 H) (hls : ls.size = nL) (hR : 0 + 1 ≤ R.frames ∧ 8 + (1 + 11) + 0 ≤ R.locals) (hcs : cells ≤ R.cells ∧ slots ≤ R.slots) (hcat : (rest.map fun v => v.category).sum ≤ 8) (hdg : decode cc pc = .ok (.invokevirtual idx, 3))
    (kk : ∀ (H1 : Heap) (locs1 : List Loc), P0 H1 → va_S A s.heap H1 locs1 → W p l e R s m args below meth c H1 locs1 cells slots Q (F0 m (pc + 3) ls (.int (opOrd.getD j 0) :: rest))) : W p l e R s m args below meth c H locs cells slots Q (F0 m pc ls (.ref (G.2.2.1 j) :: rest)) := by
  refine va_calli (va_runU (As := []) (rest := rest) ⟨F.1, F.2.1, F.2.2.1, F.2.2.2.1, F.2.2.2.2.1⟩ (c_ord l G A P0 hj) (va_cwU (C := "CardMachine$Op") (owner := "java/lang/Enum") 0 F.2.2.2.2.1 (w_ord h) rfl rfl rfl rfl ⟨by decide, by decide, by decide +kernel⟩ hR) ⟨zPre_blind G A P0 _, va_recvE F.S.1 hj hS, fun U hU hW => ⟨rfl, by rw [hU]; exact h0, F.2.2.2.2.2.2.2.go hS.2.1 hU hW⟩⟩ rfl rfl hls rfl (lv_room hcat) hdg hcs) hS (fun a _ h => h) (fun _ h => h) (fun r' u t H1 locs1 ht hvm hw hB hz hk hS1 => ?_)
  subst hw
  subst ht
  exact kk _ locs1 hB hS1
end
section
def pX1_isFull (M : St) (k0 : Nat) : Option Int32 :=
  if M k0 1 = 32 then
    some 1
  else
    some 0
set_option maxHeartbeats 4000000 in
set_option maxRecDepth 100000 in
theorem tX1_isFull (l : Launch) (G : zG) (A : Nat → Prop) (q : Nat → Nat) (hq : zQD A 58 q) {M : St} {r : Int32} {k0 : Nat} (hk0 : k0 = 22 ∨ k0 = 24) (hs : pX1_isFull M k0 = some r) : zKI l yX1_isFull cX1_isFull 1 (some .boolean) 0 0 G A (zP G.1 58 q (eC G q) M) [.ref (q k0)] r (zP G.1 58 q (eC G q) M) := by
  refine zKI_of (by decide) (Nat.le_of_ble_eq_true rfl) (fun p e s m args below meth c H ls F hH hP hl => ?_)
  have F : zFx p s m args meth c cX1_isFull RX1 1 (some .boolean) G A := F
  have hS : va_S A s.heap H [] := hH ▸ va_S.rf
  have hl : lv_has ls 1 [(0, .ref (q k0))] := hl
  rw [pX1_isFull] at hs
  refine lv_aload_n F.1 F.2.1 dX1_isFull_0 rfl (lv_at hl 0 rfl) ?_
  refine gC_X1_15 hk0 F hP dX1_isFull_1 ?_
  refine lv_bipush (v := 32) F.1 F.2.1 dX1_isFull_4 rfl ?_
  refine lv_icmp_ne (tgt := 13) F.1 F.2.1 dX1_isFull_6 (by decide) (fun c1 => ?_) (fun c1 => ?_)
  · have hs := it_f c1 hs
    refine lv_iconst (v := 0) F.1 F.2.1 dX1_isFull_13 rfl ?_
    cases hs
    exact x_iret F rfl rfl hP hS dX1_isFull_14
  have hs := it_t c1 hs
  refine lv_iconst (v := 1) F.1 F.2.1 dX1_isFull_9 rfl ?_
  refine lv_goto (tgt := 14) F.1 F.2.1 dX1_isFull_10 (by decide) ?_
  cases hs
  exact x_iret F rfl rfl hP hS dX1_isFull_14

def pX1_has (M : St) (k0 : Nat) (x1 : Int32) : Option Int32 :=
  if x1 < 0 then
    some 0
  else
    if M k0 1 ≤ x1 then
      some 0
    else
      some 1
set_option maxHeartbeats 4000000 in
set_option maxRecDepth 100000 in
theorem tX1_has (l : Launch) (G : zG) (A : Nat → Prop) (q : Nat → Nat) (hq : zQD A 58 q) {M : St} {r : Int32} {k0 : Nat} {x1 : Int32} (hk0 : k0 = 22 ∨ k0 = 24) (hs : pX1_has M k0 x1 = some r) : zKI l yX1_has cX1_has 2 (some .boolean) 0 0 G A (zP G.1 58 q (eC G q) M) [.ref (q k0), .int x1] r (zP G.1 58 q (eC G q) M) := by
  refine zKI_of (by decide) (Nat.le_of_ble_eq_true rfl) (fun p e s m args below meth c H ls F hH hP hl => ?_)
  have F : zFx p s m args meth c cX1_has RX1 2 (some .boolean) G A := F
  have hS : va_S A s.heap H [] := hH ▸ va_S.rf
  have hl : lv_has ls 2 [(0, .ref (q k0)), (1, .int x1)] := hl
  rw [pX1_has] at hs
  refine lv_iload_n F.1 F.2.1 dX1_has_0 rfl (lv_at hl 1 rfl) ?_
  refine lv_if_lt (tgt := 16) F.1 F.2.1 dX1_has_1 (by decide) (fun c1 => ?_) (fun c1 => ?_)
  · have hs := it_t c1 hs
    refine lv_iconst (v := 0) F.1 F.2.1 dX1_has_16 rfl ?_
    cases hs
    exact x_iret F rfl rfl hP hS dX1_has_17
  have hs := it_f c1 hs
  refine lv_iload_n F.1 F.2.1 dX1_has_4 rfl (lv_at hl 1 rfl) ?_
  refine lv_aload_n F.1 F.2.1 dX1_has_5 rfl (lv_at hl 0 rfl) ?_
  refine gC_X1_15 hk0 F hP dX1_has_6 ?_
  refine lv_icmp_ge (tgt := 16) F.1 F.2.1 dX1_has_9 (by decide) (fun c2 => ?_) (fun c2 => ?_)
  · have hs := it_t c2 hs
    refine lv_iconst (v := 0) F.1 F.2.1 dX1_has_16 rfl ?_
    cases hs
    exact x_iret F rfl rfl hP hS dX1_has_17
  have hs := it_f c2 hs
  refine lv_iconst (v := 1) F.1 F.2.1 dX1_has_12 rfl ?_
  refine lv_goto (tgt := 17) F.1 F.2.1 dX1_has_13 (by decide) ?_
  cases hs
  exact x_iret F rfl rfl hP hS dX1_has_17

def pX1_add (M : St) (k0 : Nat) (x1 : Int32) : Option St :=
  gd (inb (M k0 1) 32) <|
  lt (up2 M (k0 + 1) (ix (M k0 1)) x1) fun M1 =>
  lt (up2 M1 k0 1 ((M1 k0 1) + 1)) fun M2 =>
  some M2
set_option maxHeartbeats 4000000 in
set_option maxRecDepth 100000 in
theorem tX1_add (l : Launch) (G : zG) (A : Nat → Prop) (q : Nat → Nat) (hq : zQD A 58 q) {M M' : St} {k0 : Nat} {x1 : Int32} (hk0 : k0 = 22 ∨ k0 = 24) (hs : pX1_add M k0 x1 = some M') : zKV l yX1_add cX1_add 2 0 0 G A (zP G.1 58 q (eC G q) M) [.ref (q k0), .int x1] (zP G.1 58 q (eC G q) M') := by
  refine zKV_of (by decide) (Nat.le_of_ble_eq_true rfl) (fun p e s m args below meth c H ls F hH hP hl => ?_)
  have F : zFx p s m args meth c cX1_add RX1 2 none G A := F
  have hS : va_S A s.heap H [] := hH ▸ va_S.rf
  have hl : lv_has ls 2 [(0, .ref (q k0)), (1, .int x1)] := hl
  rw [pX1_add] at hs
  refine lv_aload_n F.1 F.2.1 dX1_add_0 rfl (lv_at hl 0 rfl) ?_
  refine gC_X1_9 hk0 F hP dX1_add_1 ?_
  refine lv_aload_n F.1 F.2.1 dX1_add_4 rfl (lv_at hl 0 rfl) ?_
  refine gC_X1_15 hk0 F hP dX1_add_5 ?_
  refine lv_iload_n F.1 F.2.1 dX1_add_8 rfl (lv_at hl 1 rfl) ?_
  obtain ⟨g1, hs⟩ := gd_some hs
  obtain ⟨M1, eM1, hs⟩ := lt_some hs
  refine x_iast F hq hP hS (arC_B G q hk0) g1 eM1 dX1_add_9 (fun H locs hP hS => ?_)
  refine lv_aload_n F.1 F.2.1 dX1_add_10 rfl (lv_at hl 0 rfl) ?_
  refine lv_dup F.1 F.2.1 dX1_add_11 rfl ?_
  refine gC_X1_15 hk0 F hP dX1_add_12 ?_
  refine lv_iconst (v := 1) F.1 F.2.1 dX1_add_15 rfl ?_
  refine lv_iadd F.1 F.2.1 dX1_add_16 ?_
  obtain ⟨M2, eM2, hs⟩ := lt_some hs
  refine hC_X1_15 hk0 F hq hP hS eM2 dX1_add_17 (fun H locs hP hS => ?_)
  cases hs
  exact x_vret F hP hS dX1_add_20

def pX2_hasRoom (M : St) (k0 : Nat) (x1 : Int32) : Option Int32 :=
  if 16 < (M (27 + k0) 2) + x1 then
    some 0
  else
    some 1
set_option maxHeartbeats 4000000 in
set_option maxRecDepth 100000 in
theorem tX2_hasRoom (l : Launch) (G : zG) (A : Nat → Prop) (q : Nat → Nat) (hq : zQD A 58 q) {M : St} {r : Int32} {k0 : Nat} {x1 : Int32} (hk0 : k0 < 8) (hs : pX2_hasRoom M k0 x1 = some r) : zKI l yX2_hasRoom cX2_hasRoom 2 (some .boolean) 0 0 G A (zP G.1 58 q (eC G q) M) [.ref (q (27 + k0)), .int x1] r (zP G.1 58 q (eC G q) M) := by
  refine zKI_of (by decide) (Nat.le_of_ble_eq_true rfl) (fun p e s m args below meth c H ls F hH hP hl => ?_)
  have F : zFx p s m args meth c cX2_hasRoom RX2 2 (some .boolean) G A := F
  have hS : va_S A s.heap H [] := hH ▸ va_S.rf
  have hl : lv_has ls 2 [(0, .ref (q (27 + k0))), (1, .int x1)] := hl
  rw [pX2_hasRoom] at hs
  refine lv_aload_n F.1 F.2.1 dX2_hasRoom_0 rfl (lv_at hl 0 rfl) ?_
  refine gC_X2_24 hk0 F hP dX2_hasRoom_1 ?_
  refine lv_iload_n F.1 F.2.1 dX2_hasRoom_4 rfl (lv_at hl 1 rfl) ?_
  refine lv_iadd F.1 F.2.1 dX2_hasRoom_5 ?_
  refine lv_bipush (v := 16) F.1 F.2.1 dX2_hasRoom_6 rfl ?_
  refine lv_icmp_gt (tgt := 15) F.1 F.2.1 dX2_hasRoom_8 (by decide) (fun c1 => ?_) (fun c1 => ?_)
  · have hs := it_t c1 hs
    refine lv_iconst (v := 0) F.1 F.2.1 dX2_hasRoom_15 rfl ?_
    cases hs
    exact x_iret F rfl rfl hP hS dX2_hasRoom_16
  have hs := it_f c1 hs
  refine lv_iconst (v := 1) F.1 F.2.1 dX2_hasRoom_11 rfl ?_
  refine lv_goto (tgt := 16) F.1 F.2.1 dX2_hasRoom_12 (by decide) ?_
  cases hs
  exact x_iret F rfl rfl hP hS dX2_hasRoom_16

def pX2_push (M : St) (k0 : Nat) (x1 : Int32) : Option St :=
  gd (inb (M (27 + k0) 2) 16) <|
  lt (up2 M (43 + k0) (ix (M (27 + k0) 2)) (x1.toInt16.toInt32)) fun M1 =>
  lt (up2 M1 (27 + k0) 2 ((M1 (27 + k0) 2) + 1)) fun M2 =>
  some M2
set_option maxHeartbeats 4000000 in
set_option maxRecDepth 100000 in
theorem tX2_push (l : Launch) (G : zG) (A : Nat → Prop) (q : Nat → Nat) (hq : zQD A 58 q) {M M' : St} {k0 : Nat} {x1 : Int32} (hk0 : k0 < 8) (hs : pX2_push M k0 x1 = some M') : zKV l yX2_push cX2_push 2 0 0 G A (zP G.1 58 q (eC G q) M) [.ref (q (27 + k0)), .int x1] (zP G.1 58 q (eC G q) M') := by
  refine zKV_of (by decide) (Nat.le_of_ble_eq_true rfl) (fun p e s m args below meth c H ls F hH hP hl => ?_)
  have F : zFx p s m args meth c cX2_push RX2 2 none G A := F
  have hS : va_S A s.heap H [] := hH ▸ va_S.rf
  have hl : lv_has ls 2 [(0, .ref (q (27 + k0))), (1, .int x1)] := hl
  rw [pX2_push] at hs
  refine lv_aload_n F.1 F.2.1 dX2_push_0 rfl (lv_at hl 0 rfl) ?_
  refine gC_X2_15 hk0 F hP dX2_push_1 ?_
  refine lv_aload_n F.1 F.2.1 dX2_push_4 rfl (lv_at hl 0 rfl) ?_
  refine gC_X2_24 hk0 F hP dX2_push_5 ?_
  refine lv_iload_n F.1 F.2.1 dX2_push_8 rfl (lv_at hl 1 rfl) ?_
  refine lv_i2s F.1 F.2.1 dX2_push_9 rfl ?_
  obtain ⟨g1, hs⟩ := gd_some hs
  obtain ⟨M1, eM1, hs⟩ := lt_some hs
  refine x_iast F hq hP hS (arC_s G q hk0) g1 eM1 dX2_push_10 (fun H locs hP hS => ?_)
  refine lv_aload_n F.1 F.2.1 dX2_push_11 rfl (lv_at hl 0 rfl) ?_
  refine lv_dup F.1 F.2.1 dX2_push_12 rfl ?_
  refine gC_X2_24 hk0 F hP dX2_push_13 ?_
  refine lv_iconst (v := 1) F.1 F.2.1 dX2_push_16 rfl ?_
  refine lv_iadd F.1 F.2.1 dX2_push_17 ?_
  obtain ⟨M2, eM2, hs⟩ := lt_some hs
  refine hC_X2_24 hk0 F hq hP hS eM2 dX2_push_18 (fun H locs hP hS => ?_)
  cases hs
  exact x_vret F hP hS dX2_push_21

def pX2_pop (M : St) (k0 : Nat) : Option (Int32 × St) :=
  lt (up2 M (27 + k0) 2 ((M (27 + k0) 2) - 1)) fun M1 =>
  gd (inb (M1 (27 + k0) 2) 16) <|
  some (M1 (43 + k0) (ix (M1 (27 + k0) 2)), M1)
set_option maxHeartbeats 4000000 in
set_option maxRecDepth 100000 in
theorem tX2_pop (l : Launch) (G : zG) (A : Nat → Prop) (q : Nat → Nat) (hq : zQD A 58 q) {M M' : St} {r : Int32} {k0 : Nat} (hk0 : k0 < 8) (hs : pX2_pop M k0 = some (r, M')) : zKI l yX2_pop cX2_pop 1 (some .int) 0 0 G A (zP G.1 58 q (eC G q) M) [.ref (q (27 + k0))] r (zP G.1 58 q (eC G q) M') := by
  refine zKI_of (by decide) (Nat.le_of_ble_eq_true rfl) (fun p e s m args below meth c H ls F hH hP hl => ?_)
  have F : zFx p s m args meth c cX2_pop RX2 1 (some .int) G A := F
  have hS : va_S A s.heap H [] := hH ▸ va_S.rf
  have hl : lv_has ls 1 [(0, .ref (q (27 + k0)))] := hl
  rw [pX2_pop] at hs
  refine lv_aload_n F.1 F.2.1 dX2_pop_0 rfl (lv_at hl 0 rfl) ?_
  refine lv_dup F.1 F.2.1 dX2_pop_1 rfl ?_
  refine gC_X2_24 hk0 F hP dX2_pop_2 ?_
  refine lv_iconst (v := 1) F.1 F.2.1 dX2_pop_5 rfl ?_
  refine lv_isub F.1 F.2.1 dX2_pop_6 ?_
  obtain ⟨M1, eM1, hs⟩ := lt_some hs
  refine hC_X2_24 hk0 F hq hP hS eM1 dX2_pop_7 (fun H locs hP hS => ?_)
  refine lv_aload_n F.1 F.2.1 dX2_pop_10 rfl (lv_at hl 0 rfl) ?_
  refine gC_X2_15 hk0 F hP dX2_pop_11 ?_
  refine lv_aload_n F.1 F.2.1 dX2_pop_14 rfl (lv_at hl 0 rfl) ?_
  refine gC_X2_24 hk0 F hP dX2_pop_15 ?_
  obtain ⟨g1, hs⟩ := gd_some hs
  refine x_iald F hP (arC_s G q hk0) g1 dX2_pop_18 ?_
  cases hs
  exact x_iret F rfl rfl hP hS dX2_pop_19

def pX2_top (M : St) (k0 : Nat) : Option Int32 :=
  gd (inb ((M (27 + k0) 2) - 1) 16) <|
  some (M (43 + k0) (ix ((M (27 + k0) 2) - 1)))
set_option maxHeartbeats 4000000 in
set_option maxRecDepth 100000 in
theorem tX2_top (l : Launch) (G : zG) (A : Nat → Prop) (q : Nat → Nat) (hq : zQD A 58 q) {M : St} {r : Int32} {k0 : Nat} (hk0 : k0 < 8) (hs : pX2_top M k0 = some r) : zKI l yX2_top cX2_top 1 (some .int) 0 0 G A (zP G.1 58 q (eC G q) M) [.ref (q (27 + k0))] r (zP G.1 58 q (eC G q) M) := by
  refine zKI_of (by decide) (Nat.le_of_ble_eq_true rfl) (fun p e s m args below meth c H ls F hH hP hl => ?_)
  have F : zFx p s m args meth c cX2_top RX2 1 (some .int) G A := F
  have hS : va_S A s.heap H [] := hH ▸ va_S.rf
  have hl : lv_has ls 1 [(0, .ref (q (27 + k0)))] := hl
  rw [pX2_top] at hs
  refine lv_aload_n F.1 F.2.1 dX2_top_0 rfl (lv_at hl 0 rfl) ?_
  refine gC_X2_15 hk0 F hP dX2_top_1 ?_
  refine lv_aload_n F.1 F.2.1 dX2_top_4 rfl (lv_at hl 0 rfl) ?_
  refine gC_X2_24 hk0 F hP dX2_top_5 ?_
  refine lv_iconst (v := 1) F.1 F.2.1 dX2_top_8 rfl ?_
  refine lv_isub F.1 F.2.1 dX2_top_9 ?_
  obtain ⟨g1, hs⟩ := gd_some hs
  refine x_iald F hP (arC_s G q hk0) g1 dX2_top_10 ?_
  cases hs
  exact x_iret F rfl rfl hP hS dX2_top_11

def pX2_addToLocal (M : St) (k0 : Nat) (x1 : Int32) (x2 : Int32) : Option St :=
  gd (inb x1 8) <|
  gd (inb x1 8) <|
  lt (up2 M (35 + k0) (ix x1) (((M (35 + k0) (ix x1)) + x2).toInt16.toInt32)) fun M1 =>
  some M1
set_option maxHeartbeats 4000000 in
set_option maxRecDepth 100000 in
theorem tX2_addToLocal (l : Launch) (G : zG) (A : Nat → Prop) (q : Nat → Nat) (hq : zQD A 58 q) {M M' : St} {k0 : Nat} {x1 : Int32} {x2 : Int32} (hk0 : k0 < 8) (hs : pX2_addToLocal M k0 x1 x2 = some M') : zKV l yX2_addToLocal cX2_addToLocal 3 0 0 G A (zP G.1 58 q (eC G q) M) [.ref (q (27 + k0)), .int x1, .int x2] (zP G.1 58 q (eC G q) M') := by
  refine zKV_of (by decide) (Nat.le_of_ble_eq_true rfl) (fun p e s m args below meth c H ls F hH hP hl => ?_)
  have F : zFx p s m args meth c cX2_addToLocal RX2 3 none G A := F
  have hS : va_S A s.heap H [] := hH ▸ va_S.rf
  have hl : lv_has ls 3 [(0, .ref (q (27 + k0))), (1, .int x1), (2, .int x2)] := hl
  rw [pX2_addToLocal] at hs
  refine lv_aload_n F.1 F.2.1 dX2_addToLocal_0 rfl (lv_at hl 0 rfl) ?_
  refine gC_X2_9 hk0 F hP dX2_addToLocal_1 ?_
  refine lv_iload_n F.1 F.2.1 dX2_addToLocal_4 rfl (lv_at hl 1 rfl) ?_
  refine lv_aload_n F.1 F.2.1 dX2_addToLocal_5 rfl (lv_at hl 0 rfl) ?_
  refine gC_X2_9 hk0 F hP dX2_addToLocal_6 ?_
  refine lv_iload_n F.1 F.2.1 dX2_addToLocal_9 rfl (lv_at hl 1 rfl) ?_
  obtain ⟨g1, hs⟩ := gd_some hs
  refine x_iald F hP (arC_l G q hk0) g1 dX2_addToLocal_10 ?_
  refine lv_iload_n F.1 F.2.1 dX2_addToLocal_11 rfl (lv_at hl 2 rfl) ?_
  refine lv_iadd F.1 F.2.1 dX2_addToLocal_12 ?_
  refine lv_i2s F.1 F.2.1 dX2_addToLocal_13 rfl ?_
  obtain ⟨g2, hs⟩ := gd_some hs
  obtain ⟨M1, eM1, hs⟩ := lt_some hs
  refine x_iast F hq hP hS (arC_l G q hk0) g2 eM1 dX2_addToLocal_14 (fun H locs hP hS => ?_)
  cases hs
  exact x_vret F hP hS dX2_addToLocal_15

def pX2_handle (M : St) (k0 : Nat) (x1 : Int32) : Option St :=
  lt (up2 M (27 + k0) 2 0) fun M1 =>
  bn (pX2_push M1 k0 x1) fun M2 =>
  lt (up2 M2 (27 + k0) 4 (M2 (27 + k0) 5)) fun M3 =>
  lt (up2 M3 (27 + k0) 5 ((-2147483648))) fun M4 =>
  some M4
set_option maxHeartbeats 4000000 in
set_option maxRecDepth 100000 in
theorem tX2_handle (l : Launch) (G : zG) (A : Nat → Prop) (q : Nat → Nat) (hq : zQD A 58 q) {M M' : St} {k0 : Nat} {x1 : Int32} (hk0 : k0 < 8) (hs : pX2_handle M k0 x1 = some M') : zKV l yX2_handle cX2_handle 2 1 21 G A (zP G.1 58 q (eC G q) M) [.ref (q (27 + k0)), .int x1] (zP G.1 58 q (eC G q) M') := by
  refine zKV_of (by decide) (Nat.le_of_ble_eq_true rfl) (fun p e s m args below meth c H ls F hH hP hl => ?_)
  have F : zFx p s m args meth c cX2_handle RX2 2 none G A := F
  have hS : va_S A s.heap H [] := hH ▸ va_S.rf
  have hl : lv_has ls 2 [(0, .ref (q (27 + k0))), (1, .int x1)] := hl
  rw [pX2_handle] at hs
  refine lv_aload_n F.1 F.2.1 dX2_handle_0 rfl (lv_at hl 0 rfl) ?_
  refine lv_iconst (v := 0) F.1 F.2.1 dX2_handle_1 rfl ?_
  obtain ⟨M1, eM1, hs⟩ := lt_some hs
  refine hC_X2_24 hk0 F hq hP hS eM1 dX2_handle_2 (fun H locs hP hS => ?_)
  refine lv_aload_n F.1 F.2.1 dX2_handle_5 rfl (lv_at hl 0 rfl) ?_
  refine lv_iload_n F.1 F.2.1 dX2_handle_6 rfl (lv_at hl 1 rfl) ?_
  obtain ⟨M2, h1, hs⟩ := bn_some hs
  refine x_callV (rest := []) wv_X2_44 F hS (fun _ h => h) hS.2.1 (tX2_push l G A q hq hk0 h1) hP (x_recv (ci := 1) F hP rfl (by have := hk0; omega) (eC_F G q hk0 _)) rfl hl.1 rfl ⟨Nat.le_of_ble_eq_true rfl, Nat.le_of_ble_eq_true rfl⟩ ⟨Nat.le_refl _, Nat.le_refl _⟩ (Nat.le_of_ble_eq_true rfl) dX2_handle_7 (fun H locs hP hS _ _ => ?_)
  refine lv_aload_n F.1 F.2.1 dX2_handle_10 rfl (lv_at hl 0 rfl) ?_
  refine lv_aload_n F.1 F.2.1 dX2_handle_11 rfl (lv_at hl 0 rfl) ?_
  refine gC_X2_41 hk0 F hP dX2_handle_12 ?_
  obtain ⟨M3, eM3, hs⟩ := lt_some hs
  refine hC_X2_37 hk0 F hq hP hS eM3 dX2_handle_15 (fun H locs hP hS => ?_)
  refine lv_aload_n F.1 F.2.1 dX2_handle_18 rfl (lv_at hl 0 rfl) ?_
  refine lv_ldc (v := (-2147483648)) F.1 F.2.1 F.2.2.2.1 (F.ws m_1_53) dX2_handle_19 ?_
  obtain ⟨M4, eM4, hs⟩ := lt_some hs
  refine hC_X2_41 hk0 F hq hP hS eM4 dX2_handle_21 (fun H locs hP hS => ?_)
  cases hs
  exact x_vret F hP hS dX2_handle_24

def pJ7_fill_53178_b5 (a0 n0 : Nat) : Nat → St → Int32 → Int32 → Int32 → Option St
  | 0, _, _, _, _ => none
  | n + 1, M, x1, x2, x3 =>
    if x3 ≤ x2 then
      some M
    else
      gd (inb x2 n0) <|
      lt (up2 M a0 (ix x2) x1) fun M1 =>
      pJ7_fill_53178_b5 a0 n0 n M1 x1 (x2 + 1) x3
def pJ7_fill_53178 (M : St) (a0 n0 : Nat) (x1 : Int32) : Option St :=
  pJ7_fill_53178_b5 a0 n0 LF M x1 0 (nI n0)
set_option maxHeartbeats 4000000 in
set_option maxRecDepth 100000 in
theorem tJ7_fill_53178_b5 (n : Nat) {G : zG} {A : Nat → Prop} {N : Nat} {ent : zEnt} {a0 n0 : Nat} {q : Nat → Nat} (har : zAR ent G.2.1.1 N a0 n0) (hq : zQD A N q) {M' : St} : ∀ {M : St} {x1 : Int32} {x2 : Int32} {x3 : Int32} (hs : pJ7_fill_53178_b5 a0 n0 n M x1 x2 x3 = some M') {p : Program} {l : Launch} {e : Env} {s : State} {m : MethodId} {args : Array Value} {below : List Frame} {meth : Method} {c : Code} {H : Heap} {locs : List Loc} {ls : Array Slot} (F : zFx p s m args meth c cJ7_fill_53178 RJ7 4 none G A) (hP : (zP G.1 N q (ent) M) H) (hS : va_S A s.heap H locs) (hl : lv_has ls 4 [(0, .ref (q a0)), (1, .int x1), (2, .int x2), (3, .int x3)]), W p l e { frames := 0, cells := 0, slots := 0, locals := 0 } s m args below meth c H locs 0 0 (MQ below (va_Qv (fun (_ : Unit) => True) (fun _ U => (zP G.1 N q (ent) M') U.heap) A) args s 0 0 A) (F0 m 5 ls []) := by
  induction n with
  | zero =>
    intro M x1 x2 x3 hs p l e s m args below meth c H locs ls F hP hS hl
    rw [pJ7_fill_53178_b5] at hs
    cases hs
  | succ n ih =>
    intro M x1 x2 x3 hs p l e s m args below meth c H locs ls F hP hS hl
    rw [pJ7_fill_53178_b5] at hs
    refine lv_iload_n F.1 F.2.1 dJ7_fill_53178_5 rfl (lv_at hl 2 rfl) ?_
    refine lv_iload_n F.1 F.2.1 dJ7_fill_53178_6 rfl (lv_at hl 3 rfl) ?_
    refine lv_icmp_ge (tgt := 20) F.1 F.2.1 dJ7_fill_53178_7 (by decide) (fun c1 => ?_) (fun c1 => ?_)
    · have hs := it_t c1 hs
      cases hs
      exact x_vret F hP hS dJ7_fill_53178_20
    have hs := it_f c1 hs
    refine lv_aload_n F.1 F.2.1 dJ7_fill_53178_10 rfl (lv_at hl 0 rfl) ?_
    refine lv_iload_n F.1 F.2.1 dJ7_fill_53178_11 rfl (lv_at hl 2 rfl) ?_
    refine lv_iload_n F.1 F.2.1 dJ7_fill_53178_12 rfl (lv_at hl 1 rfl) ?_
    obtain ⟨g1, hs⟩ := gd_some hs
    obtain ⟨M1, eM1, hs⟩ := lt_some hs
    refine x_iast F hq hP hS har g1 eM1 dJ7_fill_53178_13 (fun H locs hP hS => ?_)
    refine lv_iinc (v := x2 + 1) (lv' := [(2, .int (x2 + 1)), (0, .ref (q a0)), (1, .int x1), (3, .int x3)]) F.1 F.2.1 dJ7_fill_53178_14 hl (k := 2) rfl rfl (by decide) rfl (fun ls hl => ?_)
    refine lv_goto (tgt := 5) F.1 F.2.1 dJ7_fill_53178_17 (by decide) ?_
    exact ih hs F hP hS (lv_sub hl [1, 2, 0, 3] rfl)
set_option maxHeartbeats 4000000 in
set_option maxRecDepth 100000 in
theorem tJ7_fill_53178 (l : Launch) (G : zG) (A : Nat → Prop) {N : Nat} {ent : zEnt} {a0 n0 : Nat} (q : Nat → Nat) (hq : zQD A N q) (har : zAR ent G.2.1.1 N a0 n0) {M M' : St} {x1 : Int32} (hs : pJ7_fill_53178 M a0 n0 x1 = some M') : zKV l yJ7_fill_53178 cJ7_fill_53178 4 0 0 G A (zP G.1 N q (ent) M) [.ref (q a0), .int x1] (zP G.1 N q (ent) M') := by
  refine zKV_of (by decide) (Nat.le_of_ble_eq_true rfl) (fun p e s m args below meth c H ls F hH hP hl => ?_)
  have F : zFx p s m args meth c cJ7_fill_53178 RJ7 4 none G A := F
  have hS : va_S A s.heap H [] := hH ▸ va_S.rf
  have hl : lv_has ls 4 [(0, .ref (q a0)), (1, .int x1)] := hl
  rw [pJ7_fill_53178] at hs
  refine lv_iconst (v := 0) F.1 F.2.1 dJ7_fill_53178_0 rfl ?_
  refine lv_istore_n (lv' := [(2, .int 0), (0, .ref (q a0)), (1, .int x1)]) F.1 F.2.1 dJ7_fill_53178_1 rfl hl (by decide) rfl (fun ls hl => ?_)
  refine lv_aload_n F.1 F.2.1 dJ7_fill_53178_2 rfl (lv_at hl 1 rfl) ?_
  refine x_alen (v := nI n0) F hP har rfl dJ7_fill_53178_3 ?_
  refine lv_istore_n (lv' := [(3, .int (nI n0)), (2, .int 0), (0, .ref (q a0)), (1, .int x1)]) F.1 F.2.1 dJ7_fill_53178_4 rfl hl (by decide) rfl (fun ls hl => ?_)
  exact tJ7_fill_53178_b5 LF har hq hs F hP hS (lv_sub hl [2, 3, 1, 0] rfl)

def pX2_begin (M : St) (k0 : Nat) (k1 : Nat) : Option St :=
  bn (pJ7_fill_53178 M (35 + k0) 8 0) fun M1 =>
  lt (up2 M1 (27 + k0) 2 0) fun M2 =>
  lt (up2 M2 (27 + k0) 3 (M2 (6 + k1) 0)) fun M3 =>
  lt (up2 M3 (27 + k0) 4 (M3 (6 + k1) 1)) fun M4 =>
  lt (up2 M4 (27 + k0) 5 ((-2147483648))) fun M5 =>
  some M5
set_option maxHeartbeats 4000000 in
set_option maxRecDepth 100000 in
theorem tX2_begin (l : Launch) (G : zG) (A : Nat → Prop) (q : Nat → Nat) (hq : zQD A 58 q) {M M' : St} {k0 : Nat} {k1 : Nat} (hk0 : k0 < 8) (hk1 : k1 < 16) (hs : pX2_begin M k0 k1 = some M') : zKV l yX2_begin cX2_begin 2 1 23 G A (zP G.1 58 q (eC G q) M) [.ref (q (27 + k0)), .ref (q (6 + k1))] (zP G.1 58 q (eC G q) M') := by
  refine zKV_of (by decide) (Nat.le_of_ble_eq_true rfl) (fun p e s m args below meth c H ls F hH hP hl => ?_)
  have F : zFx p s m args meth c cX2_begin RX2 2 none G A := F
  have hS : va_S A s.heap H [] := hH ▸ va_S.rf
  have hl : lv_has ls 2 [(0, .ref (q (27 + k0))), (1, .ref (q (6 + k1)))] := hl
  rw [pX2_begin] at hs
  refine lv_aload_n F.1 F.2.1 dX2_begin_0 rfl (lv_at hl 0 rfl) ?_
  refine gC_X2_9 hk0 F hP dX2_begin_1 ?_
  refine lv_iconst (v := 0) F.1 F.2.1 dX2_begin_4 rfl ?_
  obtain ⟨M1, h1, hs⟩ := bn_some hs
  refine x_callSV (rest := []) wv_X2_18 F hS (fun _ h => h) hS.2.1 (tJ7_fill_53178 l G A q hq (arC_l G q hk0) h1) hP rfl hl.1 rfl ⟨Nat.le_of_ble_eq_true rfl, Nat.le_of_ble_eq_true rfl⟩ ⟨Nat.le_refl _, Nat.le_refl _⟩ (Nat.le_of_ble_eq_true rfl) dX2_begin_5 (fun H locs hP hS _ _ => ?_)
  refine lv_aload_n F.1 F.2.1 dX2_begin_8 rfl (lv_at hl 0 rfl) ?_
  refine lv_iconst (v := 0) F.1 F.2.1 dX2_begin_9 rfl ?_
  obtain ⟨M2, eM2, hs⟩ := lt_some hs
  refine hC_X2_24 hk0 F hq hP hS eM2 dX2_begin_10 (fun H locs hP hS => ?_)
  refine lv_aload_n F.1 F.2.1 dX2_begin_13 rfl (lv_at hl 0 rfl) ?_
  refine lv_aload_n F.1 F.2.1 dX2_begin_14 rfl (lv_at hl 1 rfl) ?_
  refine gC_X2_28 hk1 F hP dX2_begin_15 ?_
  obtain ⟨M3, eM3, hs⟩ := lt_some hs
  refine hC_X2_33 hk0 F hq hP hS eM3 dX2_begin_18 (fun H locs hP hS => ?_)
  refine lv_aload_n F.1 F.2.1 dX2_begin_21 rfl (lv_at hl 0 rfl) ?_
  refine lv_aload_n F.1 F.2.1 dX2_begin_22 rfl (lv_at hl 1 rfl) ?_
  refine gC_X2_34 hk1 F hP dX2_begin_23 ?_
  obtain ⟨M4, eM4, hs⟩ := lt_some hs
  refine hC_X2_37 hk0 F hq hP hS eM4 dX2_begin_26 (fun H locs hP hS => ?_)
  refine lv_aload_n F.1 F.2.1 dX2_begin_29 rfl (lv_at hl 0 rfl) ?_
  refine lv_ldc (v := (-2147483648)) F.1 F.2.1 F.2.2.2.1 (F.ws m_1_53) dX2_begin_30 ?_
  obtain ⟨M5, eM5, hs⟩ := lt_some hs
  refine hC_X2_41 hk0 F hq hP hS eM5 dX2_begin_32 (fun H locs hP hS => ?_)
  cases hs
  exact x_vret F hP hS dX2_begin_35

def pX5_setTear (M : St) (x1 : Int32) : Option St :=
  if 0 ≤ x1 then
    lt (up2 M 3 1 x1) fun M1 =>
    some M1
  else
    lt (up2 M 3 1 ((-1))) fun M2 =>
    some M2
set_option maxHeartbeats 4000000 in
set_option maxRecDepth 100000 in
theorem tX5_setTear (l : Launch) (G : zG) (A : Nat → Prop) (q : Nat → Nat) (hq : zQD A 58 q) {M M' : St} {x1 : Int32} (hs : pX5_setTear M x1 = some M') : zKV l yX5_setTear cX5_setTear 2 0 0 G A (zP G.1 58 q (eC G q) M) [.ref (q 3), .int x1] (zP G.1 58 q (eC G q) M') := by
  refine zKV_of (by decide) (Nat.le_of_ble_eq_true rfl) (fun p e s m args below meth c H ls F hH hP hl => ?_)
  have F : zFx p s m args meth c cX5_setTear RX5 2 none G A := F
  have hS : va_S A s.heap H [] := hH ▸ va_S.rf
  have hl : lv_has ls 2 [(0, .ref (q 3)), (1, .int x1)] := hl
  rw [pX5_setTear] at hs
  refine lv_aload_n F.1 F.2.1 dX5_setTear_0 rfl (lv_at hl 0 rfl) ?_
  refine lv_iload_n F.1 F.2.1 dX5_setTear_1 rfl (lv_at hl 1 rfl) ?_
  refine lv_if_ge (tgt := 9) F.1 F.2.1 dX5_setTear_2 (by decide) (fun c1 => ?_) (fun c1 => ?_)
  · have hs := it_t c1 hs
    refine lv_iload_n F.1 F.2.1 dX5_setTear_9 rfl (lv_at hl 1 rfl) ?_
    obtain ⟨M1, eM1, hs⟩ := lt_some hs
    refine hC_X5_15 F hq hP hS eM1 dX5_setTear_10 (fun H locs hP hS => ?_)
    cases hs
    exact x_vret F hP hS dX5_setTear_13
  have hs := it_f c1 hs
  refine lv_iconst (v := (-1)) F.1 F.2.1 dX5_setTear_5 rfl ?_
  refine lv_goto (tgt := 10) F.1 F.2.1 dX5_setTear_6 (by decide) ?_
  obtain ⟨M2, eM2, hs⟩ := lt_some hs
  refine hC_X5_15 F hq hP hS eM2 dX5_setTear_10 (fun H locs hP hS => ?_)
  cases hs
  exact x_vret F hP hS dX5_setTear_13

def pX5_lastsForWrite (M : St) : Option (Int32 × St) :=
  if M 3 1 = 0 then
    lt (up2 M 3 1 ((-1))) fun M2 =>
    lt (up2 M2 3 0 0) fun M3 =>
    gd (isb (M3 3 0)) <|
    some (M3 3 0, M3)
  else
    if M 3 1 ≤ 0 then
      gd (isb (M 3 0)) <|
      some (M 3 0, M)
    else
      lt (up2 M 3 1 ((M 3 1) - 1)) fun M1 =>
      gd (isb (M1 3 0)) <|
      some (M1 3 0, M1)
set_option maxHeartbeats 4000000 in
set_option maxRecDepth 100000 in
theorem tX5_lastsForWrite (l : Launch) (G : zG) (A : Nat → Prop) (q : Nat → Nat) (hq : zQD A 58 q) {M M' : St} {r : Int32} (hs : pX5_lastsForWrite M = some (r, M')) : zKI l yX5_lastsForWrite cX5_lastsForWrite 1 (some .boolean) 0 0 G A (zP G.1 58 q (eC G q) M) [.ref (q 3)] r (zP G.1 58 q (eC G q) M') := by
  refine zKI_of (by decide) (Nat.le_of_ble_eq_true rfl) (fun p e s m args below meth c H ls F hH hP hl => ?_)
  have F : zFx p s m args meth c cX5_lastsForWrite RX5 1 (some .boolean) G A := F
  have hS : va_S A s.heap H [] := hH ▸ va_S.rf
  have hl : lv_has ls 1 [(0, .ref (q 3))] := hl
  rw [pX5_lastsForWrite] at hs
  refine lv_aload_n F.1 F.2.1 dX5_lastsForWrite_0 rfl (lv_at hl 0 rfl) ?_
  refine gC_X5_15 F hP dX5_lastsForWrite_1 ?_
  refine lv_if_ne (tgt := 20) F.1 F.2.1 dX5_lastsForWrite_4 (by decide) (fun c1 => ?_) (fun c1 => ?_)
  · have hs := it_f c1 hs
    refine lv_aload_n F.1 F.2.1 dX5_lastsForWrite_20 rfl (lv_at hl 0 rfl) ?_
    refine gC_X5_15 F hP dX5_lastsForWrite_21 ?_
    refine lv_if_le (tgt := 37) F.1 F.2.1 dX5_lastsForWrite_24 (by decide) (fun c2 => ?_) (fun c2 => ?_)
    · have hs := it_t c2 hs
      refine lv_aload_n F.1 F.2.1 dX5_lastsForWrite_37 rfl (lv_at hl 0 rfl) ?_
      refine gC_X5_9 F hP dX5_lastsForWrite_38 ?_
      obtain ⟨g1, hs⟩ := gd_some hs
      cases hs
      exact x_iret F (isb_nar g1) rfl hP hS dX5_lastsForWrite_41
    have hs := it_f c2 hs
    refine lv_aload_n F.1 F.2.1 dX5_lastsForWrite_27 rfl (lv_at hl 0 rfl) ?_
    refine lv_dup F.1 F.2.1 dX5_lastsForWrite_28 rfl ?_
    refine gC_X5_15 F hP dX5_lastsForWrite_29 ?_
    refine lv_iconst (v := 1) F.1 F.2.1 dX5_lastsForWrite_32 rfl ?_
    refine lv_isub F.1 F.2.1 dX5_lastsForWrite_33 ?_
    obtain ⟨M1, eM1, hs⟩ := lt_some hs
    refine hC_X5_15 F hq hP hS eM1 dX5_lastsForWrite_34 (fun H locs hP hS => ?_)
    refine lv_aload_n F.1 F.2.1 dX5_lastsForWrite_37 rfl (lv_at hl 0 rfl) ?_
    refine gC_X5_9 F hP dX5_lastsForWrite_38 ?_
    obtain ⟨g2, hs⟩ := gd_some hs
    cases hs
    exact x_iret F (isb_nar g2) rfl hP hS dX5_lastsForWrite_41
  have hs := it_t c1 hs
  refine lv_aload_n F.1 F.2.1 dX5_lastsForWrite_7 rfl (lv_at hl 0 rfl) ?_
  refine lv_iconst (v := (-1)) F.1 F.2.1 dX5_lastsForWrite_8 rfl ?_
  obtain ⟨M2, eM2, hs⟩ := lt_some hs
  refine hC_X5_15 F hq hP hS eM2 dX5_lastsForWrite_9 (fun H locs hP hS => ?_)
  refine lv_aload_n F.1 F.2.1 dX5_lastsForWrite_12 rfl (lv_at hl 0 rfl) ?_
  refine lv_iconst (v := 0) F.1 F.2.1 dX5_lastsForWrite_13 rfl ?_
  obtain ⟨M3, eM3, hs⟩ := lt_some hs
  refine hC_X5_9 rfl F hq hP hS eM3 dX5_lastsForWrite_14 (fun H locs hP hS => ?_)
  refine lv_goto (tgt := 37) F.1 F.2.1 dX5_lastsForWrite_17 (by decide) ?_
  refine lv_aload_n F.1 F.2.1 dX5_lastsForWrite_37 rfl (lv_at hl 0 rfl) ?_
  refine gC_X5_9 F hP dX5_lastsForWrite_38 ?_
  obtain ⟨g3, hs⟩ := gd_some hs
  cases hs
  exact x_iret F (isb_nar g3) rfl hP hS dX5_lastsForWrite_41
end
section
theorem zz_end : True := trivial
end
