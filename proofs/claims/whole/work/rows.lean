section
/-- a private method of a class that the tables say can be made, by its rows of tables_1 -/
def lw_okq (q : MethodName × Nat) : Prop := (q.1.cls ≠ "java/lang/invoke/MethodHandle" ∧ q.1.cls ≠ "java/lang/invoke/VarHandle") ∧ Cond.instantiable q.1.cls q.2 ∈ tables_1 ∧ Cond.privateMethod q.1 ∈ tables_1 ∧ Cond.instanceMethod q.1 ∈ tables_1
theorem lw_p0 : lw_okq (⟨"PuddleStates", "layText", "()Z"⟩, 11) := ⟨⟨by decide +kernel, by decide +kernel⟩, List.mem_of_getElem? (i := 17) (by decide +kernel), List.mem_of_getElem? (i := 203) (by decide +kernel), List.mem_of_getElem? (i := 204) (by decide +kernel)⟩
theorem lw_p1 : lw_okq (⟨"PuddleStates$Text", "nextLetter", "()I"⟩, 3) := ⟨⟨by decide +kernel, by decide +kernel⟩, List.mem_of_getElem? (i := 25) (by decide +kernel), List.mem_of_getElem? (i := 230) (by decide +kernel), List.mem_of_getElem? (i := 231) (by decide +kernel)⟩
theorem lw_p2 : lw_okq (⟨"PuddleStates$Text", "peek", "()I"⟩, 3) := ⟨⟨by decide +kernel, by decide +kernel⟩, List.mem_of_getElem? (i := 25) (by decide +kernel), List.mem_of_getElem? (i := 234) (by decide +kernel), List.mem_of_getElem? (i := 235) (by decide +kernel)⟩
theorem lw_p3 : lw_okq (⟨"PuddleStates$Text", "nextNumber", "()I"⟩, 3) := ⟨⟨by decide +kernel, by decide +kernel⟩, List.mem_of_getElem? (i := 25) (by decide +kernel), List.mem_of_getElem? (i := 238) (by decide +kernel), List.mem_of_getElem? (i := 239) (by decide +kernel)⟩
theorem lw_p4 : lw_okq (⟨"PuddleStates$Text", "nextFigure", "()I"⟩, 3) := ⟨⟨by decide +kernel, by decide +kernel⟩, List.mem_of_getElem? (i := 25) (by decide +kernel), List.mem_of_getElem? (i := 242) (by decide +kernel), List.mem_of_getElem? (i := 243) (by decide +kernel)⟩
theorem lw_p5 : lw_okq (⟨"PuddleStates$Text", "skip", "(I)Z"⟩, 3) := ⟨⟨by decide +kernel, by decide +kernel⟩, List.mem_of_getElem? (i := 25) (by decide +kernel), List.mem_of_getElem? (i := 247) (by decide +kernel), List.mem_of_getElem? (i := 248) (by decide +kernel)⟩
theorem lw_p6 : lw_okq (⟨"PuddleStates$Ground", "linkSide", "(IIII)V"⟩, 6) := ⟨⟨by decide +kernel, by decide +kernel⟩, List.mem_of_getElem? (i := 43) (by decide +kernel), List.mem_of_getElem? (i := 269) (by decide +kernel), List.mem_of_getElem? (i := 270) (by decide +kernel)⟩
theorem lw_p7 : lw_okq (⟨"PuddleStates$Ground", "walkable", "(II)I"⟩, 6) := ⟨⟨by decide +kernel, by decide +kernel⟩, List.mem_of_getElem? (i := 43) (by decide +kernel), List.mem_of_getElem? (i := 274) (by decide +kernel), List.mem_of_getElem? (i := 275) (by decide +kernel)⟩
theorem lw_p8 : lw_okq (⟨"PuddleStates$Water", "flowFrom", "(LPuddleStates$Ground;I)V"⟩, 4) := ⟨⟨by decide +kernel, by decide +kernel⟩, List.mem_of_getElem? (i := 79) (by decide +kernel), List.mem_of_getElem? (i := 303) (by decide +kernel), List.mem_of_getElem? (i := 304) (by decide +kernel)⟩
theorem lw_p9 : lw_okq (⟨"PuddleStates$Water", "whereTo", "(LPuddleStates$Ground;I)I"⟩, 4) := ⟨⟨by decide +kernel, by decide +kernel⟩, List.mem_of_getElem? (i := 79) (by decide +kernel), List.mem_of_getElem? (i := 307) (by decide +kernel), List.mem_of_getElem? (i := 308) (by decide +kernel)⟩
theorem lw_p10 : lw_okq (⟨"PuddleStates$Water", "putDrop", "(LPuddleStates$Ground;I)V"⟩, 4) := ⟨⟨by decide +kernel, by decide +kernel⟩, List.mem_of_getElem? (i := 79) (by decide +kernel), List.mem_of_getElem? (i := 313) (by decide +kernel), List.mem_of_getElem? (i := 314) (by decide +kernel)⟩
theorem lw_p11 : lw_okq (⟨"PuddleStates$States", "spread", "(LPuddleStates$Ground;LPuddleStates$Water;I)V"⟩, 5) := ⟨⟨by decide +kernel, by decide +kernel⟩, List.mem_of_getElem? (i := 107) (by decide +kernel), List.mem_of_getElem? (i := 388) (by decide +kernel), List.mem_of_getElem? (i := 389) (by decide +kernel)⟩
theorem lw_p12 : lw_okq (⟨"PuddleStates$States", "claim", "(LPuddleStates$Water;II)V"⟩, 5) := ⟨⟨by decide +kernel, by decide +kernel⟩, List.mem_of_getElem? (i := 107) (by decide +kernel), List.mem_of_getElem? (i := 392) (by decide +kernel), List.mem_of_getElem? (i := 393) (by decide +kernel)⟩
theorem lw_p13 : lw_okq (⟨"PuddleStates$Past", "dropOldest", "()V"⟩, 4) := ⟨⟨by decide +kernel, by decide +kernel⟩, List.mem_of_getElem? (i := 130) (by decide +kernel), List.mem_of_getElem? (i := 424) (by decide +kernel), List.mem_of_getElem? (i := 425) (by decide +kernel)⟩
theorem lw_p14 : lw_okq (⟨"PuddleStates$Water", "passHour", "(LPuddleStates$Ground;)V"⟩, 4) := ⟨⟨by decide +kernel, by decide +kernel⟩, List.mem_of_getElem? (i := 79) (by decide +kernel), List.mem_of_getElem? (i := 449) (by decide +kernel), List.mem_of_getElem? (i := 450) (by decide +kernel)⟩
theorem lw_p15 : lw_okq (⟨"PuddleStates", "areTwo", "(II)Z"⟩, 11) := ⟨⟨by decide +kernel, by decide +kernel⟩, List.mem_of_getElem? (i := 17) (by decide +kernel), List.mem_of_getElem? (i := 495) (by decide +kernel), List.mem_of_getElem? (i := 496) (by decide +kernel)⟩
def lw_privs_1 : List (MethodName × Nat) := [(⟨"PuddleStates", "layText", "()Z"⟩, 11), (⟨"PuddleStates$Text", "nextLetter", "()I"⟩, 3), (⟨"PuddleStates$Text", "peek", "()I"⟩, 3), (⟨"PuddleStates$Text", "nextNumber", "()I"⟩, 3), (⟨"PuddleStates$Text", "nextFigure", "()I"⟩, 3), (⟨"PuddleStates$Text", "skip", "(I)Z"⟩, 3), (⟨"PuddleStates$Ground", "linkSide", "(IIII)V"⟩, 6), (⟨"PuddleStates$Ground", "walkable", "(II)I"⟩, 6), (⟨"PuddleStates$Water", "flowFrom", "(LPuddleStates$Ground;I)V"⟩, 4), (⟨"PuddleStates$Water", "whereTo", "(LPuddleStates$Ground;I)I"⟩, 4), (⟨"PuddleStates$Water", "putDrop", "(LPuddleStates$Ground;I)V"⟩, 4), (⟨"PuddleStates$States", "spread", "(LPuddleStates$Ground;LPuddleStates$Water;I)V"⟩, 5), (⟨"PuddleStates$States", "claim", "(LPuddleStates$Water;II)V"⟩, 5), (⟨"PuddleStates$Past", "dropOldest", "()V"⟩, 4), (⟨"PuddleStates$Water", "passHour", "(LPuddleStates$Ground;)V"⟩, 4), (⟨"PuddleStates", "areTwo", "(II)Z"⟩, 11)]
theorem lw_r1 : ∀ q ∈ lw_privs_1, lw_okq q := List.forall_mem_cons.mpr ⟨lw_p0, List.forall_mem_cons.mpr ⟨lw_p1, List.forall_mem_cons.mpr ⟨lw_p2, List.forall_mem_cons.mpr ⟨lw_p3, List.forall_mem_cons.mpr ⟨lw_p4, List.forall_mem_cons.mpr ⟨lw_p5, List.forall_mem_cons.mpr ⟨lw_p6, List.forall_mem_cons.mpr ⟨lw_p7, List.forall_mem_cons.mpr ⟨lw_p8, List.forall_mem_cons.mpr ⟨lw_p9, List.forall_mem_cons.mpr ⟨lw_p10, List.forall_mem_cons.mpr ⟨lw_p11, List.forall_mem_cons.mpr ⟨lw_p12, List.forall_mem_cons.mpr ⟨lw_p13, List.forall_mem_cons.mpr ⟨lw_p14, List.forall_mem_cons.mpr ⟨lw_p15, fun _ h => absurd h List.not_mem_nil⟩⟩⟩⟩⟩⟩⟩⟩⟩⟩⟩⟩⟩⟩⟩⟩
theorem lw_p16 : lw_okq (⟨"PuddleStates", "apartBehindRain", "(LPuddleStates$Ground;III)Z"⟩, 11) := ⟨⟨by decide +kernel, by decide +kernel⟩, List.mem_of_getElem? (i := 17) (by decide +kernel), List.mem_of_getElem? (i := 499) (by decide +kernel), List.mem_of_getElem? (i := 500) (by decide +kernel)⟩
theorem lw_p17 : lw_okq (⟨"PuddleStates", "mayBeKerb", "(III)Z"⟩, 11) := ⟨⟨by decide +kernel, by decide +kernel⟩, List.mem_of_getElem? (i := 17) (by decide +kernel), List.mem_of_getElem? (i := 524) (by decide +kernel), List.mem_of_getElem? (i := 525) (by decide +kernel)⟩
theorem lw_p18 : lw_okq (⟨"PuddleStates", "ringsHold", "()Z"⟩, 11) := ⟨⟨by decide +kernel, by decide +kernel⟩, List.mem_of_getElem? (i := 17) (by decide +kernel), List.mem_of_getElem? (i := 546) (by decide +kernel), List.mem_of_getElem? (i := 547) (by decide +kernel)⟩
theorem lw_p19 : lw_okq (⟨"PuddleStates", "wetBehindHours", "(II)I"⟩, 11) := ⟨⟨by decide +kernel, by decide +kernel⟩, List.mem_of_getElem? (i := 17) (by decide +kernel), List.mem_of_getElem? (i := 568) (by decide +kernel), List.mem_of_getElem? (i := 569) (by decide +kernel)⟩
theorem lw_p20 : lw_okq (⟨"PuddleStatesModel", "begins", "()V"⟩, 17) := ⟨⟨by decide +kernel, by decide +kernel⟩, List.mem_of_getElem? (i := 604) (by decide +kernel), List.mem_of_getElem? (i := 610) (by decide +kernel), List.mem_of_getElem? (i := 611) (by decide +kernel)⟩
theorem lw_p21 : lw_okq (⟨"PuddleStatesModel", "lays", "()V"⟩, 17) := ⟨⟨by decide +kernel, by decide +kernel⟩, List.mem_of_getElem? (i := 604) (by decide +kernel), List.mem_of_getElem? (i := 617) (by decide +kernel), List.mem_of_getElem? (i := 618) (by decide +kernel)⟩
theorem lw_p22 : lw_okq (⟨"PuddleStatesModel", "flows", "()V"⟩, 17) := ⟨⟨by decide +kernel, by decide +kernel⟩, List.mem_of_getElem? (i := 604) (by decide +kernel), List.mem_of_getElem? (i := 621) (by decide +kernel), List.mem_of_getElem? (i := 622) (by decide +kernel)⟩
theorem lw_p23 : lw_okq (⟨"PuddleStatesModel", "cells", "()I"⟩, 17) := ⟨⟨by decide +kernel, by decide +kernel⟩, List.mem_of_getElem? (i := 604) (by decide +kernel), List.mem_of_getElem? (i := 625) (by decide +kernel), List.mem_of_getElem? (i := 626) (by decide +kernel)⟩
theorem lw_p24 : lw_okq (⟨"PuddleStatesModel", "sends", "(I)Z"⟩, 17) := ⟨⟨by decide +kernel, by decide +kernel⟩, List.mem_of_getElem? (i := 604) (by decide +kernel), List.mem_of_getElem? (i := 629) (by decide +kernel), List.mem_of_getElem? (i := 630) (by decide +kernel)⟩
theorem lw_p25 : lw_okq (⟨"PuddleStatesModel", "beside", "(II)I"⟩, 17) := ⟨⟨by decide +kernel, by decide +kernel⟩, List.mem_of_getElem? (i := 604) (by decide +kernel), List.mem_of_getElem? (i := 633) (by decide +kernel), List.mem_of_getElem? (i := 634) (by decide +kernel)⟩
theorem lw_p26 : lw_okq (⟨"PuddleStatesModel", "isCell", "(I)Z"⟩, 17) := ⟨⟨by decide +kernel, by decide +kernel⟩, List.mem_of_getElem? (i := 604) (by decide +kernel), List.mem_of_getElem? (i := 637) (by decide +kernel), List.mem_of_getElem? (i := 638) (by decide +kernel)⟩
theorem lw_p27 : lw_okq (⟨"PuddleStatesModel", "level", "(I)I"⟩, 17) := ⟨⟨by decide +kernel, by decide +kernel⟩, List.mem_of_getElem? (i := 604) (by decide +kernel), List.mem_of_getElem? (i := 641) (by decide +kernel), List.mem_of_getElem? (i := 642) (by decide +kernel)⟩
theorem lw_p28 : lw_okq (⟨"PuddleStatesModel", "drops", "(II)V"⟩, 17) := ⟨⟨by decide +kernel, by decide +kernel⟩, List.mem_of_getElem? (i := 604) (by decide +kernel), List.mem_of_getElem? (i := 645) (by decide +kernel), List.mem_of_getElem? (i := 646) (by decide +kernel)⟩
theorem lw_p29 : lw_okq (⟨"PuddleStatesModel", "readsAll", "()I"⟩, 17) := ⟨⟨by decide +kernel, by decide +kernel⟩, List.mem_of_getElem? (i := 604) (by decide +kernel), List.mem_of_getElem? (i := 714) (by decide +kernel), List.mem_of_getElem? (i := 715) (by decide +kernel)⟩
theorem lw_p30 : lw_okq (⟨"PuddleStatesModel", "readsItem", "(I)Z"⟩, 17) := ⟨⟨by decide +kernel, by decide +kernel⟩, List.mem_of_getElem? (i := 604) (by decide +kernel), List.mem_of_getElem? (i := 718) (by decide +kernel), List.mem_of_getElem? (i := 719) (by decide +kernel)⟩
theorem lw_p31 : lw_okq (⟨"PuddleStatesModel", "number", "(III)I"⟩, 17) := ⟨⟨by decide +kernel, by decide +kernel⟩, List.mem_of_getElem? (i := 604) (by decide +kernel), List.mem_of_getElem? (i := 722) (by decide +kernel), List.mem_of_getElem? (i := 723) (by decide +kernel)⟩
def lw_privs_2 : List (MethodName × Nat) := [(⟨"PuddleStates", "apartBehindRain", "(LPuddleStates$Ground;III)Z"⟩, 11), (⟨"PuddleStates", "mayBeKerb", "(III)Z"⟩, 11), (⟨"PuddleStates", "ringsHold", "()Z"⟩, 11), (⟨"PuddleStates", "wetBehindHours", "(II)I"⟩, 11), (⟨"PuddleStatesModel", "begins", "()V"⟩, 17), (⟨"PuddleStatesModel", "lays", "()V"⟩, 17), (⟨"PuddleStatesModel", "flows", "()V"⟩, 17), (⟨"PuddleStatesModel", "cells", "()I"⟩, 17), (⟨"PuddleStatesModel", "sends", "(I)Z"⟩, 17), (⟨"PuddleStatesModel", "beside", "(II)I"⟩, 17), (⟨"PuddleStatesModel", "isCell", "(I)Z"⟩, 17), (⟨"PuddleStatesModel", "level", "(I)I"⟩, 17), (⟨"PuddleStatesModel", "drops", "(II)V"⟩, 17), (⟨"PuddleStatesModel", "readsAll", "()I"⟩, 17), (⟨"PuddleStatesModel", "readsItem", "(I)Z"⟩, 17), (⟨"PuddleStatesModel", "number", "(III)I"⟩, 17)]
theorem lw_r2 : ∀ q ∈ lw_privs_2, lw_okq q := List.forall_mem_cons.mpr ⟨lw_p16, List.forall_mem_cons.mpr ⟨lw_p17, List.forall_mem_cons.mpr ⟨lw_p18, List.forall_mem_cons.mpr ⟨lw_p19, List.forall_mem_cons.mpr ⟨lw_p20, List.forall_mem_cons.mpr ⟨lw_p21, List.forall_mem_cons.mpr ⟨lw_p22, List.forall_mem_cons.mpr ⟨lw_p23, List.forall_mem_cons.mpr ⟨lw_p24, List.forall_mem_cons.mpr ⟨lw_p25, List.forall_mem_cons.mpr ⟨lw_p26, List.forall_mem_cons.mpr ⟨lw_p27, List.forall_mem_cons.mpr ⟨lw_p28, List.forall_mem_cons.mpr ⟨lw_p29, List.forall_mem_cons.mpr ⟨lw_p30, List.forall_mem_cons.mpr ⟨lw_p31, fun _ h => absurd h List.not_mem_nil⟩⟩⟩⟩⟩⟩⟩⟩⟩⟩⟩⟩⟩⟩⟩⟩
theorem lw_p32 : lw_okq (⟨"PuddleStatesModel", "letterAt", "(I)I"⟩, 17) := ⟨⟨by decide +kernel, by decide +kernel⟩, List.mem_of_getElem? (i := 604) (by decide +kernel), List.mem_of_getElem? (i := 726) (by decide +kernel), List.mem_of_getElem? (i := 727) (by decide +kernel)⟩
theorem lw_p33 : lw_okq (⟨"PuddleStatesModel", "laysStates", "()V"⟩, 17) := ⟨⟨by decide +kernel, by decide +kernel⟩, List.mem_of_getElem? (i := 604) (by decide +kernel), List.mem_of_getElem? (i := 741) (by decide +kernel), List.mem_of_getElem? (i := 742) (by decide +kernel)⟩
theorem lw_p34 : lw_okq (⟨"PuddleStatesModel", "sizeOf", "(I)I"⟩, 17) := ⟨⟨by decide +kernel, by decide +kernel⟩, List.mem_of_getElem? (i := 604) (by decide +kernel), List.mem_of_getElem? (i := 745) (by decide +kernel), List.mem_of_getElem? (i := 746) (by decide +kernel)⟩
theorem lw_p35 : lw_okq (⟨"PuddleStatesModel", "keeps", "()V"⟩, 17) := ⟨⟨by decide +kernel, by decide +kernel⟩, List.mem_of_getElem? (i := 604) (by decide +kernel), List.mem_of_getElem? (i := 753) (by decide +kernel), List.mem_of_getElem? (i := 754) (by decide +kernel)⟩
theorem lw_p36 : lw_okq (⟨"PuddleStatesModel", "pours", "(I)V"⟩, 17) := ⟨⟨by decide +kernel, by decide +kernel⟩, List.mem_of_getElem? (i := 604) (by decide +kernel), List.mem_of_getElem? (i := 757) (by decide +kernel), List.mem_of_getElem? (i := 758) (by decide +kernel)⟩
theorem lw_p37 : lw_okq (⟨"PuddleStatesModel", "isOpen", "(I)Z"⟩, 17) := ⟨⟨by decide +kernel, by decide +kernel⟩, List.mem_of_getElem? (i := 604) (by decide +kernel), List.mem_of_getElem? (i := 761) (by decide +kernel), List.mem_of_getElem? (i := 762) (by decide +kernel)⟩
theorem lw_p38 : lw_okq (⟨"PuddleStatesModel", "all", "()I"⟩, 17) := ⟨⟨by decide +kernel, by decide +kernel⟩, List.mem_of_getElem? (i := 604) (by decide +kernel), List.mem_of_getElem? (i := 765) (by decide +kernel), List.mem_of_getElem? (i := 766) (by decide +kernel)⟩
theorem lw_p39 : lw_okq (⟨"PuddleStatesModel", "shines", "()V"⟩, 17) := ⟨⟨by decide +kernel, by decide +kernel⟩, List.mem_of_getElem? (i := 604) (by decide +kernel), List.mem_of_getElem? (i := 773) (by decide +kernel), List.mem_of_getElem? (i := 774) (by decide +kernel)⟩
theorem lw_p40 : lw_okq (⟨"PuddleStatesModel", "holds", "()V"⟩, 17) := ⟨⟨by decide +kernel, by decide +kernel⟩, List.mem_of_getElem? (i := 604) (by decide +kernel), List.mem_of_getElem? (i := 793) (by decide +kernel), List.mem_of_getElem? (i := 794) (by decide +kernel)⟩
theorem lw_p41 : lw_okq (⟨"PuddleStatesModel", "lets", "()V"⟩, 17) := ⟨⟨by decide +kernel, by decide +kernel⟩, List.mem_of_getElem? (i := 604) (by decide +kernel), List.mem_of_getElem? (i := 797) (by decide +kernel), List.mem_of_getElem? (i := 798) (by decide +kernel)⟩
theorem lw_p42 : lw_okq (⟨"PuddleStatesModel", "lowest", "()I"⟩, 17) := ⟨⟨by decide +kernel, by decide +kernel⟩, List.mem_of_getElem? (i := 604) (by decide +kernel), List.mem_of_getElem? (i := 805) (by decide +kernel), List.mem_of_getElem? (i := 806) (by decide +kernel)⟩
theorem lw_p43 : lw_okq (⟨"PuddleStatesModel", "isOne", "(II)Z"⟩, 17) := ⟨⟨by decide +kernel, by decide +kernel⟩, List.mem_of_getElem? (i := 604) (by decide +kernel), List.mem_of_getElem? (i := 813) (by decide +kernel), List.mem_of_getElem? (i := 814) (by decide +kernel)⟩
theorem lw_p44 : lw_okq (⟨"PuddleStatesModel", "areApart", "(III)Z"⟩, 17) := ⟨⟨by decide +kernel, by decide +kernel⟩, List.mem_of_getElem? (i := 604) (by decide +kernel), List.mem_of_getElem? (i := 829) (by decide +kernel), List.mem_of_getElem? (i := 830) (by decide +kernel)⟩
theorem lw_p45 : lw_okq (⟨"PuddleStatesModel", "wet", "()I"⟩, 17) := ⟨⟨by decide +kernel, by decide +kernel⟩, List.mem_of_getElem? (i := 604) (by decide +kernel), List.mem_of_getElem? (i := 849) (by decide +kernel), List.mem_of_getElem? (i := 850) (by decide +kernel)⟩
theorem lw_p46 : lw_okq (⟨"PuddleStatesModel", "manyStates", "()I"⟩, 17) := ⟨⟨by decide +kernel, by decide +kernel⟩, List.mem_of_getElem? (i := 604) (by decide +kernel), List.mem_of_getElem? (i := 867) (by decide +kernel), List.mem_of_getElem? (i := 868) (by decide +kernel)⟩
def lw_privs_3 : List (MethodName × Nat) := [(⟨"PuddleStatesModel", "letterAt", "(I)I"⟩, 17), (⟨"PuddleStatesModel", "laysStates", "()V"⟩, 17), (⟨"PuddleStatesModel", "sizeOf", "(I)I"⟩, 17), (⟨"PuddleStatesModel", "keeps", "()V"⟩, 17), (⟨"PuddleStatesModel", "pours", "(I)V"⟩, 17), (⟨"PuddleStatesModel", "isOpen", "(I)Z"⟩, 17), (⟨"PuddleStatesModel", "all", "()I"⟩, 17), (⟨"PuddleStatesModel", "shines", "()V"⟩, 17), (⟨"PuddleStatesModel", "holds", "()V"⟩, 17), (⟨"PuddleStatesModel", "lets", "()V"⟩, 17), (⟨"PuddleStatesModel", "lowest", "()I"⟩, 17), (⟨"PuddleStatesModel", "isOne", "(II)Z"⟩, 17), (⟨"PuddleStatesModel", "areApart", "(III)Z"⟩, 17), (⟨"PuddleStatesModel", "wet", "()I"⟩, 17), (⟨"PuddleStatesModel", "manyStates", "()I"⟩, 17)]
theorem lw_r3 : ∀ q ∈ lw_privs_3, lw_okq q := List.forall_mem_cons.mpr ⟨lw_p32, List.forall_mem_cons.mpr ⟨lw_p33, List.forall_mem_cons.mpr ⟨lw_p34, List.forall_mem_cons.mpr ⟨lw_p35, List.forall_mem_cons.mpr ⟨lw_p36, List.forall_mem_cons.mpr ⟨lw_p37, List.forall_mem_cons.mpr ⟨lw_p38, List.forall_mem_cons.mpr ⟨lw_p39, List.forall_mem_cons.mpr ⟨lw_p40, List.forall_mem_cons.mpr ⟨lw_p41, List.forall_mem_cons.mpr ⟨lw_p42, List.forall_mem_cons.mpr ⟨lw_p43, List.forall_mem_cons.mpr ⟨lw_p44, List.forall_mem_cons.mpr ⟨lw_p45, List.forall_mem_cons.mpr ⟨lw_p46, fun _ h => absurd h List.not_mem_nil⟩⟩⟩⟩⟩⟩⟩⟩⟩⟩⟩⟩⟩⟩⟩
def lw_privs : List (MethodName × Nat) := lw_privs_1 ++ (lw_privs_2 ++ (lw_privs_3))
def lw_tbl : List Cond := k2_sels lw_privs ++ tables_1
theorem lw_privs_ok : ∀ q ∈ lw_privs, lw_okq q := by
  show ∀ q ∈ lw_privs_1 ++ (lw_privs_2 ++ (lw_privs_3)), lw_okq q
  exact List.forall_mem_append.mpr ⟨lw_r1, List.forall_mem_append.mpr ⟨lw_r2, lw_r3⟩⟩
def RX0 : String := "PuddleStates$Ground"
def TX0 : u_T := fun k => match k with
  | 0 => ("PuddleStates$Ground", "rows", "I", false)
  | 1 => ("PuddleStates$Ground", "columns", "I", false)
  | 2 => ("PuddleStates$Ground", "cells", "I", false)
  | 3 => ("PuddleStates$Ground", "kind", "[I", true)
  | 4 => ("PuddleStates$Ground", "beside", "[I", true)
  | _ => ("PuddleStates$Ground", "besideBits", "[J", true)
def tyX0 : Nat → FieldType := fun k => match k with
  | 0 => .int
  | 1 => .int
  | 2 => .int
  | 3 => .array .int
  | 4 => .array .int
  | _ => .array .long
abbrev wsX00 : List Cond := u_ws RX0 TX0 6
theorem nmX0 : ∀ a, a < 6 → ∀ b, b < 6 → a ≠ b → (TX0 a).2.1 ≠ (TX0 b).2.1 := by decide +kernel
theorem tyX0_ok : ∀ k, k < 6 → parseFieldDescriptor (TX0 k).2.2.1 = some (tyX0 k) := by decide +kernel
abbrev cX0_init : ByteArray := prog_2_method_1_code
def yX0_init : MethodName := ⟨RX0, "<init>", "()V"⟩
abbrev cX0_holds : ByteArray := prog_2_method_2_code
def yX0_holds : MethodName := ⟨RX0, "holds", "(I)Z"⟩
abbrev cX0_shape : ByteArray := prog_2_method_3_code
def yX0_shape : MethodName := ⟨RX0, "shape", "(II)Z"⟩
abbrev cX0_makeOpen : ByteArray := prog_2_method_4_code
def yX0_makeOpen : MethodName := ⟨RX0, "makeOpen", "()V"⟩
abbrev cX0_makeKerb : ByteArray := prog_2_method_5_code
def yX0_makeKerb : MethodName := ⟨RX0, "makeKerb", "(I)V"⟩
abbrev cX0_copyFrom : ByteArray := prog_2_method_6_code
def yX0_copyFrom : MethodName := ⟨RX0, "copyFrom", "(LPuddleStates$Ground;)V"⟩
abbrev cX0_link : ByteArray := prog_2_method_7_code
def yX0_link : MethodName := ⟨RX0, "link", "()V"⟩
abbrev cX0_linkSide : ByteArray := prog_2_method_8_code
def yX0_linkSide : MethodName := ⟨RX0, "linkSide", "(IIII)V"⟩
abbrev cX0_walkable : ByteArray := prog_2_method_9_code
def yX0_walkable : MethodName := ⟨RX0, "walkable", "(II)I"⟩
abbrev cX0_cellBeside : ByteArray := prog_2_method_10_code
def yX0_cellBeside : MethodName := ⟨RX0, "cellBeside", "(II)I"⟩
abbrev cX0_bitsBeside : ByteArray := prog_2_method_11_code
def yX0_bitsBeside : MethodName := ⟨RX0, "bitsBeside", "(I)J"⟩
abbrev cX0_withBeside : ByteArray := prog_2_method_12_code
def yX0_withBeside : MethodName := ⟨RX0, "withBeside", "(J)J"⟩
abbrev cX0_takesRain : ByteArray := prog_2_method_13_code
def yX0_takesRain : MethodName := ⟨RX0, "takesRain", "(I)Z"⟩
abbrev cX0_isKind : ByteArray := prog_2_method_14_code
def yX0_isKind : MethodName := ⟨RX0, "isKind", "(II)Z"⟩
def RX1 : String := "PuddleStates$Past"
def TX1 : u_T := fun k => match k with
  | 0 => ("PuddleStates$Past", "heights", "[I", true)
  | 1 => ("PuddleStates$Past", "drops", "[I", true)
  | 2 => ("PuddleStates$Past", "hours", "[I", true)
  | _ => ("PuddleStates$Past", "many", "I", false)
def tyX1 : Nat → FieldType := fun k => match k with
  | 0 => .array .int
  | 1 => .array .int
  | 2 => .array .int
  | _ => .int
abbrev wsX10 : List Cond := u_ws RX1 TX1 4
theorem nmX1 : ∀ a, a < 4 → ∀ b, b < 4 → a ≠ b → (TX1 a).2.1 ≠ (TX1 b).2.1 := by decide +kernel
theorem tyX1_ok : ∀ k, k < 4 → parseFieldDescriptor (TX1 k).2.2.1 = some (tyX1 k) := by decide +kernel
abbrev cX1_init : ByteArray := prog_3_method_1_code
def yX1_init : MethodName := ⟨RX1, "<init>", "()V"⟩
abbrev cX1_push : ByteArray := prog_3_method_2_code
def yX1_push : MethodName := ⟨RX1, "push", "(LPuddleStates$Water;)V"⟩
abbrev cX1_pop : ByteArray := prog_3_method_3_code
def yX1_pop : MethodName := ⟨RX1, "pop", "(LPuddleStates$Water;)V"⟩
abbrev cX1_dropOldest : ByteArray := prog_3_method_4_code
def yX1_dropOldest : MethodName := ⟨RX1, "dropOldest", "()V"⟩
def RX2 : String := "PuddleStates$States"
def TX2 : u_T := fun k => match k with
  | 0 => ("PuddleStates$States", "state", "[I", true)
  | 1 => ("PuddleStates$States", "waiting", "[I", true)
  | 2 => ("PuddleStates$States", "waits", "I", false)
  | 3 => ("PuddleStates$States", "cells", "I", false)
  | _ => ("PuddleStates$States", "many", "I", false)
def tyX2 : Nat → FieldType := fun k => match k with
  | 0 => .array .int
  | 1 => .array .int
  | 2 => .int
  | 3 => .int
  | _ => .int
abbrev wsX20 : List Cond := u_ws RX2 TX2 5
theorem nmX2 : ∀ a, a < 5 → ∀ b, b < 5 → a ≠ b → (TX2 a).2.1 ≠ (TX2 b).2.1 := by decide +kernel
theorem tyX2_ok : ∀ k, k < 5 → parseFieldDescriptor (TX2 k).2.2.1 = some (tyX2 k) := by decide +kernel
abbrev cX2_init : ByteArray := prog_4_method_1_code
def yX2_init : MethodName := ⟨RX2, "<init>", "()V"⟩
abbrev cX2_map : ByteArray := prog_4_method_2_code
def yX2_map : MethodName := ⟨RX2, "map", "(LPuddleStates$Ground;LPuddleStates$Water;)V"⟩
abbrev cX2_spread : ByteArray := prog_4_method_3_code
def yX2_spread : MethodName := ⟨RX2, "spread", "(LPuddleStates$Ground;LPuddleStates$Water;I)V"⟩
abbrev cX2_claim : ByteArray := prog_4_method_4_code
def yX2_claim : MethodName := ⟨RX2, "claim", "(LPuddleStates$Water;II)V"⟩
abbrev cX2_stateOf : ByteArray := prog_4_method_5_code
def yX2_stateOf : MethodName := ⟨RX2, "stateOf", "(I)I"⟩
abbrev cX2_apart : ByteArray := prog_4_method_6_code
def yX2_apart : MethodName := ⟨RX2, "apart", "(II)Z"⟩
abbrev cX2_sizeAt : ByteArray := prog_4_method_7_code
def yX2_sizeAt : MethodName := ⟨RX2, "sizeAt", "(I)I"⟩
abbrev cX2_depthAt : ByteArray := prog_4_method_8_code
def yX2_depthAt : MethodName := ⟨RX2, "depthAt", "(ILPuddleStates$Water;)I"⟩
def RX3 : String := "PuddleStates$Text"
def TX3 : u_T := fun k => match k with
  | 0 => ("PuddleStates$Text", "letters", "[C", true)
  | 1 => ("PuddleStates$Text", "length", "I", false)
  | _ => ("PuddleStates$Text", "at", "I", false)
def tyX3 : Nat → FieldType := fun k => match k with
  | 0 => .array .char
  | 1 => .int
  | _ => .int
abbrev wsX30 : List Cond := u_ws RX3 TX3 3
theorem nmX3 : ∀ a, a < 3 → ∀ b, b < 3 → a ≠ b → (TX3 a).2.1 ≠ (TX3 b).2.1 := by decide +kernel
theorem tyX3_ok : ∀ k, k < 3 → parseFieldDescriptor (TX3 k).2.2.1 = some (tyX3 k) := by decide +kernel
abbrev cX3_init : ByteArray := prog_5_method_1_code
def yX3_init : MethodName := ⟨RX3, "<init>", "()V"⟩
abbrev cX3_add : ByteArray := prog_5_method_2_code
def yX3_add : MethodName := ⟨RX3, "add", "(C)V"⟩
abbrev cX3_empty : ByteArray := prog_5_method_3_code
def yX3_empty : MethodName := ⟨RX3, "empty", "()V"⟩
abbrev cX3_readInto : ByteArray := prog_5_method_4_code
def yX3_readInto : MethodName := ⟨RX3, "readInto", "(LPuddleStates$Ground;LPuddleStates$Water;)I"⟩
abbrev cX3_tellCell : ByteArray := prog_5_method_5_code
def yX3_tellCell : MethodName := ⟨RX3, "tellCell", "(LPuddleStates$Ground;LPuddleStates$Water;III)Z"⟩
abbrev cX3_finish : ByteArray := prog_5_method_6_code
def yX3_finish : MethodName := ⟨RX3, "finish", "(LPuddleStates$Ground;LPuddleStates$Water;)V"⟩
abbrev cX3_peek : ByteArray := prog_5_method_7_code
def yX3_peek : MethodName := ⟨RX3, "peek", "()I"⟩
abbrev cX3_nextLetter : ByteArray := prog_5_method_8_code
def yX3_nextLetter : MethodName := ⟨RX3, "nextLetter", "()I"⟩
abbrev cX3_skip : ByteArray := prog_5_method_9_code
def yX3_skip : MethodName := ⟨RX3, "skip", "(I)Z"⟩
abbrev cX3_nextNumber : ByteArray := prog_5_method_10_code
def yX3_nextNumber : MethodName := ⟨RX3, "nextNumber", "()I"⟩
abbrev cX3_nextFigure : ByteArray := prog_5_method_11_code
def yX3_nextFigure : MethodName := ⟨RX3, "nextFigure", "()I"⟩
def RX4 : String := "PuddleStates$Water"
def TX4 : u_T := fun k => match k with
  | 0 => ("PuddleStates$Water", "height", "[I", true)
  | 1 => ("PuddleStates$Water", "drops", "[I", true)
  | 2 => ("PuddleStates$Water", "hours", "I", false)
  | _ => ("PuddleStates$Water", "restless", "J", false)
def tyX4 : Nat → FieldType := fun k => match k with
  | 0 => .array .int
  | 1 => .array .int
  | 2 => .int
  | _ => .long
abbrev wsX40 : List Cond := u_ws RX4 TX4 4
theorem nmX4 : ∀ a, a < 4 → ∀ b, b < 4 → a ≠ b → (TX4 a).2.1 ≠ (TX4 b).2.1 := by decide +kernel
theorem tyX4_ok : ∀ k, k < 4 → parseFieldDescriptor (TX4 k).2.2.1 = some (tyX4 k) := by decide +kernel
abbrev cX4_init : ByteArray := prog_6_method_1_code
def yX4_init : MethodName := ⟨RX4, "<init>", "()V"⟩
abbrev cX4_makeDry : ByteArray := prog_6_method_2_code
def yX4_makeDry : MethodName := ⟨RX4, "makeDry", "()V"⟩
abbrev cX4_copyFrom : ByteArray := prog_6_method_3_code
def yX4_copyFrom : MethodName := ⟨RX4, "copyFrom", "(LPuddleStates$Water;)V"⟩
abbrev cX4_allDrops : ByteArray := prog_6_method_4_code
def yX4_allDrops : MethodName := ⟨RX4, "allDrops", "(LPuddleStates$Ground;)I"⟩
abbrev cX4_wetCells : ByteArray := prog_6_method_5_code
def yX4_wetCells : MethodName := ⟨RX4, "wetCells", "(LPuddleStates$Ground;)I"⟩
abbrev cX4_wetBits : ByteArray := prog_6_method_6_code
def yX4_wetBits : MethodName := ⟨RX4, "wetBits", "(LPuddleStates$Ground;)J"⟩
abbrev cX4_firstWet : ByteArray := prog_6_method_7_code
def yX4_firstWet : MethodName := ⟨RX4, "firstWet", "(LPuddleStates$Ground;)I"⟩
abbrev cX4_pour : ByteArray := prog_6_method_8_code
def yX4_pour : MethodName := ⟨RX4, "pour", "(LPuddleStates$Ground;I)V"⟩
abbrev cX4_passHours : ByteArray := prog_6_method_9_code
def yX4_passHours : MethodName := ⟨RX4, "passHours", "(LPuddleStates$Ground;I)V"⟩
abbrev cX4_passHour : ByteArray := prog_6_method_10_code
def yX4_passHour : MethodName := ⟨RX4, "passHour", "(LPuddleStates$Ground;)V"⟩
abbrev cX4_stepInto : ByteArray := prog_6_method_11_code
def yX4_stepInto : MethodName := ⟨RX4, "stepInto", "(LPuddleStates$Ground;I)V"⟩
abbrev cX4_putDrop : ByteArray := prog_6_method_12_code
def yX4_putDrop : MethodName := ⟨RX4, "putDrop", "(LPuddleStates$Ground;I)V"⟩
abbrev cX4_flow : ByteArray := prog_6_method_13_code
def yX4_flow : MethodName := ⟨RX4, "flow", "(LPuddleStates$Ground;)V"⟩
abbrev cX4_flowFrom : ByteArray := prog_6_method_14_code
def yX4_flowFrom : MethodName := ⟨RX4, "flowFrom", "(LPuddleStates$Ground;I)V"⟩
abbrev cX4_whereTo : ByteArray := prog_6_method_15_code
def yX4_whereTo : MethodName := ⟨RX4, "whereTo", "(LPuddleStates$Ground;I)I"⟩
def RX5 : String := "PuddleStates"
def TX5 : u_T := fun k => match k with
  | 0 => ("PuddleStates", "text", "LPuddleStates$Text;", true)
  | 1 => ("PuddleStates", "ground", "LPuddleStates$Ground;", true)
  | 2 => ("PuddleStates", "now", "LPuddleStates$Water;", true)
  | 3 => ("PuddleStates", "otherGround", "LPuddleStates$Ground;", true)
  | 4 => ("PuddleStates", "later", "LPuddleStates$Water;", true)
  | 5 => ("PuddleStates", "states", "LPuddleStates$States;", true)
  | 6 => ("PuddleStates", "undone", "LPuddleStates$Past;", true)
  | 7 => ("PuddleStates", "kept", "LPuddleStates$Past;", true)
  | 8 => ("PuddleStates", "ringCell", "[I", true)
  | 9 => ("PuddleStates", "ringDrops", "[I", true)
  | _ => ("PuddleStates", "rings", "I", false)
def tyX5 : Nat → FieldType := fun k => match k with
  | 0 => .object "PuddleStates$Text"
  | 1 => .object "PuddleStates$Ground"
  | 2 => .object "PuddleStates$Water"
  | 3 => .object "PuddleStates$Ground"
  | 4 => .object "PuddleStates$Water"
  | 5 => .object "PuddleStates$States"
  | 6 => .object "PuddleStates$Past"
  | 7 => .object "PuddleStates$Past"
  | 8 => .array .int
  | 9 => .array .int
  | _ => .int
abbrev wsX50 : List Cond := u_ws RX5 TX5 11
theorem nmX5 : ∀ a, a < 11 → ∀ b, b < 11 → a ≠ b → (TX5 a).2.1 ≠ (TX5 b).2.1 := by decide +kernel
theorem tyX5_ok : ∀ k, k < 11 → parseFieldDescriptor (TX5 k).2.2.1 = some (tyX5 k) := by decide +kernel
abbrev cX5_init : ByteArray := prog_1_method_1_code
def yX5_init : MethodName := ⟨RX5, "<init>", "()V"⟩
abbrev cX5_write : ByteArray := prog_1_method_2_code
def yX5_write : MethodName := ⟨RX5, "write", "(I)I"⟩
abbrev cX5_wipe : ByteArray := prog_1_method_3_code
def yX5_wipe : MethodName := ⟨RX5, "wipe", "()I"⟩
abbrev cX5_fault : ByteArray := prog_1_method_4_code
def yX5_fault : MethodName := ⟨RX5, "fault", "()I"⟩
abbrev cX5_lay : ByteArray := prog_1_method_5_code
def yX5_lay : MethodName := ⟨RX5, "lay", "()I"⟩
abbrev cX5_cell : ByteArray := prog_1_method_6_code
def yX5_cell : MethodName := ⟨RX5, "cell", "(II)I"⟩
abbrev cX5_rain : ByteArray := prog_1_method_7_code
def yX5_rain : MethodName := ⟨RX5, "rain", "(I)I"⟩
abbrev cX5_shine : ByteArray := prog_1_method_8_code
def yX5_shine : MethodName := ⟨RX5, "shine", "(I)I"⟩
abbrev cX5_boot : ByteArray := prog_1_method_9_code
def yX5_boot : MethodName := ⟨RX5, "boot", "(I)I"⟩
abbrev cX5_stone : ByteArray := prog_1_method_10_code
def yX5_stone : MethodName := ⟨RX5, "stone", "(IZ)I"⟩
abbrev cX5_undo : ByteArray := prog_1_method_11_code
def yX5_undo : MethodName := ⟨RX5, "undo", "()I"⟩
abbrev cX5_behind : ByteArray := prog_1_method_12_code
def yX5_behind : MethodName := ⟨RX5, "behind", "(III)I"⟩
abbrev cX5_dry : ByteArray := prog_1_method_13_code
def yX5_dry : MethodName := ⟨RX5, "dry", "(I)I"⟩
abbrev cX5_join : ByteArray := prog_1_method_14_code
def yX5_join : MethodName := ⟨RX5, "join", "(II)I"⟩
abbrev cX5_part : ByteArray := prog_1_method_15_code
def yX5_part : MethodName := ⟨RX5, "part", "(II)I"⟩
abbrev cX5_way : ByteArray := prog_1_method_16_code
def yX5_way : MethodName := ⟨RX5, "way", "(II)I"⟩
abbrev cX5_kerb : ByteArray := prog_1_method_17_code
def yX5_kerb : MethodName := ⟨RX5, "kerb", "(III)I"⟩
abbrev cX5_ring : ByteArray := prog_1_method_18_code
def yX5_ring : MethodName := ⟨RX5, "ring", "(II)I"⟩
abbrev cX5_forget : ByteArray := prog_1_method_19_code
def yX5_forget : MethodName := ⟨RX5, "forget", "()I"⟩
abbrev cX5_rains : ByteArray := prog_1_method_20_code
def yX5_rains : MethodName := ⟨RX5, "rains", "()I"⟩
abbrev cX5_sky : ByteArray := prog_1_method_21_code
def yX5_sky : MethodName := ⟨RX5, "sky", "(II)I"⟩
abbrev cX5_sun : ByteArray := prog_1_method_22_code
def yX5_sun : MethodName := ⟨RX5, "sun", "(IIII)I"⟩
abbrev cX5_year : ByteArray := prog_1_method_23_code
def yX5_year : MethodName := ⟨RX5, "year", "(III)I"⟩
abbrev cX5_keep : ByteArray := prog_1_method_24_code
def yX5_keep : MethodName := ⟨RX5, "keep", "()I"⟩
abbrev cX5_back : ByteArray := prog_1_method_25_code
def yX5_back : MethodName := ⟨RX5, "back", "()I"⟩
abbrev cX5_count : ByteArray := prog_1_method_26_code
def yX5_count : MethodName := ⟨RX5, "count", "(I)I"⟩
abbrev cX5_isFrom : ByteArray := prog_1_method_27_code
def yX5_isFrom : MethodName := ⟨RX5, "isFrom", "(III)Z"⟩
abbrev cX5_areTwo : ByteArray := prog_1_method_28_code
def yX5_areTwo : MethodName := ⟨RX5, "areTwo", "(II)Z"⟩
abbrev cX5_layText : ByteArray := prog_1_method_29_code
def yX5_layText : MethodName := ⟨RX5, "layText", "()Z"⟩
abbrev cX5_apartBehindRain : ByteArray := prog_1_method_30_code
def yX5_apartBehindRain : MethodName := ⟨RX5, "apartBehindRain", "(LPuddleStates$Ground;III)Z"⟩
abbrev cX5_mayBeKerb : ByteArray := prog_1_method_31_code
def yX5_mayBeKerb : MethodName := ⟨RX5, "mayBeKerb", "(III)Z"⟩
abbrev cX5_ringsHold : ByteArray := prog_1_method_32_code
def yX5_ringsHold : MethodName := ⟨RX5, "ringsHold", "()Z"⟩
abbrev cX5_wetBehindHours : ByteArray := prog_1_method_33_code
def yX5_wetBehindHours : MethodName := ⟨RX5, "wetBehindHours", "(II)I"⟩
abbrev cX5_lowestTerms : ByteArray := prog_1_method_34_code
def yX5_lowestTerms : MethodName := ⟨RX5, "lowestTerms", "(III)I"⟩
abbrev cX5_commonDivisor : ByteArray := prog_1_method_35_code
def yX5_commonDivisor : MethodName := ⟨RX5, "commonDivisor", "(II)I"⟩
abbrev cX5_power : ByteArray := prog_1_method_36_code
def yX5_power : MethodName := ⟨RX5, "power", "(II)I"⟩
abbrev cX5_drawOf : ByteArray := prog_1_method_37_code
def yX5_drawOf : MethodName := ⟨RX5, "drawOf", "(II)I"⟩
def RX6 : String := "PuddleStatesModel"
def TX6 : u_T := fun k => match k with
  | 0 => ("PuddleStatesModel", "text", "[I", true)
  | 1 => ("PuddleStatesModel", "typed", "I", false)
  | 2 => ("PuddleStatesModel", "told", "[I", true)
  | 3 => ("PuddleStatesModel", "draft", "[I", true)
  | 4 => ("PuddleStatesModel", "begun", "[I", true)
  | 5 => ("PuddleStatesModel", "s", "[I", true)
  | 6 => ("PuddleStatesModel", "past", "[I", true)
  | 7 => ("PuddleStatesModel", "known", "I", false)
  | 8 => ("PuddleStatesModel", "images", "[I", true)
  | 9 => ("PuddleStatesModel", "kept", "I", false)
  | 10 => ("PuddleStatesModel", "rings", "[I", true)
  | 11 => ("PuddleStatesModel", "rung", "I", false)
  | 12 => ("PuddleStatesModel", "at", "I", false)
  | 13 => ("PuddleStatesModel", "states", "[I", true)
  | 14 => ("PuddleStatesModel", "held", "[I", true)
  | 15 => ("PuddleStatesModel", "here", "[Z", true)
  | _ => ("PuddleStatesModel", "there", "[Z", true)
def tyX6 : Nat → FieldType := fun k => match k with
  | 0 => .array .int
  | 1 => .int
  | 2 => .array .int
  | 3 => .array .int
  | 4 => .array .int
  | 5 => .array .int
  | 6 => .array .int
  | 7 => .int
  | 8 => .array .int
  | 9 => .int
  | 10 => .array .int
  | 11 => .int
  | 12 => .int
  | 13 => .array .int
  | 14 => .array .int
  | 15 => .array .boolean
  | _ => .array .boolean
abbrev wsX60 : List Cond := u_ws RX6 TX6 17
theorem nmX6 : ∀ a, a < 17 → ∀ b, b < 17 → a ≠ b → (TX6 a).2.1 ≠ (TX6 b).2.1 := by decide +kernel
theorem tyX6_ok : ∀ k, k < 17 → parseFieldDescriptor (TX6 k).2.2.1 = some (tyX6 k) := by decide +kernel
abbrev cX6_init : ByteArray := prog_8_method_1_code
def yX6_init : MethodName := ⟨RX6, "<init>", "()V"⟩
abbrev cX6_in : ByteArray := prog_8_method_3_code
def yX6_in : MethodName := ⟨RX6, "in", "(III)Z"⟩
abbrev cX6_cells : ByteArray := prog_8_method_4_code
def yX6_cells : MethodName := ⟨RX6, "cells", "()I"⟩
abbrev cX6_isCell : ByteArray := prog_8_method_5_code
def yX6_isCell : MethodName := ⟨RX6, "isCell", "(I)Z"⟩
abbrev cX6_write : ByteArray := prog_8_method_6_code
def yX6_write : MethodName := ⟨RX6, "write", "(I)I"⟩
abbrev cX6_wipe : ByteArray := prog_8_method_7_code
def yX6_wipe : MethodName := ⟨RX6, "wipe", "()I"⟩
abbrev cX6_letterAt : ByteArray := prog_8_method_8_code
def yX6_letterAt : MethodName := ⟨RX6, "letterAt", "(I)I"⟩
abbrev cX6_isFigure : ByteArray := prog_8_method_9_code
def yX6_isFigure : MethodName := ⟨RX6, "isFigure", "(I)Z"⟩
abbrev cX6_number : ByteArray := prog_8_method_10_code
def yX6_number : MethodName := ⟨RX6, "number", "(III)I"⟩
abbrev cX6_begins : ByteArray := prog_8_method_11_code
def yX6_begins : MethodName := ⟨RX6, "begins", "()V"⟩
abbrev cX6_readsItem : ByteArray := prog_8_method_12_code
def yX6_readsItem : MethodName := ⟨RX6, "readsItem", "(I)Z"⟩
abbrev cX6_readsAll : ByteArray := prog_8_method_13_code
def yX6_readsAll : MethodName := ⟨RX6, "readsAll", "()I"⟩
abbrev cX6_fault : ByteArray := prog_8_method_14_code
def yX6_fault : MethodName := ⟨RX6, "fault", "()I"⟩
abbrev cX6_lays : ByteArray := prog_8_method_15_code
def yX6_lays : MethodName := ⟨RX6, "lays", "()V"⟩
abbrev cX6_lay : ByteArray := prog_8_method_16_code
def yX6_lay : MethodName := ⟨RX6, "lay", "()I"⟩
abbrev cX6_beside : ByteArray := prog_8_method_17_code
def yX6_beside : MethodName := ⟨RX6, "beside", "(II)I"⟩
abbrev cX6_level : ByteArray := prog_8_method_18_code
def yX6_level : MethodName := ⟨RX6, "level", "(I)I"⟩
abbrev cX6_drops : ByteArray := prog_8_method_19_code
def yX6_drops : MethodName := ⟨RX6, "drops", "(II)V"⟩
abbrev cX6_sends : ByteArray := prog_8_method_20_code
def yX6_sends : MethodName := ⟨RX6, "sends", "(I)Z"⟩
abbrev cX6_flows : ByteArray := prog_8_method_21_code
def yX6_flows : MethodName := ⟨RX6, "flows", "()V"⟩
abbrev cX6_isOpen : ByteArray := prog_8_method_22_code
def yX6_isOpen : MethodName := ⟨RX6, "isOpen", "(I)Z"⟩
abbrev cX6_pours : ByteArray := prog_8_method_23_code
def yX6_pours : MethodName := ⟨RX6, "pours", "(I)V"⟩
abbrev cX6_shines : ByteArray := prog_8_method_24_code
def yX6_shines : MethodName := ⟨RX6, "shines", "()V"⟩
abbrev cX6_laysStates : ByteArray := prog_8_method_25_code
def yX6_laysStates : MethodName := ⟨RX6, "laysStates", "()V"⟩
abbrev cX6_sizeOf : ByteArray := prog_8_method_26_code
def yX6_sizeOf : MethodName := ⟨RX6, "sizeOf", "(I)I"⟩
abbrev cX6_cell : ByteArray := prog_8_method_27_code
def yX6_cell : MethodName := ⟨RX6, "cell", "(II)I"⟩
abbrev cX6_keeps : ByteArray := prog_8_method_28_code
def yX6_keeps : MethodName := ⟨RX6, "keeps", "()V"⟩
abbrev cX6_all : ByteArray := prog_8_method_29_code
def yX6_all : MethodName := ⟨RX6, "all", "()I"⟩
abbrev cX6_rain : ByteArray := prog_8_method_30_code
def yX6_rain : MethodName := ⟨RX6, "rain", "(I)I"⟩
abbrev cX6_shine : ByteArray := prog_8_method_31_code
def yX6_shine : MethodName := ⟨RX6, "shine", "(I)I"⟩
abbrev cX6_boot : ByteArray := prog_8_method_32_code
def yX6_boot : MethodName := ⟨RX6, "boot", "(I)I"⟩
abbrev cX6_stone : ByteArray := prog_8_method_33_code
def yX6_stone : MethodName := ⟨RX6, "stone", "(IZ)I"⟩
abbrev cX6_undo : ByteArray := prog_8_method_34_code
def yX6_undo : MethodName := ⟨RX6, "undo", "()I"⟩
abbrev cX6_holds : ByteArray := prog_8_method_35_code
def yX6_holds : MethodName := ⟨RX6, "holds", "()V"⟩
abbrev cX6_lets : ByteArray := prog_8_method_36_code
def yX6_lets : MethodName := ⟨RX6, "lets", "()V"⟩
abbrev cX6_behind : ByteArray := prog_8_method_37_code
def yX6_behind : MethodName := ⟨RX6, "behind", "(III)I"⟩
abbrev cX6_lowest : ByteArray := prog_8_method_38_code
def yX6_lowest : MethodName := ⟨RX6, "lowest", "()I"⟩
abbrev cX6_dry : ByteArray := prog_8_method_39_code
def yX6_dry : MethodName := ⟨RX6, "dry", "(I)I"⟩
abbrev cX6_isOne : ByteArray := prog_8_method_40_code
def yX6_isOne : MethodName := ⟨RX6, "isOne", "(II)Z"⟩
abbrev cX6_join : ByteArray := prog_8_method_41_code
def yX6_join : MethodName := ⟨RX6, "join", "(II)I"⟩
abbrev cX6_part : ByteArray := prog_8_method_42_code
def yX6_part : MethodName := ⟨RX6, "part", "(II)I"⟩
abbrev cX6_way : ByteArray := prog_8_method_43_code
def yX6_way : MethodName := ⟨RX6, "way", "(II)I"⟩
abbrev cX6_areApart : ByteArray := prog_8_method_44_code
def yX6_areApart : MethodName := ⟨RX6, "areApart", "(III)Z"⟩
abbrev cX6_kerb : ByteArray := prog_8_method_45_code
def yX6_kerb : MethodName := ⟨RX6, "kerb", "(III)I"⟩
abbrev cX6_ring : ByteArray := prog_8_method_46_code
def yX6_ring : MethodName := ⟨RX6, "ring", "(II)I"⟩
abbrev cX6_forget : ByteArray := prog_8_method_47_code
def yX6_forget : MethodName := ⟨RX6, "forget", "()I"⟩
abbrev cX6_rains : ByteArray := prog_8_method_48_code
def yX6_rains : MethodName := ⟨RX6, "rains", "()I"⟩
abbrev cX6_common : ByteArray := prog_8_method_49_code
def yX6_common : MethodName := ⟨RX6, "common", "(II)I"⟩
abbrev cX6_wet : ByteArray := prog_8_method_50_code
def yX6_wet : MethodName := ⟨RX6, "wet", "()I"⟩
abbrev cX6_sky : ByteArray := prog_8_method_51_code
def yX6_sky : MethodName := ⟨RX6, "sky", "(II)I"⟩
abbrev cX6_sun : ByteArray := prog_8_method_52_code
def yX6_sun : MethodName := ⟨RX6, "sun", "(IIII)I"⟩
abbrev cX6_manyStates : ByteArray := prog_8_method_53_code
def yX6_manyStates : MethodName := ⟨RX6, "manyStates", "()I"⟩
abbrev cX6_year : ByteArray := prog_8_method_54_code
def yX6_year : MethodName := ⟨RX6, "year", "(III)I"⟩
abbrev cX6_keep : ByteArray := prog_8_method_55_code
def yX6_keep : MethodName := ⟨RX6, "keep", "()I"⟩
abbrev cX6_back : ByteArray := prog_8_method_56_code
def yX6_back : MethodName := ⟨RX6, "back", "()I"⟩
abbrev cX6_count : ByteArray := prog_8_method_57_code
def yX6_count : MethodName := ⟨RX6, "count", "(I)I"⟩
def RJx145de : String := "java/io/Serializable"
def TJx145de : u_T := fun k => match k with
  | _ => ("", "", "", false)
def tyJx145de : Nat → FieldType := fun k => match k with
  | _ => .int
abbrev wsJx145de0 : List Cond := u_ws RJx145de TJx145de 0
theorem nmJx145de : ∀ a, a < 0 → ∀ b, b < 0 → a ≠ b → (TJx145de a).2.1 ≠ (TJx145de b).2.1 := by decide +kernel
theorem tyJx145de_ok : ∀ k, k < 0 → parseFieldDescriptor (TJx145de k).2.2.1 = some (tyJx145de k) := by decide +kernel
def RJx9f9b0 : String := "java/lang/CharSequence"
def TJx9f9b0 : u_T := fun k => match k with
  | _ => ("", "", "", false)
def tyJx9f9b0 : Nat → FieldType := fun k => match k with
  | _ => .int
abbrev wsJx9f9b00 : List Cond := u_ws RJx9f9b0 TJx9f9b0 0
theorem nmJx9f9b0 : ∀ a, a < 0 → ∀ b, b < 0 → a ≠ b → (TJx9f9b0 a).2.1 ≠ (TJx9f9b0 b).2.1 := by decide +kernel
theorem tyJx9f9b0_ok : ∀ k, k < 0 → parseFieldDescriptor (TJx9f9b0 k).2.2.1 = some (tyJx9f9b0 k) := by decide +kernel
def RJxb160c : String := "java/lang/Comparable"
def TJxb160c : u_T := fun k => match k with
  | _ => ("", "", "", false)
def tyJxb160c : Nat → FieldType := fun k => match k with
  | _ => .int
abbrev wsJxb160c0 : List Cond := u_ws RJxb160c TJxb160c 0
theorem nmJxb160c : ∀ a, a < 0 → ∀ b, b < 0 → a ≠ b → (TJxb160c a).2.1 ≠ (TJxb160c b).2.1 := by decide +kernel
theorem tyJxb160c_ok : ∀ k, k < 0 → parseFieldDescriptor (TJxb160c k).2.2.1 = some (tyJxb160c k) := by decide +kernel
def RJ6 : String := "java/lang/Integer"
def TJ6 : u_T := fun k => match k with
  | _ => ("", "", "", false)
def tyJ6 : Nat → FieldType := fun k => match k with
  | _ => .int
abbrev wsJ60 : List Cond := u_ws RJ6 TJ6 0
theorem nmJ6 : ∀ a, a < 0 → ∀ b, b < 0 → a ≠ b → (TJ6 a).2.1 ≠ (TJ6 b).2.1 := by decide +kernel
theorem tyJ6_ok : ∀ k, k < 0 → parseFieldDescriptor (TJ6 k).2.2.1 = some (tyJ6 k) := by decide +kernel
abbrev cJ6_bitCount_0f7a4 : ByteArray := prog_9_method_49_code
def yJ6_bitCount_0f7a4 : MethodName := ⟨RJ6, "bitCount", "(I)I"⟩
def RJ9 : String := "java/lang/Math"
def TJ9 : u_T := fun k => match k with
  | _ => ("", "", "", false)
def tyJ9 : Nat → FieldType := fun k => match k with
  | _ => .int
abbrev wsJ90 : List Cond := u_ws RJ9 TJ9 0
theorem nmJ9 : ∀ a, a < 0 → ∀ b, b < 0 → a ≠ b → (TJ9 a).2.1 ≠ (TJ9 b).2.1 := by decide +kernel
theorem tyJ9_ok : ∀ k, k < 0 → parseFieldDescriptor (TJ9 k).2.2.1 = some (tyJ9 k) := by decide +kernel
abbrev cJ9_max_7cf53 : ByteArray := prog_10_method_65_code
def yJ9_max_7cf53 : MethodName := ⟨RJ9, "max", "(II)I"⟩
abbrev cJ9_min_7cf53 : ByteArray := prog_10_method_69_code
def yJ9_min_7cf53 : MethodName := ⟨RJ9, "min", "(II)I"⟩
def RJ0 : String := "java/lang/String"
def TJ0 : u_T := fun k => match k with
  | _ => ("", "", "", false)
def tyJ0 : Nat → FieldType := fun k => match k with
  | _ => .int
abbrev wsJ00 : List Cond := u_ws RJ0 TJ0 0
theorem nmJ0 : ∀ a, a < 0 → ∀ b, b < 0 → a ≠ b → (TJ0 a).2.1 ≠ (TJ0 b).2.1 := by decide +kernel
theorem tyJ0_ok : ∀ k, k < 0 → parseFieldDescriptor (TJ0 k).2.2.1 = some (tyJ0 k) := by decide +kernel
abbrev cJ0_length_8abf5 : ByteArray := prog_11_method_54_code
def yJ0_length_8abf5 : MethodName := ⟨RJ0, "length", "()I"⟩
abbrev cJ0_charAt_5068e : ByteArray := prog_11_method_56_code
def yJ0_charAt_5068e : MethodName := ⟨RJ0, "charAt", "(I)C"⟩
abbrev cJ0_coder_7d493 : ByteArray := prog_11_method_152_code
def yJ0_coder_7d493 : MethodName := ⟨RJ0, "coder", "()B"⟩
abbrev cJ0_isLatin1_aae02 : ByteArray := prog_11_method_154_code
def yJ0_isLatin1_aae02 : MethodName := ⟨RJ0, "isLatin1", "()Z"⟩
abbrev cJ0_checkIndex_df160 : ByteArray := prog_11_method_155_code
def yJ0_checkIndex_df160 : MethodName := ⟨RJ0, "checkIndex", "(II)V"⟩
def RJ1 : String := "java/lang/StringLatin1"
def TJ1 : u_T := fun k => match k with
  | _ => ("", "", "", false)
def tyJ1 : Nat → FieldType := fun k => match k with
  | _ => .int
abbrev wsJ10 : List Cond := u_ws RJ1 TJ1 0
theorem nmJ1 : ∀ a, a < 0 → ∀ b, b < 0 → a ≠ b → (TJ1 a).2.1 ≠ (TJ1 b).2.1 := by decide +kernel
theorem tyJ1_ok : ∀ k, k < 0 → parseFieldDescriptor (TJ1 k).2.2.1 = some (tyJ1 k) := by decide +kernel
abbrev cJ1_charAt_3b067 : ByteArray := prog_12_method_2_code
def yJ1_charAt_3b067 : MethodName := ⟨RJ1, "charAt", "([BI)C"⟩
def RJ2 : String := "java/lang/StringUTF16"
def TJ2 : u_T := fun k => match k with
  | _ => ("", "", "", false)
def tyJ2 : Nat → FieldType := fun k => match k with
  | _ => .int
abbrev wsJ20 : List Cond := u_ws RJ2 TJ2 0
theorem nmJ2 : ∀ a, a < 0 → ∀ b, b < 0 → a ≠ b → (TJ2 a).2.1 ≠ (TJ2 b).2.1 := by decide +kernel
theorem tyJ2_ok : ∀ k, k < 0 → parseFieldDescriptor (TJ2 k).2.2.1 = some (tyJ2 k) := by decide +kernel
abbrev cJ2_getChar_3b067 : ByteArray := prog_13_method_5_code
def yJ2_getChar_3b067 : MethodName := ⟨RJ2, "getChar", "([BI)C"⟩
abbrev cJ2_length_9d52b : ByteArray := prog_13_method_6_code
def yJ2_length_9d52b : MethodName := ⟨RJ2, "length", "([B)I"⟩
abbrev cJ2_charAt_3b067 : ByteArray := prog_13_method_83_code
def yJ2_charAt_3b067 : MethodName := ⟨RJ2, "charAt", "([BI)C"⟩
abbrev cJ2_checkIndex_2214a : ByteArray := prog_13_method_91_code
def yJ2_checkIndex_2214a : MethodName := ⟨RJ2, "checkIndex", "(I[B)V"⟩
def RJ10 : String := "java/lang/System"
def TJ10 : u_T := fun k => match k with
  | _ => ("", "", "", false)
def tyJ10 : Nat → FieldType := fun k => match k with
  | _ => .int
abbrev wsJ100 : List Cond := u_ws RJ10 TJ10 0
theorem nmJ10 : ∀ a, a < 0 → ∀ b, b < 0 → a ≠ b → (TJ10 a).2.1 ≠ (TJ10 b).2.1 := by decide +kernel
theorem tyJ10_ok : ∀ k, k < 0 → parseFieldDescriptor (TJ10 k).2.2.1 = some (tyJ10 k) := by decide +kernel
def RJxfd54e : String := "java/lang/constant/Constable"
def TJxfd54e : u_T := fun k => match k with
  | _ => ("", "", "", false)
def tyJxfd54e : Nat → FieldType := fun k => match k with
  | _ => .int
abbrev wsJxfd54e0 : List Cond := u_ws RJxfd54e TJxfd54e 0
theorem nmJxfd54e : ∀ a, a < 0 → ∀ b, b < 0 → a ≠ b → (TJxfd54e a).2.1 ≠ (TJxfd54e b).2.1 := by decide +kernel
theorem tyJxfd54e_ok : ∀ k, k < 0 → parseFieldDescriptor (TJxfd54e k).2.2.1 = some (tyJxfd54e k) := by decide +kernel
def RJx3cf43 : String := "java/lang/constant/ConstantDesc"
def TJx3cf43 : u_T := fun k => match k with
  | _ => ("", "", "", false)
def tyJx3cf43 : Nat → FieldType := fun k => match k with
  | _ => .int
abbrev wsJx3cf430 : List Cond := u_ws RJx3cf43 TJx3cf43 0
theorem nmJx3cf43 : ∀ a, a < 0 → ∀ b, b < 0 → a ≠ b → (TJx3cf43 a).2.1 ≠ (TJx3cf43 b).2.1 := by decide +kernel
theorem tyJx3cf43_ok : ∀ k, k < 0 → parseFieldDescriptor (TJx3cf43 k).2.2.1 = some (tyJx3cf43 k) := by decide +kernel
def RJ7 : String := "java/util/Arrays"
def TJ7 : u_T := fun k => match k with
  | _ => ("", "", "", false)
def tyJ7 : Nat → FieldType := fun k => match k with
  | _ => .int
abbrev wsJ70 : List Cond := u_ws RJ7 TJ7 0
theorem nmJ7 : ∀ a, a < 0 → ∀ b, b < 0 → a ≠ b → (TJ7 a).2.1 ≠ (TJ7 b).2.1 := by decide +kernel
theorem tyJ7_ok : ∀ k, k < 0 → parseFieldDescriptor (TJ7 k).2.2.1 = some (tyJ7 k) := by decide +kernel
abbrev cJ7_fill_d0a16 : ByteArray := prog_15_method_101_code
def yJ7_fill_d0a16 : MethodName := ⟨RJ7, "fill", "([JJ)V"⟩
abbrev cJ7_fill_53178 : ByteArray := prog_15_method_103_code
def yJ7_fill_53178 : MethodName := ⟨RJ7, "fill", "([II)V"⟩
def RJ3 : String := "jdk/internal/util/Preconditions"
def TJ3 : u_T := fun k => match k with
  | _ => ("", "", "", false)
def tyJ3 : Nat → FieldType := fun k => match k with
  | _ => .int
abbrev wsJ30 : List Cond := u_ws RJ3 TJ3 0
theorem nmJ3 : ∀ a, a < 0 → ∀ b, b < 0 → a ≠ b → (TJ3 a).2.1 ≠ (TJ3 b).2.1 := by decide +kernel
theorem tyJ3_ok : ∀ k, k < 0 → parseFieldDescriptor (TJ3 k).2.2.1 = some (tyJ3 k) := by decide +kernel
abbrev cJ3_checkIndex_8e157 : ByteArray := prog_16_method_11_code
def yJ3_checkIndex_8e157 : MethodName := ⟨RJ3, "checkIndex", "(IILjava/util/function/BiFunction;)I"⟩
def RL : String := "PuddleStatesLaw"
abbrev cL_law : ByteArray := code
def yL_law : MethodName := ⟨RL, "law", "([I)Z"⟩
abbrev vwCl : List vw_C := [(RX0, TX0, 6), (RX1, TX1, 4), (RX2, TX2, 5), (RX3, TX3, 3), (RX4, TX4, 4), (RX5, TX5, 11), (RX6, TX6, 17)]
end
section
theorem dX0_init_0 : decode cX0_init 0 = .ok (.aload_n 0, 1) := by decide +kernel
theorem dX0_init_1 : decode cX0_init 1 = .ok (.invokespecial 3, 3) := by decide +kernel
theorem dX0_init_4 : decode cX0_init 4 = .ok (.aload_n 0, 1) := by decide +kernel
theorem dX0_init_5 : decode cX0_init 5 = .ok (.iconst 0, 1) := by decide +kernel
theorem dX0_init_6 : decode cX0_init 6 = .ok (.putfield 9, 3) := by decide +kernel
theorem dX0_init_9 : decode cX0_init 9 = .ok (.aload_n 0, 1) := by decide +kernel
theorem dX0_init_10 : decode cX0_init 10 = .ok (.iconst 0, 1) := by decide +kernel
theorem dX0_init_11 : decode cX0_init 11 = .ok (.putfield 15, 3) := by decide +kernel
theorem dX0_init_14 : decode cX0_init 14 = .ok (.aload_n 0, 1) := by decide +kernel
theorem dX0_init_15 : decode cX0_init 15 = .ok (.iconst 0, 1) := by decide +kernel
theorem dX0_init_16 : decode cX0_init 16 = .ok (.putfield 18, 3) := by decide +kernel
theorem dX0_init_19 : decode cX0_init 19 = .ok (.aload_n 0, 1) := by decide +kernel
theorem dX0_init_20 : decode cX0_init 20 = .ok (.bipush 36, 2) := by decide +kernel
theorem dX0_init_22 : decode cX0_init 22 = .ok (.newarray .int, 2) := by decide +kernel
theorem dX0_init_24 : decode cX0_init 24 = .ok (.putfield 21, 3) := by decide +kernel
theorem dX0_init_27 : decode cX0_init 27 = .ok (.aload_n 0, 1) := by decide +kernel
theorem dX0_init_28 : decode cX0_init 28 = .ok (.sipush 144, 3) := by decide +kernel
theorem dX0_init_31 : decode cX0_init 31 = .ok (.newarray .int, 2) := by decide +kernel
theorem dX0_init_33 : decode cX0_init 33 = .ok (.putfield 25, 3) := by decide +kernel
theorem dX0_init_36 : decode cX0_init 36 = .ok (.aload_n 0, 1) := by decide +kernel
theorem dX0_init_37 : decode cX0_init 37 = .ok (.bipush 36, 2) := by decide +kernel
theorem dX0_init_39 : decode cX0_init 39 = .ok (.newarray .long, 2) := by decide +kernel
theorem dX0_init_41 : decode cX0_init 41 = .ok (.putfield 28, 3) := by decide +kernel
theorem dX0_init_44 : decode cX0_init 44 = .ok (.return_, 1) := by decide +kernel
theorem dX0_holds_0 : decode cX0_holds 0 = .ok (.iload_n 1, 1) := by decide +kernel
theorem dX0_holds_1 : decode cX0_holds 1 = .ok (.ifCond .lt 21, 3) := by decide +kernel
theorem dX0_holds_4 : decode cX0_holds 4 = .ok (.iload_n 1, 1) := by decide +kernel
theorem dX0_holds_5 : decode cX0_holds 5 = .ok (.aload_n 0, 1) := by decide +kernel
theorem dX0_holds_6 : decode cX0_holds 6 = .ok (.getfield 18, 3) := by decide +kernel
theorem dX0_holds_9 : decode cX0_holds 9 = .ok (.if_icmp .ge 13, 3) := by decide +kernel
theorem dX0_holds_12 : decode cX0_holds 12 = .ok (.iload_n 1, 1) := by decide +kernel
theorem dX0_holds_13 : decode cX0_holds 13 = .ok (.bipush 36, 2) := by decide +kernel
theorem dX0_holds_15 : decode cX0_holds 15 = .ok (.if_icmp .ge 7, 3) := by decide +kernel
theorem dX0_holds_18 : decode cX0_holds 18 = .ok (.iconst 1, 1) := by decide +kernel
theorem dX0_holds_19 : decode cX0_holds 19 = .ok (.goto 4, 3) := by decide +kernel
theorem dX0_holds_22 : decode cX0_holds 22 = .ok (.iconst 0, 1) := by decide +kernel
theorem dX0_holds_23 : decode cX0_holds 23 = .ok (.ireturn, 1) := by decide +kernel
theorem dX0_shape_0 : decode cX0_shape 0 = .ok (.iload_n 1, 1) := by decide +kernel
theorem dX0_shape_1 : decode cX0_shape 1 = .ok (.iconst 2, 1) := by decide +kernel
theorem dX0_shape_2 : decode cX0_shape 2 = .ok (.bipush 6, 2) := by decide +kernel
theorem dX0_shape_4 : decode cX0_shape 4 = .ok (.invokestatic 32, 3) := by decide +kernel
theorem dX0_shape_7 : decode cX0_shape 7 = .ok (.ifCond .eq 13, 3) := by decide +kernel
theorem dX0_shape_10 : decode cX0_shape 10 = .ok (.iload_n 2, 1) := by decide +kernel
theorem dX0_shape_11 : decode cX0_shape 11 = .ok (.iconst 2, 1) := by decide +kernel
theorem dX0_shape_12 : decode cX0_shape 12 = .ok (.bipush 6, 2) := by decide +kernel
theorem dX0_shape_14 : decode cX0_shape 14 = .ok (.invokestatic 32, 3) := by decide +kernel
theorem dX0_shape_17 : decode cX0_shape 17 = .ok (.ifCond .ne 5, 3) := by decide +kernel
theorem dX0_shape_20 : decode cX0_shape 20 = .ok (.iconst 0, 1) := by decide +kernel
theorem dX0_shape_21 : decode cX0_shape 21 = .ok (.ireturn, 1) := by decide +kernel
theorem dX0_shape_22 : decode cX0_shape 22 = .ok (.aload_n 0, 1) := by decide +kernel
theorem dX0_shape_23 : decode cX0_shape 23 = .ok (.iload_n 1, 1) := by decide +kernel
theorem dX0_shape_24 : decode cX0_shape 24 = .ok (.putfield 9, 3) := by decide +kernel
theorem dX0_shape_27 : decode cX0_shape 27 = .ok (.aload_n 0, 1) := by decide +kernel
theorem dX0_shape_28 : decode cX0_shape 28 = .ok (.iload_n 2, 1) := by decide +kernel
theorem dX0_shape_29 : decode cX0_shape 29 = .ok (.putfield 15, 3) := by decide +kernel
theorem dX0_shape_32 : decode cX0_shape 32 = .ok (.aload_n 0, 1) := by decide +kernel
theorem dX0_shape_33 : decode cX0_shape 33 = .ok (.aload_n 0, 1) := by decide +kernel
theorem dX0_shape_34 : decode cX0_shape 34 = .ok (.getfield 9, 3) := by decide +kernel
theorem dX0_shape_37 : decode cX0_shape 37 = .ok (.aload_n 0, 1) := by decide +kernel
theorem dX0_shape_38 : decode cX0_shape 38 = .ok (.getfield 15, 3) := by decide +kernel
theorem dX0_shape_41 : decode cX0_shape 41 = .ok (.imul, 1) := by decide +kernel
theorem dX0_shape_42 : decode cX0_shape 42 = .ok (.putfield 18, 3) := by decide +kernel
theorem dX0_shape_45 : decode cX0_shape 45 = .ok (.iconst 1, 1) := by decide +kernel
theorem dX0_shape_46 : decode cX0_shape 46 = .ok (.ireturn, 1) := by decide +kernel
theorem dX0_makeOpen_0 : decode cX0_makeOpen 0 = .ok (.aload_n 0, 1) := by decide +kernel
theorem dX0_makeOpen_1 : decode cX0_makeOpen 1 = .ok (.iconst 4, 1) := by decide +kernel
theorem dX0_makeOpen_2 : decode cX0_makeOpen 2 = .ok (.iconst 5, 1) := by decide +kernel
theorem dX0_makeOpen_3 : decode cX0_makeOpen 3 = .ok (.invokevirtual 36, 3) := by decide +kernel
theorem dX0_makeOpen_6 : decode cX0_makeOpen 6 = .ok (.pop, 1) := by decide +kernel
theorem dX0_makeOpen_7 : decode cX0_makeOpen 7 = .ok (.aload_n 0, 1) := by decide +kernel
theorem dX0_makeOpen_8 : decode cX0_makeOpen 8 = .ok (.getfield 21, 3) := by decide +kernel
theorem dX0_makeOpen_11 : decode cX0_makeOpen 11 = .ok (.iconst 0, 1) := by decide +kernel
theorem dX0_makeOpen_12 : decode cX0_makeOpen 12 = .ok (.invokestatic 40, 3) := by decide +kernel
theorem dX0_makeOpen_15 : decode cX0_makeOpen 15 = .ok (.return_, 1) := by decide +kernel
theorem dX0_makeKerb_0 : decode cX0_makeKerb 0 = .ok (.aload_n 0, 1) := by decide +kernel
theorem dX0_makeKerb_1 : decode cX0_makeKerb 1 = .ok (.iload_n 1, 1) := by decide +kernel
theorem dX0_makeKerb_2 : decode cX0_makeKerb 2 = .ok (.invokevirtual 46, 3) := by decide +kernel
theorem dX0_makeKerb_5 : decode cX0_makeKerb 5 = .ok (.ifCond .eq 14, 3) := by decide +kernel
theorem dX0_makeKerb_8 : decode cX0_makeKerb 8 = .ok (.aload_n 0, 1) := by decide +kernel
theorem dX0_makeKerb_9 : decode cX0_makeKerb 9 = .ok (.getfield 21, 3) := by decide +kernel
theorem dX0_makeKerb_12 : decode cX0_makeKerb 12 = .ok (.iload_n 1, 1) := by decide +kernel
theorem dX0_makeKerb_13 : decode cX0_makeKerb 13 = .ok (.iconst 3, 1) := by decide +kernel
theorem dX0_makeKerb_14 : decode cX0_makeKerb 14 = .ok (.iastore, 1) := by decide +kernel
theorem dX0_makeKerb_15 : decode cX0_makeKerb 15 = .ok (.aload_n 0, 1) := by decide +kernel
theorem dX0_makeKerb_16 : decode cX0_makeKerb 16 = .ok (.invokevirtual 50, 3) := by decide +kernel
theorem dX0_makeKerb_19 : decode cX0_makeKerb 19 = .ok (.return_, 1) := by decide +kernel
theorem dX0_copyFrom_0 : decode cX0_copyFrom 0 = .ok (.aload_n 0, 1) := by decide +kernel
theorem dX0_copyFrom_1 : decode cX0_copyFrom 1 = .ok (.aload_n 1, 1) := by decide +kernel
theorem dX0_copyFrom_2 : decode cX0_copyFrom 2 = .ok (.getfield 9, 3) := by decide +kernel
theorem dX0_copyFrom_5 : decode cX0_copyFrom 5 = .ok (.putfield 9, 3) := by decide +kernel
theorem dX0_copyFrom_8 : decode cX0_copyFrom 8 = .ok (.aload_n 0, 1) := by decide +kernel
theorem dX0_copyFrom_9 : decode cX0_copyFrom 9 = .ok (.aload_n 1, 1) := by decide +kernel
theorem dX0_copyFrom_10 : decode cX0_copyFrom 10 = .ok (.getfield 15, 3) := by decide +kernel
theorem dX0_copyFrom_13 : decode cX0_copyFrom 13 = .ok (.putfield 15, 3) := by decide +kernel
theorem dX0_copyFrom_16 : decode cX0_copyFrom 16 = .ok (.aload_n 0, 1) := by decide +kernel
theorem dX0_copyFrom_17 : decode cX0_copyFrom 17 = .ok (.aload_n 1, 1) := by decide +kernel
theorem dX0_copyFrom_18 : decode cX0_copyFrom 18 = .ok (.getfield 18, 3) := by decide +kernel
theorem dX0_copyFrom_21 : decode cX0_copyFrom 21 = .ok (.putfield 18, 3) := by decide +kernel
theorem dX0_copyFrom_24 : decode cX0_copyFrom 24 = .ok (.aload_n 1, 1) := by decide +kernel
theorem dX0_copyFrom_25 : decode cX0_copyFrom 25 = .ok (.getfield 21, 3) := by decide +kernel
theorem dX0_copyFrom_28 : decode cX0_copyFrom 28 = .ok (.iconst 0, 1) := by decide +kernel
theorem dX0_copyFrom_29 : decode cX0_copyFrom 29 = .ok (.aload_n 0, 1) := by decide +kernel
theorem dX0_copyFrom_30 : decode cX0_copyFrom 30 = .ok (.getfield 21, 3) := by decide +kernel
theorem dX0_copyFrom_33 : decode cX0_copyFrom 33 = .ok (.iconst 0, 1) := by decide +kernel
theorem dX0_copyFrom_34 : decode cX0_copyFrom 34 = .ok (.bipush 36, 2) := by decide +kernel
theorem dX0_copyFrom_36 : decode cX0_copyFrom 36 = .ok (.invokestatic 53, 3) := by decide +kernel
theorem dX0_copyFrom_39 : decode cX0_copyFrom 39 = .ok (.aload_n 1, 1) := by decide +kernel
theorem dX0_copyFrom_40 : decode cX0_copyFrom 40 = .ok (.getfield 25, 3) := by decide +kernel
theorem dX0_copyFrom_43 : decode cX0_copyFrom 43 = .ok (.iconst 0, 1) := by decide +kernel
theorem dX0_copyFrom_44 : decode cX0_copyFrom 44 = .ok (.aload_n 0, 1) := by decide +kernel
theorem dX0_copyFrom_45 : decode cX0_copyFrom 45 = .ok (.getfield 25, 3) := by decide +kernel
theorem dX0_copyFrom_48 : decode cX0_copyFrom 48 = .ok (.iconst 0, 1) := by decide +kernel
theorem dX0_copyFrom_49 : decode cX0_copyFrom 49 = .ok (.sipush 144, 3) := by decide +kernel
theorem dX0_copyFrom_52 : decode cX0_copyFrom 52 = .ok (.invokestatic 53, 3) := by decide +kernel
theorem dX0_copyFrom_55 : decode cX0_copyFrom 55 = .ok (.aload_n 1, 1) := by decide +kernel
theorem dX0_copyFrom_56 : decode cX0_copyFrom 56 = .ok (.getfield 28, 3) := by decide +kernel
theorem dX0_copyFrom_59 : decode cX0_copyFrom 59 = .ok (.iconst 0, 1) := by decide +kernel
theorem dX0_copyFrom_60 : decode cX0_copyFrom 60 = .ok (.aload_n 0, 1) := by decide +kernel
theorem dX0_copyFrom_61 : decode cX0_copyFrom 61 = .ok (.getfield 28, 3) := by decide +kernel
theorem dX0_copyFrom_64 : decode cX0_copyFrom 64 = .ok (.iconst 0, 1) := by decide +kernel
theorem dX0_copyFrom_65 : decode cX0_copyFrom 65 = .ok (.bipush 36, 2) := by decide +kernel
theorem dX0_copyFrom_67 : decode cX0_copyFrom 67 = .ok (.invokestatic 53, 3) := by decide +kernel
theorem dX0_copyFrom_70 : decode cX0_copyFrom 70 = .ok (.return_, 1) := by decide +kernel
theorem dX0_link_0 : decode cX0_link 0 = .ok (.aload_n 0, 1) := by decide +kernel
theorem dX0_link_1 : decode cX0_link 1 = .ok (.getfield 28, 3) := by decide +kernel
theorem dX0_link_4 : decode cX0_link 4 = .ok (.lconst 0, 1) := by decide +kernel
theorem dX0_link_5 : decode cX0_link 5 = .ok (.invokestatic 59, 3) := by decide +kernel
theorem dX0_link_8 : decode cX0_link 8 = .ok (.iconst 0, 1) := by decide +kernel
theorem dX0_link_9 : decode cX0_link 9 = .ok (.istore_n 1, 1) := by decide +kernel
theorem dX0_link_10 : decode cX0_link 10 = .ok (.iload_n 1, 1) := by decide +kernel
theorem dX0_link_11 : decode cX0_link 11 = .ok (.aload_n 0, 1) := by decide +kernel
theorem dX0_link_12 : decode cX0_link 12 = .ok (.getfield 9, 3) := by decide +kernel
theorem dX0_link_15 : decode cX0_link 15 = .ok (.if_icmp .ge 86, 3) := by decide +kernel
theorem dX0_link_18 : decode cX0_link 18 = .ok (.iload_n 1, 1) := by decide +kernel
theorem dX0_link_19 : decode cX0_link 19 = .ok (.bipush 6, 2) := by decide +kernel
theorem dX0_link_21 : decode cX0_link 21 = .ok (.if_icmp .ge 80, 3) := by decide +kernel
theorem dX0_link_24 : decode cX0_link 24 = .ok (.iconst 0, 1) := by decide +kernel
theorem dX0_link_25 : decode cX0_link 25 = .ok (.istore_n 2, 1) := by decide +kernel
theorem dX0_link_26 : decode cX0_link 26 = .ok (.iload_n 2, 1) := by decide +kernel
theorem dX0_link_27 : decode cX0_link 27 = .ok (.aload_n 0, 1) := by decide +kernel
theorem dX0_link_28 : decode cX0_link 28 = .ok (.getfield 15, 3) := by decide +kernel
theorem dX0_link_31 : decode cX0_link 31 = .ok (.if_icmp .ge 64, 3) := by decide +kernel
theorem dX0_link_34 : decode cX0_link 34 = .ok (.iload_n 2, 1) := by decide +kernel
theorem dX0_link_35 : decode cX0_link 35 = .ok (.bipush 6, 2) := by decide +kernel
theorem dX0_link_37 : decode cX0_link 37 = .ok (.if_icmp .ge 58, 3) := by decide +kernel
theorem dX0_link_40 : decode cX0_link 40 = .ok (.iload_n 1, 1) := by decide +kernel
theorem dX0_link_41 : decode cX0_link 41 = .ok (.aload_n 0, 1) := by decide +kernel
theorem dX0_link_42 : decode cX0_link 42 = .ok (.getfield 15, 3) := by decide +kernel
theorem dX0_link_45 : decode cX0_link 45 = .ok (.imul, 1) := by decide +kernel
theorem dX0_link_46 : decode cX0_link 46 = .ok (.iload_n 2, 1) := by decide +kernel
theorem dX0_link_47 : decode cX0_link 47 = .ok (.iadd, 1) := by decide +kernel
theorem dX0_link_48 : decode cX0_link 48 = .ok (.istore_n 3, 1) := by decide +kernel
theorem dX0_link_49 : decode cX0_link 49 = .ok (.aload_n 0, 1) := by decide +kernel
theorem dX0_link_50 : decode cX0_link 50 = .ok (.iload_n 3, 1) := by decide +kernel
theorem dX0_link_51 : decode cX0_link 51 = .ok (.iconst 0, 1) := by decide +kernel
theorem dX0_link_52 : decode cX0_link 52 = .ok (.iload_n 1, 1) := by decide +kernel
theorem dX0_link_53 : decode cX0_link 53 = .ok (.iconst 1, 1) := by decide +kernel
theorem dX0_link_54 : decode cX0_link 54 = .ok (.isub, 1) := by decide +kernel
theorem dX0_link_55 : decode cX0_link 55 = .ok (.iload_n 2, 1) := by decide +kernel
theorem dX0_link_56 : decode cX0_link 56 = .ok (.invokevirtual 62, 3) := by decide +kernel
theorem dX0_link_59 : decode cX0_link 59 = .ok (.aload_n 0, 1) := by decide +kernel
theorem dX0_link_60 : decode cX0_link 60 = .ok (.iload_n 3, 1) := by decide +kernel
theorem dX0_link_61 : decode cX0_link 61 = .ok (.iconst 1, 1) := by decide +kernel
theorem dX0_link_62 : decode cX0_link 62 = .ok (.iload_n 1, 1) := by decide +kernel
theorem dX0_link_63 : decode cX0_link 63 = .ok (.iconst 1, 1) := by decide +kernel
theorem dX0_link_64 : decode cX0_link 64 = .ok (.iadd, 1) := by decide +kernel
theorem dX0_link_65 : decode cX0_link 65 = .ok (.iload_n 2, 1) := by decide +kernel
theorem dX0_link_66 : decode cX0_link 66 = .ok (.invokevirtual 62, 3) := by decide +kernel
theorem dX0_link_69 : decode cX0_link 69 = .ok (.aload_n 0, 1) := by decide +kernel
theorem dX0_link_70 : decode cX0_link 70 = .ok (.iload_n 3, 1) := by decide +kernel
theorem dX0_link_71 : decode cX0_link 71 = .ok (.iconst 2, 1) := by decide +kernel
theorem dX0_link_72 : decode cX0_link 72 = .ok (.iload_n 1, 1) := by decide +kernel
theorem dX0_link_73 : decode cX0_link 73 = .ok (.iload_n 2, 1) := by decide +kernel
theorem dX0_link_74 : decode cX0_link 74 = .ok (.iconst 1, 1) := by decide +kernel
theorem dX0_link_75 : decode cX0_link 75 = .ok (.iadd, 1) := by decide +kernel
theorem dX0_link_76 : decode cX0_link 76 = .ok (.invokevirtual 62, 3) := by decide +kernel
theorem dX0_link_79 : decode cX0_link 79 = .ok (.aload_n 0, 1) := by decide +kernel
theorem dX0_link_80 : decode cX0_link 80 = .ok (.iload_n 3, 1) := by decide +kernel
theorem dX0_link_81 : decode cX0_link 81 = .ok (.iconst 3, 1) := by decide +kernel
theorem dX0_link_82 : decode cX0_link 82 = .ok (.iload_n 1, 1) := by decide +kernel
theorem dX0_link_83 : decode cX0_link 83 = .ok (.iload_n 2, 1) := by decide +kernel
theorem dX0_link_84 : decode cX0_link 84 = .ok (.iconst 1, 1) := by decide +kernel
theorem dX0_link_85 : decode cX0_link 85 = .ok (.isub, 1) := by decide +kernel
theorem dX0_link_86 : decode cX0_link 86 = .ok (.invokevirtual 62, 3) := by decide +kernel
theorem dX0_link_89 : decode cX0_link 89 = .ok (.iinc 2 1, 3) := by decide +kernel
theorem dX0_link_92 : decode cX0_link 92 = .ok (.goto (-66), 3) := by decide +kernel
theorem dX0_link_95 : decode cX0_link 95 = .ok (.iinc 1 1, 3) := by decide +kernel
theorem dX0_link_98 : decode cX0_link 98 = .ok (.goto (-88), 3) := by decide +kernel
theorem dX0_link_101 : decode cX0_link 101 = .ok (.return_, 1) := by decide +kernel
theorem dX0_linkSide_0 : decode cX0_linkSide 0 = .ok (.iload_n 1, 1) := by decide +kernel
theorem dX0_linkSide_1 : decode cX0_linkSide 1 = .ok (.iconst 4, 1) := by decide +kernel
theorem dX0_linkSide_2 : decode cX0_linkSide 2 = .ok (.imul, 1) := by decide +kernel
theorem dX0_linkSide_3 : decode cX0_linkSide 3 = .ok (.iload_n 2, 1) := by decide +kernel
theorem dX0_linkSide_4 : decode cX0_linkSide 4 = .ok (.iadd, 1) := by decide +kernel
theorem dX0_linkSide_5 : decode cX0_linkSide 5 = .ok (.istore 5, 2) := by decide +kernel
theorem dX0_linkSide_7 : decode cX0_linkSide 7 = .ok (.aload_n 0, 1) := by decide +kernel
theorem dX0_linkSide_8 : decode cX0_linkSide 8 = .ok (.iload_n 1, 1) := by decide +kernel
theorem dX0_linkSide_9 : decode cX0_linkSide 9 = .ok (.invokevirtual 46, 3) := by decide +kernel
theorem dX0_linkSide_12 : decode cX0_linkSide 12 = .ok (.ifCond .eq 18, 3) := by decide +kernel
theorem dX0_linkSide_15 : decode cX0_linkSide 15 = .ok (.iload 5, 2) := by decide +kernel
theorem dX0_linkSide_17 : decode cX0_linkSide 17 = .ok (.ifCond .lt 13, 3) := by decide +kernel
theorem dX0_linkSide_20 : decode cX0_linkSide 20 = .ok (.iload 5, 2) := by decide +kernel
theorem dX0_linkSide_22 : decode cX0_linkSide 22 = .ok (.aload_n 0, 1) := by decide +kernel
theorem dX0_linkSide_23 : decode cX0_linkSide 23 = .ok (.getfield 25, 3) := by decide +kernel
theorem dX0_linkSide_26 : decode cX0_linkSide 26 = .ok (.arraylength, 1) := by decide +kernel
theorem dX0_linkSide_27 : decode cX0_linkSide 27 = .ok (.if_icmp .lt 4, 3) := by decide +kernel
theorem dX0_linkSide_30 : decode cX0_linkSide 30 = .ok (.return_, 1) := by decide +kernel
theorem dX0_linkSide_31 : decode cX0_linkSide 31 = .ok (.aload_n 0, 1) := by decide +kernel
theorem dX0_linkSide_32 : decode cX0_linkSide 32 = .ok (.getfield 25, 3) := by decide +kernel
theorem dX0_linkSide_35 : decode cX0_linkSide 35 = .ok (.iload 5, 2) := by decide +kernel
theorem dX0_linkSide_37 : decode cX0_linkSide 37 = .ok (.aload_n 0, 1) := by decide +kernel
theorem dX0_linkSide_38 : decode cX0_linkSide 38 = .ok (.iload_n 3, 1) := by decide +kernel
theorem dX0_linkSide_39 : decode cX0_linkSide 39 = .ok (.iload 4, 2) := by decide +kernel
theorem dX0_linkSide_41 : decode cX0_linkSide 41 = .ok (.invokevirtual 66, 3) := by decide +kernel
theorem dX0_linkSide_44 : decode cX0_linkSide 44 = .ok (.iastore, 1) := by decide +kernel
theorem dX0_linkSide_45 : decode cX0_linkSide 45 = .ok (.aload_n 0, 1) := by decide +kernel
theorem dX0_linkSide_46 : decode cX0_linkSide 46 = .ok (.getfield 25, 3) := by decide +kernel
theorem dX0_linkSide_49 : decode cX0_linkSide 49 = .ok (.iload 5, 2) := by decide +kernel
theorem dX0_linkSide_51 : decode cX0_linkSide 51 = .ok (.iaload, 1) := by decide +kernel
theorem dX0_linkSide_52 : decode cX0_linkSide 52 = .ok (.bipush (-4), 2) := by decide +kernel
theorem dX0_linkSide_54 : decode cX0_linkSide 54 = .ok (.if_icmp .eq 21, 3) := by decide +kernel
theorem dX0_linkSide_57 : decode cX0_linkSide 57 = .ok (.aload_n 0, 1) := by decide +kernel
theorem dX0_linkSide_58 : decode cX0_linkSide 58 = .ok (.getfield 28, 3) := by decide +kernel
theorem dX0_linkSide_61 : decode cX0_linkSide 61 = .ok (.iload_n 1, 1) := by decide +kernel
theorem dX0_linkSide_62 : decode cX0_linkSide 62 = .ok (.dup2, 1) := by decide +kernel
theorem dX0_linkSide_63 : decode cX0_linkSide 63 = .ok (.laload, 1) := by decide +kernel
theorem dX0_linkSide_64 : decode cX0_linkSide 64 = .ok (.lconst 1, 1) := by decide +kernel
theorem dX0_linkSide_65 : decode cX0_linkSide 65 = .ok (.aload_n 0, 1) := by decide +kernel
theorem dX0_linkSide_66 : decode cX0_linkSide 66 = .ok (.getfield 25, 3) := by decide +kernel
theorem dX0_linkSide_69 : decode cX0_linkSide 69 = .ok (.iload 5, 2) := by decide +kernel
theorem dX0_linkSide_71 : decode cX0_linkSide 71 = .ok (.iaload, 1) := by decide +kernel
theorem dX0_linkSide_72 : decode cX0_linkSide 72 = .ok (.lshl, 1) := by decide +kernel
theorem dX0_linkSide_73 : decode cX0_linkSide 73 = .ok (.lor, 1) := by decide +kernel
theorem dX0_linkSide_74 : decode cX0_linkSide 74 = .ok (.lastore, 1) := by decide +kernel
theorem dX0_linkSide_75 : decode cX0_linkSide 75 = .ok (.return_, 1) := by decide +kernel
theorem dX0_walkable_0 : decode cX0_walkable 0 = .ok (.iload_n 1, 1) := by decide +kernel
theorem dX0_walkable_1 : decode cX0_walkable 1 = .ok (.ifCond .lt 23, 3) := by decide +kernel
theorem dX0_walkable_4 : decode cX0_walkable 4 = .ok (.iload_n 1, 1) := by decide +kernel
theorem dX0_walkable_5 : decode cX0_walkable 5 = .ok (.aload_n 0, 1) := by decide +kernel
theorem dX0_walkable_6 : decode cX0_walkable 6 = .ok (.getfield 9, 3) := by decide +kernel
theorem dX0_walkable_9 : decode cX0_walkable 9 = .ok (.if_icmp .ge 15, 3) := by decide +kernel
theorem dX0_walkable_12 : decode cX0_walkable 12 = .ok (.iload_n 2, 1) := by decide +kernel
theorem dX0_walkable_13 : decode cX0_walkable 13 = .ok (.ifCond .lt 11, 3) := by decide +kernel
theorem dX0_walkable_16 : decode cX0_walkable 16 = .ok (.iload_n 2, 1) := by decide +kernel
theorem dX0_walkable_17 : decode cX0_walkable 17 = .ok (.aload_n 0, 1) := by decide +kernel
theorem dX0_walkable_18 : decode cX0_walkable 18 = .ok (.getfield 15, 3) := by decide +kernel
theorem dX0_walkable_21 : decode cX0_walkable 21 = .ok (.if_icmp .lt 6, 3) := by decide +kernel
theorem dX0_walkable_24 : decode cX0_walkable 24 = .ok (.bipush (-4), 2) := by decide +kernel
theorem dX0_walkable_26 : decode cX0_walkable 26 = .ok (.ireturn, 1) := by decide +kernel
theorem dX0_walkable_27 : decode cX0_walkable 27 = .ok (.iload_n 1, 1) := by decide +kernel
theorem dX0_walkable_28 : decode cX0_walkable 28 = .ok (.aload_n 0, 1) := by decide +kernel
theorem dX0_walkable_29 : decode cX0_walkable 29 = .ok (.getfield 15, 3) := by decide +kernel
theorem dX0_walkable_32 : decode cX0_walkable 32 = .ok (.imul, 1) := by decide +kernel
theorem dX0_walkable_33 : decode cX0_walkable 33 = .ok (.iload_n 2, 1) := by decide +kernel
theorem dX0_walkable_34 : decode cX0_walkable 34 = .ok (.iadd, 1) := by decide +kernel
theorem dX0_walkable_35 : decode cX0_walkable 35 = .ok (.istore_n 3, 1) := by decide +kernel
theorem dX0_walkable_36 : decode cX0_walkable 36 = .ok (.aload_n 0, 1) := by decide +kernel
theorem dX0_walkable_37 : decode cX0_walkable 37 = .ok (.iload_n 3, 1) := by decide +kernel
theorem dX0_walkable_38 : decode cX0_walkable 38 = .ok (.invokevirtual 46, 3) := by decide +kernel
theorem dX0_walkable_41 : decode cX0_walkable 41 = .ok (.ifCond .eq 17, 3) := by decide +kernel
theorem dX0_walkable_44 : decode cX0_walkable 44 = .ok (.aload_n 0, 1) := by decide +kernel
theorem dX0_walkable_45 : decode cX0_walkable 45 = .ok (.getfield 21, 3) := by decide +kernel
theorem dX0_walkable_48 : decode cX0_walkable 48 = .ok (.iload_n 3, 1) := by decide +kernel
theorem dX0_walkable_49 : decode cX0_walkable 49 = .ok (.iaload, 1) := by decide +kernel
theorem dX0_walkable_50 : decode cX0_walkable 50 = .ok (.iconst 3, 1) := by decide +kernel
theorem dX0_walkable_51 : decode cX0_walkable 51 = .ok (.if_icmp .eq 7, 3) := by decide +kernel
theorem dX0_walkable_54 : decode cX0_walkable 54 = .ok (.iload_n 3, 1) := by decide +kernel
theorem dX0_walkable_55 : decode cX0_walkable 55 = .ok (.goto 5, 3) := by decide +kernel
theorem dX0_walkable_58 : decode cX0_walkable 58 = .ok (.bipush (-4), 2) := by decide +kernel
theorem dX0_walkable_60 : decode cX0_walkable 60 = .ok (.ireturn, 1) := by decide +kernel
theorem dX0_cellBeside_0 : decode cX0_cellBeside 0 = .ok (.iload_n 1, 1) := by decide +kernel
theorem dX0_cellBeside_1 : decode cX0_cellBeside 1 = .ok (.iconst 4, 1) := by decide +kernel
theorem dX0_cellBeside_2 : decode cX0_cellBeside 2 = .ok (.imul, 1) := by decide +kernel
theorem dX0_cellBeside_3 : decode cX0_cellBeside 3 = .ok (.iload_n 2, 1) := by decide +kernel
theorem dX0_cellBeside_4 : decode cX0_cellBeside 4 = .ok (.iadd, 1) := by decide +kernel
theorem dX0_cellBeside_5 : decode cX0_cellBeside 5 = .ok (.istore_n 3, 1) := by decide +kernel
theorem dX0_cellBeside_6 : decode cX0_cellBeside 6 = .ok (.iload_n 3, 1) := by decide +kernel
theorem dX0_cellBeside_7 : decode cX0_cellBeside 7 = .ok (.ifCond .lt 21, 3) := by decide +kernel
theorem dX0_cellBeside_10 : decode cX0_cellBeside 10 = .ok (.iload_n 3, 1) := by decide +kernel
theorem dX0_cellBeside_11 : decode cX0_cellBeside 11 = .ok (.aload_n 0, 1) := by decide +kernel
theorem dX0_cellBeside_12 : decode cX0_cellBeside 12 = .ok (.getfield 25, 3) := by decide +kernel
theorem dX0_cellBeside_15 : decode cX0_cellBeside 15 = .ok (.arraylength, 1) := by decide +kernel
theorem dX0_cellBeside_16 : decode cX0_cellBeside 16 = .ok (.if_icmp .ge 12, 3) := by decide +kernel
theorem dX0_cellBeside_19 : decode cX0_cellBeside 19 = .ok (.aload_n 0, 1) := by decide +kernel
theorem dX0_cellBeside_20 : decode cX0_cellBeside 20 = .ok (.getfield 25, 3) := by decide +kernel
theorem dX0_cellBeside_23 : decode cX0_cellBeside 23 = .ok (.iload_n 3, 1) := by decide +kernel
theorem dX0_cellBeside_24 : decode cX0_cellBeside 24 = .ok (.iaload, 1) := by decide +kernel
theorem dX0_cellBeside_25 : decode cX0_cellBeside 25 = .ok (.goto 5, 3) := by decide +kernel
theorem dX0_cellBeside_28 : decode cX0_cellBeside 28 = .ok (.bipush (-4), 2) := by decide +kernel
theorem dX0_cellBeside_30 : decode cX0_cellBeside 30 = .ok (.ireturn, 1) := by decide +kernel
theorem dX0_bitsBeside_0 : decode cX0_bitsBeside 0 = .ok (.aload_n 0, 1) := by decide +kernel
theorem dX0_bitsBeside_1 : decode cX0_bitsBeside 1 = .ok (.iload_n 1, 1) := by decide +kernel
theorem dX0_bitsBeside_2 : decode cX0_bitsBeside 2 = .ok (.invokevirtual 46, 3) := by decide +kernel
theorem dX0_bitsBeside_5 : decode cX0_bitsBeside 5 = .ok (.ifCond .eq 12, 3) := by decide +kernel
theorem dX0_bitsBeside_8 : decode cX0_bitsBeside 8 = .ok (.aload_n 0, 1) := by decide +kernel
theorem dX0_bitsBeside_9 : decode cX0_bitsBeside 9 = .ok (.getfield 28, 3) := by decide +kernel
theorem dX0_bitsBeside_12 : decode cX0_bitsBeside 12 = .ok (.iload_n 1, 1) := by decide +kernel
theorem dX0_bitsBeside_13 : decode cX0_bitsBeside 13 = .ok (.laload, 1) := by decide +kernel
theorem dX0_bitsBeside_14 : decode cX0_bitsBeside 14 = .ok (.goto 4, 3) := by decide +kernel
theorem dX0_bitsBeside_17 : decode cX0_bitsBeside 17 = .ok (.lconst 0, 1) := by decide +kernel
theorem dX0_bitsBeside_18 : decode cX0_bitsBeside 18 = .ok (.lreturn, 1) := by decide +kernel
theorem dX0_withBeside_0 : decode cX0_withBeside 0 = .ok (.lload_n 1, 1) := by decide +kernel
theorem dX0_withBeside_1 : decode cX0_withBeside 1 = .ok (.lstore_n 3, 1) := by decide +kernel
theorem dX0_withBeside_2 : decode cX0_withBeside 2 = .ok (.iconst 0, 1) := by decide +kernel
theorem dX0_withBeside_3 : decode cX0_withBeside 3 = .ok (.istore 5, 2) := by decide +kernel
theorem dX0_withBeside_5 : decode cX0_withBeside 5 = .ok (.iload 5, 2) := by decide +kernel
theorem dX0_withBeside_7 : decode cX0_withBeside 7 = .ok (.aload_n 0, 1) := by decide +kernel
theorem dX0_withBeside_8 : decode cX0_withBeside 8 = .ok (.getfield 18, 3) := by decide +kernel
theorem dX0_withBeside_11 : decode cX0_withBeside 11 = .ok (.if_icmp .ge 37, 3) := by decide +kernel
theorem dX0_withBeside_14 : decode cX0_withBeside 14 = .ok (.iload 5, 2) := by decide +kernel
theorem dX0_withBeside_16 : decode cX0_withBeside 16 = .ok (.bipush 36, 2) := by decide +kernel
theorem dX0_withBeside_18 : decode cX0_withBeside 18 = .ok (.if_icmp .ge 30, 3) := by decide +kernel
theorem dX0_withBeside_21 : decode cX0_withBeside 21 = .ok (.lload_n 1, 1) := by decide +kernel
theorem dX0_withBeside_22 : decode cX0_withBeside 22 = .ok (.iload 5, 2) := by decide +kernel
theorem dX0_withBeside_24 : decode cX0_withBeside 24 = .ok (.lshr, 1) := by decide +kernel
theorem dX0_withBeside_25 : decode cX0_withBeside 25 = .ok (.lconst 1, 1) := by decide +kernel
theorem dX0_withBeside_26 : decode cX0_withBeside 26 = .ok (.land, 1) := by decide +kernel
theorem dX0_withBeside_27 : decode cX0_withBeside 27 = .ok (.lconst 1, 1) := by decide +kernel
theorem dX0_withBeside_28 : decode cX0_withBeside 28 = .ok (.lcmp, 1) := by decide +kernel
theorem dX0_withBeside_29 : decode cX0_withBeside 29 = .ok (.ifCond .ne 13, 3) := by decide +kernel
theorem dX0_withBeside_32 : decode cX0_withBeside 32 = .ok (.lload_n 3, 1) := by decide +kernel
theorem dX0_withBeside_33 : decode cX0_withBeside 33 = .ok (.aload_n 0, 1) := by decide +kernel
theorem dX0_withBeside_34 : decode cX0_withBeside 34 = .ok (.getfield 28, 3) := by decide +kernel
theorem dX0_withBeside_37 : decode cX0_withBeside 37 = .ok (.iload 5, 2) := by decide +kernel
theorem dX0_withBeside_39 : decode cX0_withBeside 39 = .ok (.laload, 1) := by decide +kernel
theorem dX0_withBeside_40 : decode cX0_withBeside 40 = .ok (.lor, 1) := by decide +kernel
theorem dX0_withBeside_41 : decode cX0_withBeside 41 = .ok (.lstore_n 3, 1) := by decide +kernel
theorem dX0_withBeside_42 : decode cX0_withBeside 42 = .ok (.iinc 5 1, 3) := by decide +kernel
theorem dX0_withBeside_45 : decode cX0_withBeside 45 = .ok (.goto (-40), 3) := by decide +kernel
theorem dX0_withBeside_48 : decode cX0_withBeside 48 = .ok (.lload_n 3, 1) := by decide +kernel
theorem dX0_withBeside_49 : decode cX0_withBeside 49 = .ok (.lreturn, 1) := by decide +kernel
theorem dX0_takesRain_0 : decode cX0_takesRain 0 = .ok (.aload_n 0, 1) := by decide +kernel
theorem dX0_takesRain_1 : decode cX0_takesRain 1 = .ok (.iload_n 1, 1) := by decide +kernel
theorem dX0_takesRain_2 : decode cX0_takesRain 2 = .ok (.invokevirtual 46, 3) := by decide +kernel
theorem dX0_takesRain_5 : decode cX0_takesRain 5 = .ok (.ifCond .eq 27, 3) := by decide +kernel
theorem dX0_takesRain_8 : decode cX0_takesRain 8 = .ok (.aload_n 0, 1) := by decide +kernel
theorem dX0_takesRain_9 : decode cX0_takesRain 9 = .ok (.getfield 21, 3) := by decide +kernel
theorem dX0_takesRain_12 : decode cX0_takesRain 12 = .ok (.iload_n 1, 1) := by decide +kernel
theorem dX0_takesRain_13 : decode cX0_takesRain 13 = .ok (.iaload, 1) := by decide +kernel
theorem dX0_takesRain_14 : decode cX0_takesRain 14 = .ok (.iconst 3, 1) := by decide +kernel
theorem dX0_takesRain_15 : decode cX0_takesRain 15 = .ok (.if_icmp .eq 17, 3) := by decide +kernel
theorem dX0_takesRain_18 : decode cX0_takesRain 18 = .ok (.aload_n 0, 1) := by decide +kernel
theorem dX0_takesRain_19 : decode cX0_takesRain 19 = .ok (.getfield 21, 3) := by decide +kernel
theorem dX0_takesRain_22 : decode cX0_takesRain 22 = .ok (.iload_n 1, 1) := by decide +kernel
theorem dX0_takesRain_23 : decode cX0_takesRain 23 = .ok (.iaload, 1) := by decide +kernel
theorem dX0_takesRain_24 : decode cX0_takesRain 24 = .ok (.iconst 2, 1) := by decide +kernel
theorem dX0_takesRain_25 : decode cX0_takesRain 25 = .ok (.if_icmp .eq 7, 3) := by decide +kernel
theorem dX0_takesRain_28 : decode cX0_takesRain 28 = .ok (.iconst 1, 1) := by decide +kernel
theorem dX0_takesRain_29 : decode cX0_takesRain 29 = .ok (.goto 4, 3) := by decide +kernel
theorem dX0_takesRain_32 : decode cX0_takesRain 32 = .ok (.iconst 0, 1) := by decide +kernel
theorem dX0_takesRain_33 : decode cX0_takesRain 33 = .ok (.ireturn, 1) := by decide +kernel
theorem dX0_isKind_0 : decode cX0_isKind 0 = .ok (.aload_n 0, 1) := by decide +kernel
theorem dX0_isKind_1 : decode cX0_isKind 1 = .ok (.iload_n 1, 1) := by decide +kernel
theorem dX0_isKind_2 : decode cX0_isKind 2 = .ok (.invokevirtual 46, 3) := by decide +kernel
theorem dX0_isKind_5 : decode cX0_isKind 5 = .ok (.ifCond .eq 17, 3) := by decide +kernel
theorem dX0_isKind_8 : decode cX0_isKind 8 = .ok (.aload_n 0, 1) := by decide +kernel
theorem dX0_isKind_9 : decode cX0_isKind 9 = .ok (.getfield 21, 3) := by decide +kernel
theorem dX0_isKind_12 : decode cX0_isKind 12 = .ok (.iload_n 1, 1) := by decide +kernel
theorem dX0_isKind_13 : decode cX0_isKind 13 = .ok (.iaload, 1) := by decide +kernel
theorem dX0_isKind_14 : decode cX0_isKind 14 = .ok (.iload_n 2, 1) := by decide +kernel
theorem dX0_isKind_15 : decode cX0_isKind 15 = .ok (.if_icmp .ne 7, 3) := by decide +kernel
theorem dX0_isKind_18 : decode cX0_isKind 18 = .ok (.iconst 1, 1) := by decide +kernel
theorem dX0_isKind_19 : decode cX0_isKind 19 = .ok (.goto 4, 3) := by decide +kernel
theorem dX0_isKind_22 : decode cX0_isKind 22 = .ok (.iconst 0, 1) := by decide +kernel
theorem dX0_isKind_23 : decode cX0_isKind 23 = .ok (.ireturn, 1) := by decide +kernel
theorem dX1_init_0 : decode cX1_init 0 = .ok (.aload_n 0, 1) := by decide +kernel
theorem dX1_init_1 : decode cX1_init 1 = .ok (.invokespecial 3, 3) := by decide +kernel
theorem dX1_init_4 : decode cX1_init 4 = .ok (.aload_n 0, 1) := by decide +kernel
theorem dX1_init_5 : decode cX1_init 5 = .ok (.sipush 288, 3) := by decide +kernel
theorem dX1_init_8 : decode cX1_init 8 = .ok (.newarray .int, 2) := by decide +kernel
theorem dX1_init_10 : decode cX1_init 10 = .ok (.putfield 9, 3) := by decide +kernel
theorem dX1_init_13 : decode cX1_init 13 = .ok (.aload_n 0, 1) := by decide +kernel
theorem dX1_init_14 : decode cX1_init 14 = .ok (.sipush 288, 3) := by decide +kernel
theorem dX1_init_17 : decode cX1_init 17 = .ok (.newarray .int, 2) := by decide +kernel
theorem dX1_init_19 : decode cX1_init 19 = .ok (.putfield 15, 3) := by decide +kernel
theorem dX1_init_22 : decode cX1_init 22 = .ok (.aload_n 0, 1) := by decide +kernel
theorem dX1_init_23 : decode cX1_init 23 = .ok (.bipush 8, 2) := by decide +kernel
theorem dX1_init_25 : decode cX1_init 25 = .ok (.newarray .int, 2) := by decide +kernel
theorem dX1_init_27 : decode cX1_init 27 = .ok (.putfield 18, 3) := by decide +kernel
theorem dX1_init_30 : decode cX1_init 30 = .ok (.aload_n 0, 1) := by decide +kernel
theorem dX1_init_31 : decode cX1_init 31 = .ok (.iconst 0, 1) := by decide +kernel
theorem dX1_init_32 : decode cX1_init 32 = .ok (.putfield 21, 3) := by decide +kernel
theorem dX1_init_35 : decode cX1_init 35 = .ok (.return_, 1) := by decide +kernel
theorem dX1_push_0 : decode cX1_push 0 = .ok (.aload_n 0, 1) := by decide +kernel
theorem dX1_push_1 : decode cX1_push 1 = .ok (.getfield 21, 3) := by decide +kernel
theorem dX1_push_4 : decode cX1_push 4 = .ok (.bipush 8, 2) := by decide +kernel
theorem dX1_push_6 : decode cX1_push 6 = .ok (.if_icmp .lt 7, 3) := by decide +kernel
theorem dX1_push_9 : decode cX1_push 9 = .ok (.aload_n 0, 1) := by decide +kernel
theorem dX1_push_10 : decode cX1_push 10 = .ok (.invokevirtual 25, 3) := by decide +kernel
theorem dX1_push_13 : decode cX1_push 13 = .ok (.aload_n 0, 1) := by decide +kernel
theorem dX1_push_14 : decode cX1_push 14 = .ok (.getfield 21, 3) := by decide +kernel
theorem dX1_push_17 : decode cX1_push 17 = .ok (.ifCond .lt 77, 3) := by decide +kernel
theorem dX1_push_20 : decode cX1_push 20 = .ok (.aload_n 0, 1) := by decide +kernel
theorem dX1_push_21 : decode cX1_push 21 = .ok (.getfield 21, 3) := by decide +kernel
theorem dX1_push_24 : decode cX1_push 24 = .ok (.bipush 8, 2) := by decide +kernel
theorem dX1_push_26 : decode cX1_push 26 = .ok (.if_icmp .ge 68, 3) := by decide +kernel
theorem dX1_push_29 : decode cX1_push 29 = .ok (.aload_n 1, 1) := by decide +kernel
theorem dX1_push_30 : decode cX1_push 30 = .ok (.getfield 28, 3) := by decide +kernel
theorem dX1_push_33 : decode cX1_push 33 = .ok (.iconst 0, 1) := by decide +kernel
theorem dX1_push_34 : decode cX1_push 34 = .ok (.aload_n 0, 1) := by decide +kernel
theorem dX1_push_35 : decode cX1_push 35 = .ok (.getfield 9, 3) := by decide +kernel
theorem dX1_push_38 : decode cX1_push 38 = .ok (.aload_n 0, 1) := by decide +kernel
theorem dX1_push_39 : decode cX1_push 39 = .ok (.getfield 21, 3) := by decide +kernel
theorem dX1_push_42 : decode cX1_push 42 = .ok (.bipush 36, 2) := by decide +kernel
theorem dX1_push_44 : decode cX1_push 44 = .ok (.imul, 1) := by decide +kernel
theorem dX1_push_45 : decode cX1_push 45 = .ok (.bipush 36, 2) := by decide +kernel
theorem dX1_push_47 : decode cX1_push 47 = .ok (.invokestatic 33, 3) := by decide +kernel
theorem dX1_push_50 : decode cX1_push 50 = .ok (.aload_n 1, 1) := by decide +kernel
theorem dX1_push_51 : decode cX1_push 51 = .ok (.getfield 39, 3) := by decide +kernel
theorem dX1_push_54 : decode cX1_push 54 = .ok (.iconst 0, 1) := by decide +kernel
theorem dX1_push_55 : decode cX1_push 55 = .ok (.aload_n 0, 1) := by decide +kernel
theorem dX1_push_56 : decode cX1_push 56 = .ok (.getfield 15, 3) := by decide +kernel
theorem dX1_push_59 : decode cX1_push 59 = .ok (.aload_n 0, 1) := by decide +kernel
theorem dX1_push_60 : decode cX1_push 60 = .ok (.getfield 21, 3) := by decide +kernel
theorem dX1_push_63 : decode cX1_push 63 = .ok (.bipush 36, 2) := by decide +kernel
theorem dX1_push_65 : decode cX1_push 65 = .ok (.imul, 1) := by decide +kernel
theorem dX1_push_66 : decode cX1_push 66 = .ok (.bipush 36, 2) := by decide +kernel
theorem dX1_push_68 : decode cX1_push 68 = .ok (.invokestatic 33, 3) := by decide +kernel
theorem dX1_push_71 : decode cX1_push 71 = .ok (.aload_n 0, 1) := by decide +kernel
theorem dX1_push_72 : decode cX1_push 72 = .ok (.getfield 18, 3) := by decide +kernel
theorem dX1_push_75 : decode cX1_push 75 = .ok (.aload_n 0, 1) := by decide +kernel
theorem dX1_push_76 : decode cX1_push 76 = .ok (.getfield 21, 3) := by decide +kernel
theorem dX1_push_79 : decode cX1_push 79 = .ok (.aload_n 1, 1) := by decide +kernel
theorem dX1_push_80 : decode cX1_push 80 = .ok (.getfield 40, 3) := by decide +kernel
theorem dX1_push_83 : decode cX1_push 83 = .ok (.iastore, 1) := by decide +kernel
theorem dX1_push_84 : decode cX1_push 84 = .ok (.aload_n 0, 1) := by decide +kernel
theorem dX1_push_85 : decode cX1_push 85 = .ok (.dup, 1) := by decide +kernel
theorem dX1_push_86 : decode cX1_push 86 = .ok (.getfield 21, 3) := by decide +kernel
theorem dX1_push_89 : decode cX1_push 89 = .ok (.iconst 1, 1) := by decide +kernel
theorem dX1_push_90 : decode cX1_push 90 = .ok (.iadd, 1) := by decide +kernel
theorem dX1_push_91 : decode cX1_push 91 = .ok (.putfield 21, 3) := by decide +kernel
theorem dX1_push_94 : decode cX1_push 94 = .ok (.return_, 1) := by decide +kernel
theorem dX1_pop_0 : decode cX1_pop 0 = .ok (.aload_n 0, 1) := by decide +kernel
theorem dX1_pop_1 : decode cX1_pop 1 = .ok (.getfield 21, 3) := by decide +kernel
theorem dX1_pop_4 : decode cX1_pop 4 = .ok (.ifCond .le 77, 3) := by decide +kernel
theorem dX1_pop_7 : decode cX1_pop 7 = .ok (.aload_n 0, 1) := by decide +kernel
theorem dX1_pop_8 : decode cX1_pop 8 = .ok (.getfield 21, 3) := by decide +kernel
theorem dX1_pop_11 : decode cX1_pop 11 = .ok (.bipush 8, 2) := by decide +kernel
theorem dX1_pop_13 : decode cX1_pop 13 = .ok (.if_icmp .gt 68, 3) := by decide +kernel
theorem dX1_pop_16 : decode cX1_pop 16 = .ok (.aload_n 0, 1) := by decide +kernel
theorem dX1_pop_17 : decode cX1_pop 17 = .ok (.dup, 1) := by decide +kernel
theorem dX1_pop_18 : decode cX1_pop 18 = .ok (.getfield 21, 3) := by decide +kernel
theorem dX1_pop_21 : decode cX1_pop 21 = .ok (.iconst 1, 1) := by decide +kernel
theorem dX1_pop_22 : decode cX1_pop 22 = .ok (.isub, 1) := by decide +kernel
theorem dX1_pop_23 : decode cX1_pop 23 = .ok (.putfield 21, 3) := by decide +kernel
theorem dX1_pop_26 : decode cX1_pop 26 = .ok (.aload_n 0, 1) := by decide +kernel
theorem dX1_pop_27 : decode cX1_pop 27 = .ok (.getfield 9, 3) := by decide +kernel
theorem dX1_pop_30 : decode cX1_pop 30 = .ok (.aload_n 0, 1) := by decide +kernel
theorem dX1_pop_31 : decode cX1_pop 31 = .ok (.getfield 21, 3) := by decide +kernel
theorem dX1_pop_34 : decode cX1_pop 34 = .ok (.bipush 36, 2) := by decide +kernel
theorem dX1_pop_36 : decode cX1_pop 36 = .ok (.imul, 1) := by decide +kernel
theorem dX1_pop_37 : decode cX1_pop 37 = .ok (.aload_n 1, 1) := by decide +kernel
theorem dX1_pop_38 : decode cX1_pop 38 = .ok (.getfield 28, 3) := by decide +kernel
theorem dX1_pop_41 : decode cX1_pop 41 = .ok (.iconst 0, 1) := by decide +kernel
theorem dX1_pop_42 : decode cX1_pop 42 = .ok (.bipush 36, 2) := by decide +kernel
theorem dX1_pop_44 : decode cX1_pop 44 = .ok (.invokestatic 33, 3) := by decide +kernel
theorem dX1_pop_47 : decode cX1_pop 47 = .ok (.aload_n 0, 1) := by decide +kernel
theorem dX1_pop_48 : decode cX1_pop 48 = .ok (.getfield 15, 3) := by decide +kernel
theorem dX1_pop_51 : decode cX1_pop 51 = .ok (.aload_n 0, 1) := by decide +kernel
theorem dX1_pop_52 : decode cX1_pop 52 = .ok (.getfield 21, 3) := by decide +kernel
theorem dX1_pop_55 : decode cX1_pop 55 = .ok (.bipush 36, 2) := by decide +kernel
theorem dX1_pop_57 : decode cX1_pop 57 = .ok (.imul, 1) := by decide +kernel
theorem dX1_pop_58 : decode cX1_pop 58 = .ok (.aload_n 1, 1) := by decide +kernel
theorem dX1_pop_59 : decode cX1_pop 59 = .ok (.getfield 39, 3) := by decide +kernel
theorem dX1_pop_62 : decode cX1_pop 62 = .ok (.iconst 0, 1) := by decide +kernel
theorem dX1_pop_63 : decode cX1_pop 63 = .ok (.bipush 36, 2) := by decide +kernel
theorem dX1_pop_65 : decode cX1_pop 65 = .ok (.invokestatic 33, 3) := by decide +kernel
theorem dX1_pop_68 : decode cX1_pop 68 = .ok (.aload_n 1, 1) := by decide +kernel
theorem dX1_pop_69 : decode cX1_pop 69 = .ok (.aload_n 0, 1) := by decide +kernel
theorem dX1_pop_70 : decode cX1_pop 70 = .ok (.getfield 18, 3) := by decide +kernel
theorem dX1_pop_73 : decode cX1_pop 73 = .ok (.aload_n 0, 1) := by decide +kernel
theorem dX1_pop_74 : decode cX1_pop 74 = .ok (.getfield 21, 3) := by decide +kernel
theorem dX1_pop_77 : decode cX1_pop 77 = .ok (.iaload, 1) := by decide +kernel
theorem dX1_pop_78 : decode cX1_pop 78 = .ok (.putfield 40, 3) := by decide +kernel
theorem dX1_pop_81 : decode cX1_pop 81 = .ok (.return_, 1) := by decide +kernel
theorem dX1_dropOldest_0 : decode cX1_dropOldest 0 = .ok (.aload_n 0, 1) := by decide +kernel
theorem dX1_dropOldest_1 : decode cX1_dropOldest 1 = .ok (.bipush 7, 2) := by decide +kernel
theorem dX1_dropOldest_3 : decode cX1_dropOldest 3 = .ok (.putfield 21, 3) := by decide +kernel
theorem dX1_dropOldest_6 : decode cX1_dropOldest 6 = .ok (.aload_n 0, 1) := by decide +kernel
theorem dX1_dropOldest_7 : decode cX1_dropOldest 7 = .ok (.getfield 9, 3) := by decide +kernel
theorem dX1_dropOldest_10 : decode cX1_dropOldest 10 = .ok (.bipush 36, 2) := by decide +kernel
theorem dX1_dropOldest_12 : decode cX1_dropOldest 12 = .ok (.aload_n 0, 1) := by decide +kernel
theorem dX1_dropOldest_13 : decode cX1_dropOldest 13 = .ok (.getfield 9, 3) := by decide +kernel
theorem dX1_dropOldest_16 : decode cX1_dropOldest 16 = .ok (.iconst 0, 1) := by decide +kernel
theorem dX1_dropOldest_17 : decode cX1_dropOldest 17 = .ok (.aload_n 0, 1) := by decide +kernel
theorem dX1_dropOldest_18 : decode cX1_dropOldest 18 = .ok (.getfield 21, 3) := by decide +kernel
theorem dX1_dropOldest_21 : decode cX1_dropOldest 21 = .ok (.bipush 36, 2) := by decide +kernel
theorem dX1_dropOldest_23 : decode cX1_dropOldest 23 = .ok (.imul, 1) := by decide +kernel
theorem dX1_dropOldest_24 : decode cX1_dropOldest 24 = .ok (.invokestatic 33, 3) := by decide +kernel
theorem dX1_dropOldest_27 : decode cX1_dropOldest 27 = .ok (.aload_n 0, 1) := by decide +kernel
theorem dX1_dropOldest_28 : decode cX1_dropOldest 28 = .ok (.getfield 15, 3) := by decide +kernel
theorem dX1_dropOldest_31 : decode cX1_dropOldest 31 = .ok (.bipush 36, 2) := by decide +kernel
theorem dX1_dropOldest_33 : decode cX1_dropOldest 33 = .ok (.aload_n 0, 1) := by decide +kernel
theorem dX1_dropOldest_34 : decode cX1_dropOldest 34 = .ok (.getfield 15, 3) := by decide +kernel
theorem dX1_dropOldest_37 : decode cX1_dropOldest 37 = .ok (.iconst 0, 1) := by decide +kernel
theorem dX1_dropOldest_38 : decode cX1_dropOldest 38 = .ok (.aload_n 0, 1) := by decide +kernel
theorem dX1_dropOldest_39 : decode cX1_dropOldest 39 = .ok (.getfield 21, 3) := by decide +kernel
theorem dX1_dropOldest_42 : decode cX1_dropOldest 42 = .ok (.bipush 36, 2) := by decide +kernel
theorem dX1_dropOldest_44 : decode cX1_dropOldest 44 = .ok (.imul, 1) := by decide +kernel
theorem dX1_dropOldest_45 : decode cX1_dropOldest 45 = .ok (.invokestatic 33, 3) := by decide +kernel
theorem dX1_dropOldest_48 : decode cX1_dropOldest 48 = .ok (.aload_n 0, 1) := by decide +kernel
theorem dX1_dropOldest_49 : decode cX1_dropOldest 49 = .ok (.getfield 18, 3) := by decide +kernel
theorem dX1_dropOldest_52 : decode cX1_dropOldest 52 = .ok (.iconst 1, 1) := by decide +kernel
theorem dX1_dropOldest_53 : decode cX1_dropOldest 53 = .ok (.aload_n 0, 1) := by decide +kernel
theorem dX1_dropOldest_54 : decode cX1_dropOldest 54 = .ok (.getfield 18, 3) := by decide +kernel
theorem dX1_dropOldest_57 : decode cX1_dropOldest 57 = .ok (.iconst 0, 1) := by decide +kernel
theorem dX1_dropOldest_58 : decode cX1_dropOldest 58 = .ok (.aload_n 0, 1) := by decide +kernel
theorem dX1_dropOldest_59 : decode cX1_dropOldest 59 = .ok (.getfield 21, 3) := by decide +kernel
theorem dX1_dropOldest_62 : decode cX1_dropOldest 62 = .ok (.invokestatic 33, 3) := by decide +kernel
theorem dX1_dropOldest_65 : decode cX1_dropOldest 65 = .ok (.return_, 1) := by decide +kernel
theorem dX2_init_0 : decode cX2_init 0 = .ok (.aload_n 0, 1) := by decide +kernel
theorem dX2_init_1 : decode cX2_init 1 = .ok (.invokespecial 3, 3) := by decide +kernel
theorem dX2_init_4 : decode cX2_init 4 = .ok (.aload_n 0, 1) := by decide +kernel
theorem dX2_init_5 : decode cX2_init 5 = .ok (.bipush 36, 2) := by decide +kernel
theorem dX2_init_7 : decode cX2_init 7 = .ok (.newarray .int, 2) := by decide +kernel
theorem dX2_init_9 : decode cX2_init 9 = .ok (.putfield 9, 3) := by decide +kernel
theorem dX2_init_12 : decode cX2_init 12 = .ok (.aload_n 0, 1) := by decide +kernel
theorem dX2_init_13 : decode cX2_init 13 = .ok (.bipush 36, 2) := by decide +kernel
theorem dX2_init_15 : decode cX2_init 15 = .ok (.newarray .int, 2) := by decide +kernel
theorem dX2_init_17 : decode cX2_init 17 = .ok (.putfield 15, 3) := by decide +kernel
theorem dX2_init_20 : decode cX2_init 20 = .ok (.aload_n 0, 1) := by decide +kernel
theorem dX2_init_21 : decode cX2_init 21 = .ok (.iconst 0, 1) := by decide +kernel
theorem dX2_init_22 : decode cX2_init 22 = .ok (.putfield 18, 3) := by decide +kernel
theorem dX2_init_25 : decode cX2_init 25 = .ok (.aload_n 0, 1) := by decide +kernel
theorem dX2_init_26 : decode cX2_init 26 = .ok (.iconst 0, 1) := by decide +kernel
theorem dX2_init_27 : decode cX2_init 27 = .ok (.putfield 22, 3) := by decide +kernel
theorem dX2_init_30 : decode cX2_init 30 = .ok (.aload_n 0, 1) := by decide +kernel
theorem dX2_init_31 : decode cX2_init 31 = .ok (.iconst 0, 1) := by decide +kernel
theorem dX2_init_32 : decode cX2_init 32 = .ok (.putfield 25, 3) := by decide +kernel
theorem dX2_init_35 : decode cX2_init 35 = .ok (.return_, 1) := by decide +kernel
theorem dX2_map_0 : decode cX2_map 0 = .ok (.aload_n 0, 1) := by decide +kernel
theorem dX2_map_1 : decode cX2_map 1 = .ok (.getfield 9, 3) := by decide +kernel
theorem dX2_map_4 : decode cX2_map 4 = .ok (.bipush (-4), 2) := by decide +kernel
theorem dX2_map_6 : decode cX2_map 6 = .ok (.invokestatic 28, 3) := by decide +kernel
theorem dX2_map_9 : decode cX2_map 9 = .ok (.aload_n 0, 1) := by decide +kernel
theorem dX2_map_10 : decode cX2_map 10 = .ok (.aload_n 1, 1) := by decide +kernel
theorem dX2_map_11 : decode cX2_map 11 = .ok (.getfield 34, 3) := by decide +kernel
theorem dX2_map_14 : decode cX2_map 14 = .ok (.putfield 22, 3) := by decide +kernel
theorem dX2_map_17 : decode cX2_map 17 = .ok (.aload_n 0, 1) := by decide +kernel
theorem dX2_map_18 : decode cX2_map 18 = .ok (.iconst 0, 1) := by decide +kernel
theorem dX2_map_19 : decode cX2_map 19 = .ok (.putfield 25, 3) := by decide +kernel
theorem dX2_map_22 : decode cX2_map 22 = .ok (.iconst 0, 1) := by decide +kernel
theorem dX2_map_23 : decode cX2_map 23 = .ok (.istore_n 3, 1) := by decide +kernel
theorem dX2_map_24 : decode cX2_map 24 = .ok (.iload_n 3, 1) := by decide +kernel
theorem dX2_map_25 : decode cX2_map 25 = .ok (.aload_n 1, 1) := by decide +kernel
theorem dX2_map_26 : decode cX2_map 26 = .ok (.getfield 34, 3) := by decide +kernel
theorem dX2_map_29 : decode cX2_map 29 = .ok (.if_icmp .ge 52, 3) := by decide +kernel
theorem dX2_map_32 : decode cX2_map 32 = .ok (.iload_n 3, 1) := by decide +kernel
theorem dX2_map_33 : decode cX2_map 33 = .ok (.bipush 36, 2) := by decide +kernel
theorem dX2_map_35 : decode cX2_map 35 = .ok (.if_icmp .ge 46, 3) := by decide +kernel
theorem dX2_map_38 : decode cX2_map 38 = .ok (.aload_n 2, 1) := by decide +kernel
theorem dX2_map_39 : decode cX2_map 39 = .ok (.getfield 37, 3) := by decide +kernel
theorem dX2_map_42 : decode cX2_map 42 = .ok (.iload_n 3, 1) := by decide +kernel
theorem dX2_map_43 : decode cX2_map 43 = .ok (.iaload, 1) := by decide +kernel
theorem dX2_map_44 : decode cX2_map 44 = .ok (.ifCond .le 31, 3) := by decide +kernel
theorem dX2_map_47 : decode cX2_map 47 = .ok (.aload_n 0, 1) := by decide +kernel
theorem dX2_map_48 : decode cX2_map 48 = .ok (.getfield 9, 3) := by decide +kernel
theorem dX2_map_51 : decode cX2_map 51 = .ok (.iload_n 3, 1) := by decide +kernel
theorem dX2_map_52 : decode cX2_map 52 = .ok (.iaload, 1) := by decide +kernel
theorem dX2_map_53 : decode cX2_map 53 = .ok (.bipush (-4), 2) := by decide +kernel
theorem dX2_map_55 : decode cX2_map 55 = .ok (.if_icmp .ne 20, 3) := by decide +kernel
theorem dX2_map_58 : decode cX2_map 58 = .ok (.aload_n 0, 1) := by decide +kernel
theorem dX2_map_59 : decode cX2_map 59 = .ok (.dup, 1) := by decide +kernel
theorem dX2_map_60 : decode cX2_map 60 = .ok (.getfield 25, 3) := by decide +kernel
theorem dX2_map_63 : decode cX2_map 63 = .ok (.iconst 1, 1) := by decide +kernel
theorem dX2_map_64 : decode cX2_map 64 = .ok (.iadd, 1) := by decide +kernel
theorem dX2_map_65 : decode cX2_map 65 = .ok (.putfield 25, 3) := by decide +kernel
theorem dX2_map_68 : decode cX2_map 68 = .ok (.aload_n 0, 1) := by decide +kernel
theorem dX2_map_69 : decode cX2_map 69 = .ok (.aload_n 1, 1) := by decide +kernel
theorem dX2_map_70 : decode cX2_map 70 = .ok (.aload_n 2, 1) := by decide +kernel
theorem dX2_map_71 : decode cX2_map 71 = .ok (.iload_n 3, 1) := by decide +kernel
theorem dX2_map_72 : decode cX2_map 72 = .ok (.invokevirtual 42, 3) := by decide +kernel
theorem dX2_map_75 : decode cX2_map 75 = .ok (.iinc 3 1, 3) := by decide +kernel
theorem dX2_map_78 : decode cX2_map 78 = .ok (.goto (-54), 3) := by decide +kernel
theorem dX2_map_81 : decode cX2_map 81 = .ok (.return_, 1) := by decide +kernel
theorem dX2_spread_0 : decode cX2_spread 0 = .ok (.aload_n 0, 1) := by decide +kernel
theorem dX2_spread_1 : decode cX2_spread 1 = .ok (.iconst 0, 1) := by decide +kernel
theorem dX2_spread_2 : decode cX2_spread 2 = .ok (.putfield 18, 3) := by decide +kernel
theorem dX2_spread_5 : decode cX2_spread 5 = .ok (.aload_n 0, 1) := by decide +kernel
theorem dX2_spread_6 : decode cX2_spread 6 = .ok (.aload_n 2, 1) := by decide +kernel
theorem dX2_spread_7 : decode cX2_spread 7 = .ok (.iload_n 3, 1) := by decide +kernel
theorem dX2_spread_8 : decode cX2_spread 8 = .ok (.iload_n 3, 1) := by decide +kernel
theorem dX2_spread_9 : decode cX2_spread 9 = .ok (.invokevirtual 46, 3) := by decide +kernel
theorem dX2_spread_12 : decode cX2_spread 12 = .ok (.iconst 0, 1) := by decide +kernel
theorem dX2_spread_13 : decode cX2_spread 13 = .ok (.istore 4, 2) := by decide +kernel
theorem dX2_spread_15 : decode cX2_spread 15 = .ok (.iload 4, 2) := by decide +kernel
theorem dX2_spread_17 : decode cX2_spread 17 = .ok (.bipush 36, 2) := by decide +kernel
theorem dX2_spread_19 : decode cX2_spread 19 = .ok (.if_icmp .ge 66, 3) := by decide +kernel
theorem dX2_spread_22 : decode cX2_spread 22 = .ok (.aload_n 0, 1) := by decide +kernel
theorem dX2_spread_23 : decode cX2_spread 23 = .ok (.getfield 18, 3) := by decide +kernel
theorem dX2_spread_26 : decode cX2_spread 26 = .ok (.ifCond .le 59, 3) := by decide +kernel
theorem dX2_spread_29 : decode cX2_spread 29 = .ok (.aload_n 0, 1) := by decide +kernel
theorem dX2_spread_30 : decode cX2_spread 30 = .ok (.dup, 1) := by decide +kernel
theorem dX2_spread_31 : decode cX2_spread 31 = .ok (.getfield 18, 3) := by decide +kernel
theorem dX2_spread_34 : decode cX2_spread 34 = .ok (.iconst 1, 1) := by decide +kernel
theorem dX2_spread_35 : decode cX2_spread 35 = .ok (.isub, 1) := by decide +kernel
theorem dX2_spread_36 : decode cX2_spread 36 = .ok (.putfield 18, 3) := by decide +kernel
theorem dX2_spread_39 : decode cX2_spread 39 = .ok (.aload_n 0, 1) := by decide +kernel
theorem dX2_spread_40 : decode cX2_spread 40 = .ok (.getfield 15, 3) := by decide +kernel
theorem dX2_spread_43 : decode cX2_spread 43 = .ok (.aload_n 0, 1) := by decide +kernel
theorem dX2_spread_44 : decode cX2_spread 44 = .ok (.getfield 18, 3) := by decide +kernel
theorem dX2_spread_47 : decode cX2_spread 47 = .ok (.iaload, 1) := by decide +kernel
theorem dX2_spread_48 : decode cX2_spread 48 = .ok (.istore 5, 2) := by decide +kernel
theorem dX2_spread_50 : decode cX2_spread 50 = .ok (.iconst 0, 1) := by decide +kernel
theorem dX2_spread_51 : decode cX2_spread 51 = .ok (.istore 6, 2) := by decide +kernel
theorem dX2_spread_53 : decode cX2_spread 53 = .ok (.iload 6, 2) := by decide +kernel
theorem dX2_spread_55 : decode cX2_spread 55 = .ok (.iconst 4, 1) := by decide +kernel
theorem dX2_spread_56 : decode cX2_spread 56 = .ok (.if_icmp .ge 23, 3) := by decide +kernel
theorem dX2_spread_59 : decode cX2_spread 59 = .ok (.aload_n 0, 1) := by decide +kernel
theorem dX2_spread_60 : decode cX2_spread 60 = .ok (.aload_n 2, 1) := by decide +kernel
theorem dX2_spread_61 : decode cX2_spread 61 = .ok (.aload_n 1, 1) := by decide +kernel
theorem dX2_spread_62 : decode cX2_spread 62 = .ok (.iload 5, 2) := by decide +kernel
theorem dX2_spread_64 : decode cX2_spread 64 = .ok (.iload 6, 2) := by decide +kernel
theorem dX2_spread_66 : decode cX2_spread 66 = .ok (.invokevirtual 50, 3) := by decide +kernel
theorem dX2_spread_69 : decode cX2_spread 69 = .ok (.iload_n 3, 1) := by decide +kernel
theorem dX2_spread_70 : decode cX2_spread 70 = .ok (.invokevirtual 46, 3) := by decide +kernel
theorem dX2_spread_73 : decode cX2_spread 73 = .ok (.iinc 6 1, 3) := by decide +kernel
theorem dX2_spread_76 : decode cX2_spread 76 = .ok (.goto (-23), 3) := by decide +kernel
theorem dX2_spread_79 : decode cX2_spread 79 = .ok (.iinc 4 1, 3) := by decide +kernel
theorem dX2_spread_82 : decode cX2_spread 82 = .ok (.goto (-67), 3) := by decide +kernel
theorem dX2_spread_85 : decode cX2_spread 85 = .ok (.return_, 1) := by decide +kernel
theorem dX2_claim_0 : decode cX2_claim 0 = .ok (.iload_n 2, 1) := by decide +kernel
theorem dX2_claim_1 : decode cX2_claim 1 = .ok (.ifCond .lt 65, 3) := by decide +kernel
theorem dX2_claim_4 : decode cX2_claim 4 = .ok (.iload_n 2, 1) := by decide +kernel
theorem dX2_claim_5 : decode cX2_claim 5 = .ok (.bipush 36, 2) := by decide +kernel
theorem dX2_claim_7 : decode cX2_claim 7 = .ok (.if_icmp .ge 59, 3) := by decide +kernel
theorem dX2_claim_10 : decode cX2_claim 10 = .ok (.aload_n 1, 1) := by decide +kernel
theorem dX2_claim_11 : decode cX2_claim 11 = .ok (.getfield 37, 3) := by decide +kernel
theorem dX2_claim_14 : decode cX2_claim 14 = .ok (.iload_n 2, 1) := by decide +kernel
theorem dX2_claim_15 : decode cX2_claim 15 = .ok (.iaload, 1) := by decide +kernel
theorem dX2_claim_16 : decode cX2_claim 16 = .ok (.ifCond .le 50, 3) := by decide +kernel
theorem dX2_claim_19 : decode cX2_claim 19 = .ok (.aload_n 0, 1) := by decide +kernel
theorem dX2_claim_20 : decode cX2_claim 20 = .ok (.getfield 9, 3) := by decide +kernel
theorem dX2_claim_23 : decode cX2_claim 23 = .ok (.iload_n 2, 1) := by decide +kernel
theorem dX2_claim_24 : decode cX2_claim 24 = .ok (.iaload, 1) := by decide +kernel
theorem dX2_claim_25 : decode cX2_claim 25 = .ok (.bipush (-4), 2) := by decide +kernel
theorem dX2_claim_27 : decode cX2_claim 27 = .ok (.if_icmp .ne 39, 3) := by decide +kernel
theorem dX2_claim_30 : decode cX2_claim 30 = .ok (.aload_n 0, 1) := by decide +kernel
theorem dX2_claim_31 : decode cX2_claim 31 = .ok (.getfield 18, 3) := by decide +kernel
theorem dX2_claim_34 : decode cX2_claim 34 = .ok (.bipush 36, 2) := by decide +kernel
theorem dX2_claim_36 : decode cX2_claim 36 = .ok (.if_icmp .ge 30, 3) := by decide +kernel
theorem dX2_claim_39 : decode cX2_claim 39 = .ok (.aload_n 0, 1) := by decide +kernel
theorem dX2_claim_40 : decode cX2_claim 40 = .ok (.getfield 9, 3) := by decide +kernel
theorem dX2_claim_43 : decode cX2_claim 43 = .ok (.iload_n 2, 1) := by decide +kernel
theorem dX2_claim_44 : decode cX2_claim 44 = .ok (.iload_n 3, 1) := by decide +kernel
theorem dX2_claim_45 : decode cX2_claim 45 = .ok (.iastore, 1) := by decide +kernel
theorem dX2_claim_46 : decode cX2_claim 46 = .ok (.aload_n 0, 1) := by decide +kernel
theorem dX2_claim_47 : decode cX2_claim 47 = .ok (.getfield 15, 3) := by decide +kernel
theorem dX2_claim_50 : decode cX2_claim 50 = .ok (.aload_n 0, 1) := by decide +kernel
theorem dX2_claim_51 : decode cX2_claim 51 = .ok (.getfield 18, 3) := by decide +kernel
theorem dX2_claim_54 : decode cX2_claim 54 = .ok (.iload_n 2, 1) := by decide +kernel
theorem dX2_claim_55 : decode cX2_claim 55 = .ok (.iastore, 1) := by decide +kernel
theorem dX2_claim_56 : decode cX2_claim 56 = .ok (.aload_n 0, 1) := by decide +kernel
theorem dX2_claim_57 : decode cX2_claim 57 = .ok (.dup, 1) := by decide +kernel
theorem dX2_claim_58 : decode cX2_claim 58 = .ok (.getfield 18, 3) := by decide +kernel
theorem dX2_claim_61 : decode cX2_claim 61 = .ok (.iconst 1, 1) := by decide +kernel
theorem dX2_claim_62 : decode cX2_claim 62 = .ok (.iadd, 1) := by decide +kernel
theorem dX2_claim_63 : decode cX2_claim 63 = .ok (.putfield 18, 3) := by decide +kernel
theorem dX2_claim_66 : decode cX2_claim 66 = .ok (.return_, 1) := by decide +kernel
theorem dX2_stateOf_0 : decode cX2_stateOf 0 = .ok (.iload_n 1, 1) := by decide +kernel
theorem dX2_stateOf_1 : decode cX2_stateOf 1 = .ok (.ifCond .lt 26, 3) := by decide +kernel
theorem dX2_stateOf_4 : decode cX2_stateOf 4 = .ok (.iload_n 1, 1) := by decide +kernel
theorem dX2_stateOf_5 : decode cX2_stateOf 5 = .ok (.aload_n 0, 1) := by decide +kernel
theorem dX2_stateOf_6 : decode cX2_stateOf 6 = .ok (.getfield 22, 3) := by decide +kernel
theorem dX2_stateOf_9 : decode cX2_stateOf 9 = .ok (.if_icmp .ge 18, 3) := by decide +kernel
theorem dX2_stateOf_12 : decode cX2_stateOf 12 = .ok (.iload_n 1, 1) := by decide +kernel
theorem dX2_stateOf_13 : decode cX2_stateOf 13 = .ok (.bipush 36, 2) := by decide +kernel
theorem dX2_stateOf_15 : decode cX2_stateOf 15 = .ok (.if_icmp .ge 12, 3) := by decide +kernel
theorem dX2_stateOf_18 : decode cX2_stateOf 18 = .ok (.aload_n 0, 1) := by decide +kernel
theorem dX2_stateOf_19 : decode cX2_stateOf 19 = .ok (.getfield 9, 3) := by decide +kernel
theorem dX2_stateOf_22 : decode cX2_stateOf 22 = .ok (.iload_n 1, 1) := by decide +kernel
theorem dX2_stateOf_23 : decode cX2_stateOf 23 = .ok (.iaload, 1) := by decide +kernel
theorem dX2_stateOf_24 : decode cX2_stateOf 24 = .ok (.goto 5, 3) := by decide +kernel
theorem dX2_stateOf_27 : decode cX2_stateOf 27 = .ok (.bipush (-4), 2) := by decide +kernel
theorem dX2_stateOf_29 : decode cX2_stateOf 29 = .ok (.ireturn, 1) := by decide +kernel
theorem dX2_apart_0 : decode cX2_apart 0 = .ok (.aload_n 0, 1) := by decide +kernel
theorem dX2_apart_1 : decode cX2_apart 1 = .ok (.iload_n 1, 1) := by decide +kernel
theorem dX2_apart_2 : decode cX2_apart 2 = .ok (.invokevirtual 54, 3) := by decide +kernel
theorem dX2_apart_5 : decode cX2_apart 5 = .ok (.bipush (-4), 2) := by decide +kernel
theorem dX2_apart_7 : decode cX2_apart 7 = .ok (.if_icmp .eq 16, 3) := by decide +kernel
theorem dX2_apart_10 : decode cX2_apart 10 = .ok (.aload_n 0, 1) := by decide +kernel
theorem dX2_apart_11 : decode cX2_apart 11 = .ok (.iload_n 1, 1) := by decide +kernel
theorem dX2_apart_12 : decode cX2_apart 12 = .ok (.invokevirtual 54, 3) := by decide +kernel
theorem dX2_apart_15 : decode cX2_apart 15 = .ok (.aload_n 0, 1) := by decide +kernel
theorem dX2_apart_16 : decode cX2_apart 16 = .ok (.iload_n 2, 1) := by decide +kernel
theorem dX2_apart_17 : decode cX2_apart 17 = .ok (.invokevirtual 54, 3) := by decide +kernel
theorem dX2_apart_20 : decode cX2_apart 20 = .ok (.if_icmp .eq 7, 3) := by decide +kernel
theorem dX2_apart_23 : decode cX2_apart 23 = .ok (.iconst 1, 1) := by decide +kernel
theorem dX2_apart_24 : decode cX2_apart 24 = .ok (.goto 4, 3) := by decide +kernel
theorem dX2_apart_27 : decode cX2_apart 27 = .ok (.iconst 0, 1) := by decide +kernel
theorem dX2_apart_28 : decode cX2_apart 28 = .ok (.ireturn, 1) := by decide +kernel
theorem dX2_sizeAt_0 : decode cX2_sizeAt 0 = .ok (.aload_n 0, 1) := by decide +kernel
theorem dX2_sizeAt_1 : decode cX2_sizeAt 1 = .ok (.iload_n 1, 1) := by decide +kernel
theorem dX2_sizeAt_2 : decode cX2_sizeAt 2 = .ok (.invokevirtual 54, 3) := by decide +kernel
theorem dX2_sizeAt_5 : decode cX2_sizeAt 5 = .ok (.istore_n 2, 1) := by decide +kernel
theorem dX2_sizeAt_6 : decode cX2_sizeAt 6 = .ok (.iconst 0, 1) := by decide +kernel
theorem dX2_sizeAt_7 : decode cX2_sizeAt 7 = .ok (.istore_n 3, 1) := by decide +kernel
theorem dX2_sizeAt_8 : decode cX2_sizeAt 8 = .ok (.iconst 0, 1) := by decide +kernel
theorem dX2_sizeAt_9 : decode cX2_sizeAt 9 = .ok (.istore 4, 2) := by decide +kernel
theorem dX2_sizeAt_11 : decode cX2_sizeAt 11 = .ok (.iload 4, 2) := by decide +kernel
theorem dX2_sizeAt_13 : decode cX2_sizeAt 13 = .ok (.aload_n 0, 1) := by decide +kernel
theorem dX2_sizeAt_14 : decode cX2_sizeAt 14 = .ok (.getfield 22, 3) := by decide +kernel
theorem dX2_sizeAt_17 : decode cX2_sizeAt 17 = .ok (.if_icmp .ge 28, 3) := by decide +kernel
theorem dX2_sizeAt_20 : decode cX2_sizeAt 20 = .ok (.iload_n 2, 1) := by decide +kernel
theorem dX2_sizeAt_21 : decode cX2_sizeAt 21 = .ok (.bipush (-4), 2) := by decide +kernel
theorem dX2_sizeAt_23 : decode cX2_sizeAt 23 = .ok (.if_icmp .eq 22, 3) := by decide +kernel
theorem dX2_sizeAt_26 : decode cX2_sizeAt 26 = .ok (.aload_n 0, 1) := by decide +kernel
theorem dX2_sizeAt_27 : decode cX2_sizeAt 27 = .ok (.iload 4, 2) := by decide +kernel
theorem dX2_sizeAt_29 : decode cX2_sizeAt 29 = .ok (.invokevirtual 54, 3) := by decide +kernel
theorem dX2_sizeAt_32 : decode cX2_sizeAt 32 = .ok (.iload_n 2, 1) := by decide +kernel
theorem dX2_sizeAt_33 : decode cX2_sizeAt 33 = .ok (.if_icmp .ne 6, 3) := by decide +kernel
theorem dX2_sizeAt_36 : decode cX2_sizeAt 36 = .ok (.iinc 3 1, 3) := by decide +kernel
theorem dX2_sizeAt_39 : decode cX2_sizeAt 39 = .ok (.iinc 4 1, 3) := by decide +kernel
theorem dX2_sizeAt_42 : decode cX2_sizeAt 42 = .ok (.goto (-31), 3) := by decide +kernel
theorem dX2_sizeAt_45 : decode cX2_sizeAt 45 = .ok (.iload_n 3, 1) := by decide +kernel
theorem dX2_sizeAt_46 : decode cX2_sizeAt 46 = .ok (.ireturn, 1) := by decide +kernel
theorem dX2_depthAt_0 : decode cX2_depthAt 0 = .ok (.aload_n 0, 1) := by decide +kernel
theorem dX2_depthAt_1 : decode cX2_depthAt 1 = .ok (.iload_n 1, 1) := by decide +kernel
theorem dX2_depthAt_2 : decode cX2_depthAt 2 = .ok (.invokevirtual 54, 3) := by decide +kernel
theorem dX2_depthAt_5 : decode cX2_depthAt 5 = .ok (.istore_n 3, 1) := by decide +kernel
theorem dX2_depthAt_6 : decode cX2_depthAt 6 = .ok (.iconst 0, 1) := by decide +kernel
theorem dX2_depthAt_7 : decode cX2_depthAt 7 = .ok (.istore 4, 2) := by decide +kernel
theorem dX2_depthAt_9 : decode cX2_depthAt 9 = .ok (.iconst 0, 1) := by decide +kernel
theorem dX2_depthAt_10 : decode cX2_depthAt 10 = .ok (.istore 5, 2) := by decide +kernel
theorem dX2_depthAt_12 : decode cX2_depthAt 12 = .ok (.iload 5, 2) := by decide +kernel
theorem dX2_depthAt_14 : decode cX2_depthAt 14 = .ok (.aload_n 0, 1) := by decide +kernel
theorem dX2_depthAt_15 : decode cX2_depthAt 15 = .ok (.getfield 22, 3) := by decide +kernel
theorem dX2_depthAt_18 : decode cX2_depthAt 18 = .ok (.if_icmp .ge 47, 3) := by decide +kernel
theorem dX2_depthAt_21 : decode cX2_depthAt 21 = .ok (.iload 5, 2) := by decide +kernel
theorem dX2_depthAt_23 : decode cX2_depthAt 23 = .ok (.bipush 36, 2) := by decide +kernel
theorem dX2_depthAt_25 : decode cX2_depthAt 25 = .ok (.if_icmp .ge 40, 3) := by decide +kernel
theorem dX2_depthAt_28 : decode cX2_depthAt 28 = .ok (.iload_n 3, 1) := by decide +kernel
theorem dX2_depthAt_29 : decode cX2_depthAt 29 = .ok (.bipush (-4), 2) := by decide +kernel
theorem dX2_depthAt_31 : decode cX2_depthAt 31 = .ok (.if_icmp .eq 34, 3) := by decide +kernel
theorem dX2_depthAt_34 : decode cX2_depthAt 34 = .ok (.aload_n 0, 1) := by decide +kernel
theorem dX2_depthAt_35 : decode cX2_depthAt 35 = .ok (.getfield 9, 3) := by decide +kernel
theorem dX2_depthAt_38 : decode cX2_depthAt 38 = .ok (.iload 5, 2) := by decide +kernel
theorem dX2_depthAt_40 : decode cX2_depthAt 40 = .ok (.iaload, 1) := by decide +kernel
theorem dX2_depthAt_41 : decode cX2_depthAt 41 = .ok (.iload_n 3, 1) := by decide +kernel
theorem dX2_depthAt_42 : decode cX2_depthAt 42 = .ok (.if_icmp .ne 17, 3) := by decide +kernel
theorem dX2_depthAt_45 : decode cX2_depthAt 45 = .ok (.iload 4, 2) := by decide +kernel
theorem dX2_depthAt_47 : decode cX2_depthAt 47 = .ok (.aload_n 2, 1) := by decide +kernel
theorem dX2_depthAt_48 : decode cX2_depthAt 48 = .ok (.getfield 37, 3) := by decide +kernel
theorem dX2_depthAt_51 : decode cX2_depthAt 51 = .ok (.iload 5, 2) := by decide +kernel
theorem dX2_depthAt_53 : decode cX2_depthAt 53 = .ok (.iaload, 1) := by decide +kernel
theorem dX2_depthAt_54 : decode cX2_depthAt 54 = .ok (.invokestatic 58, 3) := by decide +kernel
theorem dX2_depthAt_57 : decode cX2_depthAt 57 = .ok (.istore 4, 2) := by decide +kernel
theorem dX2_depthAt_59 : decode cX2_depthAt 59 = .ok (.iinc 5 1, 3) := by decide +kernel
theorem dX2_depthAt_62 : decode cX2_depthAt 62 = .ok (.goto (-50), 3) := by decide +kernel
theorem dX2_depthAt_65 : decode cX2_depthAt 65 = .ok (.iload 4, 2) := by decide +kernel
theorem dX2_depthAt_67 : decode cX2_depthAt 67 = .ok (.ireturn, 1) := by decide +kernel
theorem dX3_init_0 : decode cX3_init 0 = .ok (.aload_n 0, 1) := by decide +kernel
theorem dX3_init_1 : decode cX3_init 1 = .ok (.invokespecial 3, 3) := by decide +kernel
theorem dX3_init_4 : decode cX3_init 4 = .ok (.aload_n 0, 1) := by decide +kernel
theorem dX3_init_5 : decode cX3_init 5 = .ok (.sipush 200, 3) := by decide +kernel
theorem dX3_init_8 : decode cX3_init 8 = .ok (.newarray .char, 2) := by decide +kernel
theorem dX3_init_10 : decode cX3_init 10 = .ok (.putfield 9, 3) := by decide +kernel
theorem dX3_init_13 : decode cX3_init 13 = .ok (.aload_n 0, 1) := by decide +kernel
theorem dX3_init_14 : decode cX3_init 14 = .ok (.iconst 0, 1) := by decide +kernel
theorem dX3_init_15 : decode cX3_init 15 = .ok (.putfield 15, 3) := by decide +kernel
theorem dX3_init_18 : decode cX3_init 18 = .ok (.aload_n 0, 1) := by decide +kernel
theorem dX3_init_19 : decode cX3_init 19 = .ok (.iconst 0, 1) := by decide +kernel
theorem dX3_init_20 : decode cX3_init 20 = .ok (.putfield 19, 3) := by decide +kernel
theorem dX3_init_23 : decode cX3_init 23 = .ok (.return_, 1) := by decide +kernel
theorem dX3_add_0 : decode cX3_add 0 = .ok (.aload_n 0, 1) := by decide +kernel
theorem dX3_add_1 : decode cX3_add 1 = .ok (.getfield 15, 3) := by decide +kernel
theorem dX3_add_4 : decode cX3_add 4 = .ok (.ifCond .lt 33, 3) := by decide +kernel
theorem dX3_add_7 : decode cX3_add 7 = .ok (.aload_n 0, 1) := by decide +kernel
theorem dX3_add_8 : decode cX3_add 8 = .ok (.getfield 15, 3) := by decide +kernel
theorem dX3_add_11 : decode cX3_add 11 = .ok (.sipush 200, 3) := by decide +kernel
theorem dX3_add_14 : decode cX3_add 14 = .ok (.if_icmp .ge 23, 3) := by decide +kernel
theorem dX3_add_17 : decode cX3_add 17 = .ok (.aload_n 0, 1) := by decide +kernel
theorem dX3_add_18 : decode cX3_add 18 = .ok (.getfield 9, 3) := by decide +kernel
theorem dX3_add_21 : decode cX3_add 21 = .ok (.aload_n 0, 1) := by decide +kernel
theorem dX3_add_22 : decode cX3_add 22 = .ok (.getfield 15, 3) := by decide +kernel
theorem dX3_add_25 : decode cX3_add 25 = .ok (.iload_n 1, 1) := by decide +kernel
theorem dX3_add_26 : decode cX3_add 26 = .ok (.castore, 1) := by decide +kernel
theorem dX3_add_27 : decode cX3_add 27 = .ok (.aload_n 0, 1) := by decide +kernel
theorem dX3_add_28 : decode cX3_add 28 = .ok (.dup, 1) := by decide +kernel
theorem dX3_add_29 : decode cX3_add 29 = .ok (.getfield 15, 3) := by decide +kernel
theorem dX3_add_32 : decode cX3_add 32 = .ok (.iconst 1, 1) := by decide +kernel
theorem dX3_add_33 : decode cX3_add 33 = .ok (.iadd, 1) := by decide +kernel
theorem dX3_add_34 : decode cX3_add 34 = .ok (.putfield 15, 3) := by decide +kernel
theorem dX3_add_37 : decode cX3_add 37 = .ok (.return_, 1) := by decide +kernel
theorem dX3_empty_0 : decode cX3_empty 0 = .ok (.aload_n 0, 1) := by decide +kernel
theorem dX3_empty_1 : decode cX3_empty 1 = .ok (.iconst 0, 1) := by decide +kernel
theorem dX3_empty_2 : decode cX3_empty 2 = .ok (.putfield 15, 3) := by decide +kernel
theorem dX3_empty_5 : decode cX3_empty 5 = .ok (.return_, 1) := by decide +kernel
theorem dX3_readInto_0 : decode cX3_readInto 0 = .ok (.aload_n 1, 1) := by decide +kernel
theorem dX3_readInto_1 : decode cX3_readInto 1 = .ok (.invokevirtual 22, 3) := by decide +kernel
theorem dX3_readInto_4 : decode cX3_readInto 4 = .ok (.aload_n 2, 1) := by decide +kernel
theorem dX3_readInto_5 : decode cX3_readInto 5 = .ok (.invokevirtual 27, 3) := by decide +kernel
theorem dX3_readInto_8 : decode cX3_readInto 8 = .ok (.aload_n 0, 1) := by decide +kernel
theorem dX3_readInto_9 : decode cX3_readInto 9 = .ok (.iconst 0, 1) := by decide +kernel
theorem dX3_readInto_10 : decode cX3_readInto 10 = .ok (.putfield 19, 3) := by decide +kernel
theorem dX3_readInto_13 : decode cX3_readInto 13 = .ok (.iconst 1, 1) := by decide +kernel
theorem dX3_readInto_14 : decode cX3_readInto 14 = .ok (.istore_n 3, 1) := by decide +kernel
theorem dX3_readInto_15 : decode cX3_readInto 15 = .ok (.iconst 0, 1) := by decide +kernel
theorem dX3_readInto_16 : decode cX3_readInto 16 = .ok (.istore 4, 2) := by decide +kernel
theorem dX3_readInto_18 : decode cX3_readInto 18 = .ok (.aload_n 0, 1) := by decide +kernel
theorem dX3_readInto_19 : decode cX3_readInto 19 = .ok (.getfield 19, 3) := by decide +kernel
theorem dX3_readInto_22 : decode cX3_readInto 22 = .ok (.aload_n 0, 1) := by decide +kernel
theorem dX3_readInto_23 : decode cX3_readInto 23 = .ok (.getfield 15, 3) := by decide +kernel
theorem dX3_readInto_26 : decode cX3_readInto 26 = .ok (.if_icmp .ge 149, 3) := by decide +kernel
theorem dX3_readInto_29 : decode cX3_readInto 29 = .ok (.iload 4, 2) := by decide +kernel
theorem dX3_readInto_31 : decode cX3_readInto 31 = .ok (.sipush 200, 3) := by decide +kernel
theorem dX3_readInto_34 : decode cX3_readInto 34 = .ok (.if_icmp .ge 141, 3) := by decide +kernel
theorem dX3_readInto_37 : decode cX3_readInto 37 = .ok (.aload_n 0, 1) := by decide +kernel
theorem dX3_readInto_38 : decode cX3_readInto 38 = .ok (.getfield 19, 3) := by decide +kernel
theorem dX3_readInto_41 : decode cX3_readInto 41 = .ok (.istore 5, 2) := by decide +kernel
theorem dX3_readInto_43 : decode cX3_readInto 43 = .ok (.aload_n 0, 1) := by decide +kernel
theorem dX3_readInto_44 : decode cX3_readInto 44 = .ok (.invokevirtual 32, 3) := by decide +kernel
theorem dX3_readInto_47 : decode cX3_readInto 47 = .ok (.istore 6, 2) := by decide +kernel
theorem dX3_readInto_49 : decode cX3_readInto 49 = .ok (.aload_n 0, 1) := by decide +kernel
theorem dX3_readInto_50 : decode cX3_readInto 50 = .ok (.invokevirtual 36, 3) := by decide +kernel
theorem dX3_readInto_53 : decode cX3_readInto 53 = .ok (.istore 7, 2) := by decide +kernel
theorem dX3_readInto_55 : decode cX3_readInto 55 = .ok (.aload_n 0, 1) := by decide +kernel
theorem dX3_readInto_56 : decode cX3_readInto 56 = .ok (.bipush 44, 2) := by decide +kernel
theorem dX3_readInto_58 : decode cX3_readInto 58 = .ok (.invokevirtual 39, 3) := by decide +kernel
theorem dX3_readInto_61 : decode cX3_readInto 61 = .ok (.istore 8, 2) := by decide +kernel
theorem dX3_readInto_63 : decode cX3_readInto 63 = .ok (.aload_n 0, 1) := by decide +kernel
theorem dX3_readInto_64 : decode cX3_readInto 64 = .ok (.invokevirtual 36, 3) := by decide +kernel
theorem dX3_readInto_67 : decode cX3_readInto 67 = .ok (.istore 9, 2) := by decide +kernel
theorem dX3_readInto_69 : decode cX3_readInto 69 = .ok (.aload_n 0, 1) := by decide +kernel
theorem dX3_readInto_70 : decode cX3_readInto 70 = .ok (.bipush 59, 2) := by decide +kernel
theorem dX3_readInto_72 : decode cX3_readInto 72 = .ok (.invokevirtual 39, 3) := by decide +kernel
theorem dX3_readInto_75 : decode cX3_readInto 75 = .ok (.istore 10, 2) := by decide +kernel
theorem dX3_readInto_77 : decode cX3_readInto 77 = .ok (.iload 7, 2) := by decide +kernel
theorem dX3_readInto_79 : decode cX3_readInto 79 = .ok (.ifCond .lt 18, 3) := by decide +kernel
theorem dX3_readInto_82 : decode cX3_readInto 82 = .ok (.iload 8, 2) := by decide +kernel
theorem dX3_readInto_84 : decode cX3_readInto 84 = .ok (.ifCond .eq 13, 3) := by decide +kernel
theorem dX3_readInto_87 : decode cX3_readInto 87 = .ok (.iload 9, 2) := by decide +kernel
theorem dX3_readInto_89 : decode cX3_readInto 89 = .ok (.ifCond .lt 8, 3) := by decide +kernel
theorem dX3_readInto_92 : decode cX3_readInto 92 = .ok (.iload 10, 2) := by decide +kernel
theorem dX3_readInto_94 : decode cX3_readInto 94 = .ok (.ifCond .ne 6, 3) := by decide +kernel
theorem dX3_readInto_97 : decode cX3_readInto 97 = .ok (.iload 5, 2) := by decide +kernel
theorem dX3_readInto_99 : decode cX3_readInto 99 = .ok (.ireturn, 1) := by decide +kernel
theorem dX3_readInto_100 : decode cX3_readInto 100 = .ok (.iload 6, 2) := by decide +kernel
theorem dX3_readInto_102 : decode cX3_readInto 102 = .ok (.bipush 115, 2) := by decide +kernel
theorem dX3_readInto_104 : decode cX3_readInto 104 = .ok (.if_icmp .ne 10, 3) := by decide +kernel
theorem dX3_readInto_107 : decode cX3_readInto 107 = .ok (.iload_n 3, 1) := by decide +kernel
theorem dX3_readInto_108 : decode cX3_readInto 108 = .ok (.ifCond .ne 23, 3) := by decide +kernel
theorem dX3_readInto_111 : decode cX3_readInto 111 = .ok (.goto 17, 3) := by decide +kernel
theorem dX3_readInto_114 : decode cX3_readInto 114 = .ok (.aload_n 1, 1) := by decide +kernel
theorem dX3_readInto_115 : decode cX3_readInto 115 = .ok (.aload_n 2, 1) := by decide +kernel
theorem dX3_readInto_116 : decode cX3_readInto 116 = .ok (.iload 6, 2) := by decide +kernel
theorem dX3_readInto_118 : decode cX3_readInto 118 = .ok (.iload 7, 2) := by decide +kernel
theorem dX3_readInto_120 : decode cX3_readInto 120 = .ok (.iload 9, 2) := by decide +kernel
theorem dX3_readInto_122 : decode cX3_readInto 122 = .ok (.invokestatic 43, 3) := by decide +kernel
theorem dX3_readInto_125 : decode cX3_readInto 125 = .ok (.ifCond .ne 6, 3) := by decide +kernel
theorem dX3_readInto_128 : decode cX3_readInto 128 = .ok (.iload 5, 2) := by decide +kernel
theorem dX3_readInto_130 : decode cX3_readInto 130 = .ok (.ireturn, 1) := by decide +kernel
theorem dX3_readInto_131 : decode cX3_readInto 131 = .ok (.iload 6, 2) := by decide +kernel
theorem dX3_readInto_133 : decode cX3_readInto 133 = .ok (.bipush 115, 2) := by decide +kernel
theorem dX3_readInto_135 : decode cX3_readInto 135 = .ok (.if_icmp .ne 17, 3) := by decide +kernel
theorem dX3_readInto_138 : decode cX3_readInto 138 = .ok (.aload_n 1, 1) := by decide +kernel
theorem dX3_readInto_139 : decode cX3_readInto 139 = .ok (.iload 7, 2) := by decide +kernel
theorem dX3_readInto_141 : decode cX3_readInto 141 = .ok (.iload 9, 2) := by decide +kernel
theorem dX3_readInto_143 : decode cX3_readInto 143 = .ok (.invokevirtual 47, 3) := by decide +kernel
theorem dX3_readInto_146 : decode cX3_readInto 146 = .ok (.ifCond .ne 6, 3) := by decide +kernel
theorem dX3_readInto_149 : decode cX3_readInto 149 = .ok (.iload 5, 2) := by decide +kernel
theorem dX3_readInto_151 : decode cX3_readInto 151 = .ok (.ireturn, 1) := by decide +kernel
theorem dX3_readInto_152 : decode cX3_readInto 152 = .ok (.iload_n 3, 1) := by decide +kernel
theorem dX3_readInto_153 : decode cX3_readInto 153 = .ok (.ifCond .eq 14, 3) := by decide +kernel
theorem dX3_readInto_156 : decode cX3_readInto 156 = .ok (.iload 6, 2) := by decide +kernel
theorem dX3_readInto_158 : decode cX3_readInto 158 = .ok (.bipush 115, 2) := by decide +kernel
theorem dX3_readInto_160 : decode cX3_readInto 160 = .ok (.if_icmp .ne 7, 3) := by decide +kernel
theorem dX3_readInto_163 : decode cX3_readInto 163 = .ok (.iconst 1, 1) := by decide +kernel
theorem dX3_readInto_164 : decode cX3_readInto 164 = .ok (.goto 4, 3) := by decide +kernel
theorem dX3_readInto_167 : decode cX3_readInto 167 = .ok (.iconst 0, 1) := by decide +kernel
theorem dX3_readInto_168 : decode cX3_readInto 168 = .ok (.istore_n 3, 1) := by decide +kernel
theorem dX3_readInto_169 : decode cX3_readInto 169 = .ok (.iinc 4 1, 3) := by decide +kernel
theorem dX3_readInto_172 : decode cX3_readInto 172 = .ok (.goto (-154), 3) := by decide +kernel
theorem dX3_readInto_175 : decode cX3_readInto 175 = .ok (.aload_n 1, 1) := by decide +kernel
theorem dX3_readInto_176 : decode cX3_readInto 176 = .ok (.aload_n 2, 1) := by decide +kernel
theorem dX3_readInto_177 : decode cX3_readInto 177 = .ok (.invokestatic 51, 3) := by decide +kernel
theorem dX3_readInto_180 : decode cX3_readInto 180 = .ok (.bipush (-4), 2) := by decide +kernel
theorem dX3_readInto_182 : decode cX3_readInto 182 = .ok (.ireturn, 1) := by decide +kernel
theorem dX3_tellCell_0 : decode cX3_tellCell 0 = .ok (.aload_n 0, 1) := by decide +kernel
theorem dX3_tellCell_1 : decode cX3_tellCell 1 = .ok (.iload_n 3, 1) := by decide +kernel
theorem dX3_tellCell_2 : decode cX3_tellCell 2 = .ok (.invokevirtual 55, 3) := by decide +kernel
theorem dX3_tellCell_5 : decode cX3_tellCell 5 = .ok (.ifCond .ne 5, 3) := by decide +kernel
theorem dX3_tellCell_8 : decode cX3_tellCell 8 = .ok (.iconst 0, 1) := by decide +kernel
theorem dX3_tellCell_9 : decode cX3_tellCell 9 = .ok (.ireturn, 1) := by decide +kernel
theorem dX3_tellCell_10 : decode cX3_tellCell 10 = .ok (.iload_n 2, 1) := by decide +kernel
theorem dX3_tellCell_11 : decode cX3_tellCell 11 = .ok (.bipush 104, 2) := by decide +kernel
theorem dX3_tellCell_13 : decode cX3_tellCell 13 = .ok (.if_icmp .ne 24, 3) := by decide +kernel
theorem dX3_tellCell_16 : decode cX3_tellCell 16 = .ok (.iload 4, 2) := by decide +kernel
theorem dX3_tellCell_18 : decode cX3_tellCell 18 = .ok (.iconst 0, 1) := by decide +kernel
theorem dX3_tellCell_19 : decode cX3_tellCell 19 = .ok (.bipush 20, 2) := by decide +kernel
theorem dX3_tellCell_21 : decode cX3_tellCell 21 = .ok (.invokestatic 58, 3) := by decide +kernel
theorem dX3_tellCell_24 : decode cX3_tellCell 24 = .ok (.ifCond .eq 13, 3) := by decide +kernel
theorem dX3_tellCell_27 : decode cX3_tellCell 27 = .ok (.aload_n 1, 1) := by decide +kernel
theorem dX3_tellCell_28 : decode cX3_tellCell 28 = .ok (.getfield 62, 3) := by decide +kernel
theorem dX3_tellCell_31 : decode cX3_tellCell 31 = .ok (.iload_n 3, 1) := by decide +kernel
theorem dX3_tellCell_32 : decode cX3_tellCell 32 = .ok (.iload 4, 2) := by decide +kernel
theorem dX3_tellCell_34 : decode cX3_tellCell 34 = .ok (.iastore, 1) := by decide +kernel
theorem dX3_tellCell_35 : decode cX3_tellCell 35 = .ok (.iconst 1, 1) := by decide +kernel
theorem dX3_tellCell_36 : decode cX3_tellCell 36 = .ok (.ireturn, 1) := by decide +kernel
theorem dX3_tellCell_37 : decode cX3_tellCell 37 = .ok (.iload_n 2, 1) := by decide +kernel
theorem dX3_tellCell_38 : decode cX3_tellCell 38 = .ok (.bipush 107, 2) := by decide +kernel
theorem dX3_tellCell_40 : decode cX3_tellCell 40 = .ok (.if_icmp .ne 23, 3) := by decide +kernel
theorem dX3_tellCell_43 : decode cX3_tellCell 43 = .ok (.iload 4, 2) := by decide +kernel
theorem dX3_tellCell_45 : decode cX3_tellCell 45 = .ok (.iconst 0, 1) := by decide +kernel
theorem dX3_tellCell_46 : decode cX3_tellCell 46 = .ok (.iconst 4, 1) := by decide +kernel
theorem dX3_tellCell_47 : decode cX3_tellCell 47 = .ok (.invokestatic 58, 3) := by decide +kernel
theorem dX3_tellCell_50 : decode cX3_tellCell 50 = .ok (.ifCond .eq 13, 3) := by decide +kernel
theorem dX3_tellCell_53 : decode cX3_tellCell 53 = .ok (.aload_n 0, 1) := by decide +kernel
theorem dX3_tellCell_54 : decode cX3_tellCell 54 = .ok (.getfield 66, 3) := by decide +kernel
theorem dX3_tellCell_57 : decode cX3_tellCell 57 = .ok (.iload_n 3, 1) := by decide +kernel
theorem dX3_tellCell_58 : decode cX3_tellCell 58 = .ok (.iload 4, 2) := by decide +kernel
theorem dX3_tellCell_60 : decode cX3_tellCell 60 = .ok (.iastore, 1) := by decide +kernel
theorem dX3_tellCell_61 : decode cX3_tellCell 61 = .ok (.iconst 1, 1) := by decide +kernel
theorem dX3_tellCell_62 : decode cX3_tellCell 62 = .ok (.ireturn, 1) := by decide +kernel
theorem dX3_tellCell_63 : decode cX3_tellCell 63 = .ok (.iload_n 2, 1) := by decide +kernel
theorem dX3_tellCell_64 : decode cX3_tellCell 64 = .ok (.bipush 119, 2) := by decide +kernel
theorem dX3_tellCell_66 : decode cX3_tellCell 66 = .ok (.if_icmp .ne 24, 3) := by decide +kernel
theorem dX3_tellCell_69 : decode cX3_tellCell 69 = .ok (.iload 4, 2) := by decide +kernel
theorem dX3_tellCell_71 : decode cX3_tellCell 71 = .ok (.iconst 0, 1) := by decide +kernel
theorem dX3_tellCell_72 : decode cX3_tellCell 72 = .ok (.bipush 20, 2) := by decide +kernel
theorem dX3_tellCell_74 : decode cX3_tellCell 74 = .ok (.invokestatic 58, 3) := by decide +kernel
theorem dX3_tellCell_77 : decode cX3_tellCell 77 = .ok (.ifCond .eq 13, 3) := by decide +kernel
theorem dX3_tellCell_80 : decode cX3_tellCell 80 = .ok (.aload_n 1, 1) := by decide +kernel
theorem dX3_tellCell_81 : decode cX3_tellCell 81 = .ok (.getfield 69, 3) := by decide +kernel
theorem dX3_tellCell_84 : decode cX3_tellCell 84 = .ok (.iload_n 3, 1) := by decide +kernel
theorem dX3_tellCell_85 : decode cX3_tellCell 85 = .ok (.iload 4, 2) := by decide +kernel
theorem dX3_tellCell_87 : decode cX3_tellCell 87 = .ok (.iastore, 1) := by decide +kernel
theorem dX3_tellCell_88 : decode cX3_tellCell 88 = .ok (.iconst 1, 1) := by decide +kernel
theorem dX3_tellCell_89 : decode cX3_tellCell 89 = .ok (.ireturn, 1) := by decide +kernel
theorem dX3_tellCell_90 : decode cX3_tellCell 90 = .ok (.iconst 0, 1) := by decide +kernel
theorem dX3_tellCell_91 : decode cX3_tellCell 91 = .ok (.ireturn, 1) := by decide +kernel
theorem dX3_finish_0 : decode cX3_finish 0 = .ok (.aload_n 0, 1) := by decide +kernel
theorem dX3_finish_1 : decode cX3_finish 1 = .ok (.invokevirtual 72, 3) := by decide +kernel
theorem dX3_finish_4 : decode cX3_finish 4 = .ok (.iconst 0, 1) := by decide +kernel
theorem dX3_finish_5 : decode cX3_finish 5 = .ok (.istore_n 2, 1) := by decide +kernel
theorem dX3_finish_6 : decode cX3_finish 6 = .ok (.iload_n 2, 1) := by decide +kernel
theorem dX3_finish_7 : decode cX3_finish 7 = .ok (.aload_n 0, 1) := by decide +kernel
theorem dX3_finish_8 : decode cX3_finish 8 = .ok (.getfield 75, 3) := by decide +kernel
theorem dX3_finish_11 : decode cX3_finish 11 = .ok (.if_icmp .ge 30, 3) := by decide +kernel
theorem dX3_finish_14 : decode cX3_finish 14 = .ok (.iload_n 2, 1) := by decide +kernel
theorem dX3_finish_15 : decode cX3_finish 15 = .ok (.bipush 36, 2) := by decide +kernel
theorem dX3_finish_17 : decode cX3_finish 17 = .ok (.if_icmp .ge 24, 3) := by decide +kernel
theorem dX3_finish_20 : decode cX3_finish 20 = .ok (.aload_n 0, 1) := by decide +kernel
theorem dX3_finish_21 : decode cX3_finish 21 = .ok (.iload_n 2, 1) := by decide +kernel
theorem dX3_finish_22 : decode cX3_finish 22 = .ok (.invokevirtual 78, 3) := by decide +kernel
theorem dX3_finish_25 : decode cX3_finish 25 = .ok (.ifCond .ne 10, 3) := by decide +kernel
theorem dX3_finish_28 : decode cX3_finish 28 = .ok (.aload_n 1, 1) := by decide +kernel
theorem dX3_finish_29 : decode cX3_finish 29 = .ok (.getfield 69, 3) := by decide +kernel
theorem dX3_finish_32 : decode cX3_finish 32 = .ok (.iload_n 2, 1) := by decide +kernel
theorem dX3_finish_33 : decode cX3_finish 33 = .ok (.iconst 0, 1) := by decide +kernel
theorem dX3_finish_34 : decode cX3_finish 34 = .ok (.iastore, 1) := by decide +kernel
theorem dX3_finish_35 : decode cX3_finish 35 = .ok (.iinc 2 1, 3) := by decide +kernel
theorem dX3_finish_38 : decode cX3_finish 38 = .ok (.goto (-32), 3) := by decide +kernel
theorem dX3_finish_41 : decode cX3_finish 41 = .ok (.return_, 1) := by decide +kernel
theorem dX3_peek_0 : decode cX3_peek 0 = .ok (.aload_n 0, 1) := by decide +kernel
theorem dX3_peek_1 : decode cX3_peek 1 = .ok (.getfield 19, 3) := by decide +kernel
theorem dX3_peek_4 : decode cX3_peek 4 = .ok (.ifCond .lt 36, 3) := by decide +kernel
theorem dX3_peek_7 : decode cX3_peek 7 = .ok (.aload_n 0, 1) := by decide +kernel
theorem dX3_peek_8 : decode cX3_peek 8 = .ok (.getfield 19, 3) := by decide +kernel
theorem dX3_peek_11 : decode cX3_peek 11 = .ok (.aload_n 0, 1) := by decide +kernel
theorem dX3_peek_12 : decode cX3_peek 12 = .ok (.getfield 15, 3) := by decide +kernel
theorem dX3_peek_15 : decode cX3_peek 15 = .ok (.if_icmp .ge 25, 3) := by decide +kernel
theorem dX3_peek_18 : decode cX3_peek 18 = .ok (.aload_n 0, 1) := by decide +kernel
theorem dX3_peek_19 : decode cX3_peek 19 = .ok (.getfield 19, 3) := by decide +kernel
theorem dX3_peek_22 : decode cX3_peek 22 = .ok (.sipush 200, 3) := by decide +kernel
theorem dX3_peek_25 : decode cX3_peek 25 = .ok (.if_icmp .ge 15, 3) := by decide +kernel
theorem dX3_peek_28 : decode cX3_peek 28 = .ok (.aload_n 0, 1) := by decide +kernel
theorem dX3_peek_29 : decode cX3_peek 29 = .ok (.getfield 9, 3) := by decide +kernel
theorem dX3_peek_32 : decode cX3_peek 32 = .ok (.aload_n 0, 1) := by decide +kernel
theorem dX3_peek_33 : decode cX3_peek 33 = .ok (.getfield 19, 3) := by decide +kernel
theorem dX3_peek_36 : decode cX3_peek 36 = .ok (.caload, 1) := by decide +kernel
theorem dX3_peek_37 : decode cX3_peek 37 = .ok (.goto 5, 3) := by decide +kernel
theorem dX3_peek_40 : decode cX3_peek 40 = .ok (.bipush (-4), 2) := by decide +kernel
theorem dX3_peek_42 : decode cX3_peek 42 = .ok (.ireturn, 1) := by decide +kernel
theorem dX3_nextLetter_0 : decode cX3_nextLetter 0 = .ok (.aload_n 0, 1) := by decide +kernel
theorem dX3_nextLetter_1 : decode cX3_nextLetter 1 = .ok (.invokevirtual 81, 3) := by decide +kernel
theorem dX3_nextLetter_4 : decode cX3_nextLetter 4 = .ok (.istore_n 1, 1) := by decide +kernel
theorem dX3_nextLetter_5 : decode cX3_nextLetter 5 = .ok (.aload_n 0, 1) := by decide +kernel
theorem dX3_nextLetter_6 : decode cX3_nextLetter 6 = .ok (.dup, 1) := by decide +kernel
theorem dX3_nextLetter_7 : decode cX3_nextLetter 7 = .ok (.getfield 19, 3) := by decide +kernel
theorem dX3_nextLetter_10 : decode cX3_nextLetter 10 = .ok (.iconst 1, 1) := by decide +kernel
theorem dX3_nextLetter_11 : decode cX3_nextLetter 11 = .ok (.iadd, 1) := by decide +kernel
theorem dX3_nextLetter_12 : decode cX3_nextLetter 12 = .ok (.putfield 19, 3) := by decide +kernel
theorem dX3_nextLetter_15 : decode cX3_nextLetter 15 = .ok (.iload_n 1, 1) := by decide +kernel
theorem dX3_nextLetter_16 : decode cX3_nextLetter 16 = .ok (.ireturn, 1) := by decide +kernel
theorem dX3_skip_0 : decode cX3_skip 0 = .ok (.aload_n 0, 1) := by decide +kernel
theorem dX3_skip_1 : decode cX3_skip 1 = .ok (.invokevirtual 81, 3) := by decide +kernel
theorem dX3_skip_4 : decode cX3_skip 4 = .ok (.iload_n 1, 1) := by decide +kernel
theorem dX3_skip_5 : decode cX3_skip 5 = .ok (.if_icmp .ne 7, 3) := by decide +kernel
theorem dX3_skip_8 : decode cX3_skip 8 = .ok (.iconst 1, 1) := by decide +kernel
theorem dX3_skip_9 : decode cX3_skip 9 = .ok (.goto 4, 3) := by decide +kernel
theorem dX3_skip_12 : decode cX3_skip 12 = .ok (.iconst 0, 1) := by decide +kernel
theorem dX3_skip_13 : decode cX3_skip 13 = .ok (.istore_n 2, 1) := by decide +kernel
theorem dX3_skip_14 : decode cX3_skip 14 = .ok (.iload_n 2, 1) := by decide +kernel
theorem dX3_skip_15 : decode cX3_skip 15 = .ok (.ifCond .eq 13, 3) := by decide +kernel
theorem dX3_skip_18 : decode cX3_skip 18 = .ok (.aload_n 0, 1) := by decide +kernel
theorem dX3_skip_19 : decode cX3_skip 19 = .ok (.dup, 1) := by decide +kernel
theorem dX3_skip_20 : decode cX3_skip 20 = .ok (.getfield 19, 3) := by decide +kernel
theorem dX3_skip_23 : decode cX3_skip 23 = .ok (.iconst 1, 1) := by decide +kernel
theorem dX3_skip_24 : decode cX3_skip 24 = .ok (.iadd, 1) := by decide +kernel
theorem dX3_skip_25 : decode cX3_skip 25 = .ok (.putfield 19, 3) := by decide +kernel
theorem dX3_skip_28 : decode cX3_skip 28 = .ok (.iload_n 2, 1) := by decide +kernel
theorem dX3_skip_29 : decode cX3_skip 29 = .ok (.ireturn, 1) := by decide +kernel
theorem dX3_nextNumber_0 : decode cX3_nextNumber 0 = .ok (.aload_n 0, 1) := by decide +kernel
theorem dX3_nextNumber_1 : decode cX3_nextNumber 1 = .ok (.invokevirtual 84, 3) := by decide +kernel
theorem dX3_nextNumber_4 : decode cX3_nextNumber 4 = .ok (.istore_n 1, 1) := by decide +kernel
theorem dX3_nextNumber_5 : decode cX3_nextNumber 5 = .ok (.iload_n 1, 1) := by decide +kernel
theorem dX3_nextNumber_6 : decode cX3_nextNumber 6 = .ok (.ifCond .ge 8, 3) := by decide +kernel
theorem dX3_nextNumber_9 : decode cX3_nextNumber 9 = .ok (.bipush (-4), 2) := by decide +kernel
theorem dX3_nextNumber_11 : decode cX3_nextNumber 11 = .ok (.goto 7, 3) := by decide +kernel
theorem dX3_nextNumber_14 : decode cX3_nextNumber 14 = .ok (.aload_n 0, 1) := by decide +kernel
theorem dX3_nextNumber_15 : decode cX3_nextNumber 15 = .ok (.invokevirtual 84, 3) := by decide +kernel
theorem dX3_nextNumber_18 : decode cX3_nextNumber 18 = .ok (.istore_n 2, 1) := by decide +kernel
theorem dX3_nextNumber_19 : decode cX3_nextNumber 19 = .ok (.iload_n 2, 1) := by decide +kernel
theorem dX3_nextNumber_20 : decode cX3_nextNumber 20 = .ok (.ifCond .ge 7, 3) := by decide +kernel
theorem dX3_nextNumber_23 : decode cX3_nextNumber 23 = .ok (.iload_n 1, 1) := by decide +kernel
theorem dX3_nextNumber_24 : decode cX3_nextNumber 24 = .ok (.goto 9, 3) := by decide +kernel
theorem dX3_nextNumber_27 : decode cX3_nextNumber 27 = .ok (.iload_n 1, 1) := by decide +kernel
theorem dX3_nextNumber_28 : decode cX3_nextNumber 28 = .ok (.bipush 10, 2) := by decide +kernel
theorem dX3_nextNumber_30 : decode cX3_nextNumber 30 = .ok (.imul, 1) := by decide +kernel
theorem dX3_nextNumber_31 : decode cX3_nextNumber 31 = .ok (.iload_n 2, 1) := by decide +kernel
theorem dX3_nextNumber_32 : decode cX3_nextNumber 32 = .ok (.iadd, 1) := by decide +kernel
theorem dX3_nextNumber_33 : decode cX3_nextNumber 33 = .ok (.ireturn, 1) := by decide +kernel
theorem dX3_nextFigure_0 : decode cX3_nextFigure 0 = .ok (.aload_n 0, 1) := by decide +kernel
theorem dX3_nextFigure_1 : decode cX3_nextFigure 1 = .ok (.invokevirtual 81, 3) := by decide +kernel
theorem dX3_nextFigure_4 : decode cX3_nextFigure 4 = .ok (.istore_n 1, 1) := by decide +kernel
theorem dX3_nextFigure_5 : decode cX3_nextFigure 5 = .ok (.iload_n 1, 1) := by decide +kernel
theorem dX3_nextFigure_6 : decode cX3_nextFigure 6 = .ok (.bipush 48, 2) := by decide +kernel
theorem dX3_nextFigure_8 : decode cX3_nextFigure 8 = .ok (.bipush 57, 2) := by decide +kernel
theorem dX3_nextFigure_10 : decode cX3_nextFigure 10 = .ok (.invokestatic 58, 3) := by decide +kernel
theorem dX3_nextFigure_13 : decode cX3_nextFigure 13 = .ok (.ifCond .ne 6, 3) := by decide +kernel
theorem dX3_nextFigure_16 : decode cX3_nextFigure 16 = .ok (.bipush (-4), 2) := by decide +kernel
theorem dX3_nextFigure_18 : decode cX3_nextFigure 18 = .ok (.ireturn, 1) := by decide +kernel
theorem dX3_nextFigure_19 : decode cX3_nextFigure 19 = .ok (.aload_n 0, 1) := by decide +kernel
theorem dX3_nextFigure_20 : decode cX3_nextFigure 20 = .ok (.dup, 1) := by decide +kernel
theorem dX3_nextFigure_21 : decode cX3_nextFigure 21 = .ok (.getfield 19, 3) := by decide +kernel
theorem dX3_nextFigure_24 : decode cX3_nextFigure 24 = .ok (.iconst 1, 1) := by decide +kernel
theorem dX3_nextFigure_25 : decode cX3_nextFigure 25 = .ok (.iadd, 1) := by decide +kernel
theorem dX3_nextFigure_26 : decode cX3_nextFigure 26 = .ok (.putfield 19, 3) := by decide +kernel
theorem dX3_nextFigure_29 : decode cX3_nextFigure 29 = .ok (.iload_n 1, 1) := by decide +kernel
theorem dX3_nextFigure_30 : decode cX3_nextFigure 30 = .ok (.bipush 48, 2) := by decide +kernel
theorem dX3_nextFigure_32 : decode cX3_nextFigure 32 = .ok (.isub, 1) := by decide +kernel
theorem dX3_nextFigure_33 : decode cX3_nextFigure 33 = .ok (.ireturn, 1) := by decide +kernel
theorem dX4_init_0 : decode cX4_init 0 = .ok (.aload_n 0, 1) := by decide +kernel
theorem dX4_init_1 : decode cX4_init 1 = .ok (.invokespecial 3, 3) := by decide +kernel
theorem dX4_init_4 : decode cX4_init 4 = .ok (.aload_n 0, 1) := by decide +kernel
theorem dX4_init_5 : decode cX4_init 5 = .ok (.bipush 36, 2) := by decide +kernel
theorem dX4_init_7 : decode cX4_init 7 = .ok (.newarray .int, 2) := by decide +kernel
theorem dX4_init_9 : decode cX4_init 9 = .ok (.putfield 9, 3) := by decide +kernel
theorem dX4_init_12 : decode cX4_init 12 = .ok (.aload_n 0, 1) := by decide +kernel
theorem dX4_init_13 : decode cX4_init 13 = .ok (.bipush 36, 2) := by decide +kernel
theorem dX4_init_15 : decode cX4_init 15 = .ok (.newarray .int, 2) := by decide +kernel
theorem dX4_init_17 : decode cX4_init 17 = .ok (.putfield 15, 3) := by decide +kernel
theorem dX4_init_20 : decode cX4_init 20 = .ok (.aload_n 0, 1) := by decide +kernel
theorem dX4_init_21 : decode cX4_init 21 = .ok (.iconst 0, 1) := by decide +kernel
theorem dX4_init_22 : decode cX4_init 22 = .ok (.putfield 18, 3) := by decide +kernel
theorem dX4_init_25 : decode cX4_init 25 = .ok (.aload_n 0, 1) := by decide +kernel
theorem dX4_init_26 : decode cX4_init 26 = .ok (.lconst 0, 1) := by decide +kernel
theorem dX4_init_27 : decode cX4_init 27 = .ok (.putfield 22, 3) := by decide +kernel
theorem dX4_init_30 : decode cX4_init 30 = .ok (.return_, 1) := by decide +kernel
theorem dX4_makeDry_0 : decode cX4_makeDry 0 = .ok (.aload_n 0, 1) := by decide +kernel
theorem dX4_makeDry_1 : decode cX4_makeDry 1 = .ok (.getfield 9, 3) := by decide +kernel
theorem dX4_makeDry_4 : decode cX4_makeDry 4 = .ok (.iconst 5, 1) := by decide +kernel
theorem dX4_makeDry_5 : decode cX4_makeDry 5 = .ok (.invokestatic 26, 3) := by decide +kernel
theorem dX4_makeDry_8 : decode cX4_makeDry 8 = .ok (.aload_n 0, 1) := by decide +kernel
theorem dX4_makeDry_9 : decode cX4_makeDry 9 = .ok (.getfield 15, 3) := by decide +kernel
theorem dX4_makeDry_12 : decode cX4_makeDry 12 = .ok (.iconst 0, 1) := by decide +kernel
theorem dX4_makeDry_13 : decode cX4_makeDry 13 = .ok (.invokestatic 26, 3) := by decide +kernel
theorem dX4_makeDry_16 : decode cX4_makeDry 16 = .ok (.aload_n 0, 1) := by decide +kernel
theorem dX4_makeDry_17 : decode cX4_makeDry 17 = .ok (.iconst 0, 1) := by decide +kernel
theorem dX4_makeDry_18 : decode cX4_makeDry 18 = .ok (.putfield 18, 3) := by decide +kernel
theorem dX4_makeDry_21 : decode cX4_makeDry 21 = .ok (.return_, 1) := by decide +kernel
theorem dX4_copyFrom_0 : decode cX4_copyFrom 0 = .ok (.aload_n 1, 1) := by decide +kernel
theorem dX4_copyFrom_1 : decode cX4_copyFrom 1 = .ok (.getfield 9, 3) := by decide +kernel
theorem dX4_copyFrom_4 : decode cX4_copyFrom 4 = .ok (.iconst 0, 1) := by decide +kernel
theorem dX4_copyFrom_5 : decode cX4_copyFrom 5 = .ok (.aload_n 0, 1) := by decide +kernel
theorem dX4_copyFrom_6 : decode cX4_copyFrom 6 = .ok (.getfield 9, 3) := by decide +kernel
theorem dX4_copyFrom_9 : decode cX4_copyFrom 9 = .ok (.iconst 0, 1) := by decide +kernel
theorem dX4_copyFrom_10 : decode cX4_copyFrom 10 = .ok (.bipush 36, 2) := by decide +kernel
theorem dX4_copyFrom_12 : decode cX4_copyFrom 12 = .ok (.invokestatic 32, 3) := by decide +kernel
theorem dX4_copyFrom_15 : decode cX4_copyFrom 15 = .ok (.aload_n 1, 1) := by decide +kernel
theorem dX4_copyFrom_16 : decode cX4_copyFrom 16 = .ok (.getfield 15, 3) := by decide +kernel
theorem dX4_copyFrom_19 : decode cX4_copyFrom 19 = .ok (.iconst 0, 1) := by decide +kernel
theorem dX4_copyFrom_20 : decode cX4_copyFrom 20 = .ok (.aload_n 0, 1) := by decide +kernel
theorem dX4_copyFrom_21 : decode cX4_copyFrom 21 = .ok (.getfield 15, 3) := by decide +kernel
theorem dX4_copyFrom_24 : decode cX4_copyFrom 24 = .ok (.iconst 0, 1) := by decide +kernel
theorem dX4_copyFrom_25 : decode cX4_copyFrom 25 = .ok (.bipush 36, 2) := by decide +kernel
theorem dX4_copyFrom_27 : decode cX4_copyFrom 27 = .ok (.invokestatic 32, 3) := by decide +kernel
theorem dX4_copyFrom_30 : decode cX4_copyFrom 30 = .ok (.aload_n 0, 1) := by decide +kernel
theorem dX4_copyFrom_31 : decode cX4_copyFrom 31 = .ok (.aload_n 1, 1) := by decide +kernel
theorem dX4_copyFrom_32 : decode cX4_copyFrom 32 = .ok (.getfield 18, 3) := by decide +kernel
theorem dX4_copyFrom_35 : decode cX4_copyFrom 35 = .ok (.putfield 18, 3) := by decide +kernel
theorem dX4_copyFrom_38 : decode cX4_copyFrom 38 = .ok (.return_, 1) := by decide +kernel
theorem dX4_allDrops_0 : decode cX4_allDrops 0 = .ok (.iconst 0, 1) := by decide +kernel
theorem dX4_allDrops_1 : decode cX4_allDrops 1 = .ok (.istore_n 2, 1) := by decide +kernel
theorem dX4_allDrops_2 : decode cX4_allDrops 2 = .ok (.iconst 0, 1) := by decide +kernel
theorem dX4_allDrops_3 : decode cX4_allDrops 3 = .ok (.istore_n 3, 1) := by decide +kernel
theorem dX4_allDrops_4 : decode cX4_allDrops 4 = .ok (.iload_n 3, 1) := by decide +kernel
theorem dX4_allDrops_5 : decode cX4_allDrops 5 = .ok (.aload_n 1, 1) := by decide +kernel
theorem dX4_allDrops_6 : decode cX4_allDrops 6 = .ok (.getfield 38, 3) := by decide +kernel
theorem dX4_allDrops_9 : decode cX4_allDrops 9 = .ok (.if_icmp .ge 24, 3) := by decide +kernel
theorem dX4_allDrops_12 : decode cX4_allDrops 12 = .ok (.iload_n 3, 1) := by decide +kernel
theorem dX4_allDrops_13 : decode cX4_allDrops 13 = .ok (.bipush 36, 2) := by decide +kernel
theorem dX4_allDrops_15 : decode cX4_allDrops 15 = .ok (.if_icmp .ge 18, 3) := by decide +kernel
theorem dX4_allDrops_18 : decode cX4_allDrops 18 = .ok (.iload_n 2, 1) := by decide +kernel
theorem dX4_allDrops_19 : decode cX4_allDrops 19 = .ok (.aload_n 0, 1) := by decide +kernel
theorem dX4_allDrops_20 : decode cX4_allDrops 20 = .ok (.getfield 15, 3) := by decide +kernel
theorem dX4_allDrops_23 : decode cX4_allDrops 23 = .ok (.iload_n 3, 1) := by decide +kernel
theorem dX4_allDrops_24 : decode cX4_allDrops 24 = .ok (.iaload, 1) := by decide +kernel
theorem dX4_allDrops_25 : decode cX4_allDrops 25 = .ok (.iadd, 1) := by decide +kernel
theorem dX4_allDrops_26 : decode cX4_allDrops 26 = .ok (.istore_n 2, 1) := by decide +kernel
theorem dX4_allDrops_27 : decode cX4_allDrops 27 = .ok (.iinc 3 1, 3) := by decide +kernel
theorem dX4_allDrops_30 : decode cX4_allDrops 30 = .ok (.goto (-26), 3) := by decide +kernel
theorem dX4_allDrops_33 : decode cX4_allDrops 33 = .ok (.iload_n 2, 1) := by decide +kernel
theorem dX4_allDrops_34 : decode cX4_allDrops 34 = .ok (.ireturn, 1) := by decide +kernel
theorem dX4_wetCells_0 : decode cX4_wetCells 0 = .ok (.iconst 0, 1) := by decide +kernel
theorem dX4_wetCells_1 : decode cX4_wetCells 1 = .ok (.istore_n 2, 1) := by decide +kernel
theorem dX4_wetCells_2 : decode cX4_wetCells 2 = .ok (.iconst 0, 1) := by decide +kernel
theorem dX4_wetCells_3 : decode cX4_wetCells 3 = .ok (.istore_n 3, 1) := by decide +kernel
theorem dX4_wetCells_4 : decode cX4_wetCells 4 = .ok (.iload_n 3, 1) := by decide +kernel
theorem dX4_wetCells_5 : decode cX4_wetCells 5 = .ok (.aload_n 1, 1) := by decide +kernel
theorem dX4_wetCells_6 : decode cX4_wetCells 6 = .ok (.getfield 38, 3) := by decide +kernel
theorem dX4_wetCells_9 : decode cX4_wetCells 9 = .ok (.if_icmp .ge 27, 3) := by decide +kernel
theorem dX4_wetCells_12 : decode cX4_wetCells 12 = .ok (.iload_n 3, 1) := by decide +kernel
theorem dX4_wetCells_13 : decode cX4_wetCells 13 = .ok (.bipush 36, 2) := by decide +kernel
theorem dX4_wetCells_15 : decode cX4_wetCells 15 = .ok (.if_icmp .ge 21, 3) := by decide +kernel
theorem dX4_wetCells_18 : decode cX4_wetCells 18 = .ok (.aload_n 0, 1) := by decide +kernel
theorem dX4_wetCells_19 : decode cX4_wetCells 19 = .ok (.getfield 15, 3) := by decide +kernel
theorem dX4_wetCells_22 : decode cX4_wetCells 22 = .ok (.iload_n 3, 1) := by decide +kernel
theorem dX4_wetCells_23 : decode cX4_wetCells 23 = .ok (.iaload, 1) := by decide +kernel
theorem dX4_wetCells_24 : decode cX4_wetCells 24 = .ok (.ifCond .le 6, 3) := by decide +kernel
theorem dX4_wetCells_27 : decode cX4_wetCells 27 = .ok (.iinc 2 1, 3) := by decide +kernel
theorem dX4_wetCells_30 : decode cX4_wetCells 30 = .ok (.iinc 3 1, 3) := by decide +kernel
theorem dX4_wetCells_33 : decode cX4_wetCells 33 = .ok (.goto (-29), 3) := by decide +kernel
theorem dX4_wetCells_36 : decode cX4_wetCells 36 = .ok (.iload_n 2, 1) := by decide +kernel
theorem dX4_wetCells_37 : decode cX4_wetCells 37 = .ok (.ireturn, 1) := by decide +kernel
theorem dX4_wetBits_0 : decode cX4_wetBits 0 = .ok (.lconst 0, 1) := by decide +kernel
theorem dX4_wetBits_1 : decode cX4_wetBits 1 = .ok (.lstore_n 2, 1) := by decide +kernel
theorem dX4_wetBits_2 : decode cX4_wetBits 2 = .ok (.iconst 0, 1) := by decide +kernel
theorem dX4_wetBits_3 : decode cX4_wetBits 3 = .ok (.istore 4, 2) := by decide +kernel
theorem dX4_wetBits_5 : decode cX4_wetBits 5 = .ok (.iload 4, 2) := by decide +kernel
theorem dX4_wetBits_7 : decode cX4_wetBits 7 = .ok (.aload_n 1, 1) := by decide +kernel
theorem dX4_wetBits_8 : decode cX4_wetBits 8 = .ok (.getfield 38, 3) := by decide +kernel
theorem dX4_wetBits_11 : decode cX4_wetBits 11 = .ok (.if_icmp .ge 33, 3) := by decide +kernel
theorem dX4_wetBits_14 : decode cX4_wetBits 14 = .ok (.iload 4, 2) := by decide +kernel
theorem dX4_wetBits_16 : decode cX4_wetBits 16 = .ok (.bipush 36, 2) := by decide +kernel
theorem dX4_wetBits_18 : decode cX4_wetBits 18 = .ok (.if_icmp .ge 26, 3) := by decide +kernel
theorem dX4_wetBits_21 : decode cX4_wetBits 21 = .ok (.aload_n 0, 1) := by decide +kernel
theorem dX4_wetBits_22 : decode cX4_wetBits 22 = .ok (.getfield 15, 3) := by decide +kernel
theorem dX4_wetBits_25 : decode cX4_wetBits 25 = .ok (.iload 4, 2) := by decide +kernel
theorem dX4_wetBits_27 : decode cX4_wetBits 27 = .ok (.iaload, 1) := by decide +kernel
theorem dX4_wetBits_28 : decode cX4_wetBits 28 = .ok (.ifCond .le 10, 3) := by decide +kernel
theorem dX4_wetBits_31 : decode cX4_wetBits 31 = .ok (.lload_n 2, 1) := by decide +kernel
theorem dX4_wetBits_32 : decode cX4_wetBits 32 = .ok (.lconst 1, 1) := by decide +kernel
theorem dX4_wetBits_33 : decode cX4_wetBits 33 = .ok (.iload 4, 2) := by decide +kernel
theorem dX4_wetBits_35 : decode cX4_wetBits 35 = .ok (.lshl, 1) := by decide +kernel
theorem dX4_wetBits_36 : decode cX4_wetBits 36 = .ok (.lor, 1) := by decide +kernel
theorem dX4_wetBits_37 : decode cX4_wetBits 37 = .ok (.lstore_n 2, 1) := by decide +kernel
theorem dX4_wetBits_38 : decode cX4_wetBits 38 = .ok (.iinc 4 1, 3) := by decide +kernel
theorem dX4_wetBits_41 : decode cX4_wetBits 41 = .ok (.goto (-36), 3) := by decide +kernel
theorem dX4_wetBits_44 : decode cX4_wetBits 44 = .ok (.lload_n 2, 1) := by decide +kernel
theorem dX4_wetBits_45 : decode cX4_wetBits 45 = .ok (.lreturn, 1) := by decide +kernel
theorem dX4_firstWet_0 : decode cX4_firstWet 0 = .ok (.iconst 0, 1) := by decide +kernel
theorem dX4_firstWet_1 : decode cX4_firstWet 1 = .ok (.istore_n 2, 1) := by decide +kernel
theorem dX4_firstWet_2 : decode cX4_firstWet 2 = .ok (.iload_n 2, 1) := by decide +kernel
theorem dX4_firstWet_3 : decode cX4_firstWet 3 = .ok (.aload_n 1, 1) := by decide +kernel
theorem dX4_firstWet_4 : decode cX4_firstWet 4 = .ok (.getfield 38, 3) := by decide +kernel
theorem dX4_firstWet_7 : decode cX4_firstWet 7 = .ok (.if_icmp .ge 26, 3) := by decide +kernel
theorem dX4_firstWet_10 : decode cX4_firstWet 10 = .ok (.iload_n 2, 1) := by decide +kernel
theorem dX4_firstWet_11 : decode cX4_firstWet 11 = .ok (.bipush 36, 2) := by decide +kernel
theorem dX4_firstWet_13 : decode cX4_firstWet 13 = .ok (.if_icmp .ge 20, 3) := by decide +kernel
theorem dX4_firstWet_16 : decode cX4_firstWet 16 = .ok (.aload_n 0, 1) := by decide +kernel
theorem dX4_firstWet_17 : decode cX4_firstWet 17 = .ok (.getfield 15, 3) := by decide +kernel
theorem dX4_firstWet_20 : decode cX4_firstWet 20 = .ok (.iload_n 2, 1) := by decide +kernel
theorem dX4_firstWet_21 : decode cX4_firstWet 21 = .ok (.iaload, 1) := by decide +kernel
theorem dX4_firstWet_22 : decode cX4_firstWet 22 = .ok (.ifCond .le 5, 3) := by decide +kernel
theorem dX4_firstWet_25 : decode cX4_firstWet 25 = .ok (.iload_n 2, 1) := by decide +kernel
theorem dX4_firstWet_26 : decode cX4_firstWet 26 = .ok (.ireturn, 1) := by decide +kernel
theorem dX4_firstWet_27 : decode cX4_firstWet 27 = .ok (.iinc 2 1, 3) := by decide +kernel
theorem dX4_firstWet_30 : decode cX4_firstWet 30 = .ok (.goto (-28), 3) := by decide +kernel
theorem dX4_firstWet_33 : decode cX4_firstWet 33 = .ok (.bipush (-4), 2) := by decide +kernel
theorem dX4_firstWet_35 : decode cX4_firstWet 35 = .ok (.ireturn, 1) := by decide +kernel
theorem dX4_pour_0 : decode cX4_pour 0 = .ok (.iconst 0, 1) := by decide +kernel
theorem dX4_pour_1 : decode cX4_pour 1 = .ok (.istore_n 3, 1) := by decide +kernel
theorem dX4_pour_2 : decode cX4_pour 2 = .ok (.iload_n 3, 1) := by decide +kernel
theorem dX4_pour_3 : decode cX4_pour 3 = .ok (.aload_n 1, 1) := by decide +kernel
theorem dX4_pour_4 : decode cX4_pour 4 = .ok (.getfield 38, 3) := by decide +kernel
theorem dX4_pour_7 : decode cX4_pour 7 = .ok (.if_icmp .ge 42, 3) := by decide +kernel
theorem dX4_pour_10 : decode cX4_pour 10 = .ok (.iload_n 3, 1) := by decide +kernel
theorem dX4_pour_11 : decode cX4_pour 11 = .ok (.bipush 36, 2) := by decide +kernel
theorem dX4_pour_13 : decode cX4_pour 13 = .ok (.if_icmp .ge 36, 3) := by decide +kernel
theorem dX4_pour_16 : decode cX4_pour 16 = .ok (.aload_n 1, 1) := by decide +kernel
theorem dX4_pour_17 : decode cX4_pour 17 = .ok (.iload_n 3, 1) := by decide +kernel
theorem dX4_pour_18 : decode cX4_pour 18 = .ok (.invokevirtual 43, 3) := by decide +kernel
theorem dX4_pour_21 : decode cX4_pour 21 = .ok (.ifCond .eq 22, 3) := by decide +kernel
theorem dX4_pour_24 : decode cX4_pour 24 = .ok (.aload_n 0, 1) := by decide +kernel
theorem dX4_pour_25 : decode cX4_pour 25 = .ok (.getfield 15, 3) := by decide +kernel
theorem dX4_pour_28 : decode cX4_pour 28 = .ok (.iload_n 3, 1) := by decide +kernel
theorem dX4_pour_29 : decode cX4_pour 29 = .ok (.bipush 60, 2) := by decide +kernel
theorem dX4_pour_31 : decode cX4_pour 31 = .ok (.aload_n 0, 1) := by decide +kernel
theorem dX4_pour_32 : decode cX4_pour 32 = .ok (.getfield 15, 3) := by decide +kernel
theorem dX4_pour_35 : decode cX4_pour 35 = .ok (.iload_n 3, 1) := by decide +kernel
theorem dX4_pour_36 : decode cX4_pour 36 = .ok (.iaload, 1) := by decide +kernel
theorem dX4_pour_37 : decode cX4_pour 37 = .ok (.iload_n 2, 1) := by decide +kernel
theorem dX4_pour_38 : decode cX4_pour 38 = .ok (.iadd, 1) := by decide +kernel
theorem dX4_pour_39 : decode cX4_pour 39 = .ok (.invokestatic 47, 3) := by decide +kernel
theorem dX4_pour_42 : decode cX4_pour 42 = .ok (.iastore, 1) := by decide +kernel
theorem dX4_pour_43 : decode cX4_pour 43 = .ok (.iinc 3 1, 3) := by decide +kernel
theorem dX4_pour_46 : decode cX4_pour 46 = .ok (.goto (-44), 3) := by decide +kernel
theorem dX4_pour_49 : decode cX4_pour 49 = .ok (.aload_n 0, 1) := by decide +kernel
theorem dX4_pour_50 : decode cX4_pour 50 = .ok (.aload_n 1, 1) := by decide +kernel
theorem dX4_pour_51 : decode cX4_pour 51 = .ok (.invokevirtual 53, 3) := by decide +kernel
theorem dX4_pour_54 : decode cX4_pour 54 = .ok (.return_, 1) := by decide +kernel
theorem dX4_passHours_0 : decode cX4_passHours 0 = .ok (.iconst 0, 1) := by decide +kernel
theorem dX4_passHours_1 : decode cX4_passHours 1 = .ok (.istore_n 3, 1) := by decide +kernel
theorem dX4_passHours_2 : decode cX4_passHours 2 = .ok (.iload_n 3, 1) := by decide +kernel
theorem dX4_passHours_3 : decode cX4_passHours 3 = .ok (.iload_n 2, 1) := by decide +kernel
theorem dX4_passHours_4 : decode cX4_passHours 4 = .ok (.if_icmp .ge 14, 3) := by decide +kernel
theorem dX4_passHours_7 : decode cX4_passHours 7 = .ok (.aload_n 0, 1) := by decide +kernel
theorem dX4_passHours_8 : decode cX4_passHours 8 = .ok (.aload_n 1, 1) := by decide +kernel
theorem dX4_passHours_9 : decode cX4_passHours 9 = .ok (.invokevirtual 57, 3) := by decide +kernel
theorem dX4_passHours_12 : decode cX4_passHours 12 = .ok (.iinc 3 1, 3) := by decide +kernel
theorem dX4_passHours_15 : decode cX4_passHours 15 = .ok (.goto (-13), 3) := by decide +kernel
theorem dX4_passHours_18 : decode cX4_passHours 18 = .ok (.return_, 1) := by decide +kernel
theorem dX4_passHour_0 : decode cX4_passHour 0 = .ok (.aload_n 0, 1) := by decide +kernel
theorem dX4_passHour_1 : decode cX4_passHour 1 = .ok (.dup, 1) := by decide +kernel
theorem dX4_passHour_2 : decode cX4_passHour 2 = .ok (.getfield 18, 3) := by decide +kernel
theorem dX4_passHour_5 : decode cX4_passHour 5 = .ok (.iconst 1, 1) := by decide +kernel
theorem dX4_passHour_6 : decode cX4_passHour 6 = .ok (.iadd, 1) := by decide +kernel
theorem dX4_passHour_7 : decode cX4_passHour 7 = .ok (.putfield 18, 3) := by decide +kernel
theorem dX4_passHour_10 : decode cX4_passHour 10 = .ok (.aload_n 0, 1) := by decide +kernel
theorem dX4_passHour_11 : decode cX4_passHour 11 = .ok (.getfield 18, 3) := by decide +kernel
theorem dX4_passHour_14 : decode cX4_passHour 14 = .ok (.iconst 2, 1) := by decide +kernel
theorem dX4_passHour_15 : decode cX4_passHour 15 = .ok (.irem, 1) := by decide +kernel
theorem dX4_passHour_16 : decode cX4_passHour 16 = .ok (.ifCond .ne 7, 3) := by decide +kernel
theorem dX4_passHour_19 : decode cX4_passHour 19 = .ok (.iconst 1, 1) := by decide +kernel
theorem dX4_passHour_20 : decode cX4_passHour 20 = .ok (.goto 4, 3) := by decide +kernel
theorem dX4_passHour_23 : decode cX4_passHour 23 = .ok (.iconst 0, 1) := by decide +kernel
theorem dX4_passHour_24 : decode cX4_passHour 24 = .ok (.istore_n 2, 1) := by decide +kernel
theorem dX4_passHour_25 : decode cX4_passHour 25 = .ok (.iconst 0, 1) := by decide +kernel
theorem dX4_passHour_26 : decode cX4_passHour 26 = .ok (.istore_n 3, 1) := by decide +kernel
theorem dX4_passHour_27 : decode cX4_passHour 27 = .ok (.iload_n 3, 1) := by decide +kernel
theorem dX4_passHour_28 : decode cX4_passHour 28 = .ok (.aload_n 1, 1) := by decide +kernel
theorem dX4_passHour_29 : decode cX4_passHour 29 = .ok (.getfield 38, 3) := by decide +kernel
theorem dX4_passHour_32 : decode cX4_passHour 32 = .ok (.if_icmp .ge 62, 3) := by decide +kernel
theorem dX4_passHour_35 : decode cX4_passHour 35 = .ok (.iload_n 3, 1) := by decide +kernel
theorem dX4_passHour_36 : decode cX4_passHour 36 = .ok (.bipush 36, 2) := by decide +kernel
theorem dX4_passHour_38 : decode cX4_passHour 38 = .ok (.if_icmp .ge 56, 3) := by decide +kernel
theorem dX4_passHour_41 : decode cX4_passHour 41 = .ok (.aload_n 0, 1) := by decide +kernel
theorem dX4_passHour_42 : decode cX4_passHour 42 = .ok (.getfield 15, 3) := by decide +kernel
theorem dX4_passHour_45 : decode cX4_passHour 45 = .ok (.iload_n 3, 1) := by decide +kernel
theorem dX4_passHour_46 : decode cX4_passHour 46 = .ok (.iaload, 1) := by decide +kernel
theorem dX4_passHour_47 : decode cX4_passHour 47 = .ok (.ifCond .le 26, 3) := by decide +kernel
theorem dX4_passHour_50 : decode cX4_passHour 50 = .ok (.iload_n 2, 1) := by decide +kernel
theorem dX4_passHour_51 : decode cX4_passHour 51 = .ok (.ifCond .ne 12, 3) := by decide +kernel
theorem dX4_passHour_54 : decode cX4_passHour 54 = .ok (.aload_n 1, 1) := by decide +kernel
theorem dX4_passHour_55 : decode cX4_passHour 55 = .ok (.iload_n 3, 1) := by decide +kernel
theorem dX4_passHour_56 : decode cX4_passHour 56 = .ok (.iconst 1, 1) := by decide +kernel
theorem dX4_passHour_57 : decode cX4_passHour 57 = .ok (.invokevirtual 60, 3) := by decide +kernel
theorem dX4_passHour_60 : decode cX4_passHour 60 = .ok (.ifCond .ne 13, 3) := by decide +kernel
theorem dX4_passHour_63 : decode cX4_passHour 63 = .ok (.aload_n 0, 1) := by decide +kernel
theorem dX4_passHour_64 : decode cX4_passHour 64 = .ok (.getfield 15, 3) := by decide +kernel
theorem dX4_passHour_67 : decode cX4_passHour 67 = .ok (.iload_n 3, 1) := by decide +kernel
theorem dX4_passHour_68 : decode cX4_passHour 68 = .ok (.dup2, 1) := by decide +kernel
theorem dX4_passHour_69 : decode cX4_passHour 69 = .ok (.iaload, 1) := by decide +kernel
theorem dX4_passHour_70 : decode cX4_passHour 70 = .ok (.iconst 1, 1) := by decide +kernel
theorem dX4_passHour_71 : decode cX4_passHour 71 = .ok (.isub, 1) := by decide +kernel
theorem dX4_passHour_72 : decode cX4_passHour 72 = .ok (.iastore, 1) := by decide +kernel
theorem dX4_passHour_73 : decode cX4_passHour 73 = .ok (.aload_n 1, 1) := by decide +kernel
theorem dX4_passHour_74 : decode cX4_passHour 74 = .ok (.iload_n 3, 1) := by decide +kernel
theorem dX4_passHour_75 : decode cX4_passHour 75 = .ok (.iconst 4, 1) := by decide +kernel
theorem dX4_passHour_76 : decode cX4_passHour 76 = .ok (.invokevirtual 60, 3) := by decide +kernel
theorem dX4_passHour_79 : decode cX4_passHour 79 = .ok (.ifCond .eq 9, 3) := by decide +kernel
theorem dX4_passHour_82 : decode cX4_passHour 82 = .ok (.aload_n 0, 1) := by decide +kernel
theorem dX4_passHour_83 : decode cX4_passHour 83 = .ok (.aload_n 1, 1) := by decide +kernel
theorem dX4_passHour_84 : decode cX4_passHour 84 = .ok (.iload_n 3, 1) := by decide +kernel
theorem dX4_passHour_85 : decode cX4_passHour 85 = .ok (.invokevirtual 64, 3) := by decide +kernel
theorem dX4_passHour_88 : decode cX4_passHour 88 = .ok (.iinc 3 1, 3) := by decide +kernel
theorem dX4_passHour_91 : decode cX4_passHour 91 = .ok (.goto (-64), 3) := by decide +kernel
theorem dX4_passHour_94 : decode cX4_passHour 94 = .ok (.aload_n 0, 1) := by decide +kernel
theorem dX4_passHour_95 : decode cX4_passHour 95 = .ok (.aload_n 1, 1) := by decide +kernel
theorem dX4_passHour_96 : decode cX4_passHour 96 = .ok (.invokevirtual 53, 3) := by decide +kernel
theorem dX4_passHour_99 : decode cX4_passHour 99 = .ok (.return_, 1) := by decide +kernel
theorem dX4_stepInto_0 : decode cX4_stepInto 0 = .ok (.iconst 0, 1) := by decide +kernel
theorem dX4_stepInto_1 : decode cX4_stepInto 1 = .ok (.istore_n 3, 1) := by decide +kernel
theorem dX4_stepInto_2 : decode cX4_stepInto 2 = .ok (.iload_n 3, 1) := by decide +kernel
theorem dX4_stepInto_3 : decode cX4_stepInto 3 = .ok (.iconst 4, 1) := by decide +kernel
theorem dX4_stepInto_4 : decode cX4_stepInto 4 = .ok (.if_icmp .ge 60, 3) := by decide +kernel
theorem dX4_stepInto_7 : decode cX4_stepInto 7 = .ok (.aload_n 1, 1) := by decide +kernel
theorem dX4_stepInto_8 : decode cX4_stepInto 8 = .ok (.iload_n 2, 1) := by decide +kernel
theorem dX4_stepInto_9 : decode cX4_stepInto 9 = .ok (.iload_n 3, 1) := by decide +kernel
theorem dX4_stepInto_10 : decode cX4_stepInto 10 = .ok (.invokevirtual 68, 3) := by decide +kernel
theorem dX4_stepInto_13 : decode cX4_stepInto 13 = .ok (.istore 4, 2) := by decide +kernel
theorem dX4_stepInto_15 : decode cX4_stepInto 15 = .ok (.aload_n 1, 1) := by decide +kernel
theorem dX4_stepInto_16 : decode cX4_stepInto 16 = .ok (.iload 4, 2) := by decide +kernel
theorem dX4_stepInto_18 : decode cX4_stepInto 18 = .ok (.invokevirtual 71, 3) := by decide +kernel
theorem dX4_stepInto_21 : decode cX4_stepInto 21 = .ok (.ifCond .eq 37, 3) := by decide +kernel
theorem dX4_stepInto_24 : decode cX4_stepInto 24 = .ok (.aload_n 1, 1) := by decide +kernel
theorem dX4_stepInto_25 : decode cX4_stepInto 25 = .ok (.iload_n 2, 1) := by decide +kernel
theorem dX4_stepInto_26 : decode cX4_stepInto 26 = .ok (.invokevirtual 71, 3) := by decide +kernel
theorem dX4_stepInto_29 : decode cX4_stepInto 29 = .ok (.ifCond .eq 29, 3) := by decide +kernel
theorem dX4_stepInto_32 : decode cX4_stepInto 32 = .ok (.aload_n 0, 1) := by decide +kernel
theorem dX4_stepInto_33 : decode cX4_stepInto 33 = .ok (.getfield 15, 3) := by decide +kernel
theorem dX4_stepInto_36 : decode cX4_stepInto 36 = .ok (.iload_n 2, 1) := by decide +kernel
theorem dX4_stepInto_37 : decode cX4_stepInto 37 = .ok (.iaload, 1) := by decide +kernel
theorem dX4_stepInto_38 : decode cX4_stepInto 38 = .ok (.ifCond .le 20, 3) := by decide +kernel
theorem dX4_stepInto_41 : decode cX4_stepInto 41 = .ok (.aload_n 0, 1) := by decide +kernel
theorem dX4_stepInto_42 : decode cX4_stepInto 42 = .ok (.getfield 15, 3) := by decide +kernel
theorem dX4_stepInto_45 : decode cX4_stepInto 45 = .ok (.iload_n 2, 1) := by decide +kernel
theorem dX4_stepInto_46 : decode cX4_stepInto 46 = .ok (.dup2, 1) := by decide +kernel
theorem dX4_stepInto_47 : decode cX4_stepInto 47 = .ok (.iaload, 1) := by decide +kernel
theorem dX4_stepInto_48 : decode cX4_stepInto 48 = .ok (.iconst 1, 1) := by decide +kernel
theorem dX4_stepInto_49 : decode cX4_stepInto 49 = .ok (.isub, 1) := by decide +kernel
theorem dX4_stepInto_50 : decode cX4_stepInto 50 = .ok (.iastore, 1) := by decide +kernel
theorem dX4_stepInto_51 : decode cX4_stepInto 51 = .ok (.aload_n 0, 1) := by decide +kernel
theorem dX4_stepInto_52 : decode cX4_stepInto 52 = .ok (.aload_n 1, 1) := by decide +kernel
theorem dX4_stepInto_53 : decode cX4_stepInto 53 = .ok (.iload 4, 2) := by decide +kernel
theorem dX4_stepInto_55 : decode cX4_stepInto 55 = .ok (.invokevirtual 64, 3) := by decide +kernel
theorem dX4_stepInto_58 : decode cX4_stepInto 58 = .ok (.iinc 3 1, 3) := by decide +kernel
theorem dX4_stepInto_61 : decode cX4_stepInto 61 = .ok (.goto (-59), 3) := by decide +kernel
theorem dX4_stepInto_64 : decode cX4_stepInto 64 = .ok (.aload_n 0, 1) := by decide +kernel
theorem dX4_stepInto_65 : decode cX4_stepInto 65 = .ok (.aload_n 1, 1) := by decide +kernel
theorem dX4_stepInto_66 : decode cX4_stepInto 66 = .ok (.invokevirtual 53, 3) := by decide +kernel
theorem dX4_stepInto_69 : decode cX4_stepInto 69 = .ok (.return_, 1) := by decide +kernel
theorem dX4_putDrop_0 : decode cX4_putDrop 0 = .ok (.aload_n 1, 1) := by decide +kernel
theorem dX4_putDrop_1 : decode cX4_putDrop 1 = .ok (.iload_n 2, 1) := by decide +kernel
theorem dX4_putDrop_2 : decode cX4_putDrop 2 = .ok (.invokevirtual 43, 3) := by decide +kernel
theorem dX4_putDrop_5 : decode cX4_putDrop 5 = .ok (.ifCond .eq 24, 3) := by decide +kernel
theorem dX4_putDrop_8 : decode cX4_putDrop 8 = .ok (.aload_n 0, 1) := by decide +kernel
theorem dX4_putDrop_9 : decode cX4_putDrop 9 = .ok (.getfield 15, 3) := by decide +kernel
theorem dX4_putDrop_12 : decode cX4_putDrop 12 = .ok (.iload_n 2, 1) := by decide +kernel
theorem dX4_putDrop_13 : decode cX4_putDrop 13 = .ok (.iaload, 1) := by decide +kernel
theorem dX4_putDrop_14 : decode cX4_putDrop 14 = .ok (.bipush 60, 2) := by decide +kernel
theorem dX4_putDrop_16 : decode cX4_putDrop 16 = .ok (.if_icmp .ge 13, 3) := by decide +kernel
theorem dX4_putDrop_19 : decode cX4_putDrop 19 = .ok (.aload_n 0, 1) := by decide +kernel
theorem dX4_putDrop_20 : decode cX4_putDrop 20 = .ok (.getfield 15, 3) := by decide +kernel
theorem dX4_putDrop_23 : decode cX4_putDrop 23 = .ok (.iload_n 2, 1) := by decide +kernel
theorem dX4_putDrop_24 : decode cX4_putDrop 24 = .ok (.dup2, 1) := by decide +kernel
theorem dX4_putDrop_25 : decode cX4_putDrop 25 = .ok (.iaload, 1) := by decide +kernel
theorem dX4_putDrop_26 : decode cX4_putDrop 26 = .ok (.iconst 1, 1) := by decide +kernel
theorem dX4_putDrop_27 : decode cX4_putDrop 27 = .ok (.iadd, 1) := by decide +kernel
theorem dX4_putDrop_28 : decode cX4_putDrop 28 = .ok (.iastore, 1) := by decide +kernel
theorem dX4_putDrop_29 : decode cX4_putDrop 29 = .ok (.return_, 1) := by decide +kernel
theorem dX4_flow_0 : decode cX4_flow 0 = .ok (.aload_n 0, 1) := by decide +kernel
theorem dX4_flow_1 : decode cX4_flow 1 = .ok (.aload_n 0, 1) := by decide +kernel
theorem dX4_flow_2 : decode cX4_flow 2 = .ok (.aload_n 1, 1) := by decide +kernel
theorem dX4_flow_3 : decode cX4_flow 3 = .ok (.invokevirtual 74, 3) := by decide +kernel
theorem dX4_flow_6 : decode cX4_flow 6 = .ok (.putfield 22, 3) := by decide +kernel
theorem dX4_flow_9 : decode cX4_flow 9 = .ok (.iconst 0, 1) := by decide +kernel
theorem dX4_flow_10 : decode cX4_flow 10 = .ok (.istore_n 2, 1) := by decide +kernel
theorem dX4_flow_11 : decode cX4_flow 11 = .ok (.aload_n 0, 1) := by decide +kernel
theorem dX4_flow_12 : decode cX4_flow 12 = .ok (.getfield 22, 3) := by decide +kernel
theorem dX4_flow_15 : decode cX4_flow 15 = .ok (.lconst 0, 1) := by decide +kernel
theorem dX4_flow_16 : decode cX4_flow 16 = .ok (.lcmp, 1) := by decide +kernel
theorem dX4_flow_17 : decode cX4_flow 17 = .ok (.ifCond .eq 56, 3) := by decide +kernel
theorem dX4_flow_20 : decode cX4_flow 20 = .ok (.iload_n 2, 1) := by decide +kernel
theorem dX4_flow_21 : decode cX4_flow 21 = .ok (.ldc 78, 2) := by decide +kernel
theorem dX4_flow_23 : decode cX4_flow 23 = .ok (.if_icmp .ge 50, 3) := by decide +kernel
theorem dX4_flow_26 : decode cX4_flow 26 = .ok (.iconst 0, 1) := by decide +kernel
theorem dX4_flow_27 : decode cX4_flow 27 = .ok (.istore_n 3, 1) := by decide +kernel
theorem dX4_flow_28 : decode cX4_flow 28 = .ok (.iload_n 3, 1) := by decide +kernel
theorem dX4_flow_29 : decode cX4_flow 29 = .ok (.aload_n 1, 1) := by decide +kernel
theorem dX4_flow_30 : decode cX4_flow 30 = .ok (.getfield 38, 3) := by decide +kernel
theorem dX4_flow_33 : decode cX4_flow 33 = .ok (.if_icmp .ge 34, 3) := by decide +kernel
theorem dX4_flow_36 : decode cX4_flow 36 = .ok (.iload_n 3, 1) := by decide +kernel
theorem dX4_flow_37 : decode cX4_flow 37 = .ok (.bipush 36, 2) := by decide +kernel
theorem dX4_flow_39 : decode cX4_flow 39 = .ok (.if_icmp .ge 28, 3) := by decide +kernel
theorem dX4_flow_42 : decode cX4_flow 42 = .ok (.aload_n 0, 1) := by decide +kernel
theorem dX4_flow_43 : decode cX4_flow 43 = .ok (.getfield 22, 3) := by decide +kernel
theorem dX4_flow_46 : decode cX4_flow 46 = .ok (.iload_n 3, 1) := by decide +kernel
theorem dX4_flow_47 : decode cX4_flow 47 = .ok (.lshr, 1) := by decide +kernel
theorem dX4_flow_48 : decode cX4_flow 48 = .ok (.lconst 1, 1) := by decide +kernel
theorem dX4_flow_49 : decode cX4_flow 49 = .ok (.land, 1) := by decide +kernel
theorem dX4_flow_50 : decode cX4_flow 50 = .ok (.lconst 1, 1) := by decide +kernel
theorem dX4_flow_51 : decode cX4_flow 51 = .ok (.lcmp, 1) := by decide +kernel
theorem dX4_flow_52 : decode cX4_flow 52 = .ok (.ifCond .ne 9, 3) := by decide +kernel
theorem dX4_flow_55 : decode cX4_flow 55 = .ok (.aload_n 0, 1) := by decide +kernel
theorem dX4_flow_56 : decode cX4_flow 56 = .ok (.aload_n 1, 1) := by decide +kernel
theorem dX4_flow_57 : decode cX4_flow 57 = .ok (.iload_n 3, 1) := by decide +kernel
theorem dX4_flow_58 : decode cX4_flow 58 = .ok (.invokevirtual 79, 3) := by decide +kernel
theorem dX4_flow_61 : decode cX4_flow 61 = .ok (.iinc 3 1, 3) := by decide +kernel
theorem dX4_flow_64 : decode cX4_flow 64 = .ok (.goto (-36), 3) := by decide +kernel
theorem dX4_flow_67 : decode cX4_flow 67 = .ok (.iinc 2 1, 3) := by decide +kernel
theorem dX4_flow_70 : decode cX4_flow 70 = .ok (.goto (-59), 3) := by decide +kernel
theorem dX4_flow_73 : decode cX4_flow 73 = .ok (.return_, 1) := by decide +kernel
theorem dX4_flowFrom_0 : decode cX4_flowFrom 0 = .ok (.aload_n 0, 1) := by decide +kernel
theorem dX4_flowFrom_1 : decode cX4_flowFrom 1 = .ok (.aload_n 1, 1) := by decide +kernel
theorem dX4_flowFrom_2 : decode cX4_flowFrom 2 = .ok (.iload_n 2, 1) := by decide +kernel
theorem dX4_flowFrom_3 : decode cX4_flowFrom 3 = .ok (.invokevirtual 82, 3) := by decide +kernel
theorem dX4_flowFrom_6 : decode cX4_flowFrom 6 = .ok (.istore_n 3, 1) := by decide +kernel
theorem dX4_flowFrom_7 : decode cX4_flowFrom 7 = .ok (.iload_n 3, 1) := by decide +kernel
theorem dX4_flowFrom_8 : decode cX4_flowFrom 8 = .ok (.bipush (-4), 2) := by decide +kernel
theorem dX4_flowFrom_10 : decode cX4_flowFrom 10 = .ok (.if_icmp .ne 22, 3) := by decide +kernel
theorem dX4_flowFrom_13 : decode cX4_flowFrom 13 = .ok (.aload_n 0, 1) := by decide +kernel
theorem dX4_flowFrom_14 : decode cX4_flowFrom 14 = .ok (.dup, 1) := by decide +kernel
theorem dX4_flowFrom_15 : decode cX4_flowFrom 15 = .ok (.getfield 22, 3) := by decide +kernel
theorem dX4_flowFrom_18 : decode cX4_flowFrom 18 = .ok (.lconst 1, 1) := by decide +kernel
theorem dX4_flowFrom_19 : decode cX4_flowFrom 19 = .ok (.iload_n 2, 1) := by decide +kernel
theorem dX4_flowFrom_20 : decode cX4_flowFrom 20 = .ok (.lshl, 1) := by decide +kernel
theorem dX4_flowFrom_21 : decode cX4_flowFrom 21 = .ok (.ldc2_w 86, 3) := by decide +kernel
theorem dX4_flowFrom_24 : decode cX4_flowFrom 24 = .ok (.lxor, 1) := by decide +kernel
theorem dX4_flowFrom_25 : decode cX4_flowFrom 25 = .ok (.land, 1) := by decide +kernel
theorem dX4_flowFrom_26 : decode cX4_flowFrom 26 = .ok (.putfield 22, 3) := by decide +kernel
theorem dX4_flowFrom_29 : decode cX4_flowFrom 29 = .ok (.goto 33, 3) := by decide +kernel
theorem dX4_flowFrom_32 : decode cX4_flowFrom 32 = .ok (.aload_n 0, 1) := by decide +kernel
theorem dX4_flowFrom_33 : decode cX4_flowFrom 33 = .ok (.getfield 15, 3) := by decide +kernel
theorem dX4_flowFrom_36 : decode cX4_flowFrom 36 = .ok (.iload_n 2, 1) := by decide +kernel
theorem dX4_flowFrom_37 : decode cX4_flowFrom 37 = .ok (.dup2, 1) := by decide +kernel
theorem dX4_flowFrom_38 : decode cX4_flowFrom 38 = .ok (.iaload, 1) := by decide +kernel
theorem dX4_flowFrom_39 : decode cX4_flowFrom 39 = .ok (.iconst 1, 1) := by decide +kernel
theorem dX4_flowFrom_40 : decode cX4_flowFrom 40 = .ok (.isub, 1) := by decide +kernel
theorem dX4_flowFrom_41 : decode cX4_flowFrom 41 = .ok (.iastore, 1) := by decide +kernel
theorem dX4_flowFrom_42 : decode cX4_flowFrom 42 = .ok (.aload_n 0, 1) := by decide +kernel
theorem dX4_flowFrom_43 : decode cX4_flowFrom 43 = .ok (.aload_n 1, 1) := by decide +kernel
theorem dX4_flowFrom_44 : decode cX4_flowFrom 44 = .ok (.iload_n 3, 1) := by decide +kernel
theorem dX4_flowFrom_45 : decode cX4_flowFrom 45 = .ok (.invokevirtual 64, 3) := by decide +kernel
theorem dX4_flowFrom_48 : decode cX4_flowFrom 48 = .ok (.aload_n 0, 1) := by decide +kernel
theorem dX4_flowFrom_49 : decode cX4_flowFrom 49 = .ok (.dup, 1) := by decide +kernel
theorem dX4_flowFrom_50 : decode cX4_flowFrom 50 = .ok (.getfield 22, 3) := by decide +kernel
theorem dX4_flowFrom_53 : decode cX4_flowFrom 53 = .ok (.aload_n 1, 1) := by decide +kernel
theorem dX4_flowFrom_54 : decode cX4_flowFrom 54 = .ok (.iload_n 2, 1) := by decide +kernel
theorem dX4_flowFrom_55 : decode cX4_flowFrom 55 = .ok (.invokevirtual 88, 3) := by decide +kernel
theorem dX4_flowFrom_58 : decode cX4_flowFrom 58 = .ok (.lor, 1) := by decide +kernel
theorem dX4_flowFrom_59 : decode cX4_flowFrom 59 = .ok (.putfield 22, 3) := by decide +kernel
theorem dX4_flowFrom_62 : decode cX4_flowFrom 62 = .ok (.return_, 1) := by decide +kernel
theorem dX4_whereTo_0 : decode cX4_whereTo 0 = .ok (.iload_n 2, 1) := by decide +kernel
theorem dX4_whereTo_1 : decode cX4_whereTo 1 = .ok (.iconst 4, 1) := by decide +kernel
theorem dX4_whereTo_2 : decode cX4_whereTo 2 = .ok (.imul, 1) := by decide +kernel
theorem dX4_whereTo_3 : decode cX4_whereTo 3 = .ok (.istore_n 3, 1) := by decide +kernel
theorem dX4_whereTo_4 : decode cX4_whereTo 4 = .ok (.aload_n 1, 1) := by decide +kernel
theorem dX4_whereTo_5 : decode cX4_whereTo 5 = .ok (.iload_n 2, 1) := by decide +kernel
theorem dX4_whereTo_6 : decode cX4_whereTo 6 = .ok (.invokevirtual 71, 3) := by decide +kernel
theorem dX4_whereTo_9 : decode cX4_whereTo 9 = .ok (.ifCond .eq 23, 3) := by decide +kernel
theorem dX4_whereTo_12 : decode cX4_whereTo 12 = .ok (.aload_n 0, 1) := by decide +kernel
theorem dX4_whereTo_13 : decode cX4_whereTo 13 = .ok (.getfield 15, 3) := by decide +kernel
theorem dX4_whereTo_16 : decode cX4_whereTo 16 = .ok (.iload_n 2, 1) := by decide +kernel
theorem dX4_whereTo_17 : decode cX4_whereTo 17 = .ok (.iaload, 1) := by decide +kernel
theorem dX4_whereTo_18 : decode cX4_whereTo 18 = .ok (.ifCond .le 14, 3) := by decide +kernel
theorem dX4_whereTo_21 : decode cX4_whereTo 21 = .ok (.iload_n 3, 1) := by decide +kernel
theorem dX4_whereTo_22 : decode cX4_whereTo 22 = .ok (.iconst 4, 1) := by decide +kernel
theorem dX4_whereTo_23 : decode cX4_whereTo 23 = .ok (.iadd, 1) := by decide +kernel
theorem dX4_whereTo_24 : decode cX4_whereTo 24 = .ok (.aload_n 1, 1) := by decide +kernel
theorem dX4_whereTo_25 : decode cX4_whereTo 25 = .ok (.getfield 92, 3) := by decide +kernel
theorem dX4_whereTo_28 : decode cX4_whereTo 28 = .ok (.arraylength, 1) := by decide +kernel
theorem dX4_whereTo_29 : decode cX4_whereTo 29 = .ok (.if_icmp .le 6, 3) := by decide +kernel
theorem dX4_whereTo_32 : decode cX4_whereTo 32 = .ok (.bipush (-4), 2) := by decide +kernel
theorem dX4_whereTo_34 : decode cX4_whereTo 34 = .ok (.ireturn, 1) := by decide +kernel
theorem dX4_whereTo_35 : decode cX4_whereTo 35 = .ok (.aload_n 0, 1) := by decide +kernel
theorem dX4_whereTo_36 : decode cX4_whereTo 36 = .ok (.getfield 9, 3) := by decide +kernel
theorem dX4_whereTo_39 : decode cX4_whereTo 39 = .ok (.iload_n 2, 1) := by decide +kernel
theorem dX4_whereTo_40 : decode cX4_whereTo 40 = .ok (.iaload, 1) := by decide +kernel
theorem dX4_whereTo_41 : decode cX4_whereTo 41 = .ok (.aload_n 0, 1) := by decide +kernel
theorem dX4_whereTo_42 : decode cX4_whereTo 42 = .ok (.getfield 15, 3) := by decide +kernel
theorem dX4_whereTo_45 : decode cX4_whereTo 45 = .ok (.iload_n 2, 1) := by decide +kernel
theorem dX4_whereTo_46 : decode cX4_whereTo 46 = .ok (.iaload, 1) := by decide +kernel
theorem dX4_whereTo_47 : decode cX4_whereTo 47 = .ok (.iadd, 1) := by decide +kernel
theorem dX4_whereTo_48 : decode cX4_whereTo 48 = .ok (.istore 4, 2) := by decide +kernel
theorem dX4_whereTo_50 : decode cX4_whereTo 50 = .ok (.bipush (-4), 2) := by decide +kernel
theorem dX4_whereTo_52 : decode cX4_whereTo 52 = .ok (.istore 5, 2) := by decide +kernel
theorem dX4_whereTo_54 : decode cX4_whereTo 54 = .ok (.iload 4, 2) := by decide +kernel
theorem dX4_whereTo_56 : decode cX4_whereTo 56 = .ok (.istore 6, 2) := by decide +kernel
theorem dX4_whereTo_58 : decode cX4_whereTo 58 = .ok (.iload_n 3, 1) := by decide +kernel
theorem dX4_whereTo_59 : decode cX4_whereTo 59 = .ok (.istore 7, 2) := by decide +kernel
theorem dX4_whereTo_61 : decode cX4_whereTo 61 = .ok (.iload 7, 2) := by decide +kernel
theorem dX4_whereTo_63 : decode cX4_whereTo 63 = .ok (.iload_n 3, 1) := by decide +kernel
theorem dX4_whereTo_64 : decode cX4_whereTo 64 = .ok (.iconst 4, 1) := by decide +kernel
theorem dX4_whereTo_65 : decode cX4_whereTo 65 = .ok (.iadd, 1) := by decide +kernel
theorem dX4_whereTo_66 : decode cX4_whereTo 66 = .ok (.if_icmp .ge 94, 3) := by decide +kernel
theorem dX4_whereTo_69 : decode cX4_whereTo 69 = .ok (.aload_n 1, 1) := by decide +kernel
theorem dX4_whereTo_70 : decode cX4_whereTo 70 = .ok (.getfield 92, 3) := by decide +kernel
theorem dX4_whereTo_73 : decode cX4_whereTo 73 = .ok (.iload 7, 2) := by decide +kernel
theorem dX4_whereTo_75 : decode cX4_whereTo 75 = .ok (.iaload, 1) := by decide +kernel
theorem dX4_whereTo_76 : decode cX4_whereTo 76 = .ok (.istore 8, 2) := by decide +kernel
theorem dX4_whereTo_78 : decode cX4_whereTo 78 = .ok (.iload 8, 2) := by decide +kernel
theorem dX4_whereTo_80 : decode cX4_whereTo 80 = .ok (.ifCond .lt 74, 3) := by decide +kernel
theorem dX4_whereTo_83 : decode cX4_whereTo 83 = .ok (.iload 8, 2) := by decide +kernel
theorem dX4_whereTo_85 : decode cX4_whereTo 85 = .ok (.bipush 36, 2) := by decide +kernel
theorem dX4_whereTo_87 : decode cX4_whereTo 87 = .ok (.if_icmp .ge 67, 3) := by decide +kernel
theorem dX4_whereTo_90 : decode cX4_whereTo 90 = .ok (.aload_n 0, 1) := by decide +kernel
theorem dX4_whereTo_91 : decode cX4_whereTo 91 = .ok (.getfield 9, 3) := by decide +kernel
theorem dX4_whereTo_94 : decode cX4_whereTo 94 = .ok (.iload 8, 2) := by decide +kernel
theorem dX4_whereTo_96 : decode cX4_whereTo 96 = .ok (.iaload, 1) := by decide +kernel
theorem dX4_whereTo_97 : decode cX4_whereTo 97 = .ok (.aload_n 0, 1) := by decide +kernel
theorem dX4_whereTo_98 : decode cX4_whereTo 98 = .ok (.getfield 15, 3) := by decide +kernel
theorem dX4_whereTo_101 : decode cX4_whereTo 101 = .ok (.iload 8, 2) := by decide +kernel
theorem dX4_whereTo_103 : decode cX4_whereTo 103 = .ok (.iaload, 1) := by decide +kernel
theorem dX4_whereTo_104 : decode cX4_whereTo 104 = .ok (.iadd, 1) := by decide +kernel
theorem dX4_whereTo_105 : decode cX4_whereTo 105 = .ok (.istore 9, 2) := by decide +kernel
theorem dX4_whereTo_107 : decode cX4_whereTo 107 = .ok (.iload 9, 2) := by decide +kernel
theorem dX4_whereTo_109 : decode cX4_whereTo 109 = .ok (.iload 4, 2) := by decide +kernel
theorem dX4_whereTo_111 : decode cX4_whereTo 111 = .ok (.iconst 2, 1) := by decide +kernel
theorem dX4_whereTo_112 : decode cX4_whereTo 112 = .ok (.isub, 1) := by decide +kernel
theorem dX4_whereTo_113 : decode cX4_whereTo 113 = .ok (.if_icmp .le 14, 3) := by decide +kernel
theorem dX4_whereTo_116 : decode cX4_whereTo 116 = .ok (.aload_n 1, 1) := by decide +kernel
theorem dX4_whereTo_117 : decode cX4_whereTo 117 = .ok (.getfield 95, 3) := by decide +kernel
theorem dX4_whereTo_120 : decode cX4_whereTo 120 = .ok (.iload 8, 2) := by decide +kernel
theorem dX4_whereTo_122 : decode cX4_whereTo 122 = .ok (.iaload, 1) := by decide +kernel
theorem dX4_whereTo_123 : decode cX4_whereTo 123 = .ok (.iconst 2, 1) := by decide +kernel
theorem dX4_whereTo_124 : decode cX4_whereTo 124 = .ok (.if_icmp .ne 7, 3) := by decide +kernel
theorem dX4_whereTo_127 : decode cX4_whereTo 127 = .ok (.iconst 1, 1) := by decide +kernel
end
section
theorem dX4_whereTo_128 : decode cX4_whereTo 128 = .ok (.goto 4, 3) := by decide +kernel
theorem dX4_whereTo_131 : decode cX4_whereTo 131 = .ok (.iconst 0, 1) := by decide +kernel
theorem dX4_whereTo_132 : decode cX4_whereTo 132 = .ok (.istore 10, 2) := by decide +kernel
theorem dX4_whereTo_134 : decode cX4_whereTo 134 = .ok (.iload 10, 2) := by decide +kernel
theorem dX4_whereTo_136 : decode cX4_whereTo 136 = .ok (.ifCond .eq 18, 3) := by decide +kernel
theorem dX4_whereTo_139 : decode cX4_whereTo 139 = .ok (.iload 9, 2) := by decide +kernel
theorem dX4_whereTo_141 : decode cX4_whereTo 141 = .ok (.iload 6, 2) := by decide +kernel
theorem dX4_whereTo_143 : decode cX4_whereTo 143 = .ok (.if_icmp .ge 11, 3) := by decide +kernel
theorem dX4_whereTo_146 : decode cX4_whereTo 146 = .ok (.iload 8, 2) := by decide +kernel
theorem dX4_whereTo_148 : decode cX4_whereTo 148 = .ok (.istore 5, 2) := by decide +kernel
theorem dX4_whereTo_150 : decode cX4_whereTo 150 = .ok (.iload 9, 2) := by decide +kernel
theorem dX4_whereTo_152 : decode cX4_whereTo 152 = .ok (.istore 6, 2) := by decide +kernel
theorem dX4_whereTo_154 : decode cX4_whereTo 154 = .ok (.iinc 7 1, 3) := by decide +kernel
theorem dX4_whereTo_157 : decode cX4_whereTo 157 = .ok (.goto (-96), 3) := by decide +kernel
theorem dX4_whereTo_160 : decode cX4_whereTo 160 = .ok (.iload 5, 2) := by decide +kernel
theorem dX4_whereTo_162 : decode cX4_whereTo 162 = .ok (.ireturn, 1) := by decide +kernel
theorem dX5_init_0 : decode cX5_init 0 = .ok (.aload_n 0, 1) := by decide +kernel
theorem dX5_init_1 : decode cX5_init 1 = .ok (.invokespecial 5, 3) := by decide +kernel
theorem dX5_init_4 : decode cX5_init 4 = .ok (.aload_n 0, 1) := by decide +kernel
theorem dX5_init_5 : decode cX5_init 5 = .ok (.new 11, 3) := by decide +kernel
theorem dX5_init_8 : decode cX5_init 8 = .ok (.dup, 1) := by decide +kernel
theorem dX5_init_9 : decode cX5_init 9 = .ok (.invokespecial 13, 3) := by decide +kernel
theorem dX5_init_12 : decode cX5_init 12 = .ok (.putfield 14, 3) := by decide +kernel
theorem dX5_init_15 : decode cX5_init 15 = .ok (.aload_n 0, 1) := by decide +kernel
theorem dX5_init_16 : decode cX5_init 16 = .ok (.new 18, 3) := by decide +kernel
theorem dX5_init_19 : decode cX5_init 19 = .ok (.dup, 1) := by decide +kernel
theorem dX5_init_20 : decode cX5_init 20 = .ok (.invokespecial 20, 3) := by decide +kernel
theorem dX5_init_23 : decode cX5_init 23 = .ok (.putfield 21, 3) := by decide +kernel
theorem dX5_init_26 : decode cX5_init 26 = .ok (.aload_n 0, 1) := by decide +kernel
theorem dX5_init_27 : decode cX5_init 27 = .ok (.new 25, 3) := by decide +kernel
theorem dX5_init_30 : decode cX5_init 30 = .ok (.dup, 1) := by decide +kernel
theorem dX5_init_31 : decode cX5_init 31 = .ok (.invokespecial 27, 3) := by decide +kernel
theorem dX5_init_34 : decode cX5_init 34 = .ok (.putfield 28, 3) := by decide +kernel
theorem dX5_init_37 : decode cX5_init 37 = .ok (.aload_n 0, 1) := by decide +kernel
theorem dX5_init_38 : decode cX5_init 38 = .ok (.new 18, 3) := by decide +kernel
theorem dX5_init_41 : decode cX5_init 41 = .ok (.dup, 1) := by decide +kernel
theorem dX5_init_42 : decode cX5_init 42 = .ok (.invokespecial 20, 3) := by decide +kernel
theorem dX5_init_45 : decode cX5_init 45 = .ok (.putfield 32, 3) := by decide +kernel
theorem dX5_init_48 : decode cX5_init 48 = .ok (.aload_n 0, 1) := by decide +kernel
theorem dX5_init_49 : decode cX5_init 49 = .ok (.new 25, 3) := by decide +kernel
theorem dX5_init_52 : decode cX5_init 52 = .ok (.dup, 1) := by decide +kernel
theorem dX5_init_53 : decode cX5_init 53 = .ok (.invokespecial 27, 3) := by decide +kernel
theorem dX5_init_56 : decode cX5_init 56 = .ok (.putfield 35, 3) := by decide +kernel
theorem dX5_init_59 : decode cX5_init 59 = .ok (.aload_n 0, 1) := by decide +kernel
theorem dX5_init_60 : decode cX5_init 60 = .ok (.new 38, 3) := by decide +kernel
theorem dX5_init_63 : decode cX5_init 63 = .ok (.dup, 1) := by decide +kernel
theorem dX5_init_64 : decode cX5_init 64 = .ok (.invokespecial 40, 3) := by decide +kernel
theorem dX5_init_67 : decode cX5_init 67 = .ok (.putfield 41, 3) := by decide +kernel
theorem dX5_init_70 : decode cX5_init 70 = .ok (.aload_n 0, 1) := by decide +kernel
theorem dX5_init_71 : decode cX5_init 71 = .ok (.new 45, 3) := by decide +kernel
theorem dX5_init_74 : decode cX5_init 74 = .ok (.dup, 1) := by decide +kernel
theorem dX5_init_75 : decode cX5_init 75 = .ok (.invokespecial 47, 3) := by decide +kernel
theorem dX5_init_78 : decode cX5_init 78 = .ok (.putfield 48, 3) := by decide +kernel
theorem dX5_init_81 : decode cX5_init 81 = .ok (.aload_n 0, 1) := by decide +kernel
theorem dX5_init_82 : decode cX5_init 82 = .ok (.new 45, 3) := by decide +kernel
theorem dX5_init_85 : decode cX5_init 85 = .ok (.dup, 1) := by decide +kernel
theorem dX5_init_86 : decode cX5_init 86 = .ok (.invokespecial 47, 3) := by decide +kernel
theorem dX5_init_89 : decode cX5_init 89 = .ok (.putfield 52, 3) := by decide +kernel
theorem dX5_init_92 : decode cX5_init 92 = .ok (.aload_n 0, 1) := by decide +kernel
theorem dX5_init_93 : decode cX5_init 93 = .ok (.bipush 6, 2) := by decide +kernel
theorem dX5_init_95 : decode cX5_init 95 = .ok (.newarray .int, 2) := by decide +kernel
theorem dX5_init_97 : decode cX5_init 97 = .ok (.putfield 55, 3) := by decide +kernel
theorem dX5_init_100 : decode cX5_init 100 = .ok (.aload_n 0, 1) := by decide +kernel
theorem dX5_init_101 : decode cX5_init 101 = .ok (.bipush 6, 2) := by decide +kernel
theorem dX5_init_103 : decode cX5_init 103 = .ok (.newarray .int, 2) := by decide +kernel
theorem dX5_init_105 : decode cX5_init 105 = .ok (.putfield 59, 3) := by decide +kernel
theorem dX5_init_108 : decode cX5_init 108 = .ok (.aload_n 0, 1) := by decide +kernel
theorem dX5_init_109 : decode cX5_init 109 = .ok (.iconst 0, 1) := by decide +kernel
theorem dX5_init_110 : decode cX5_init 110 = .ok (.putfield 62, 3) := by decide +kernel
theorem dX5_init_113 : decode cX5_init 113 = .ok (.iconst 0, 1) := by decide +kernel
theorem dX5_init_114 : decode cX5_init 114 = .ok (.istore_n 1, 1) := by decide +kernel
theorem dX5_init_115 : decode cX5_init 115 = .ok (.iload_n 1, 1) := by decide +kernel
theorem dX5_init_116 : decode cX5_init 116 = .ok (.ldc 66, 2) := by decide +kernel
theorem dX5_init_118 : decode cX5_init 118 = .ok (.invokevirtual 68, 3) := by decide +kernel
theorem dX5_init_121 : decode cX5_init 121 = .ok (.if_icmp .ge 22, 3) := by decide +kernel
theorem dX5_init_124 : decode cX5_init 124 = .ok (.aload_n 0, 1) := by decide +kernel
theorem dX5_init_125 : decode cX5_init 125 = .ok (.getfield 14, 3) := by decide +kernel
theorem dX5_init_128 : decode cX5_init 128 = .ok (.ldc 66, 2) := by decide +kernel
theorem dX5_init_130 : decode cX5_init 130 = .ok (.iload_n 1, 1) := by decide +kernel
theorem dX5_init_131 : decode cX5_init 131 = .ok (.invokevirtual 74, 3) := by decide +kernel
theorem dX5_init_134 : decode cX5_init 134 = .ok (.invokevirtual 78, 3) := by decide +kernel
theorem dX5_init_137 : decode cX5_init 137 = .ok (.iinc 1 1, 3) := by decide +kernel
theorem dX5_init_140 : decode cX5_init 140 = .ok (.goto (-25), 3) := by decide +kernel
theorem dX5_init_143 : decode cX5_init 143 = .ok (.aload_n 0, 1) := by decide +kernel
theorem dX5_init_144 : decode cX5_init 144 = .ok (.invokevirtual 82, 3) := by decide +kernel
theorem dX5_init_147 : decode cX5_init 147 = .ok (.pop, 1) := by decide +kernel
theorem dX5_init_148 : decode cX5_init 148 = .ok (.aload_n 0, 1) := by decide +kernel
theorem dX5_init_149 : decode cX5_init 149 = .ok (.getfield 14, 3) := by decide +kernel
theorem dX5_init_152 : decode cX5_init 152 = .ok (.invokevirtual 86, 3) := by decide +kernel
theorem dX5_init_155 : decode cX5_init 155 = .ok (.return_, 1) := by decide +kernel
theorem dX5_write_0 : decode cX5_write 0 = .ok (.iload_n 1, 1) := by decide +kernel
theorem dX5_write_1 : decode cX5_write 1 = .ok (.bipush 32, 2) := by decide +kernel
theorem dX5_write_3 : decode cX5_write 3 = .ok (.if_icmp .lt 9, 3) := by decide +kernel
theorem dX5_write_6 : decode cX5_write 6 = .ok (.iload_n 1, 1) := by decide +kernel
theorem dX5_write_7 : decode cX5_write 7 = .ok (.bipush 126, 2) := by decide +kernel
theorem dX5_write_9 : decode cX5_write 9 = .ok (.if_icmp .le 5, 3) := by decide +kernel
theorem dX5_write_12 : decode cX5_write 12 = .ok (.iconst (-1), 1) := by decide +kernel
theorem dX5_write_13 : decode cX5_write 13 = .ok (.ireturn, 1) := by decide +kernel
theorem dX5_write_14 : decode cX5_write 14 = .ok (.aload_n 0, 1) := by decide +kernel
theorem dX5_write_15 : decode cX5_write 15 = .ok (.getfield 14, 3) := by decide +kernel
theorem dX5_write_18 : decode cX5_write 18 = .ok (.getfield 89, 3) := by decide +kernel
theorem dX5_write_21 : decode cX5_write 21 = .ok (.sipush 200, 3) := by decide +kernel
theorem dX5_write_24 : decode cX5_write 24 = .ok (.if_icmp .lt 6, 3) := by decide +kernel
theorem dX5_write_27 : decode cX5_write 27 = .ok (.bipush (-3), 2) := by decide +kernel
theorem dX5_write_29 : decode cX5_write 29 = .ok (.ireturn, 1) := by decide +kernel
theorem dX5_write_30 : decode cX5_write 30 = .ok (.aload_n 0, 1) := by decide +kernel
theorem dX5_write_31 : decode cX5_write 31 = .ok (.getfield 14, 3) := by decide +kernel
theorem dX5_write_34 : decode cX5_write 34 = .ok (.iload_n 1, 1) := by decide +kernel
theorem dX5_write_35 : decode cX5_write 35 = .ok (.i2c, 1) := by decide +kernel
theorem dX5_write_36 : decode cX5_write 36 = .ok (.invokevirtual 78, 3) := by decide +kernel
theorem dX5_write_39 : decode cX5_write 39 = .ok (.aload_n 0, 1) := by decide +kernel
theorem dX5_write_40 : decode cX5_write 40 = .ok (.getfield 14, 3) := by decide +kernel
theorem dX5_write_43 : decode cX5_write 43 = .ok (.getfield 89, 3) := by decide +kernel
theorem dX5_write_46 : decode cX5_write 46 = .ok (.ireturn, 1) := by decide +kernel
theorem dX5_wipe_0 : decode cX5_wipe 0 = .ok (.aload_n 0, 1) := by decide +kernel
theorem dX5_wipe_1 : decode cX5_wipe 1 = .ok (.getfield 14, 3) := by decide +kernel
theorem dX5_wipe_4 : decode cX5_wipe 4 = .ok (.getfield 89, 3) := by decide +kernel
theorem dX5_wipe_7 : decode cX5_wipe 7 = .ok (.istore_n 1, 1) := by decide +kernel
theorem dX5_wipe_8 : decode cX5_wipe 8 = .ok (.aload_n 0, 1) := by decide +kernel
theorem dX5_wipe_9 : decode cX5_wipe 9 = .ok (.getfield 14, 3) := by decide +kernel
theorem dX5_wipe_12 : decode cX5_wipe 12 = .ok (.invokevirtual 86, 3) := by decide +kernel
theorem dX5_wipe_15 : decode cX5_wipe 15 = .ok (.iload_n 1, 1) := by decide +kernel
theorem dX5_wipe_16 : decode cX5_wipe 16 = .ok (.ireturn, 1) := by decide +kernel
theorem dX5_fault_0 : decode cX5_fault 0 = .ok (.aload_n 0, 1) := by decide +kernel
theorem dX5_fault_1 : decode cX5_fault 1 = .ok (.getfield 14, 3) := by decide +kernel
theorem dX5_fault_4 : decode cX5_fault 4 = .ok (.aload_n 0, 1) := by decide +kernel
theorem dX5_fault_5 : decode cX5_fault 5 = .ok (.getfield 32, 3) := by decide +kernel
theorem dX5_fault_8 : decode cX5_fault 8 = .ok (.aload_n 0, 1) := by decide +kernel
theorem dX5_fault_9 : decode cX5_fault 9 = .ok (.getfield 35, 3) := by decide +kernel
theorem dX5_fault_12 : decode cX5_fault 12 = .ok (.invokevirtual 91, 3) := by decide +kernel
theorem dX5_fault_15 : decode cX5_fault 15 = .ok (.ireturn, 1) := by decide +kernel
theorem dX5_lay_0 : decode cX5_lay 0 = .ok (.aload_n 0, 1) := by decide +kernel
theorem dX5_lay_1 : decode cX5_lay 1 = .ok (.getfield 14, 3) := by decide +kernel
theorem dX5_lay_4 : decode cX5_lay 4 = .ok (.getfield 89, 3) := by decide +kernel
theorem dX5_lay_7 : decode cX5_lay 7 = .ok (.ifCond .eq 10, 3) := by decide +kernel
theorem dX5_lay_10 : decode cX5_lay 10 = .ok (.aload_n 0, 1) := by decide +kernel
theorem dX5_lay_11 : decode cX5_lay 11 = .ok (.invokevirtual 82, 3) := by decide +kernel
theorem dX5_lay_14 : decode cX5_lay 14 = .ok (.ifCond .ne 6, 3) := by decide +kernel
theorem dX5_lay_17 : decode cX5_lay 17 = .ok (.bipush (-2), 2) := by decide +kernel
theorem dX5_lay_19 : decode cX5_lay 19 = .ok (.ireturn, 1) := by decide +kernel
theorem dX5_lay_20 : decode cX5_lay 20 = .ok (.aload_n 0, 1) := by decide +kernel
theorem dX5_lay_21 : decode cX5_lay 21 = .ok (.getfield 21, 3) := by decide +kernel
theorem dX5_lay_24 : decode cX5_lay 24 = .ok (.getfield 95, 3) := by decide +kernel
theorem dX5_lay_27 : decode cX5_lay 27 = .ok (.ireturn, 1) := by decide +kernel
theorem dX5_cell_0 : decode cX5_cell 0 = .ok (.aload_n 0, 1) := by decide +kernel
theorem dX5_cell_1 : decode cX5_cell 1 = .ok (.getfield 21, 3) := by decide +kernel
theorem dX5_cell_4 : decode cX5_cell 4 = .ok (.iload_n 1, 1) := by decide +kernel
theorem dX5_cell_5 : decode cX5_cell 5 = .ok (.invokevirtual 98, 3) := by decide +kernel
theorem dX5_cell_8 : decode cX5_cell 8 = .ok (.ifCond .eq 12, 3) := by decide +kernel
theorem dX5_cell_11 : decode cX5_cell 11 = .ok (.iload_n 2, 1) := by decide +kernel
theorem dX5_cell_12 : decode cX5_cell 12 = .ok (.iconst 0, 1) := by decide +kernel
theorem dX5_cell_13 : decode cX5_cell 13 = .ok (.iconst 5, 1) := by decide +kernel
theorem dX5_cell_14 : decode cX5_cell 14 = .ok (.invokestatic 102, 3) := by decide +kernel
theorem dX5_cell_17 : decode cX5_cell 17 = .ok (.ifCond .ne 5, 3) := by decide +kernel
theorem dX5_cell_20 : decode cX5_cell 20 = .ok (.iconst (-1), 1) := by decide +kernel
theorem dX5_cell_21 : decode cX5_cell 21 = .ok (.ireturn, 1) := by decide +kernel
theorem dX5_cell_22 : decode cX5_cell 22 = .ok (.iload_n 2, 1) := by decide +kernel
theorem dX5_cell_23 : decode cX5_cell 23 = .ok (.ifCond .ne 13, 3) := by decide +kernel
theorem dX5_cell_26 : decode cX5_cell 26 = .ok (.aload_n 0, 1) := by decide +kernel
theorem dX5_cell_27 : decode cX5_cell 27 = .ok (.getfield 28, 3) := by decide +kernel
theorem dX5_cell_30 : decode cX5_cell 30 = .ok (.getfield 106, 3) := by decide +kernel
theorem dX5_cell_33 : decode cX5_cell 33 = .ok (.iload_n 1, 1) := by decide +kernel
theorem dX5_cell_34 : decode cX5_cell 34 = .ok (.iaload, 1) := by decide +kernel
theorem dX5_cell_35 : decode cX5_cell 35 = .ok (.ireturn, 1) := by decide +kernel
theorem dX5_cell_36 : decode cX5_cell 36 = .ok (.iload_n 2, 1) := by decide +kernel
theorem dX5_cell_37 : decode cX5_cell 37 = .ok (.iconst 1, 1) := by decide +kernel
theorem dX5_cell_38 : decode cX5_cell 38 = .ok (.if_icmp .ne 13, 3) := by decide +kernel
theorem dX5_cell_41 : decode cX5_cell 41 = .ok (.aload_n 0, 1) := by decide +kernel
theorem dX5_cell_42 : decode cX5_cell 42 = .ok (.getfield 21, 3) := by decide +kernel
theorem dX5_cell_45 : decode cX5_cell 45 = .ok (.getfield 109, 3) := by decide +kernel
theorem dX5_cell_48 : decode cX5_cell 48 = .ok (.iload_n 1, 1) := by decide +kernel
theorem dX5_cell_49 : decode cX5_cell 49 = .ok (.iaload, 1) := by decide +kernel
theorem dX5_cell_50 : decode cX5_cell 50 = .ok (.ireturn, 1) := by decide +kernel
theorem dX5_cell_51 : decode cX5_cell 51 = .ok (.iload_n 2, 1) := by decide +kernel
theorem dX5_cell_52 : decode cX5_cell 52 = .ok (.iconst 2, 1) := by decide +kernel
theorem dX5_cell_53 : decode cX5_cell 53 = .ok (.if_icmp .ne 13, 3) := by decide +kernel
theorem dX5_cell_56 : decode cX5_cell 56 = .ok (.aload_n 0, 1) := by decide +kernel
theorem dX5_cell_57 : decode cX5_cell 57 = .ok (.getfield 28, 3) := by decide +kernel
theorem dX5_cell_60 : decode cX5_cell 60 = .ok (.getfield 112, 3) := by decide +kernel
theorem dX5_cell_63 : decode cX5_cell 63 = .ok (.iload_n 1, 1) := by decide +kernel
theorem dX5_cell_64 : decode cX5_cell 64 = .ok (.iaload, 1) := by decide +kernel
theorem dX5_cell_65 : decode cX5_cell 65 = .ok (.ireturn, 1) := by decide +kernel
theorem dX5_cell_66 : decode cX5_cell 66 = .ok (.aload_n 0, 1) := by decide +kernel
theorem dX5_cell_67 : decode cX5_cell 67 = .ok (.getfield 41, 3) := by decide +kernel
theorem dX5_cell_70 : decode cX5_cell 70 = .ok (.aload_n 0, 1) := by decide +kernel
theorem dX5_cell_71 : decode cX5_cell 71 = .ok (.getfield 21, 3) := by decide +kernel
theorem dX5_cell_74 : decode cX5_cell 74 = .ok (.aload_n 0, 1) := by decide +kernel
theorem dX5_cell_75 : decode cX5_cell 75 = .ok (.getfield 28, 3) := by decide +kernel
theorem dX5_cell_78 : decode cX5_cell 78 = .ok (.invokevirtual 115, 3) := by decide +kernel
theorem dX5_cell_81 : decode cX5_cell 81 = .ok (.iload_n 2, 1) := by decide +kernel
theorem dX5_cell_82 : decode cX5_cell 82 = .ok (.iconst 3, 1) := by decide +kernel
theorem dX5_cell_83 : decode cX5_cell 83 = .ok (.if_icmp .ne 12, 3) := by decide +kernel
theorem dX5_cell_86 : decode cX5_cell 86 = .ok (.aload_n 0, 1) := by decide +kernel
theorem dX5_cell_87 : decode cX5_cell 87 = .ok (.getfield 41, 3) := by decide +kernel
theorem dX5_cell_90 : decode cX5_cell 90 = .ok (.iload_n 1, 1) := by decide +kernel
theorem dX5_cell_91 : decode cX5_cell 91 = .ok (.invokevirtual 119, 3) := by decide +kernel
theorem dX5_cell_94 : decode cX5_cell 94 = .ok (.ireturn, 1) := by decide +kernel
theorem dX5_cell_95 : decode cX5_cell 95 = .ok (.iload_n 2, 1) := by decide +kernel
theorem dX5_cell_96 : decode cX5_cell 96 = .ok (.iconst 4, 1) := by decide +kernel
theorem dX5_cell_97 : decode cX5_cell 97 = .ok (.if_icmp .ne 14, 3) := by decide +kernel
theorem dX5_cell_100 : decode cX5_cell 100 = .ok (.aload_n 0, 1) := by decide +kernel
theorem dX5_cell_101 : decode cX5_cell 101 = .ok (.getfield 41, 3) := by decide +kernel
theorem dX5_cell_104 : decode cX5_cell 104 = .ok (.iload_n 1, 1) := by decide +kernel
theorem dX5_cell_105 : decode cX5_cell 105 = .ok (.invokevirtual 123, 3) := by decide +kernel
theorem dX5_cell_108 : decode cX5_cell 108 = .ok (.goto 15, 3) := by decide +kernel
theorem dX5_cell_111 : decode cX5_cell 111 = .ok (.aload_n 0, 1) := by decide +kernel
theorem dX5_cell_112 : decode cX5_cell 112 = .ok (.getfield 41, 3) := by decide +kernel
theorem dX5_cell_115 : decode cX5_cell 115 = .ok (.iload_n 1, 1) := by decide +kernel
theorem dX5_cell_116 : decode cX5_cell 116 = .ok (.aload_n 0, 1) := by decide +kernel
theorem dX5_cell_117 : decode cX5_cell 117 = .ok (.getfield 28, 3) := by decide +kernel
theorem dX5_cell_120 : decode cX5_cell 120 = .ok (.invokevirtual 126, 3) := by decide +kernel
theorem dX5_cell_123 : decode cX5_cell 123 = .ok (.ireturn, 1) := by decide +kernel
theorem dX5_rain_0 : decode cX5_rain 0 = .ok (.iload_n 1, 1) := by decide +kernel
theorem dX5_rain_1 : decode cX5_rain 1 = .ok (.iconst 1, 1) := by decide +kernel
theorem dX5_rain_2 : decode cX5_rain 2 = .ok (.bipush 9, 2) := by decide +kernel
theorem dX5_rain_4 : decode cX5_rain 4 = .ok (.invokestatic 102, 3) := by decide +kernel
theorem dX5_rain_7 : decode cX5_rain 7 = .ok (.ifCond .ne 5, 3) := by decide +kernel
theorem dX5_rain_10 : decode cX5_rain 10 = .ok (.iconst (-1), 1) := by decide +kernel
theorem dX5_rain_11 : decode cX5_rain 11 = .ok (.ireturn, 1) := by decide +kernel
theorem dX5_rain_12 : decode cX5_rain 12 = .ok (.aload_n 0, 1) := by decide +kernel
theorem dX5_rain_13 : decode cX5_rain 13 = .ok (.getfield 48, 3) := by decide +kernel
theorem dX5_rain_16 : decode cX5_rain 16 = .ok (.aload_n 0, 1) := by decide +kernel
theorem dX5_rain_17 : decode cX5_rain 17 = .ok (.getfield 28, 3) := by decide +kernel
theorem dX5_rain_20 : decode cX5_rain 20 = .ok (.invokevirtual 130, 3) := by decide +kernel
theorem dX5_rain_23 : decode cX5_rain 23 = .ok (.aload_n 0, 1) := by decide +kernel
theorem dX5_rain_24 : decode cX5_rain 24 = .ok (.getfield 28, 3) := by decide +kernel
theorem dX5_rain_27 : decode cX5_rain 27 = .ok (.aload_n 0, 1) := by decide +kernel
theorem dX5_rain_28 : decode cX5_rain 28 = .ok (.getfield 21, 3) := by decide +kernel
theorem dX5_rain_31 : decode cX5_rain 31 = .ok (.iload_n 1, 1) := by decide +kernel
theorem dX5_rain_32 : decode cX5_rain 32 = .ok (.invokevirtual 134, 3) := by decide +kernel
theorem dX5_rain_35 : decode cX5_rain 35 = .ok (.aload_n 0, 1) := by decide +kernel
theorem dX5_rain_36 : decode cX5_rain 36 = .ok (.getfield 28, 3) := by decide +kernel
theorem dX5_rain_39 : decode cX5_rain 39 = .ok (.aload_n 0, 1) := by decide +kernel
theorem dX5_rain_40 : decode cX5_rain 40 = .ok (.getfield 21, 3) := by decide +kernel
theorem dX5_rain_43 : decode cX5_rain 43 = .ok (.invokevirtual 138, 3) := by decide +kernel
theorem dX5_rain_46 : decode cX5_rain 46 = .ok (.ireturn, 1) := by decide +kernel
theorem dX5_shine_0 : decode cX5_shine 0 = .ok (.iload_n 1, 1) := by decide +kernel
theorem dX5_shine_1 : decode cX5_shine 1 = .ok (.iconst 1, 1) := by decide +kernel
theorem dX5_shine_2 : decode cX5_shine 2 = .ok (.bipush 20, 2) := by decide +kernel
theorem dX5_shine_4 : decode cX5_shine 4 = .ok (.invokestatic 102, 3) := by decide +kernel
theorem dX5_shine_7 : decode cX5_shine 7 = .ok (.ifCond .ne 5, 3) := by decide +kernel
theorem dX5_shine_10 : decode cX5_shine 10 = .ok (.iconst (-1), 1) := by decide +kernel
theorem dX5_shine_11 : decode cX5_shine 11 = .ok (.ireturn, 1) := by decide +kernel
theorem dX5_shine_12 : decode cX5_shine 12 = .ok (.aload_n 0, 1) := by decide +kernel
theorem dX5_shine_13 : decode cX5_shine 13 = .ok (.getfield 48, 3) := by decide +kernel
theorem dX5_shine_16 : decode cX5_shine 16 = .ok (.aload_n 0, 1) := by decide +kernel
theorem dX5_shine_17 : decode cX5_shine 17 = .ok (.getfield 28, 3) := by decide +kernel
theorem dX5_shine_20 : decode cX5_shine 20 = .ok (.invokevirtual 130, 3) := by decide +kernel
theorem dX5_shine_23 : decode cX5_shine 23 = .ok (.aload_n 0, 1) := by decide +kernel
theorem dX5_shine_24 : decode cX5_shine 24 = .ok (.getfield 28, 3) := by decide +kernel
theorem dX5_shine_27 : decode cX5_shine 27 = .ok (.aload_n 0, 1) := by decide +kernel
theorem dX5_shine_28 : decode cX5_shine 28 = .ok (.getfield 21, 3) := by decide +kernel
theorem dX5_shine_31 : decode cX5_shine 31 = .ok (.iload_n 1, 1) := by decide +kernel
theorem dX5_shine_32 : decode cX5_shine 32 = .ok (.invokevirtual 142, 3) := by decide +kernel
theorem dX5_shine_35 : decode cX5_shine 35 = .ok (.aload_n 0, 1) := by decide +kernel
theorem dX5_shine_36 : decode cX5_shine 36 = .ok (.getfield 28, 3) := by decide +kernel
theorem dX5_shine_39 : decode cX5_shine 39 = .ok (.getfield 145, 3) := by decide +kernel
theorem dX5_shine_42 : decode cX5_shine 42 = .ok (.ireturn, 1) := by decide +kernel
theorem dX5_boot_0 : decode cX5_boot 0 = .ok (.aload_n 0, 1) := by decide +kernel
theorem dX5_boot_1 : decode cX5_boot 1 = .ok (.getfield 21, 3) := by decide +kernel
theorem dX5_boot_4 : decode cX5_boot 4 = .ok (.iload_n 1, 1) := by decide +kernel
theorem dX5_boot_5 : decode cX5_boot 5 = .ok (.invokevirtual 98, 3) := by decide +kernel
theorem dX5_boot_8 : decode cX5_boot 8 = .ok (.ifCond .ne 5, 3) := by decide +kernel
theorem dX5_boot_11 : decode cX5_boot 11 = .ok (.iconst (-1), 1) := by decide +kernel
theorem dX5_boot_12 : decode cX5_boot 12 = .ok (.ireturn, 1) := by decide +kernel
theorem dX5_boot_13 : decode cX5_boot 13 = .ok (.aload_n 0, 1) := by decide +kernel
theorem dX5_boot_14 : decode cX5_boot 14 = .ok (.getfield 28, 3) := by decide +kernel
theorem dX5_boot_17 : decode cX5_boot 17 = .ok (.getfield 112, 3) := by decide +kernel
theorem dX5_boot_20 : decode cX5_boot 20 = .ok (.iload_n 1, 1) := by decide +kernel
theorem dX5_boot_21 : decode cX5_boot 21 = .ok (.iaload, 1) := by decide +kernel
theorem dX5_boot_22 : decode cX5_boot 22 = .ok (.ifCond .ne 6, 3) := by decide +kernel
theorem dX5_boot_25 : decode cX5_boot 25 = .ok (.bipush (-2), 2) := by decide +kernel
theorem dX5_boot_27 : decode cX5_boot 27 = .ok (.ireturn, 1) := by decide +kernel
theorem dX5_boot_28 : decode cX5_boot 28 = .ok (.aload_n 0, 1) := by decide +kernel
theorem dX5_boot_29 : decode cX5_boot 29 = .ok (.getfield 48, 3) := by decide +kernel
theorem dX5_boot_32 : decode cX5_boot 32 = .ok (.aload_n 0, 1) := by decide +kernel
theorem dX5_boot_33 : decode cX5_boot 33 = .ok (.getfield 28, 3) := by decide +kernel
theorem dX5_boot_36 : decode cX5_boot 36 = .ok (.invokevirtual 130, 3) := by decide +kernel
theorem dX5_boot_39 : decode cX5_boot 39 = .ok (.aload_n 0, 1) := by decide +kernel
theorem dX5_boot_40 : decode cX5_boot 40 = .ok (.getfield 28, 3) := by decide +kernel
theorem dX5_boot_43 : decode cX5_boot 43 = .ok (.aload_n 0, 1) := by decide +kernel
theorem dX5_boot_44 : decode cX5_boot 44 = .ok (.getfield 21, 3) := by decide +kernel
theorem dX5_boot_47 : decode cX5_boot 47 = .ok (.iload_n 1, 1) := by decide +kernel
theorem dX5_boot_48 : decode cX5_boot 48 = .ok (.invokevirtual 148, 3) := by decide +kernel
theorem dX5_boot_51 : decode cX5_boot 51 = .ok (.aload_n 0, 1) := by decide +kernel
theorem dX5_boot_52 : decode cX5_boot 52 = .ok (.getfield 28, 3) := by decide +kernel
theorem dX5_boot_55 : decode cX5_boot 55 = .ok (.getfield 112, 3) := by decide +kernel
theorem dX5_boot_58 : decode cX5_boot 58 = .ok (.iload_n 1, 1) := by decide +kernel
theorem dX5_boot_59 : decode cX5_boot 59 = .ok (.iaload, 1) := by decide +kernel
theorem dX5_boot_60 : decode cX5_boot 60 = .ok (.ireturn, 1) := by decide +kernel
theorem dX5_stone_0 : decode cX5_stone 0 = .ok (.aload_n 0, 1) := by decide +kernel
theorem dX5_stone_1 : decode cX5_stone 1 = .ok (.getfield 21, 3) := by decide +kernel
theorem dX5_stone_4 : decode cX5_stone 4 = .ok (.iload_n 1, 1) := by decide +kernel
theorem dX5_stone_5 : decode cX5_stone 5 = .ok (.invokevirtual 98, 3) := by decide +kernel
theorem dX5_stone_8 : decode cX5_stone 8 = .ok (.ifCond .ne 5, 3) := by decide +kernel
theorem dX5_stone_11 : decode cX5_stone 11 = .ok (.iconst (-1), 1) := by decide +kernel
theorem dX5_stone_12 : decode cX5_stone 12 = .ok (.ireturn, 1) := by decide +kernel
theorem dX5_stone_13 : decode cX5_stone 13 = .ok (.aload_n 0, 1) := by decide +kernel
theorem dX5_stone_14 : decode cX5_stone 14 = .ok (.getfield 28, 3) := by decide +kernel
theorem dX5_stone_17 : decode cX5_stone 17 = .ok (.getfield 106, 3) := by decide +kernel
theorem dX5_stone_20 : decode cX5_stone 20 = .ok (.iload_n 1, 1) := by decide +kernel
theorem dX5_stone_21 : decode cX5_stone 21 = .ok (.iaload, 1) := by decide +kernel
theorem dX5_stone_22 : decode cX5_stone 22 = .ok (.iload_n 2, 1) := by decide +kernel
theorem dX5_stone_23 : decode cX5_stone 23 = .ok (.ifCond .eq 7, 3) := by decide +kernel
theorem dX5_stone_26 : decode cX5_stone 26 = .ok (.iconst (-1), 1) := by decide +kernel
theorem dX5_stone_27 : decode cX5_stone 27 = .ok (.goto 4, 3) := by decide +kernel
theorem dX5_stone_30 : decode cX5_stone 30 = .ok (.iconst 1, 1) := by decide +kernel
theorem dX5_stone_31 : decode cX5_stone 31 = .ok (.iadd, 1) := by decide +kernel
theorem dX5_stone_32 : decode cX5_stone 32 = .ok (.istore_n 3, 1) := by decide +kernel
theorem dX5_stone_33 : decode cX5_stone 33 = .ok (.iload_n 3, 1) := by decide +kernel
theorem dX5_stone_34 : decode cX5_stone 34 = .ok (.iconst 0, 1) := by decide +kernel
theorem dX5_stone_35 : decode cX5_stone 35 = .ok (.bipush 20, 2) := by decide +kernel
theorem dX5_stone_37 : decode cX5_stone 37 = .ok (.invokestatic 102, 3) := by decide +kernel
theorem dX5_stone_40 : decode cX5_stone 40 = .ok (.ifCond .eq 14, 3) := by decide +kernel
theorem dX5_stone_43 : decode cX5_stone 43 = .ok (.aload_n 0, 1) := by decide +kernel
theorem dX5_stone_44 : decode cX5_stone 44 = .ok (.getfield 21, 3) := by decide +kernel
theorem dX5_stone_47 : decode cX5_stone 47 = .ok (.iload_n 1, 1) := by decide +kernel
theorem dX5_stone_48 : decode cX5_stone 48 = .ok (.invokevirtual 151, 3) := by decide +kernel
theorem dX5_stone_51 : decode cX5_stone 51 = .ok (.ifCond .ne 6, 3) := by decide +kernel
theorem dX5_stone_54 : decode cX5_stone 54 = .ok (.bipush (-2), 2) := by decide +kernel
theorem dX5_stone_56 : decode cX5_stone 56 = .ok (.ireturn, 1) := by decide +kernel
theorem dX5_stone_57 : decode cX5_stone 57 = .ok (.aload_n 0, 1) := by decide +kernel
theorem dX5_stone_58 : decode cX5_stone 58 = .ok (.getfield 48, 3) := by decide +kernel
theorem dX5_stone_61 : decode cX5_stone 61 = .ok (.aload_n 0, 1) := by decide +kernel
theorem dX5_stone_62 : decode cX5_stone 62 = .ok (.getfield 28, 3) := by decide +kernel
theorem dX5_stone_65 : decode cX5_stone 65 = .ok (.invokevirtual 130, 3) := by decide +kernel
theorem dX5_stone_68 : decode cX5_stone 68 = .ok (.aload_n 0, 1) := by decide +kernel
theorem dX5_stone_69 : decode cX5_stone 69 = .ok (.getfield 28, 3) := by decide +kernel
theorem dX5_stone_72 : decode cX5_stone 72 = .ok (.getfield 106, 3) := by decide +kernel
theorem dX5_stone_75 : decode cX5_stone 75 = .ok (.iload_n 1, 1) := by decide +kernel
theorem dX5_stone_76 : decode cX5_stone 76 = .ok (.iload_n 3, 1) := by decide +kernel
theorem dX5_stone_77 : decode cX5_stone 77 = .ok (.iastore, 1) := by decide +kernel
theorem dX5_stone_78 : decode cX5_stone 78 = .ok (.aload_n 0, 1) := by decide +kernel
theorem dX5_stone_79 : decode cX5_stone 79 = .ok (.getfield 28, 3) := by decide +kernel
theorem dX5_stone_82 : decode cX5_stone 82 = .ok (.aload_n 0, 1) := by decide +kernel
theorem dX5_stone_83 : decode cX5_stone 83 = .ok (.getfield 21, 3) := by decide +kernel
theorem dX5_stone_86 : decode cX5_stone 86 = .ok (.invokevirtual 154, 3) := by decide +kernel
theorem dX5_stone_89 : decode cX5_stone 89 = .ok (.iload_n 3, 1) := by decide +kernel
theorem dX5_stone_90 : decode cX5_stone 90 = .ok (.ireturn, 1) := by decide +kernel
theorem dX5_undo_0 : decode cX5_undo 0 = .ok (.aload_n 0, 1) := by decide +kernel
theorem dX5_undo_1 : decode cX5_undo 1 = .ok (.getfield 48, 3) := by decide +kernel
theorem dX5_undo_4 : decode cX5_undo 4 = .ok (.getfield 158, 3) := by decide +kernel
theorem dX5_undo_7 : decode cX5_undo 7 = .ok (.ifCond .ne 6, 3) := by decide +kernel
theorem dX5_undo_10 : decode cX5_undo 10 = .ok (.bipush (-2), 2) := by decide +kernel
theorem dX5_undo_12 : decode cX5_undo 12 = .ok (.ireturn, 1) := by decide +kernel
theorem dX5_undo_13 : decode cX5_undo 13 = .ok (.aload_n 0, 1) := by decide +kernel
theorem dX5_undo_14 : decode cX5_undo 14 = .ok (.getfield 48, 3) := by decide +kernel
theorem dX5_undo_17 : decode cX5_undo 17 = .ok (.aload_n 0, 1) := by decide +kernel
theorem dX5_undo_18 : decode cX5_undo 18 = .ok (.getfield 28, 3) := by decide +kernel
theorem dX5_undo_21 : decode cX5_undo 21 = .ok (.invokevirtual 161, 3) := by decide +kernel
theorem dX5_undo_24 : decode cX5_undo 24 = .ok (.aload_n 0, 1) := by decide +kernel
theorem dX5_undo_25 : decode cX5_undo 25 = .ok (.getfield 48, 3) := by decide +kernel
theorem dX5_undo_28 : decode cX5_undo 28 = .ok (.getfield 158, 3) := by decide +kernel
theorem dX5_undo_31 : decode cX5_undo 31 = .ok (.ireturn, 1) := by decide +kernel
theorem dX5_behind_0 : decode cX5_behind 0 = .ok (.iload_n 1, 1) := by decide +kernel
theorem dX5_behind_1 : decode cX5_behind 1 = .ok (.iconst 0, 1) := by decide +kernel
theorem dX5_behind_2 : decode cX5_behind 2 = .ok (.bipush 40, 2) := by decide +kernel
theorem dX5_behind_4 : decode cX5_behind 4 = .ok (.invokestatic 102, 3) := by decide +kernel
theorem dX5_behind_7 : decode cX5_behind 7 = .ok (.ifCond .eq 23, 3) := by decide +kernel
theorem dX5_behind_10 : decode cX5_behind 10 = .ok (.aload_n 0, 1) := by decide +kernel
theorem dX5_behind_11 : decode cX5_behind 11 = .ok (.getfield 21, 3) := by decide +kernel
theorem dX5_behind_14 : decode cX5_behind 14 = .ok (.iload_n 2, 1) := by decide +kernel
theorem dX5_behind_15 : decode cX5_behind 15 = .ok (.invokevirtual 98, 3) := by decide +kernel
theorem dX5_behind_18 : decode cX5_behind 18 = .ok (.ifCond .eq 12, 3) := by decide +kernel
theorem dX5_behind_21 : decode cX5_behind 21 = .ok (.iload_n 3, 1) := by decide +kernel
theorem dX5_behind_22 : decode cX5_behind 22 = .ok (.iconst 0, 1) := by decide +kernel
theorem dX5_behind_23 : decode cX5_behind 23 = .ok (.iconst 1, 1) := by decide +kernel
theorem dX5_behind_24 : decode cX5_behind 24 = .ok (.invokestatic 102, 3) := by decide +kernel
theorem dX5_behind_27 : decode cX5_behind 27 = .ok (.ifCond .ne 5, 3) := by decide +kernel
theorem dX5_behind_30 : decode cX5_behind 30 = .ok (.iconst (-1), 1) := by decide +kernel
theorem dX5_behind_31 : decode cX5_behind 31 = .ok (.ireturn, 1) := by decide +kernel
theorem dX5_behind_32 : decode cX5_behind 32 = .ok (.aload_n 0, 1) := by decide +kernel
theorem dX5_behind_33 : decode cX5_behind 33 = .ok (.getfield 35, 3) := by decide +kernel
theorem dX5_behind_36 : decode cX5_behind 36 = .ok (.aload_n 0, 1) := by decide +kernel
theorem dX5_behind_37 : decode cX5_behind 37 = .ok (.getfield 28, 3) := by decide +kernel
theorem dX5_behind_40 : decode cX5_behind 40 = .ok (.invokevirtual 164, 3) := by decide +kernel
theorem dX5_behind_43 : decode cX5_behind 43 = .ok (.aload_n 0, 1) := by decide +kernel
theorem dX5_behind_44 : decode cX5_behind 44 = .ok (.getfield 35, 3) := by decide +kernel
theorem dX5_behind_47 : decode cX5_behind 47 = .ok (.aload_n 0, 1) := by decide +kernel
theorem dX5_behind_48 : decode cX5_behind 48 = .ok (.getfield 21, 3) := by decide +kernel
theorem dX5_behind_51 : decode cX5_behind 51 = .ok (.iload_n 1, 1) := by decide +kernel
theorem dX5_behind_52 : decode cX5_behind 52 = .ok (.invokevirtual 142, 3) := by decide +kernel
theorem dX5_behind_55 : decode cX5_behind 55 = .ok (.iload_n 3, 1) := by decide +kernel
theorem dX5_behind_56 : decode cX5_behind 56 = .ok (.ifCond .ne 13, 3) := by decide +kernel
theorem dX5_behind_59 : decode cX5_behind 59 = .ok (.aload_n 0, 1) := by decide +kernel
theorem dX5_behind_60 : decode cX5_behind 60 = .ok (.getfield 35, 3) := by decide +kernel
theorem dX5_behind_63 : decode cX5_behind 63 = .ok (.getfield 112, 3) := by decide +kernel
theorem dX5_behind_66 : decode cX5_behind 66 = .ok (.iload_n 2, 1) := by decide +kernel
theorem dX5_behind_67 : decode cX5_behind 67 = .ok (.iaload, 1) := by decide +kernel
theorem dX5_behind_68 : decode cX5_behind 68 = .ok (.ireturn, 1) := by decide +kernel
theorem dX5_behind_69 : decode cX5_behind 69 = .ok (.aload_n 0, 1) := by decide +kernel
theorem dX5_behind_70 : decode cX5_behind 70 = .ok (.getfield 41, 3) := by decide +kernel
theorem dX5_behind_73 : decode cX5_behind 73 = .ok (.aload_n 0, 1) := by decide +kernel
theorem dX5_behind_74 : decode cX5_behind 74 = .ok (.getfield 21, 3) := by decide +kernel
theorem dX5_behind_77 : decode cX5_behind 77 = .ok (.aload_n 0, 1) := by decide +kernel
theorem dX5_behind_78 : decode cX5_behind 78 = .ok (.getfield 35, 3) := by decide +kernel
theorem dX5_behind_81 : decode cX5_behind 81 = .ok (.invokevirtual 115, 3) := by decide +kernel
theorem dX5_behind_84 : decode cX5_behind 84 = .ok (.aload_n 0, 1) := by decide +kernel
theorem dX5_behind_85 : decode cX5_behind 85 = .ok (.getfield 41, 3) := by decide +kernel
theorem dX5_behind_88 : decode cX5_behind 88 = .ok (.iload_n 2, 1) := by decide +kernel
theorem dX5_behind_89 : decode cX5_behind 89 = .ok (.invokevirtual 119, 3) := by decide +kernel
theorem dX5_behind_92 : decode cX5_behind 92 = .ok (.ireturn, 1) := by decide +kernel
theorem dX5_dry_0 : decode cX5_dry 0 = .ok (.iload_n 1, 1) := by decide +kernel
theorem dX5_dry_1 : decode cX5_dry 1 = .ok (.iconst 0, 1) := by decide +kernel
theorem dX5_dry_2 : decode cX5_dry 2 = .ok (.iconst 1, 1) := by decide +kernel
theorem dX5_dry_3 : decode cX5_dry 3 = .ok (.invokestatic 102, 3) := by decide +kernel
theorem dX5_dry_6 : decode cX5_dry 6 = .ok (.ifCond .ne 5, 3) := by decide +kernel
theorem dX5_dry_9 : decode cX5_dry 9 = .ok (.iconst (-1), 1) := by decide +kernel
theorem dX5_dry_10 : decode cX5_dry 10 = .ok (.ireturn, 1) := by decide +kernel
theorem dX5_dry_11 : decode cX5_dry 11 = .ok (.aload_n 0, 1) := by decide +kernel
theorem dX5_dry_12 : decode cX5_dry 12 = .ok (.getfield 35, 3) := by decide +kernel
theorem dX5_dry_15 : decode cX5_dry 15 = .ok (.aload_n 0, 1) := by decide +kernel
theorem dX5_dry_16 : decode cX5_dry 16 = .ok (.getfield 28, 3) := by decide +kernel
theorem dX5_dry_19 : decode cX5_dry 19 = .ok (.invokevirtual 164, 3) := by decide +kernel
theorem dX5_dry_22 : decode cX5_dry 22 = .ok (.bipush (-4), 2) := by decide +kernel
theorem dX5_dry_24 : decode cX5_dry 24 = .ok (.istore_n 2, 1) := by decide +kernel
theorem dX5_dry_25 : decode cX5_dry 25 = .ok (.iconst 0, 1) := by decide +kernel
theorem dX5_dry_26 : decode cX5_dry 26 = .ok (.istore_n 3, 1) := by decide +kernel
theorem dX5_dry_27 : decode cX5_dry 27 = .ok (.iload_n 3, 1) := by decide +kernel
theorem dX5_dry_28 : decode cX5_dry 28 = .ok (.bipush 60, 2) := by decide +kernel
theorem dX5_dry_30 : decode cX5_dry 30 = .ok (.if_icmp .gt 54, 3) := by decide +kernel
theorem dX5_dry_33 : decode cX5_dry 33 = .ok (.aload_n 0, 1) := by decide +kernel
theorem dX5_dry_34 : decode cX5_dry 34 = .ok (.getfield 35, 3) := by decide +kernel
theorem dX5_dry_37 : decode cX5_dry 37 = .ok (.aload_n 0, 1) := by decide +kernel
theorem dX5_dry_38 : decode cX5_dry 38 = .ok (.getfield 21, 3) := by decide +kernel
theorem dX5_dry_41 : decode cX5_dry 41 = .ok (.invokevirtual 167, 3) := by decide +kernel
theorem dX5_dry_44 : decode cX5_dry 44 = .ok (.istore 4, 2) := by decide +kernel
theorem dX5_dry_46 : decode cX5_dry 46 = .ok (.iload 4, 2) := by decide +kernel
theorem dX5_dry_48 : decode cX5_dry 48 = .ok (.bipush (-4), 2) := by decide +kernel
theorem dX5_dry_50 : decode cX5_dry 50 = .ok (.if_icmp .ne 13, 3) := by decide +kernel
theorem dX5_dry_53 : decode cX5_dry 53 = .ok (.iload_n 1, 1) := by decide +kernel
theorem dX5_dry_54 : decode cX5_dry 54 = .ok (.ifCond .ne 7, 3) := by decide +kernel
theorem dX5_dry_57 : decode cX5_dry 57 = .ok (.iload_n 3, 1) := by decide +kernel
theorem dX5_dry_58 : decode cX5_dry 58 = .ok (.goto 4, 3) := by decide +kernel
theorem dX5_dry_61 : decode cX5_dry 61 = .ok (.iload_n 2, 1) := by decide +kernel
theorem dX5_dry_62 : decode cX5_dry 62 = .ok (.ireturn, 1) := by decide +kernel
theorem dX5_dry_63 : decode cX5_dry 63 = .ok (.iload 4, 2) := by decide +kernel
theorem dX5_dry_65 : decode cX5_dry 65 = .ok (.istore_n 2, 1) := by decide +kernel
theorem dX5_dry_66 : decode cX5_dry 66 = .ok (.aload_n 0, 1) := by decide +kernel
theorem dX5_dry_67 : decode cX5_dry 67 = .ok (.getfield 35, 3) := by decide +kernel
theorem dX5_dry_70 : decode cX5_dry 70 = .ok (.aload_n 0, 1) := by decide +kernel
theorem dX5_dry_71 : decode cX5_dry 71 = .ok (.getfield 21, 3) := by decide +kernel
theorem dX5_dry_74 : decode cX5_dry 74 = .ok (.iconst 1, 1) := by decide +kernel
theorem dX5_dry_75 : decode cX5_dry 75 = .ok (.invokevirtual 142, 3) := by decide +kernel
theorem dX5_dry_78 : decode cX5_dry 78 = .ok (.iinc 3 1, 3) := by decide +kernel
theorem dX5_dry_81 : decode cX5_dry 81 = .ok (.goto (-54), 3) := by decide +kernel
theorem dX5_dry_84 : decode cX5_dry 84 = .ok (.bipush (-4), 2) := by decide +kernel
theorem dX5_dry_86 : decode cX5_dry 86 = .ok (.ireturn, 1) := by decide +kernel
theorem dX5_join_0 : decode cX5_join 0 = .ok (.aload_n 0, 1) := by decide +kernel
theorem dX5_join_1 : decode cX5_join 1 = .ok (.iload_n 1, 1) := by decide +kernel
theorem dX5_join_2 : decode cX5_join 2 = .ok (.iload_n 2, 1) := by decide +kernel
theorem dX5_join_3 : decode cX5_join 3 = .ok (.invokevirtual 170, 3) := by decide +kernel
theorem dX5_join_6 : decode cX5_join 6 = .ok (.ifCond .ne 5, 3) := by decide +kernel
theorem dX5_join_9 : decode cX5_join 9 = .ok (.iconst (-1), 1) := by decide +kernel
theorem dX5_join_10 : decode cX5_join 10 = .ok (.ireturn, 1) := by decide +kernel
theorem dX5_join_11 : decode cX5_join 11 = .ok (.iconst 0, 1) := by decide +kernel
theorem dX5_join_12 : decode cX5_join 12 = .ok (.istore_n 3, 1) := by decide +kernel
theorem dX5_join_13 : decode cX5_join 13 = .ok (.iload_n 3, 1) := by decide +kernel
theorem dX5_join_14 : decode cX5_join 14 = .ok (.bipush 30, 2) := by decide +kernel
theorem dX5_join_16 : decode cX5_join 16 = .ok (.if_icmp .gt 25, 3) := by decide +kernel
theorem dX5_join_19 : decode cX5_join 19 = .ok (.aload_n 0, 1) := by decide +kernel
theorem dX5_join_20 : decode cX5_join 20 = .ok (.aload_n 0, 1) := by decide +kernel
theorem dX5_join_21 : decode cX5_join 21 = .ok (.getfield 21, 3) := by decide +kernel
theorem dX5_join_24 : decode cX5_join 24 = .ok (.iload_n 1, 1) := by decide +kernel
theorem dX5_join_25 : decode cX5_join 25 = .ok (.iload_n 2, 1) := by decide +kernel
theorem dX5_join_26 : decode cX5_join 26 = .ok (.iload_n 3, 1) := by decide +kernel
theorem dX5_join_27 : decode cX5_join 27 = .ok (.invokevirtual 174, 3) := by decide +kernel
theorem dX5_join_30 : decode cX5_join 30 = .ok (.ifCond .ne 5, 3) := by decide +kernel
theorem dX5_join_33 : decode cX5_join 33 = .ok (.iload_n 3, 1) := by decide +kernel
theorem dX5_join_34 : decode cX5_join 34 = .ok (.ireturn, 1) := by decide +kernel
theorem dX5_join_35 : decode cX5_join 35 = .ok (.iinc 3 1, 3) := by decide +kernel
theorem dX5_join_38 : decode cX5_join 38 = .ok (.goto (-25), 3) := by decide +kernel
theorem dX5_join_41 : decode cX5_join 41 = .ok (.bipush (-4), 2) := by decide +kernel
theorem dX5_join_43 : decode cX5_join 43 = .ok (.ireturn, 1) := by decide +kernel
theorem dX5_part_0 : decode cX5_part 0 = .ok (.aload_n 0, 1) := by decide +kernel
theorem dX5_part_1 : decode cX5_part 1 = .ok (.iload_n 1, 1) := by decide +kernel
theorem dX5_part_2 : decode cX5_part 2 = .ok (.iload_n 2, 1) := by decide +kernel
theorem dX5_part_3 : decode cX5_part 3 = .ok (.invokevirtual 170, 3) := by decide +kernel
theorem dX5_part_6 : decode cX5_part 6 = .ok (.ifCond .ne 5, 3) := by decide +kernel
theorem dX5_part_9 : decode cX5_part 9 = .ok (.iconst (-1), 1) := by decide +kernel
theorem dX5_part_10 : decode cX5_part 10 = .ok (.ireturn, 1) := by decide +kernel
theorem dX5_part_11 : decode cX5_part 11 = .ok (.aload_n 0, 1) := by decide +kernel
theorem dX5_part_12 : decode cX5_part 12 = .ok (.getfield 41, 3) := by decide +kernel
theorem dX5_part_15 : decode cX5_part 15 = .ok (.aload_n 0, 1) := by decide +kernel
theorem dX5_part_16 : decode cX5_part 16 = .ok (.getfield 21, 3) := by decide +kernel
theorem dX5_part_19 : decode cX5_part 19 = .ok (.aload_n 0, 1) := by decide +kernel
theorem dX5_part_20 : decode cX5_part 20 = .ok (.getfield 28, 3) := by decide +kernel
theorem dX5_part_23 : decode cX5_part 23 = .ok (.invokevirtual 115, 3) := by decide +kernel
theorem dX5_part_26 : decode cX5_part 26 = .ok (.aload_n 0, 1) := by decide +kernel
theorem dX5_part_27 : decode cX5_part 27 = .ok (.getfield 41, 3) := by decide +kernel
theorem dX5_part_30 : decode cX5_part 30 = .ok (.iload_n 1, 1) := by decide +kernel
theorem dX5_part_31 : decode cX5_part 31 = .ok (.iload_n 2, 1) := by decide +kernel
theorem dX5_part_32 : decode cX5_part 32 = .ok (.invokevirtual 178, 3) := by decide +kernel
theorem dX5_part_35 : decode cX5_part 35 = .ok (.ifCond .eq 6, 3) := by decide +kernel
theorem dX5_part_38 : decode cX5_part 38 = .ok (.bipush (-2), 2) := by decide +kernel
theorem dX5_part_40 : decode cX5_part 40 = .ok (.ireturn, 1) := by decide +kernel
theorem dX5_part_41 : decode cX5_part 41 = .ok (.aload_n 0, 1) := by decide +kernel
theorem dX5_part_42 : decode cX5_part 42 = .ok (.getfield 35, 3) := by decide +kernel
theorem dX5_part_45 : decode cX5_part 45 = .ok (.aload_n 0, 1) := by decide +kernel
theorem dX5_part_46 : decode cX5_part 46 = .ok (.getfield 28, 3) := by decide +kernel
theorem dX5_part_49 : decode cX5_part 49 = .ok (.invokevirtual 164, 3) := by decide +kernel
theorem dX5_part_52 : decode cX5_part 52 = .ok (.iconst 1, 1) := by decide +kernel
theorem dX5_part_53 : decode cX5_part 53 = .ok (.istore_n 3, 1) := by decide +kernel
theorem dX5_part_54 : decode cX5_part 54 = .ok (.iload_n 3, 1) := by decide +kernel
theorem dX5_part_55 : decode cX5_part 55 = .ok (.bipush 60, 2) := by decide +kernel
theorem dX5_part_57 : decode cX5_part 57 = .ok (.if_icmp .gt 50, 3) := by decide +kernel
theorem dX5_part_60 : decode cX5_part 60 = .ok (.aload_n 0, 1) := by decide +kernel
theorem dX5_part_61 : decode cX5_part 61 = .ok (.getfield 35, 3) := by decide +kernel
theorem dX5_part_64 : decode cX5_part 64 = .ok (.aload_n 0, 1) := by decide +kernel
theorem dX5_part_65 : decode cX5_part 65 = .ok (.getfield 21, 3) := by decide +kernel
theorem dX5_part_68 : decode cX5_part 68 = .ok (.iconst 1, 1) := by decide +kernel
theorem dX5_part_69 : decode cX5_part 69 = .ok (.invokevirtual 142, 3) := by decide +kernel
theorem dX5_part_72 : decode cX5_part 72 = .ok (.aload_n 0, 1) := by decide +kernel
theorem dX5_part_73 : decode cX5_part 73 = .ok (.getfield 41, 3) := by decide +kernel
theorem dX5_part_76 : decode cX5_part 76 = .ok (.aload_n 0, 1) := by decide +kernel
theorem dX5_part_77 : decode cX5_part 77 = .ok (.getfield 21, 3) := by decide +kernel
theorem dX5_part_80 : decode cX5_part 80 = .ok (.aload_n 0, 1) := by decide +kernel
theorem dX5_part_81 : decode cX5_part 81 = .ok (.getfield 35, 3) := by decide +kernel
theorem dX5_part_84 : decode cX5_part 84 = .ok (.invokevirtual 115, 3) := by decide +kernel
theorem dX5_part_87 : decode cX5_part 87 = .ok (.aload_n 0, 1) := by decide +kernel
theorem dX5_part_88 : decode cX5_part 88 = .ok (.getfield 41, 3) := by decide +kernel
theorem dX5_part_91 : decode cX5_part 91 = .ok (.iload_n 1, 1) := by decide +kernel
theorem dX5_part_92 : decode cX5_part 92 = .ok (.iload_n 2, 1) := by decide +kernel
theorem dX5_part_93 : decode cX5_part 93 = .ok (.invokevirtual 178, 3) := by decide +kernel
theorem dX5_part_96 : decode cX5_part 96 = .ok (.ifCond .eq 5, 3) := by decide +kernel
theorem dX5_part_99 : decode cX5_part 99 = .ok (.iload_n 3, 1) := by decide +kernel
theorem dX5_part_100 : decode cX5_part 100 = .ok (.ireturn, 1) := by decide +kernel
theorem dX5_part_101 : decode cX5_part 101 = .ok (.iinc 3 1, 3) := by decide +kernel
theorem dX5_part_104 : decode cX5_part 104 = .ok (.goto (-50), 3) := by decide +kernel
theorem dX5_part_107 : decode cX5_part 107 = .ok (.bipush (-4), 2) := by decide +kernel
theorem dX5_part_109 : decode cX5_part 109 = .ok (.ireturn, 1) := by decide +kernel
theorem dX5_way_0 : decode cX5_way 0 = .ok (.aload_n 0, 1) := by decide +kernel
theorem dX5_way_1 : decode cX5_way 1 = .ok (.getfield 21, 3) := by decide +kernel
theorem dX5_way_4 : decode cX5_way 4 = .ok (.iload_n 1, 1) := by decide +kernel
theorem dX5_way_5 : decode cX5_way 5 = .ok (.invokevirtual 98, 3) := by decide +kernel
theorem dX5_way_8 : decode cX5_way 8 = .ok (.ifCond .eq 14, 3) := by decide +kernel
theorem dX5_way_11 : decode cX5_way 11 = .ok (.aload_n 0, 1) := by decide +kernel
theorem dX5_way_12 : decode cX5_way 12 = .ok (.getfield 21, 3) := by decide +kernel
theorem dX5_way_15 : decode cX5_way 15 = .ok (.iload_n 2, 1) := by decide +kernel
theorem dX5_way_16 : decode cX5_way 16 = .ok (.invokevirtual 98, 3) := by decide +kernel
theorem dX5_way_19 : decode cX5_way 19 = .ok (.ifCond .ne 5, 3) := by decide +kernel
theorem dX5_way_22 : decode cX5_way 22 = .ok (.iconst (-1), 1) := by decide +kernel
theorem dX5_way_23 : decode cX5_way 23 = .ok (.ireturn, 1) := by decide +kernel
theorem dX5_way_24 : decode cX5_way 24 = .ok (.aload_n 0, 1) := by decide +kernel
theorem dX5_way_25 : decode cX5_way 25 = .ok (.getfield 28, 3) := by decide +kernel
theorem dX5_way_28 : decode cX5_way 28 = .ok (.getfield 112, 3) := by decide +kernel
theorem dX5_way_31 : decode cX5_way 31 = .ok (.iload_n 1, 1) := by decide +kernel
theorem dX5_way_32 : decode cX5_way 32 = .ok (.iaload, 1) := by decide +kernel
theorem dX5_way_33 : decode cX5_way 33 = .ok (.ifCond .ne 6, 3) := by decide +kernel
theorem dX5_way_36 : decode cX5_way 36 = .ok (.bipush (-4), 2) := by decide +kernel
theorem dX5_way_38 : decode cX5_way 38 = .ok (.ireturn, 1) := by decide +kernel
theorem dX5_way_39 : decode cX5_way 39 = .ok (.aload_n 0, 1) := by decide +kernel
theorem dX5_way_40 : decode cX5_way 40 = .ok (.getfield 35, 3) := by decide +kernel
theorem dX5_way_43 : decode cX5_way 43 = .ok (.aload_n 0, 1) := by decide +kernel
theorem dX5_way_44 : decode cX5_way 44 = .ok (.getfield 28, 3) := by decide +kernel
theorem dX5_way_47 : decode cX5_way 47 = .ok (.invokevirtual 164, 3) := by decide +kernel
theorem dX5_way_50 : decode cX5_way 50 = .ok (.lconst 1, 1) := by decide +kernel
theorem dX5_way_51 : decode cX5_way 51 = .ok (.iload_n 1, 1) := by decide +kernel
theorem dX5_way_52 : decode cX5_way 52 = .ok (.lshl, 1) := by decide +kernel
theorem dX5_way_53 : decode cX5_way 53 = .ok (.lstore_n 3, 1) := by decide +kernel
theorem dX5_way_54 : decode cX5_way 54 = .ok (.iconst 0, 1) := by decide +kernel
theorem dX5_way_55 : decode cX5_way 55 = .ok (.istore 5, 2) := by decide +kernel
theorem dX5_way_57 : decode cX5_way 57 = .ok (.iload 5, 2) := by decide +kernel
theorem dX5_way_59 : decode cX5_way 59 = .ok (.bipush 40, 2) := by decide +kernel
theorem dX5_way_61 : decode cX5_way 61 = .ok (.if_icmp .gt 69, 3) := by decide +kernel
theorem dX5_way_64 : decode cX5_way 64 = .ok (.lload_n 3, 1) := by decide +kernel
theorem dX5_way_65 : decode cX5_way 65 = .ok (.iload_n 2, 1) := by decide +kernel
theorem dX5_way_66 : decode cX5_way 66 = .ok (.lshr, 1) := by decide +kernel
theorem dX5_way_67 : decode cX5_way 67 = .ok (.lconst 1, 1) := by decide +kernel
theorem dX5_way_68 : decode cX5_way 68 = .ok (.land, 1) := by decide +kernel
theorem dX5_way_69 : decode cX5_way 69 = .ok (.lconst 1, 1) := by decide +kernel
theorem dX5_way_70 : decode cX5_way 70 = .ok (.lcmp, 1) := by decide +kernel
theorem dX5_way_71 : decode cX5_way 71 = .ok (.ifCond .ne 6, 3) := by decide +kernel
theorem dX5_way_74 : decode cX5_way 74 = .ok (.iload 5, 2) := by decide +kernel
theorem dX5_way_76 : decode cX5_way 76 = .ok (.ireturn, 1) := by decide +kernel
theorem dX5_way_77 : decode cX5_way 77 = .ok (.aload_n 0, 1) := by decide +kernel
theorem dX5_way_78 : decode cX5_way 78 = .ok (.getfield 21, 3) := by decide +kernel
theorem dX5_way_81 : decode cX5_way 81 = .ok (.lload_n 3, 1) := by decide +kernel
theorem dX5_way_82 : decode cX5_way 82 = .ok (.invokevirtual 181, 3) := by decide +kernel
theorem dX5_way_85 : decode cX5_way 85 = .ok (.aload_n 0, 1) := by decide +kernel
theorem dX5_way_86 : decode cX5_way 86 = .ok (.getfield 35, 3) := by decide +kernel
theorem dX5_way_89 : decode cX5_way 89 = .ok (.aload_n 0, 1) := by decide +kernel
theorem dX5_way_90 : decode cX5_way 90 = .ok (.getfield 21, 3) := by decide +kernel
theorem dX5_way_93 : decode cX5_way 93 = .ok (.invokevirtual 185, 3) := by decide +kernel
theorem dX5_way_96 : decode cX5_way 96 = .ok (.land, 1) := by decide +kernel
theorem dX5_way_97 : decode cX5_way 97 = .ok (.lstore_n 3, 1) := by decide +kernel
theorem dX5_way_98 : decode cX5_way 98 = .ok (.aload_n 0, 1) := by decide +kernel
theorem dX5_way_99 : decode cX5_way 99 = .ok (.getfield 35, 3) := by decide +kernel
theorem dX5_way_102 : decode cX5_way 102 = .ok (.aload_n 0, 1) := by decide +kernel
theorem dX5_way_103 : decode cX5_way 103 = .ok (.getfield 21, 3) := by decide +kernel
theorem dX5_way_106 : decode cX5_way 106 = .ok (.iconst 1, 1) := by decide +kernel
theorem dX5_way_107 : decode cX5_way 107 = .ok (.invokevirtual 142, 3) := by decide +kernel
theorem dX5_way_110 : decode cX5_way 110 = .ok (.lload_n 3, 1) := by decide +kernel
theorem dX5_way_111 : decode cX5_way 111 = .ok (.aload_n 0, 1) := by decide +kernel
theorem dX5_way_112 : decode cX5_way 112 = .ok (.getfield 35, 3) := by decide +kernel
theorem dX5_way_115 : decode cX5_way 115 = .ok (.aload_n 0, 1) := by decide +kernel
theorem dX5_way_116 : decode cX5_way 116 = .ok (.getfield 21, 3) := by decide +kernel
theorem dX5_way_119 : decode cX5_way 119 = .ok (.invokevirtual 185, 3) := by decide +kernel
theorem dX5_way_122 : decode cX5_way 122 = .ok (.land, 1) := by decide +kernel
theorem dX5_way_123 : decode cX5_way 123 = .ok (.lstore_n 3, 1) := by decide +kernel
theorem dX5_way_124 : decode cX5_way 124 = .ok (.iinc 5 1, 3) := by decide +kernel
theorem dX5_way_127 : decode cX5_way 127 = .ok (.goto (-70), 3) := by decide +kernel
theorem dX5_way_130 : decode cX5_way 130 = .ok (.bipush (-4), 2) := by decide +kernel
theorem dX5_way_132 : decode cX5_way 132 = .ok (.ireturn, 1) := by decide +kernel
theorem dX5_kerb_0 : decode cX5_kerb 0 = .ok (.aload_n 0, 1) := by decide +kernel
theorem dX5_kerb_1 : decode cX5_kerb 1 = .ok (.iload_n 1, 1) := by decide +kernel
theorem dX5_kerb_2 : decode cX5_kerb 2 = .ok (.iload_n 2, 1) := by decide +kernel
theorem dX5_kerb_3 : decode cX5_kerb 3 = .ok (.invokevirtual 170, 3) := by decide +kernel
theorem dX5_kerb_6 : decode cX5_kerb 6 = .ok (.ifCond .eq 13, 3) := by decide +kernel
theorem dX5_kerb_9 : decode cX5_kerb 9 = .ok (.iload_n 3, 1) := by decide +kernel
theorem dX5_kerb_10 : decode cX5_kerb 10 = .ok (.iconst 0, 1) := by decide +kernel
theorem dX5_kerb_11 : decode cX5_kerb 11 = .ok (.bipush 9, 2) := by decide +kernel
theorem dX5_kerb_13 : decode cX5_kerb 13 = .ok (.invokestatic 102, 3) := by decide +kernel
theorem dX5_kerb_16 : decode cX5_kerb 16 = .ok (.ifCond .ne 5, 3) := by decide +kernel
theorem dX5_kerb_19 : decode cX5_kerb 19 = .ok (.iconst (-1), 1) := by decide +kernel
theorem dX5_kerb_20 : decode cX5_kerb 20 = .ok (.ireturn, 1) := by decide +kernel
theorem dX5_kerb_21 : decode cX5_kerb 21 = .ok (.aload_n 0, 1) := by decide +kernel
theorem dX5_kerb_22 : decode cX5_kerb 22 = .ok (.aload_n 0, 1) := by decide +kernel
theorem dX5_kerb_23 : decode cX5_kerb 23 = .ok (.getfield 21, 3) := by decide +kernel
theorem dX5_kerb_26 : decode cX5_kerb 26 = .ok (.iload_n 1, 1) := by decide +kernel
theorem dX5_kerb_27 : decode cX5_kerb 27 = .ok (.iload_n 2, 1) := by decide +kernel
theorem dX5_kerb_28 : decode cX5_kerb 28 = .ok (.iload_n 3, 1) := by decide +kernel
theorem dX5_kerb_29 : decode cX5_kerb 29 = .ok (.invokevirtual 174, 3) := by decide +kernel
theorem dX5_kerb_32 : decode cX5_kerb 32 = .ok (.ifCond .eq 6, 3) := by decide +kernel
theorem dX5_kerb_35 : decode cX5_kerb 35 = .ok (.bipush 100, 2) := by decide +kernel
theorem dX5_kerb_37 : decode cX5_kerb 37 = .ok (.ireturn, 1) := by decide +kernel
theorem dX5_kerb_38 : decode cX5_kerb 38 = .ok (.iconst 0, 1) := by decide +kernel
theorem dX5_kerb_39 : decode cX5_kerb 39 = .ok (.istore 4, 2) := by decide +kernel
theorem dX5_kerb_41 : decode cX5_kerb 41 = .ok (.iload 4, 2) := by decide +kernel
theorem dX5_kerb_43 : decode cX5_kerb 43 = .ok (.aload_n 0, 1) := by decide +kernel
theorem dX5_kerb_44 : decode cX5_kerb 44 = .ok (.getfield 21, 3) := by decide +kernel
theorem dX5_kerb_47 : decode cX5_kerb 47 = .ok (.getfield 95, 3) := by decide +kernel
theorem dX5_kerb_50 : decode cX5_kerb 50 = .ok (.if_icmp .ge 64, 3) := by decide +kernel
theorem dX5_kerb_53 : decode cX5_kerb 53 = .ok (.iload 4, 2) := by decide +kernel
theorem dX5_kerb_55 : decode cX5_kerb 55 = .ok (.bipush 36, 2) := by decide +kernel
theorem dX5_kerb_57 : decode cX5_kerb 57 = .ok (.if_icmp .ge 57, 3) := by decide +kernel
theorem dX5_kerb_60 : decode cX5_kerb 60 = .ok (.aload_n 0, 1) := by decide +kernel
theorem dX5_kerb_61 : decode cX5_kerb 61 = .ok (.iload 4, 2) := by decide +kernel
theorem dX5_kerb_63 : decode cX5_kerb 63 = .ok (.iload_n 1, 1) := by decide +kernel
theorem dX5_kerb_64 : decode cX5_kerb 64 = .ok (.iload_n 2, 1) := by decide +kernel
theorem dX5_kerb_65 : decode cX5_kerb 65 = .ok (.invokevirtual 189, 3) := by decide +kernel
theorem dX5_kerb_68 : decode cX5_kerb 68 = .ok (.ifCond .eq 40, 3) := by decide +kernel
theorem dX5_kerb_71 : decode cX5_kerb 71 = .ok (.aload_n 0, 1) := by decide +kernel
theorem dX5_kerb_72 : decode cX5_kerb 72 = .ok (.getfield 32, 3) := by decide +kernel
theorem dX5_kerb_75 : decode cX5_kerb 75 = .ok (.aload_n 0, 1) := by decide +kernel
theorem dX5_kerb_76 : decode cX5_kerb 76 = .ok (.getfield 21, 3) := by decide +kernel
theorem dX5_kerb_79 : decode cX5_kerb 79 = .ok (.invokevirtual 192, 3) := by decide +kernel
theorem dX5_kerb_82 : decode cX5_kerb 82 = .ok (.aload_n 0, 1) := by decide +kernel
theorem dX5_kerb_83 : decode cX5_kerb 83 = .ok (.getfield 32, 3) := by decide +kernel
theorem dX5_kerb_86 : decode cX5_kerb 86 = .ok (.iload 4, 2) := by decide +kernel
theorem dX5_kerb_88 : decode cX5_kerb 88 = .ok (.invokevirtual 194, 3) := by decide +kernel
theorem dX5_kerb_91 : decode cX5_kerb 91 = .ok (.aload_n 0, 1) := by decide +kernel
theorem dX5_kerb_92 : decode cX5_kerb 92 = .ok (.aload_n 0, 1) := by decide +kernel
theorem dX5_kerb_93 : decode cX5_kerb 93 = .ok (.getfield 32, 3) := by decide +kernel
theorem dX5_kerb_96 : decode cX5_kerb 96 = .ok (.iload_n 1, 1) := by decide +kernel
theorem dX5_kerb_97 : decode cX5_kerb 97 = .ok (.iload_n 2, 1) := by decide +kernel
theorem dX5_kerb_98 : decode cX5_kerb 98 = .ok (.iload_n 3, 1) := by decide +kernel
theorem dX5_kerb_99 : decode cX5_kerb 99 = .ok (.invokevirtual 174, 3) := by decide +kernel
theorem dX5_kerb_102 : decode cX5_kerb 102 = .ok (.ifCond .eq 6, 3) := by decide +kernel
theorem dX5_kerb_105 : decode cX5_kerb 105 = .ok (.iload 4, 2) := by decide +kernel
theorem dX5_kerb_107 : decode cX5_kerb 107 = .ok (.ireturn, 1) := by decide +kernel
theorem dX5_kerb_108 : decode cX5_kerb 108 = .ok (.iinc 4 1, 3) := by decide +kernel
theorem dX5_kerb_111 : decode cX5_kerb 111 = .ok (.goto (-70), 3) := by decide +kernel
theorem dX5_kerb_114 : decode cX5_kerb 114 = .ok (.bipush (-4), 2) := by decide +kernel
theorem dX5_kerb_116 : decode cX5_kerb 116 = .ok (.ireturn, 1) := by decide +kernel
theorem dX5_ring_0 : decode cX5_ring 0 = .ok (.aload_n 0, 1) := by decide +kernel
theorem dX5_ring_1 : decode cX5_ring 1 = .ok (.getfield 21, 3) := by decide +kernel
theorem dX5_ring_4 : decode cX5_ring 4 = .ok (.iload_n 1, 1) := by decide +kernel
theorem dX5_ring_5 : decode cX5_ring 5 = .ok (.invokevirtual 98, 3) := by decide +kernel
theorem dX5_ring_8 : decode cX5_ring 8 = .ok (.ifCond .eq 13, 3) := by decide +kernel
theorem dX5_ring_11 : decode cX5_ring 11 = .ok (.iload_n 2, 1) := by decide +kernel
theorem dX5_ring_12 : decode cX5_ring 12 = .ok (.iconst 0, 1) := by decide +kernel
theorem dX5_ring_13 : decode cX5_ring 13 = .ok (.bipush 60, 2) := by decide +kernel
theorem dX5_ring_15 : decode cX5_ring 15 = .ok (.invokestatic 102, 3) := by decide +kernel
theorem dX5_ring_18 : decode cX5_ring 18 = .ok (.ifCond .ne 5, 3) := by decide +kernel
theorem dX5_ring_21 : decode cX5_ring 21 = .ok (.iconst (-1), 1) := by decide +kernel
theorem dX5_ring_22 : decode cX5_ring 22 = .ok (.ireturn, 1) := by decide +kernel
theorem dX5_ring_23 : decode cX5_ring 23 = .ok (.aload_n 0, 1) := by decide +kernel
theorem dX5_ring_24 : decode cX5_ring 24 = .ok (.getfield 62, 3) := by decide +kernel
theorem dX5_ring_27 : decode cX5_ring 27 = .ok (.ifCond .lt 12, 3) := by decide +kernel
theorem dX5_ring_30 : decode cX5_ring 30 = .ok (.aload_n 0, 1) := by decide +kernel
theorem dX5_ring_31 : decode cX5_ring 31 = .ok (.getfield 62, 3) := by decide +kernel
theorem dX5_ring_34 : decode cX5_ring 34 = .ok (.bipush 6, 2) := by decide +kernel
theorem dX5_ring_36 : decode cX5_ring 36 = .ok (.if_icmp .lt 6, 3) := by decide +kernel
theorem dX5_ring_39 : decode cX5_ring 39 = .ok (.bipush (-3), 2) := by decide +kernel
theorem dX5_ring_41 : decode cX5_ring 41 = .ok (.ireturn, 1) := by decide +kernel
theorem dX5_ring_42 : decode cX5_ring 42 = .ok (.aload_n 0, 1) := by decide +kernel
theorem dX5_ring_43 : decode cX5_ring 43 = .ok (.getfield 55, 3) := by decide +kernel
theorem dX5_ring_46 : decode cX5_ring 46 = .ok (.aload_n 0, 1) := by decide +kernel
theorem dX5_ring_47 : decode cX5_ring 47 = .ok (.getfield 62, 3) := by decide +kernel
theorem dX5_ring_50 : decode cX5_ring 50 = .ok (.iload_n 1, 1) := by decide +kernel
theorem dX5_ring_51 : decode cX5_ring 51 = .ok (.iastore, 1) := by decide +kernel
theorem dX5_ring_52 : decode cX5_ring 52 = .ok (.aload_n 0, 1) := by decide +kernel
theorem dX5_ring_53 : decode cX5_ring 53 = .ok (.getfield 59, 3) := by decide +kernel
theorem dX5_ring_56 : decode cX5_ring 56 = .ok (.aload_n 0, 1) := by decide +kernel
theorem dX5_ring_57 : decode cX5_ring 57 = .ok (.getfield 62, 3) := by decide +kernel
theorem dX5_ring_60 : decode cX5_ring 60 = .ok (.iload_n 2, 1) := by decide +kernel
theorem dX5_ring_61 : decode cX5_ring 61 = .ok (.iastore, 1) := by decide +kernel
theorem dX5_ring_62 : decode cX5_ring 62 = .ok (.aload_n 0, 1) := by decide +kernel
theorem dX5_ring_63 : decode cX5_ring 63 = .ok (.dup, 1) := by decide +kernel
theorem dX5_ring_64 : decode cX5_ring 64 = .ok (.getfield 62, 3) := by decide +kernel
theorem dX5_ring_67 : decode cX5_ring 67 = .ok (.iconst 1, 1) := by decide +kernel
theorem dX5_ring_68 : decode cX5_ring 68 = .ok (.iadd, 1) := by decide +kernel
theorem dX5_ring_69 : decode cX5_ring 69 = .ok (.putfield 62, 3) := by decide +kernel
theorem dX5_ring_72 : decode cX5_ring 72 = .ok (.aload_n 0, 1) := by decide +kernel
theorem dX5_ring_73 : decode cX5_ring 73 = .ok (.getfield 62, 3) := by decide +kernel
theorem dX5_ring_76 : decode cX5_ring 76 = .ok (.ireturn, 1) := by decide +kernel
theorem dX5_forget_0 : decode cX5_forget 0 = .ok (.aload_n 0, 1) := by decide +kernel
theorem dX5_forget_1 : decode cX5_forget 1 = .ok (.getfield 62, 3) := by decide +kernel
theorem dX5_forget_4 : decode cX5_forget 4 = .ok (.istore_n 1, 1) := by decide +kernel
theorem dX5_forget_5 : decode cX5_forget 5 = .ok (.aload_n 0, 1) := by decide +kernel
theorem dX5_forget_6 : decode cX5_forget 6 = .ok (.iconst 0, 1) := by decide +kernel
theorem dX5_forget_7 : decode cX5_forget 7 = .ok (.putfield 62, 3) := by decide +kernel
theorem dX5_forget_10 : decode cX5_forget 10 = .ok (.iload_n 1, 1) := by decide +kernel
theorem dX5_forget_11 : decode cX5_forget 11 = .ok (.ireturn, 1) := by decide +kernel
theorem dX5_rains_0 : decode cX5_rains 0 = .ok (.aload_n 0, 1) := by decide +kernel
theorem dX5_rains_1 : decode cX5_rains 1 = .ok (.getfield 62, 3) := by decide +kernel
theorem dX5_rains_4 : decode cX5_rains 4 = .ok (.ifCond .ne 6, 3) := by decide +kernel
theorem dX5_rains_7 : decode cX5_rains 7 = .ok (.ldc 198, 2) := by decide +kernel
theorem dX5_rains_9 : decode cX5_rains 9 = .ok (.ireturn, 1) := by decide +kernel
theorem dX5_rains_10 : decode cX5_rains 10 = .ok (.iconst 0, 1) := by decide +kernel
theorem dX5_rains_11 : decode cX5_rains 11 = .ok (.istore_n 1, 1) := by decide +kernel
theorem dX5_rains_12 : decode cX5_rains 12 = .ok (.iconst 0, 1) := by decide +kernel
theorem dX5_rains_13 : decode cX5_rains 13 = .ok (.istore_n 2, 1) := by decide +kernel
theorem dX5_rains_14 : decode cX5_rains 14 = .ok (.iload_n 2, 1) := by decide +kernel
theorem dX5_rains_15 : decode cX5_rains 15 = .ok (.bipush 30, 2) := by decide +kernel
theorem dX5_rains_17 : decode cX5_rains 17 = .ok (.if_icmp .gt 45, 3) := by decide +kernel
theorem dX5_rains_20 : decode cX5_rains 20 = .ok (.aload_n 0, 1) := by decide +kernel
theorem dX5_rains_21 : decode cX5_rains 21 = .ok (.getfield 35, 3) := by decide +kernel
theorem dX5_rains_24 : decode cX5_rains 24 = .ok (.aload_n 0, 1) := by decide +kernel
theorem dX5_rains_25 : decode cX5_rains 25 = .ok (.getfield 28, 3) := by decide +kernel
theorem dX5_rains_28 : decode cX5_rains 28 = .ok (.invokevirtual 164, 3) := by decide +kernel
theorem dX5_rains_31 : decode cX5_rains 31 = .ok (.aload_n 0, 1) := by decide +kernel
theorem dX5_rains_32 : decode cX5_rains 32 = .ok (.getfield 35, 3) := by decide +kernel
theorem dX5_rains_35 : decode cX5_rains 35 = .ok (.aload_n 0, 1) := by decide +kernel
theorem dX5_rains_36 : decode cX5_rains 36 = .ok (.getfield 21, 3) := by decide +kernel
theorem dX5_rains_39 : decode cX5_rains 39 = .ok (.iload_n 2, 1) := by decide +kernel
theorem dX5_rains_40 : decode cX5_rains 40 = .ok (.invokevirtual 134, 3) := by decide +kernel
theorem dX5_rains_43 : decode cX5_rains 43 = .ok (.aload_n 0, 1) := by decide +kernel
theorem dX5_rains_44 : decode cX5_rains 44 = .ok (.invokevirtual 199, 3) := by decide +kernel
theorem dX5_rains_47 : decode cX5_rains 47 = .ok (.ifCond .eq 9, 3) := by decide +kernel
theorem dX5_rains_50 : decode cX5_rains 50 = .ok (.iload_n 1, 1) := by decide +kernel
theorem dX5_rains_51 : decode cX5_rains 51 = .ok (.iconst 1, 1) := by decide +kernel
theorem dX5_rains_52 : decode cX5_rains 52 = .ok (.iload_n 2, 1) := by decide +kernel
theorem dX5_rains_53 : decode cX5_rains 53 = .ok (.ishl, 1) := by decide +kernel
theorem dX5_rains_54 : decode cX5_rains 54 = .ok (.ior, 1) := by decide +kernel
theorem dX5_rains_55 : decode cX5_rains 55 = .ok (.istore_n 1, 1) := by decide +kernel
theorem dX5_rains_56 : decode cX5_rains 56 = .ok (.iinc 2 1, 3) := by decide +kernel
theorem dX5_rains_59 : decode cX5_rains 59 = .ok (.goto (-45), 3) := by decide +kernel
theorem dX5_rains_62 : decode cX5_rains 62 = .ok (.iload_n 1, 1) := by decide +kernel
theorem dX5_rains_63 : decode cX5_rains 63 = .ok (.ireturn, 1) := by decide +kernel
theorem dX5_sky_0 : decode cX5_sky 0 = .ok (.aload_n 0, 1) := by decide +kernel
theorem dX5_sky_1 : decode cX5_sky 1 = .ok (.getfield 21, 3) := by decide +kernel
theorem dX5_sky_4 : decode cX5_sky 4 = .ok (.iload_n 1, 1) := by decide +kernel
theorem dX5_sky_5 : decode cX5_sky 5 = .ok (.invokevirtual 98, 3) := by decide +kernel
theorem dX5_sky_8 : decode cX5_sky 8 = .ok (.ifCond .eq 12, 3) := by decide +kernel
theorem dX5_sky_11 : decode cX5_sky 11 = .ok (.iload_n 2, 1) := by decide +kernel
theorem dX5_sky_12 : decode cX5_sky 12 = .ok (.iconst 0, 1) := by decide +kernel
theorem dX5_sky_13 : decode cX5_sky 13 = .ok (.iconst 1, 1) := by decide +kernel
theorem dX5_sky_14 : decode cX5_sky 14 = .ok (.invokestatic 102, 3) := by decide +kernel
theorem dX5_sky_17 : decode cX5_sky 17 = .ok (.ifCond .ne 5, 3) := by decide +kernel
theorem dX5_sky_20 : decode cX5_sky 20 = .ok (.iconst (-1), 1) := by decide +kernel
theorem dX5_sky_21 : decode cX5_sky 21 = .ok (.ireturn, 1) := by decide +kernel
theorem dX5_sky_22 : decode cX5_sky 22 = .ok (.aload_n 0, 1) := by decide +kernel
theorem dX5_sky_23 : decode cX5_sky 23 = .ok (.getfield 41, 3) := by decide +kernel
theorem dX5_sky_26 : decode cX5_sky 26 = .ok (.aload_n 0, 1) := by decide +kernel
theorem dX5_sky_27 : decode cX5_sky 27 = .ok (.getfield 21, 3) := by decide +kernel
theorem dX5_sky_30 : decode cX5_sky 30 = .ok (.aload_n 0, 1) := by decide +kernel
theorem dX5_sky_31 : decode cX5_sky 31 = .ok (.getfield 28, 3) := by decide +kernel
theorem dX5_sky_34 : decode cX5_sky 34 = .ok (.invokevirtual 115, 3) := by decide +kernel
theorem dX5_sky_37 : decode cX5_sky 37 = .ok (.aload_n 0, 1) := by decide +kernel
theorem dX5_sky_38 : decode cX5_sky 38 = .ok (.getfield 41, 3) := by decide +kernel
theorem dX5_sky_41 : decode cX5_sky 41 = .ok (.iload_n 1, 1) := by decide +kernel
theorem dX5_sky_42 : decode cX5_sky 42 = .ok (.invokevirtual 119, 3) := by decide +kernel
theorem dX5_sky_45 : decode cX5_sky 45 = .ok (.bipush (-4), 2) := by decide +kernel
theorem dX5_sky_47 : decode cX5_sky 47 = .ok (.if_icmp .ne 6, 3) := by decide +kernel
theorem dX5_sky_50 : decode cX5_sky 50 = .ok (.bipush (-4), 2) := by decide +kernel
theorem dX5_sky_52 : decode cX5_sky 52 = .ok (.ireturn, 1) := by decide +kernel
theorem dX5_sky_53 : decode cX5_sky 53 = .ok (.aload_n 0, 1) := by decide +kernel
theorem dX5_sky_54 : decode cX5_sky 54 = .ok (.getfield 41, 3) := by decide +kernel
theorem dX5_sky_57 : decode cX5_sky 57 = .ok (.iload_n 1, 1) := by decide +kernel
theorem dX5_sky_58 : decode cX5_sky 58 = .ok (.invokevirtual 123, 3) := by decide +kernel
theorem dX5_sky_61 : decode cX5_sky 61 = .ok (.aload_n 0, 1) := by decide +kernel
theorem dX5_sky_62 : decode cX5_sky 62 = .ok (.getfield 28, 3) := by decide +kernel
theorem dX5_sky_65 : decode cX5_sky 65 = .ok (.aload_n 0, 1) := by decide +kernel
theorem dX5_sky_66 : decode cX5_sky 66 = .ok (.getfield 21, 3) := by decide +kernel
theorem dX5_sky_69 : decode cX5_sky 69 = .ok (.invokevirtual 202, 3) := by decide +kernel
theorem dX5_sky_72 : decode cX5_sky 72 = .ok (.iload_n 2, 1) := by decide +kernel
theorem dX5_sky_73 : decode cX5_sky 73 = .ok (.invokestatic 205, 3) := by decide +kernel
theorem dX5_sky_76 : decode cX5_sky 76 = .ok (.ireturn, 1) := by decide +kernel
theorem dX5_sun_0 : decode cX5_sun 0 = .ok (.aload_n 0, 1) := by decide +kernel
theorem dX5_sun_1 : decode cX5_sun 1 = .ok (.getfield 21, 3) := by decide +kernel
theorem dX5_sun_4 : decode cX5_sun 4 = .ok (.iload_n 1, 1) := by decide +kernel
theorem dX5_sun_5 : decode cX5_sun 5 = .ok (.invokevirtual 98, 3) := by decide +kernel
theorem dX5_sun_8 : decode cX5_sun 8 = .ok (.ifCond .eq 33, 3) := by decide +kernel
theorem dX5_sun_11 : decode cX5_sun 11 = .ok (.iload_n 2, 1) := by decide +kernel
theorem dX5_sun_12 : decode cX5_sun 12 = .ok (.iconst 0, 1) := by decide +kernel
theorem dX5_sun_13 : decode cX5_sun 13 = .ok (.bipush 6, 2) := by decide +kernel
theorem dX5_sun_15 : decode cX5_sun 15 = .ok (.invokestatic 102, 3) := by decide +kernel
theorem dX5_sun_18 : decode cX5_sun 18 = .ok (.ifCond .eq 23, 3) := by decide +kernel
theorem dX5_sun_21 : decode cX5_sun 21 = .ok (.iload_n 3, 1) := by decide +kernel
theorem dX5_sun_22 : decode cX5_sun 22 = .ok (.iconst 0, 1) := by decide +kernel
theorem dX5_sun_23 : decode cX5_sun 23 = .ok (.bipush 10, 2) := by decide +kernel
theorem dX5_sun_25 : decode cX5_sun 25 = .ok (.invokestatic 102, 3) := by decide +kernel
theorem dX5_sun_28 : decode cX5_sun 28 = .ok (.ifCond .eq 13, 3) := by decide +kernel
theorem dX5_sun_31 : decode cX5_sun 31 = .ok (.iload 4, 2) := by decide +kernel
theorem dX5_sun_33 : decode cX5_sun 33 = .ok (.iconst 0, 1) := by decide +kernel
theorem dX5_sun_34 : decode cX5_sun 34 = .ok (.iconst 1, 1) := by decide +kernel
theorem dX5_sun_35 : decode cX5_sun 35 = .ok (.invokestatic 102, 3) := by decide +kernel
theorem dX5_sun_38 : decode cX5_sun 38 = .ok (.ifCond .ne 5, 3) := by decide +kernel
theorem dX5_sun_41 : decode cX5_sun 41 = .ok (.iconst (-1), 1) := by decide +kernel
theorem dX5_sun_42 : decode cX5_sun 42 = .ok (.ireturn, 1) := by decide +kernel
theorem dX5_sun_43 : decode cX5_sun 43 = .ok (.aload_n 0, 1) := by decide +kernel
theorem dX5_sun_44 : decode cX5_sun 44 = .ok (.iload_n 1, 1) := by decide +kernel
theorem dX5_sun_45 : decode cX5_sun 45 = .ok (.iload_n 2, 1) := by decide +kernel
theorem dX5_sun_46 : decode cX5_sun 46 = .ok (.invokevirtual 209, 3) := by decide +kernel
theorem dX5_sun_49 : decode cX5_sun 49 = .ok (.istore 5, 2) := by decide +kernel
theorem dX5_sun_51 : decode cX5_sun 51 = .ok (.iconst 0, 1) := by decide +kernel
theorem dX5_sun_52 : decode cX5_sun 52 = .ok (.istore 6, 2) := by decide +kernel
theorem dX5_sun_54 : decode cX5_sun 54 = .ok (.iconst 0, 1) := by decide +kernel
theorem dX5_sun_55 : decode cX5_sun 55 = .ok (.istore 7, 2) := by decide +kernel
theorem dX5_sun_57 : decode cX5_sun 57 = .ok (.iload 7, 2) := by decide +kernel
theorem dX5_sun_59 : decode cX5_sun 59 = .ok (.iconst 1, 1) := by decide +kernel
theorem dX5_sun_60 : decode cX5_sun 60 = .ok (.iload_n 2, 1) := by decide +kernel
theorem dX5_sun_61 : decode cX5_sun 61 = .ok (.ishl, 1) := by decide +kernel
theorem dX5_sun_62 : decode cX5_sun 62 = .ok (.if_icmp .ge 50, 3) := by decide +kernel
theorem dX5_sun_65 : decode cX5_sun 65 = .ok (.iload 7, 2) := by decide +kernel
theorem dX5_sun_67 : decode cX5_sun 67 = .ok (.invokestatic 213, 3) := by decide +kernel
theorem dX5_sun_70 : decode cX5_sun 70 = .ok (.istore 8, 2) := by decide +kernel
theorem dX5_sun_72 : decode cX5_sun 72 = .ok (.iload 5, 2) := by decide +kernel
theorem dX5_sun_74 : decode cX5_sun 74 = .ok (.iload 8, 2) := by decide +kernel
theorem dX5_sun_76 : decode cX5_sun 76 = .ok (.ishr, 1) := by decide +kernel
theorem dX5_sun_77 : decode cX5_sun 77 = .ok (.iconst 1, 1) := by decide +kernel
theorem dX5_sun_78 : decode cX5_sun 78 = .ok (.iand, 1) := by decide +kernel
theorem dX5_sun_79 : decode cX5_sun 79 = .ok (.iconst 1, 1) := by decide +kernel
theorem dX5_sun_80 : decode cX5_sun 80 = .ok (.if_icmp .ne 26, 3) := by decide +kernel
theorem dX5_sun_83 : decode cX5_sun 83 = .ok (.iload 6, 2) := by decide +kernel
theorem dX5_sun_85 : decode cX5_sun 85 = .ok (.iload_n 3, 1) := by decide +kernel
theorem dX5_sun_86 : decode cX5_sun 86 = .ok (.iload 8, 2) := by decide +kernel
theorem dX5_sun_88 : decode cX5_sun 88 = .ok (.invokestatic 216, 3) := by decide +kernel
theorem dX5_sun_91 : decode cX5_sun 91 = .ok (.bipush 10, 2) := by decide +kernel
theorem dX5_sun_93 : decode cX5_sun 93 = .ok (.iload_n 3, 1) := by decide +kernel
theorem dX5_sun_94 : decode cX5_sun 94 = .ok (.isub, 1) := by decide +kernel
theorem dX5_sun_95 : decode cX5_sun 95 = .ok (.iload_n 2, 1) := by decide +kernel
theorem dX5_sun_96 : decode cX5_sun 96 = .ok (.iload 8, 2) := by decide +kernel
theorem dX5_sun_98 : decode cX5_sun 98 = .ok (.isub, 1) := by decide +kernel
theorem dX5_sun_99 : decode cX5_sun 99 = .ok (.invokestatic 216, 3) := by decide +kernel
theorem dX5_sun_102 : decode cX5_sun 102 = .ok (.imul, 1) := by decide +kernel
theorem dX5_sun_103 : decode cX5_sun 103 = .ok (.iadd, 1) := by decide +kernel
theorem dX5_sun_104 : decode cX5_sun 104 = .ok (.istore 6, 2) := by decide +kernel
theorem dX5_sun_106 : decode cX5_sun 106 = .ok (.iinc 7 1, 3) := by decide +kernel
theorem dX5_sun_109 : decode cX5_sun 109 = .ok (.goto (-52), 3) := by decide +kernel
theorem dX5_sun_112 : decode cX5_sun 112 = .ok (.iload 6, 2) := by decide +kernel
theorem dX5_sun_114 : decode cX5_sun 114 = .ok (.bipush 10, 2) := by decide +kernel
theorem dX5_sun_116 : decode cX5_sun 116 = .ok (.iload_n 2, 1) := by decide +kernel
theorem dX5_sun_117 : decode cX5_sun 117 = .ok (.invokestatic 216, 3) := by decide +kernel
theorem dX5_sun_120 : decode cX5_sun 120 = .ok (.iload 4, 2) := by decide +kernel
theorem dX5_sun_122 : decode cX5_sun 122 = .ok (.invokestatic 205, 3) := by decide +kernel
theorem dX5_sun_125 : decode cX5_sun 125 = .ok (.ireturn, 1) := by decide +kernel
theorem dX5_year_0 : decode cX5_year 0 = .ok (.iload_n 1, 1) := by decide +kernel
theorem dX5_year_1 : decode cX5_year 1 = .ok (.iconst 0, 1) := by decide +kernel
theorem dX5_year_2 : decode cX5_year 2 = .ok (.sipush 9999, 3) := by decide +kernel
theorem dX5_year_5 : decode cX5_year 5 = .ok (.invokestatic 102, 3) := by decide +kernel
theorem dX5_year_8 : decode cX5_year 8 = .ok (.ifCond .eq 22, 3) := by decide +kernel
theorem dX5_year_11 : decode cX5_year 11 = .ok (.iload_n 2, 1) := by decide +kernel
theorem dX5_year_12 : decode cX5_year 12 = .ok (.iconst 1, 1) := by decide +kernel
theorem dX5_year_13 : decode cX5_year 13 = .ok (.bipush 30, 2) := by decide +kernel
theorem dX5_year_15 : decode cX5_year 15 = .ok (.invokestatic 102, 3) := by decide +kernel
theorem dX5_year_18 : decode cX5_year 18 = .ok (.ifCond .eq 12, 3) := by decide +kernel
theorem dX5_year_21 : decode cX5_year 21 = .ok (.iload_n 3, 1) := by decide +kernel
theorem dX5_year_22 : decode cX5_year 22 = .ok (.iconst 0, 1) := by decide +kernel
theorem dX5_year_23 : decode cX5_year 23 = .ok (.iconst 1, 1) := by decide +kernel
theorem dX5_year_24 : decode cX5_year 24 = .ok (.invokestatic 102, 3) := by decide +kernel
theorem dX5_year_27 : decode cX5_year 27 = .ok (.ifCond .ne 5, 3) := by decide +kernel
theorem dX5_year_30 : decode cX5_year 30 = .ok (.iconst (-1), 1) := by decide +kernel
theorem dX5_year_31 : decode cX5_year 31 = .ok (.ireturn, 1) := by decide +kernel
theorem dX5_year_32 : decode cX5_year 32 = .ok (.aload_n 0, 1) := by decide +kernel
theorem dX5_year_33 : decode cX5_year 33 = .ok (.getfield 35, 3) := by decide +kernel
theorem dX5_year_36 : decode cX5_year 36 = .ok (.aload_n 0, 1) := by decide +kernel
theorem dX5_year_37 : decode cX5_year 37 = .ok (.getfield 28, 3) := by decide +kernel
theorem dX5_year_40 : decode cX5_year 40 = .ok (.invokevirtual 164, 3) := by decide +kernel
theorem dX5_year_43 : decode cX5_year 43 = .ok (.iconst 0, 1) := by decide +kernel
theorem dX5_year_44 : decode cX5_year 44 = .ok (.istore 4, 2) := by decide +kernel
theorem dX5_year_46 : decode cX5_year 46 = .ok (.iload 4, 2) := by decide +kernel
theorem dX5_year_48 : decode cX5_year 48 = .ok (.iload_n 2, 1) := by decide +kernel
theorem dX5_year_49 : decode cX5_year 49 = .ok (.if_icmp .ge 49, 3) := by decide +kernel
theorem dX5_year_52 : decode cX5_year 52 = .ok (.iload_n 1, 1) := by decide +kernel
theorem dX5_year_53 : decode cX5_year 53 = .ok (.iload 4, 2) := by decide +kernel
theorem dX5_year_55 : decode cX5_year 55 = .ok (.invokestatic 219, 3) := by decide +kernel
theorem dX5_year_58 : decode cX5_year 58 = .ok (.istore 5, 2) := by decide +kernel
theorem dX5_year_60 : decode cX5_year 60 = .ok (.aload_n 0, 1) := by decide +kernel
theorem dX5_year_61 : decode cX5_year 61 = .ok (.getfield 35, 3) := by decide +kernel
theorem dX5_year_64 : decode cX5_year 64 = .ok (.aload_n 0, 1) := by decide +kernel
theorem dX5_year_65 : decode cX5_year 65 = .ok (.getfield 21, 3) := by decide +kernel
theorem dX5_year_68 : decode cX5_year 68 = .ok (.iload 5, 2) := by decide +kernel
theorem dX5_year_70 : decode cX5_year 70 = .ok (.iconst 4, 1) := by decide +kernel
theorem dX5_year_71 : decode cX5_year 71 = .ok (.irem, 1) := by decide +kernel
theorem dX5_year_72 : decode cX5_year 72 = .ok (.invokevirtual 134, 3) := by decide +kernel
theorem dX5_year_75 : decode cX5_year 75 = .ok (.aload_n 0, 1) := by decide +kernel
theorem dX5_year_76 : decode cX5_year 76 = .ok (.getfield 35, 3) := by decide +kernel
theorem dX5_year_79 : decode cX5_year 79 = .ok (.aload_n 0, 1) := by decide +kernel
theorem dX5_year_80 : decode cX5_year 80 = .ok (.getfield 21, 3) := by decide +kernel
theorem dX5_year_83 : decode cX5_year 83 = .ok (.iload 5, 2) := by decide +kernel
theorem dX5_year_85 : decode cX5_year 85 = .ok (.iconst 4, 1) := by decide +kernel
theorem dX5_year_86 : decode cX5_year 86 = .ok (.idiv, 1) := by decide +kernel
theorem dX5_year_87 : decode cX5_year 87 = .ok (.iconst 4, 1) := by decide +kernel
theorem dX5_year_88 : decode cX5_year 88 = .ok (.irem, 1) := by decide +kernel
theorem dX5_year_89 : decode cX5_year 89 = .ok (.invokevirtual 142, 3) := by decide +kernel
theorem dX5_year_92 : decode cX5_year 92 = .ok (.iinc 4 1, 3) := by decide +kernel
theorem dX5_year_95 : decode cX5_year 95 = .ok (.goto (-49), 3) := by decide +kernel
theorem dX5_year_98 : decode cX5_year 98 = .ok (.iload_n 3, 1) := by decide +kernel
theorem dX5_year_99 : decode cX5_year 99 = .ok (.iconst 1, 1) := by decide +kernel
theorem dX5_year_100 : decode cX5_year 100 = .ok (.if_icmp .ne 15, 3) := by decide +kernel
theorem dX5_year_103 : decode cX5_year 103 = .ok (.aload_n 0, 1) := by decide +kernel
theorem dX5_year_104 : decode cX5_year 104 = .ok (.getfield 35, 3) := by decide +kernel
theorem dX5_year_107 : decode cX5_year 107 = .ok (.aload_n 0, 1) := by decide +kernel
theorem dX5_year_108 : decode cX5_year 108 = .ok (.getfield 21, 3) := by decide +kernel
theorem dX5_year_111 : decode cX5_year 111 = .ok (.invokevirtual 138, 3) := by decide +kernel
theorem dX5_year_114 : decode cX5_year 114 = .ok (.ireturn, 1) := by decide +kernel
theorem dX5_year_115 : decode cX5_year 115 = .ok (.aload_n 0, 1) := by decide +kernel
theorem dX5_year_116 : decode cX5_year 116 = .ok (.getfield 41, 3) := by decide +kernel
theorem dX5_year_119 : decode cX5_year 119 = .ok (.aload_n 0, 1) := by decide +kernel
theorem dX5_year_120 : decode cX5_year 120 = .ok (.getfield 21, 3) := by decide +kernel
theorem dX5_year_123 : decode cX5_year 123 = .ok (.aload_n 0, 1) := by decide +kernel
theorem dX5_year_124 : decode cX5_year 124 = .ok (.getfield 35, 3) := by decide +kernel
theorem dX5_year_127 : decode cX5_year 127 = .ok (.invokevirtual 115, 3) := by decide +kernel
theorem dX5_year_130 : decode cX5_year 130 = .ok (.aload_n 0, 1) := by decide +kernel
theorem dX5_year_131 : decode cX5_year 131 = .ok (.getfield 41, 3) := by decide +kernel
theorem dX5_year_134 : decode cX5_year 134 = .ok (.getfield 222, 3) := by decide +kernel
theorem dX5_year_137 : decode cX5_year 137 = .ok (.ireturn, 1) := by decide +kernel
theorem dX5_keep_0 : decode cX5_keep 0 = .ok (.aload_n 0, 1) := by decide +kernel
theorem dX5_keep_1 : decode cX5_keep 1 = .ok (.getfield 52, 3) := by decide +kernel
theorem dX5_keep_4 : decode cX5_keep 4 = .ok (.getfield 158, 3) := by decide +kernel
theorem dX5_keep_7 : decode cX5_keep 7 = .ok (.iconst 2, 1) := by decide +kernel
theorem dX5_keep_8 : decode cX5_keep 8 = .ok (.if_icmp .lt 6, 3) := by decide +kernel
theorem dX5_keep_11 : decode cX5_keep 11 = .ok (.bipush (-3), 2) := by decide +kernel
theorem dX5_keep_13 : decode cX5_keep 13 = .ok (.ireturn, 1) := by decide +kernel
theorem dX5_keep_14 : decode cX5_keep 14 = .ok (.aload_n 0, 1) := by decide +kernel
theorem dX5_keep_15 : decode cX5_keep 15 = .ok (.getfield 52, 3) := by decide +kernel
theorem dX5_keep_18 : decode cX5_keep 18 = .ok (.aload_n 0, 1) := by decide +kernel
theorem dX5_keep_19 : decode cX5_keep 19 = .ok (.getfield 28, 3) := by decide +kernel
theorem dX5_keep_22 : decode cX5_keep 22 = .ok (.invokevirtual 130, 3) := by decide +kernel
theorem dX5_keep_25 : decode cX5_keep 25 = .ok (.aload_n 0, 1) := by decide +kernel
theorem dX5_keep_26 : decode cX5_keep 26 = .ok (.getfield 52, 3) := by decide +kernel
theorem dX5_keep_29 : decode cX5_keep 29 = .ok (.getfield 158, 3) := by decide +kernel
theorem dX5_keep_32 : decode cX5_keep 32 = .ok (.ireturn, 1) := by decide +kernel
theorem dX5_back_0 : decode cX5_back 0 = .ok (.aload_n 0, 1) := by decide +kernel
theorem dX5_back_1 : decode cX5_back 1 = .ok (.getfield 52, 3) := by decide +kernel
theorem dX5_back_4 : decode cX5_back 4 = .ok (.getfield 158, 3) := by decide +kernel
theorem dX5_back_7 : decode cX5_back 7 = .ok (.ifCond .ne 6, 3) := by decide +kernel
theorem dX5_back_10 : decode cX5_back 10 = .ok (.bipush (-2), 2) := by decide +kernel
theorem dX5_back_12 : decode cX5_back 12 = .ok (.ireturn, 1) := by decide +kernel
theorem dX5_back_13 : decode cX5_back 13 = .ok (.aload_n 0, 1) := by decide +kernel
theorem dX5_back_14 : decode cX5_back 14 = .ok (.getfield 52, 3) := by decide +kernel
theorem dX5_back_17 : decode cX5_back 17 = .ok (.aload_n 0, 1) := by decide +kernel
theorem dX5_back_18 : decode cX5_back 18 = .ok (.getfield 28, 3) := by decide +kernel
theorem dX5_back_21 : decode cX5_back 21 = .ok (.invokevirtual 161, 3) := by decide +kernel
theorem dX5_back_24 : decode cX5_back 24 = .ok (.aload_n 0, 1) := by decide +kernel
theorem dX5_back_25 : decode cX5_back 25 = .ok (.getfield 48, 3) := by decide +kernel
theorem dX5_back_28 : decode cX5_back 28 = .ok (.iconst 0, 1) := by decide +kernel
theorem dX5_back_29 : decode cX5_back 29 = .ok (.putfield 158, 3) := by decide +kernel
theorem dX5_back_32 : decode cX5_back 32 = .ok (.aload_n 0, 1) := by decide +kernel
theorem dX5_back_33 : decode cX5_back 33 = .ok (.getfield 52, 3) := by decide +kernel
theorem dX5_back_36 : decode cX5_back 36 = .ok (.getfield 158, 3) := by decide +kernel
theorem dX5_back_39 : decode cX5_back 39 = .ok (.ireturn, 1) := by decide +kernel
theorem dX5_count_0 : decode cX5_count 0 = .ok (.iload_n 1, 1) := by decide +kernel
theorem dX5_count_1 : decode cX5_count 1 = .ok (.tableswitch 155 0 9 #[55, 63, 71, 83, 106, 118, 126, 131, 139, 147], 55) := by decide +kernel
theorem dX5_count_56 : decode cX5_count 56 = .ok (.aload_n 0, 1) := by decide +kernel
theorem dX5_count_57 : decode cX5_count 57 = .ok (.getfield 21, 3) := by decide +kernel
theorem dX5_count_60 : decode cX5_count 60 = .ok (.getfield 95, 3) := by decide +kernel
theorem dX5_count_63 : decode cX5_count 63 = .ok (.ireturn, 1) := by decide +kernel
theorem dX5_count_64 : decode cX5_count 64 = .ok (.aload_n 0, 1) := by decide +kernel
theorem dX5_count_65 : decode cX5_count 65 = .ok (.getfield 21, 3) := by decide +kernel
theorem dX5_count_68 : decode cX5_count 68 = .ok (.getfield 223, 3) := by decide +kernel
theorem dX5_count_71 : decode cX5_count 71 = .ok (.ireturn, 1) := by decide +kernel
theorem dX5_count_72 : decode cX5_count 72 = .ok (.aload_n 0, 1) := by decide +kernel
theorem dX5_count_73 : decode cX5_count 73 = .ok (.getfield 28, 3) := by decide +kernel
theorem dX5_count_76 : decode cX5_count 76 = .ok (.aload_n 0, 1) := by decide +kernel
theorem dX5_count_77 : decode cX5_count 77 = .ok (.getfield 21, 3) := by decide +kernel
theorem dX5_count_80 : decode cX5_count 80 = .ok (.invokevirtual 202, 3) := by decide +kernel
theorem dX5_count_83 : decode cX5_count 83 = .ok (.ireturn, 1) := by decide +kernel
theorem dX5_count_84 : decode cX5_count 84 = .ok (.aload_n 0, 1) := by decide +kernel
theorem dX5_count_85 : decode cX5_count 85 = .ok (.getfield 41, 3) := by decide +kernel
theorem dX5_count_88 : decode cX5_count 88 = .ok (.aload_n 0, 1) := by decide +kernel
theorem dX5_count_89 : decode cX5_count 89 = .ok (.getfield 21, 3) := by decide +kernel
theorem dX5_count_92 : decode cX5_count 92 = .ok (.aload_n 0, 1) := by decide +kernel
theorem dX5_count_93 : decode cX5_count 93 = .ok (.getfield 28, 3) := by decide +kernel
theorem dX5_count_96 : decode cX5_count 96 = .ok (.invokevirtual 115, 3) := by decide +kernel
theorem dX5_count_99 : decode cX5_count 99 = .ok (.aload_n 0, 1) := by decide +kernel
theorem dX5_count_100 : decode cX5_count 100 = .ok (.getfield 41, 3) := by decide +kernel
theorem dX5_count_103 : decode cX5_count 103 = .ok (.getfield 222, 3) := by decide +kernel
theorem dX5_count_106 : decode cX5_count 106 = .ok (.ireturn, 1) := by decide +kernel
theorem dX5_count_107 : decode cX5_count 107 = .ok (.aload_n 0, 1) := by decide +kernel
theorem dX5_count_108 : decode cX5_count 108 = .ok (.getfield 28, 3) := by decide +kernel
theorem dX5_count_111 : decode cX5_count 111 = .ok (.aload_n 0, 1) := by decide +kernel
theorem dX5_count_112 : decode cX5_count 112 = .ok (.getfield 21, 3) := by decide +kernel
theorem dX5_count_115 : decode cX5_count 115 = .ok (.invokevirtual 138, 3) := by decide +kernel
theorem dX5_count_118 : decode cX5_count 118 = .ok (.ireturn, 1) := by decide +kernel
theorem dX5_count_119 : decode cX5_count 119 = .ok (.aload_n 0, 1) := by decide +kernel
theorem dX5_count_120 : decode cX5_count 120 = .ok (.getfield 28, 3) := by decide +kernel
theorem dX5_count_123 : decode cX5_count 123 = .ok (.getfield 145, 3) := by decide +kernel
theorem dX5_count_126 : decode cX5_count 126 = .ok (.ireturn, 1) := by decide +kernel
theorem dX5_count_127 : decode cX5_count 127 = .ok (.aload_n 0, 1) := by decide +kernel
theorem dX5_count_128 : decode cX5_count 128 = .ok (.getfield 62, 3) := by decide +kernel
theorem dX5_count_131 : decode cX5_count 131 = .ok (.ireturn, 1) := by decide +kernel
theorem dX5_count_132 : decode cX5_count 132 = .ok (.aload_n 0, 1) := by decide +kernel
theorem dX5_count_133 : decode cX5_count 133 = .ok (.getfield 48, 3) := by decide +kernel
theorem dX5_count_136 : decode cX5_count 136 = .ok (.getfield 158, 3) := by decide +kernel
theorem dX5_count_139 : decode cX5_count 139 = .ok (.ireturn, 1) := by decide +kernel
theorem dX5_count_140 : decode cX5_count 140 = .ok (.aload_n 0, 1) := by decide +kernel
theorem dX5_count_141 : decode cX5_count 141 = .ok (.getfield 52, 3) := by decide +kernel
theorem dX5_count_144 : decode cX5_count 144 = .ok (.getfield 158, 3) := by decide +kernel
theorem dX5_count_147 : decode cX5_count 147 = .ok (.ireturn, 1) := by decide +kernel
theorem dX5_count_148 : decode cX5_count 148 = .ok (.aload_n 0, 1) := by decide +kernel
theorem dX5_count_149 : decode cX5_count 149 = .ok (.getfield 14, 3) := by decide +kernel
theorem dX5_count_152 : decode cX5_count 152 = .ok (.getfield 89, 3) := by decide +kernel
theorem dX5_count_155 : decode cX5_count 155 = .ok (.ireturn, 1) := by decide +kernel
theorem dX5_count_156 : decode cX5_count 156 = .ok (.iconst (-1), 1) := by decide +kernel
theorem dX5_count_157 : decode cX5_count 157 = .ok (.ireturn, 1) := by decide +kernel
theorem dX5_isFrom_0 : decode cX5_isFrom 0 = .ok (.iload_n 0, 1) := by decide +kernel
theorem dX5_isFrom_1 : decode cX5_isFrom 1 = .ok (.iload_n 1, 1) := by decide +kernel
theorem dX5_isFrom_2 : decode cX5_isFrom 2 = .ok (.if_icmp .lt 12, 3) := by decide +kernel
theorem dX5_isFrom_5 : decode cX5_isFrom 5 = .ok (.iload_n 0, 1) := by decide +kernel
theorem dX5_isFrom_6 : decode cX5_isFrom 6 = .ok (.iload_n 2, 1) := by decide +kernel
theorem dX5_isFrom_7 : decode cX5_isFrom 7 = .ok (.if_icmp .gt 7, 3) := by decide +kernel
theorem dX5_isFrom_10 : decode cX5_isFrom 10 = .ok (.iconst 1, 1) := by decide +kernel
theorem dX5_isFrom_11 : decode cX5_isFrom 11 = .ok (.goto 4, 3) := by decide +kernel
theorem dX5_isFrom_14 : decode cX5_isFrom 14 = .ok (.iconst 0, 1) := by decide +kernel
theorem dX5_isFrom_15 : decode cX5_isFrom 15 = .ok (.ireturn, 1) := by decide +kernel
theorem dX5_areTwo_0 : decode cX5_areTwo 0 = .ok (.aload_n 0, 1) := by decide +kernel
theorem dX5_areTwo_1 : decode cX5_areTwo 1 = .ok (.getfield 21, 3) := by decide +kernel
theorem dX5_areTwo_4 : decode cX5_areTwo 4 = .ok (.iload_n 1, 1) := by decide +kernel
theorem dX5_areTwo_5 : decode cX5_areTwo 5 = .ok (.invokevirtual 98, 3) := by decide +kernel
theorem dX5_areTwo_8 : decode cX5_areTwo 8 = .ok (.ifCond .eq 23, 3) := by decide +kernel
theorem dX5_areTwo_11 : decode cX5_areTwo 11 = .ok (.aload_n 0, 1) := by decide +kernel
theorem dX5_areTwo_12 : decode cX5_areTwo 12 = .ok (.getfield 21, 3) := by decide +kernel
theorem dX5_areTwo_15 : decode cX5_areTwo 15 = .ok (.iload_n 2, 1) := by decide +kernel
theorem dX5_areTwo_16 : decode cX5_areTwo 16 = .ok (.invokevirtual 98, 3) := by decide +kernel
theorem dX5_areTwo_19 : decode cX5_areTwo 19 = .ok (.ifCond .eq 12, 3) := by decide +kernel
theorem dX5_areTwo_22 : decode cX5_areTwo 22 = .ok (.iload_n 1, 1) := by decide +kernel
theorem dX5_areTwo_23 : decode cX5_areTwo 23 = .ok (.iload_n 2, 1) := by decide +kernel
theorem dX5_areTwo_24 : decode cX5_areTwo 24 = .ok (.if_icmp .eq 7, 3) := by decide +kernel
theorem dX5_areTwo_27 : decode cX5_areTwo 27 = .ok (.iconst 1, 1) := by decide +kernel
theorem dX5_areTwo_28 : decode cX5_areTwo 28 = .ok (.goto 4, 3) := by decide +kernel
theorem dX5_areTwo_31 : decode cX5_areTwo 31 = .ok (.iconst 0, 1) := by decide +kernel
theorem dX5_areTwo_32 : decode cX5_areTwo 32 = .ok (.ireturn, 1) := by decide +kernel
theorem dX5_layText_0 : decode cX5_layText 0 = .ok (.aload_n 0, 1) := by decide +kernel
theorem dX5_layText_1 : decode cX5_layText 1 = .ok (.getfield 14, 3) := by decide +kernel
theorem dX5_layText_4 : decode cX5_layText 4 = .ok (.aload_n 0, 1) := by decide +kernel
theorem dX5_layText_5 : decode cX5_layText 5 = .ok (.getfield 32, 3) := by decide +kernel
theorem dX5_layText_8 : decode cX5_layText 8 = .ok (.aload_n 0, 1) := by decide +kernel
theorem dX5_layText_9 : decode cX5_layText 9 = .ok (.getfield 35, 3) := by decide +kernel
theorem dX5_layText_12 : decode cX5_layText 12 = .ok (.invokevirtual 91, 3) := by decide +kernel
theorem dX5_layText_15 : decode cX5_layText 15 = .ok (.bipush (-4), 2) := by decide +kernel
theorem dX5_layText_17 : decode cX5_layText 17 = .ok (.if_icmp .eq 5, 3) := by decide +kernel
theorem dX5_layText_20 : decode cX5_layText 20 = .ok (.iconst 0, 1) := by decide +kernel
theorem dX5_layText_21 : decode cX5_layText 21 = .ok (.ireturn, 1) := by decide +kernel
theorem dX5_layText_22 : decode cX5_layText 22 = .ok (.aload_n 0, 1) := by decide +kernel
theorem dX5_layText_23 : decode cX5_layText 23 = .ok (.getfield 21, 3) := by decide +kernel
theorem dX5_layText_26 : decode cX5_layText 26 = .ok (.aload_n 0, 1) := by decide +kernel
theorem dX5_layText_27 : decode cX5_layText 27 = .ok (.getfield 32, 3) := by decide +kernel
theorem dX5_layText_30 : decode cX5_layText 30 = .ok (.invokevirtual 192, 3) := by decide +kernel
theorem dX5_layText_33 : decode cX5_layText 33 = .ok (.aload_n 0, 1) := by decide +kernel
theorem dX5_layText_34 : decode cX5_layText 34 = .ok (.getfield 28, 3) := by decide +kernel
theorem dX5_layText_37 : decode cX5_layText 37 = .ok (.aload_n 0, 1) := by decide +kernel
theorem dX5_layText_38 : decode cX5_layText 38 = .ok (.getfield 35, 3) := by decide +kernel
theorem dX5_layText_41 : decode cX5_layText 41 = .ok (.invokevirtual 164, 3) := by decide +kernel
theorem dX5_layText_44 : decode cX5_layText 44 = .ok (.aload_n 0, 1) := by decide +kernel
theorem dX5_layText_45 : decode cX5_layText 45 = .ok (.getfield 28, 3) := by decide +kernel
theorem dX5_layText_48 : decode cX5_layText 48 = .ok (.aload_n 0, 1) := by decide +kernel
theorem dX5_layText_49 : decode cX5_layText 49 = .ok (.getfield 21, 3) := by decide +kernel
theorem dX5_layText_52 : decode cX5_layText 52 = .ok (.invokevirtual 154, 3) := by decide +kernel
theorem dX5_layText_55 : decode cX5_layText 55 = .ok (.aload_n 0, 1) := by decide +kernel
theorem dX5_layText_56 : decode cX5_layText 56 = .ok (.iconst 0, 1) := by decide +kernel
theorem dX5_layText_57 : decode cX5_layText 57 = .ok (.putfield 62, 3) := by decide +kernel
theorem dX5_layText_60 : decode cX5_layText 60 = .ok (.aload_n 0, 1) := by decide +kernel
theorem dX5_layText_61 : decode cX5_layText 61 = .ok (.getfield 48, 3) := by decide +kernel
theorem dX5_layText_64 : decode cX5_layText 64 = .ok (.iconst 0, 1) := by decide +kernel
theorem dX5_layText_65 : decode cX5_layText 65 = .ok (.putfield 158, 3) := by decide +kernel
theorem dX5_layText_68 : decode cX5_layText 68 = .ok (.aload_n 0, 1) := by decide +kernel
theorem dX5_layText_69 : decode cX5_layText 69 = .ok (.getfield 52, 3) := by decide +kernel
theorem dX5_layText_72 : decode cX5_layText 72 = .ok (.iconst 0, 1) := by decide +kernel
theorem dX5_layText_73 : decode cX5_layText 73 = .ok (.putfield 158, 3) := by decide +kernel
theorem dX5_layText_76 : decode cX5_layText 76 = .ok (.iconst 1, 1) := by decide +kernel
theorem dX5_layText_77 : decode cX5_layText 77 = .ok (.ireturn, 1) := by decide +kernel
theorem dX5_apartBehindRain_0 : decode cX5_apartBehindRain 0 = .ok (.aload_n 0, 1) := by decide +kernel
theorem dX5_apartBehindRain_1 : decode cX5_apartBehindRain 1 = .ok (.getfield 35, 3) := by decide +kernel
theorem dX5_apartBehindRain_4 : decode cX5_apartBehindRain 4 = .ok (.aload_n 0, 1) := by decide +kernel
theorem dX5_apartBehindRain_5 : decode cX5_apartBehindRain 5 = .ok (.getfield 28, 3) := by decide +kernel
theorem dX5_apartBehindRain_8 : decode cX5_apartBehindRain 8 = .ok (.invokevirtual 164, 3) := by decide +kernel
theorem dX5_apartBehindRain_11 : decode cX5_apartBehindRain 11 = .ok (.aload_n 0, 1) := by decide +kernel
theorem dX5_apartBehindRain_12 : decode cX5_apartBehindRain 12 = .ok (.getfield 35, 3) := by decide +kernel
theorem dX5_apartBehindRain_15 : decode cX5_apartBehindRain 15 = .ok (.aload_n 1, 1) := by decide +kernel
theorem dX5_apartBehindRain_16 : decode cX5_apartBehindRain 16 = .ok (.iload 4, 2) := by decide +kernel
theorem dX5_apartBehindRain_18 : decode cX5_apartBehindRain 18 = .ok (.invokevirtual 134, 3) := by decide +kernel
theorem dX5_apartBehindRain_21 : decode cX5_apartBehindRain 21 = .ok (.aload_n 0, 1) := by decide +kernel
theorem dX5_apartBehindRain_22 : decode cX5_apartBehindRain 22 = .ok (.getfield 41, 3) := by decide +kernel
theorem dX5_apartBehindRain_25 : decode cX5_apartBehindRain 25 = .ok (.aload_n 1, 1) := by decide +kernel
theorem dX5_apartBehindRain_26 : decode cX5_apartBehindRain 26 = .ok (.aload_n 0, 1) := by decide +kernel
theorem dX5_apartBehindRain_27 : decode cX5_apartBehindRain 27 = .ok (.getfield 35, 3) := by decide +kernel
theorem dX5_apartBehindRain_30 : decode cX5_apartBehindRain 30 = .ok (.invokevirtual 115, 3) := by decide +kernel
theorem dX5_apartBehindRain_33 : decode cX5_apartBehindRain 33 = .ok (.aload_n 0, 1) := by decide +kernel
theorem dX5_apartBehindRain_34 : decode cX5_apartBehindRain 34 = .ok (.getfield 41, 3) := by decide +kernel
theorem dX5_apartBehindRain_37 : decode cX5_apartBehindRain 37 = .ok (.iload_n 2, 1) := by decide +kernel
theorem dX5_apartBehindRain_38 : decode cX5_apartBehindRain 38 = .ok (.iload_n 3, 1) := by decide +kernel
theorem dX5_apartBehindRain_39 : decode cX5_apartBehindRain 39 = .ok (.invokevirtual 178, 3) := by decide +kernel
theorem dX5_apartBehindRain_42 : decode cX5_apartBehindRain 42 = .ok (.ireturn, 1) := by decide +kernel
theorem dX5_mayBeKerb_0 : decode cX5_mayBeKerb 0 = .ok (.aload_n 0, 1) := by decide +kernel
theorem dX5_mayBeKerb_1 : decode cX5_mayBeKerb 1 = .ok (.getfield 21, 3) := by decide +kernel
theorem dX5_mayBeKerb_4 : decode cX5_mayBeKerb 4 = .ok (.iload_n 1, 1) := by decide +kernel
theorem dX5_mayBeKerb_5 : decode cX5_mayBeKerb 5 = .ok (.invokevirtual 98, 3) := by decide +kernel
theorem dX5_mayBeKerb_8 : decode cX5_mayBeKerb 8 = .ok (.ifCond .eq 42, 3) := by decide +kernel
theorem dX5_mayBeKerb_11 : decode cX5_mayBeKerb 11 = .ok (.iload_n 1, 1) := by decide +kernel
theorem dX5_mayBeKerb_12 : decode cX5_mayBeKerb 12 = .ok (.iload_n 2, 1) := by decide +kernel
theorem dX5_mayBeKerb_13 : decode cX5_mayBeKerb 13 = .ok (.if_icmp .eq 37, 3) := by decide +kernel
theorem dX5_mayBeKerb_16 : decode cX5_mayBeKerb 16 = .ok (.iload_n 1, 1) := by decide +kernel
theorem dX5_mayBeKerb_17 : decode cX5_mayBeKerb 17 = .ok (.iload_n 3, 1) := by decide +kernel
theorem dX5_mayBeKerb_18 : decode cX5_mayBeKerb 18 = .ok (.if_icmp .eq 32, 3) := by decide +kernel
theorem dX5_mayBeKerb_21 : decode cX5_mayBeKerb 21 = .ok (.aload_n 0, 1) := by decide +kernel
theorem dX5_mayBeKerb_22 : decode cX5_mayBeKerb 22 = .ok (.getfield 21, 3) := by decide +kernel
theorem dX5_mayBeKerb_25 : decode cX5_mayBeKerb 25 = .ok (.getfield 109, 3) := by decide +kernel
theorem dX5_mayBeKerb_28 : decode cX5_mayBeKerb 28 = .ok (.iload_n 1, 1) := by decide +kernel
theorem dX5_mayBeKerb_29 : decode cX5_mayBeKerb 29 = .ok (.iaload, 1) := by decide +kernel
theorem dX5_mayBeKerb_30 : decode cX5_mayBeKerb 30 = .ok (.iconst 3, 1) := by decide +kernel
theorem dX5_mayBeKerb_31 : decode cX5_mayBeKerb 31 = .ok (.if_icmp .eq 19, 3) := by decide +kernel
theorem dX5_mayBeKerb_34 : decode cX5_mayBeKerb 34 = .ok (.aload_n 0, 1) := by decide +kernel
theorem dX5_mayBeKerb_35 : decode cX5_mayBeKerb 35 = .ok (.getfield 28, 3) := by decide +kernel
theorem dX5_mayBeKerb_38 : decode cX5_mayBeKerb 38 = .ok (.getfield 112, 3) := by decide +kernel
theorem dX5_mayBeKerb_41 : decode cX5_mayBeKerb 41 = .ok (.iload_n 1, 1) := by decide +kernel
theorem dX5_mayBeKerb_42 : decode cX5_mayBeKerb 42 = .ok (.iaload, 1) := by decide +kernel
theorem dX5_mayBeKerb_43 : decode cX5_mayBeKerb 43 = .ok (.ifCond .ne 7, 3) := by decide +kernel
theorem dX5_mayBeKerb_46 : decode cX5_mayBeKerb 46 = .ok (.iconst 1, 1) := by decide +kernel
theorem dX5_mayBeKerb_47 : decode cX5_mayBeKerb 47 = .ok (.goto 4, 3) := by decide +kernel
theorem dX5_mayBeKerb_50 : decode cX5_mayBeKerb 50 = .ok (.iconst 0, 1) := by decide +kernel
theorem dX5_mayBeKerb_51 : decode cX5_mayBeKerb 51 = .ok (.ireturn, 1) := by decide +kernel
theorem dX5_ringsHold_0 : decode cX5_ringsHold 0 = .ok (.iconst 0, 1) := by decide +kernel
theorem dX5_ringsHold_1 : decode cX5_ringsHold 1 = .ok (.istore_n 1, 1) := by decide +kernel
theorem dX5_ringsHold_2 : decode cX5_ringsHold 2 = .ok (.iload_n 1, 1) := by decide +kernel
theorem dX5_ringsHold_3 : decode cX5_ringsHold 3 = .ok (.aload_n 0, 1) := by decide +kernel
theorem dX5_ringsHold_4 : decode cX5_ringsHold 4 = .ok (.getfield 62, 3) := by decide +kernel
theorem dX5_ringsHold_7 : decode cX5_ringsHold 7 = .ok (.if_icmp .ge 53, 3) := by decide +kernel
theorem dX5_ringsHold_10 : decode cX5_ringsHold 10 = .ok (.iload_n 1, 1) := by decide +kernel
theorem dX5_ringsHold_11 : decode cX5_ringsHold 11 = .ok (.bipush 6, 2) := by decide +kernel
theorem dX5_ringsHold_13 : decode cX5_ringsHold 13 = .ok (.if_icmp .ge 47, 3) := by decide +kernel
theorem dX5_ringsHold_16 : decode cX5_ringsHold 16 = .ok (.aload_n 0, 1) := by decide +kernel
theorem dX5_ringsHold_17 : decode cX5_ringsHold 17 = .ok (.getfield 55, 3) := by decide +kernel
theorem dX5_ringsHold_20 : decode cX5_ringsHold 20 = .ok (.iload_n 1, 1) := by decide +kernel
theorem dX5_ringsHold_21 : decode cX5_ringsHold 21 = .ok (.iaload, 1) := by decide +kernel
theorem dX5_ringsHold_22 : decode cX5_ringsHold 22 = .ok (.istore_n 2, 1) := by decide +kernel
theorem dX5_ringsHold_23 : decode cX5_ringsHold 23 = .ok (.aload_n 0, 1) := by decide +kernel
theorem dX5_ringsHold_24 : decode cX5_ringsHold 24 = .ok (.getfield 21, 3) := by decide +kernel
theorem dX5_ringsHold_27 : decode cX5_ringsHold 27 = .ok (.iload_n 2, 1) := by decide +kernel
theorem dX5_ringsHold_28 : decode cX5_ringsHold 28 = .ok (.invokevirtual 98, 3) := by decide +kernel
theorem dX5_ringsHold_31 : decode cX5_ringsHold 31 = .ok (.ifCond .eq 21, 3) := by decide +kernel
theorem dX5_ringsHold_34 : decode cX5_ringsHold 34 = .ok (.aload_n 0, 1) := by decide +kernel
theorem dX5_ringsHold_35 : decode cX5_ringsHold 35 = .ok (.getfield 35, 3) := by decide +kernel
theorem dX5_ringsHold_38 : decode cX5_ringsHold 38 = .ok (.getfield 112, 3) := by decide +kernel
theorem dX5_ringsHold_41 : decode cX5_ringsHold 41 = .ok (.iload_n 2, 1) := by decide +kernel
theorem dX5_ringsHold_42 : decode cX5_ringsHold 42 = .ok (.iaload, 1) := by decide +kernel
theorem dX5_ringsHold_43 : decode cX5_ringsHold 43 = .ok (.aload_n 0, 1) := by decide +kernel
theorem dX5_ringsHold_44 : decode cX5_ringsHold 44 = .ok (.getfield 59, 3) := by decide +kernel
theorem dX5_ringsHold_47 : decode cX5_ringsHold 47 = .ok (.iload_n 1, 1) := by decide +kernel
theorem dX5_ringsHold_48 : decode cX5_ringsHold 48 = .ok (.iaload, 1) := by decide +kernel
theorem dX5_ringsHold_49 : decode cX5_ringsHold 49 = .ok (.if_icmp .eq 5, 3) := by decide +kernel
theorem dX5_ringsHold_52 : decode cX5_ringsHold 52 = .ok (.iconst 0, 1) := by decide +kernel
theorem dX5_ringsHold_53 : decode cX5_ringsHold 53 = .ok (.ireturn, 1) := by decide +kernel
theorem dX5_ringsHold_54 : decode cX5_ringsHold 54 = .ok (.iinc 1 1, 3) := by decide +kernel
theorem dX5_ringsHold_57 : decode cX5_ringsHold 57 = .ok (.goto (-55), 3) := by decide +kernel
theorem dX5_ringsHold_60 : decode cX5_ringsHold 60 = .ok (.iconst 1, 1) := by decide +kernel
theorem dX5_ringsHold_61 : decode cX5_ringsHold 61 = .ok (.ireturn, 1) := by decide +kernel
theorem dX5_wetBehindHours_0 : decode cX5_wetBehindHours 0 = .ok (.iconst 0, 1) := by decide +kernel
theorem dX5_wetBehindHours_1 : decode cX5_wetBehindHours 1 = .ok (.istore_n 3, 1) := by decide +kernel
theorem dX5_wetBehindHours_2 : decode cX5_wetBehindHours 2 = .ok (.aload_n 0, 1) := by decide +kernel
theorem dX5_wetBehindHours_3 : decode cX5_wetBehindHours 3 = .ok (.getfield 35, 3) := by decide +kernel
theorem dX5_wetBehindHours_6 : decode cX5_wetBehindHours 6 = .ok (.aload_n 0, 1) := by decide +kernel
theorem dX5_wetBehindHours_7 : decode cX5_wetBehindHours 7 = .ok (.getfield 28, 3) := by decide +kernel
theorem dX5_wetBehindHours_10 : decode cX5_wetBehindHours 10 = .ok (.invokevirtual 164, 3) := by decide +kernel
theorem dX5_wetBehindHours_13 : decode cX5_wetBehindHours 13 = .ok (.iconst 0, 1) := by decide +kernel
theorem dX5_wetBehindHours_14 : decode cX5_wetBehindHours 14 = .ok (.istore 4, 2) := by decide +kernel
theorem dX5_wetBehindHours_16 : decode cX5_wetBehindHours 16 = .ok (.iload 4, 2) := by decide +kernel
theorem dX5_wetBehindHours_18 : decode cX5_wetBehindHours 18 = .ok (.iload_n 2, 1) := by decide +kernel
theorem dX5_wetBehindHours_19 : decode cX5_wetBehindHours 19 = .ok (.if_icmp .gt 51, 3) := by decide +kernel
theorem dX5_wetBehindHours_22 : decode cX5_wetBehindHours 22 = .ok (.aload_n 0, 1) := by decide +kernel
theorem dX5_wetBehindHours_23 : decode cX5_wetBehindHours 23 = .ok (.getfield 21, 3) := by decide +kernel
theorem dX5_wetBehindHours_26 : decode cX5_wetBehindHours 26 = .ok (.iload_n 1, 1) := by decide +kernel
theorem dX5_wetBehindHours_27 : decode cX5_wetBehindHours 27 = .ok (.invokevirtual 98, 3) := by decide +kernel
theorem dX5_wetBehindHours_30 : decode cX5_wetBehindHours 30 = .ok (.ifCond .eq 22, 3) := by decide +kernel
theorem dX5_wetBehindHours_33 : decode cX5_wetBehindHours 33 = .ok (.aload_n 0, 1) := by decide +kernel
theorem dX5_wetBehindHours_34 : decode cX5_wetBehindHours 34 = .ok (.getfield 35, 3) := by decide +kernel
theorem dX5_wetBehindHours_37 : decode cX5_wetBehindHours 37 = .ok (.getfield 112, 3) := by decide +kernel
theorem dX5_wetBehindHours_40 : decode cX5_wetBehindHours 40 = .ok (.iload_n 1, 1) := by decide +kernel
theorem dX5_wetBehindHours_41 : decode cX5_wetBehindHours 41 = .ok (.iaload, 1) := by decide +kernel
theorem dX5_wetBehindHours_42 : decode cX5_wetBehindHours 42 = .ok (.ifCond .le 10, 3) := by decide +kernel
theorem dX5_wetBehindHours_45 : decode cX5_wetBehindHours 45 = .ok (.iload_n 3, 1) := by decide +kernel
theorem dX5_wetBehindHours_46 : decode cX5_wetBehindHours 46 = .ok (.iconst 1, 1) := by decide +kernel
theorem dX5_wetBehindHours_47 : decode cX5_wetBehindHours 47 = .ok (.iload 4, 2) := by decide +kernel
theorem dX5_wetBehindHours_49 : decode cX5_wetBehindHours 49 = .ok (.ishl, 1) := by decide +kernel
theorem dX5_wetBehindHours_50 : decode cX5_wetBehindHours 50 = .ok (.ior, 1) := by decide +kernel
theorem dX5_wetBehindHours_51 : decode cX5_wetBehindHours 51 = .ok (.istore_n 3, 1) := by decide +kernel
theorem dX5_wetBehindHours_52 : decode cX5_wetBehindHours 52 = .ok (.aload_n 0, 1) := by decide +kernel
theorem dX5_wetBehindHours_53 : decode cX5_wetBehindHours 53 = .ok (.getfield 35, 3) := by decide +kernel
theorem dX5_wetBehindHours_56 : decode cX5_wetBehindHours 56 = .ok (.aload_n 0, 1) := by decide +kernel
theorem dX5_wetBehindHours_57 : decode cX5_wetBehindHours 57 = .ok (.getfield 21, 3) := by decide +kernel
theorem dX5_wetBehindHours_60 : decode cX5_wetBehindHours 60 = .ok (.iconst 1, 1) := by decide +kernel
theorem dX5_wetBehindHours_61 : decode cX5_wetBehindHours 61 = .ok (.invokevirtual 142, 3) := by decide +kernel
theorem dX5_wetBehindHours_64 : decode cX5_wetBehindHours 64 = .ok (.iinc 4 1, 3) := by decide +kernel
theorem dX5_wetBehindHours_67 : decode cX5_wetBehindHours 67 = .ok (.goto (-51), 3) := by decide +kernel
theorem dX5_wetBehindHours_70 : decode cX5_wetBehindHours 70 = .ok (.iload_n 3, 1) := by decide +kernel
theorem dX5_wetBehindHours_71 : decode cX5_wetBehindHours 71 = .ok (.ireturn, 1) := by decide +kernel
theorem dX5_lowestTerms_0 : decode cX5_lowestTerms 0 = .ok (.iload_n 0, 1) := by decide +kernel
theorem dX5_lowestTerms_1 : decode cX5_lowestTerms 1 = .ok (.iload_n 1, 1) := by decide +kernel
theorem dX5_lowestTerms_2 : decode cX5_lowestTerms 2 = .ok (.invokestatic 226, 3) := by decide +kernel
theorem dX5_lowestTerms_5 : decode cX5_lowestTerms 5 = .ok (.istore_n 3, 1) := by decide +kernel
theorem dX5_lowestTerms_6 : decode cX5_lowestTerms 6 = .ok (.iload_n 2, 1) := by decide +kernel
theorem dX5_lowestTerms_7 : decode cX5_lowestTerms 7 = .ok (.ifCond .ne 7, 3) := by decide +kernel
theorem dX5_lowestTerms_10 : decode cX5_lowestTerms 10 = .ok (.iload_n 0, 1) := by decide +kernel
theorem dX5_lowestTerms_11 : decode cX5_lowestTerms 11 = .ok (.goto 4, 3) := by decide +kernel
theorem dX5_lowestTerms_14 : decode cX5_lowestTerms 14 = .ok (.iload_n 1, 1) := by decide +kernel
theorem dX5_lowestTerms_15 : decode cX5_lowestTerms 15 = .ok (.istore 4, 2) := by decide +kernel
theorem dX5_lowestTerms_17 : decode cX5_lowestTerms 17 = .ok (.iload_n 3, 1) := by decide +kernel
theorem dX5_lowestTerms_18 : decode cX5_lowestTerms 18 = .ok (.iconst 1, 1) := by decide +kernel
theorem dX5_lowestTerms_19 : decode cX5_lowestTerms 19 = .ok (.if_icmp .le 10, 3) := by decide +kernel
theorem dX5_lowestTerms_22 : decode cX5_lowestTerms 22 = .ok (.iload 4, 2) := by decide +kernel
theorem dX5_lowestTerms_24 : decode cX5_lowestTerms 24 = .ok (.iload_n 3, 1) := by decide +kernel
theorem dX5_lowestTerms_25 : decode cX5_lowestTerms 25 = .ok (.idiv, 1) := by decide +kernel
theorem dX5_lowestTerms_26 : decode cX5_lowestTerms 26 = .ok (.goto 5, 3) := by decide +kernel
theorem dX5_lowestTerms_29 : decode cX5_lowestTerms 29 = .ok (.iload 4, 2) := by decide +kernel
theorem dX5_lowestTerms_31 : decode cX5_lowestTerms 31 = .ok (.ireturn, 1) := by decide +kernel
theorem dX5_commonDivisor_0 : decode cX5_commonDivisor 0 = .ok (.iconst 0, 1) := by decide +kernel
theorem dX5_commonDivisor_1 : decode cX5_commonDivisor 1 = .ok (.istore_n 2, 1) := by decide +kernel
theorem dX5_commonDivisor_2 : decode cX5_commonDivisor 2 = .ok (.iload_n 2, 1) := by decide +kernel
theorem dX5_commonDivisor_3 : decode cX5_commonDivisor 3 = .ok (.bipush 64, 2) := by decide +kernel
theorem dX5_commonDivisor_5 : decode cX5_commonDivisor 5 = .ok (.if_icmp .ge 21, 3) := by decide +kernel
theorem dX5_commonDivisor_8 : decode cX5_commonDivisor 8 = .ok (.iload_n 1, 1) := by decide +kernel
theorem dX5_commonDivisor_9 : decode cX5_commonDivisor 9 = .ok (.ifCond .eq 17, 3) := by decide +kernel
theorem dX5_commonDivisor_12 : decode cX5_commonDivisor 12 = .ok (.iload_n 0, 1) := by decide +kernel
theorem dX5_commonDivisor_13 : decode cX5_commonDivisor 13 = .ok (.iload_n 1, 1) := by decide +kernel
theorem dX5_commonDivisor_14 : decode cX5_commonDivisor 14 = .ok (.irem, 1) := by decide +kernel
theorem dX5_commonDivisor_15 : decode cX5_commonDivisor 15 = .ok (.istore_n 3, 1) := by decide +kernel
theorem dX5_commonDivisor_16 : decode cX5_commonDivisor 16 = .ok (.iload_n 1, 1) := by decide +kernel
theorem dX5_commonDivisor_17 : decode cX5_commonDivisor 17 = .ok (.istore_n 0, 1) := by decide +kernel
theorem dX5_commonDivisor_18 : decode cX5_commonDivisor 18 = .ok (.iload_n 3, 1) := by decide +kernel
theorem dX5_commonDivisor_19 : decode cX5_commonDivisor 19 = .ok (.istore_n 1, 1) := by decide +kernel
theorem dX5_commonDivisor_20 : decode cX5_commonDivisor 20 = .ok (.iinc 2 1, 3) := by decide +kernel
theorem dX5_commonDivisor_23 : decode cX5_commonDivisor 23 = .ok (.goto (-21), 3) := by decide +kernel
theorem dX5_commonDivisor_26 : decode cX5_commonDivisor 26 = .ok (.iload_n 0, 1) := by decide +kernel
theorem dX5_commonDivisor_27 : decode cX5_commonDivisor 27 = .ok (.ireturn, 1) := by decide +kernel
theorem dX5_power_0 : decode cX5_power 0 = .ok (.iconst 1, 1) := by decide +kernel
theorem dX5_power_1 : decode cX5_power 1 = .ok (.istore_n 2, 1) := by decide +kernel
theorem dX5_power_2 : decode cX5_power 2 = .ok (.iconst 0, 1) := by decide +kernel
theorem dX5_power_3 : decode cX5_power 3 = .ok (.istore_n 3, 1) := by decide +kernel
theorem dX5_power_4 : decode cX5_power 4 = .ok (.iload_n 3, 1) := by decide +kernel
theorem dX5_power_5 : decode cX5_power 5 = .ok (.iload_n 1, 1) := by decide +kernel
theorem dX5_power_6 : decode cX5_power 6 = .ok (.if_icmp .ge 13, 3) := by decide +kernel
theorem dX5_power_9 : decode cX5_power 9 = .ok (.iload_n 2, 1) := by decide +kernel
theorem dX5_power_10 : decode cX5_power 10 = .ok (.iload_n 0, 1) := by decide +kernel
theorem dX5_power_11 : decode cX5_power 11 = .ok (.imul, 1) := by decide +kernel
theorem dX5_power_12 : decode cX5_power 12 = .ok (.istore_n 2, 1) := by decide +kernel
theorem dX5_power_13 : decode cX5_power 13 = .ok (.iinc 3 1, 3) := by decide +kernel
theorem dX5_power_16 : decode cX5_power 16 = .ok (.goto (-12), 3) := by decide +kernel
theorem dX5_power_19 : decode cX5_power 19 = .ok (.iload_n 2, 1) := by decide +kernel
theorem dX5_power_20 : decode cX5_power 20 = .ok (.ireturn, 1) := by decide +kernel
theorem dX5_drawOf_0 : decode cX5_drawOf 0 = .ok (.ldc2_w 229, 3) := by decide +kernel
theorem dX5_drawOf_3 : decode cX5_drawOf 3 = .ok (.iload_n 0, 1) := by decide +kernel
theorem dX5_drawOf_4 : decode cX5_drawOf 4 = .ok (.i2l, 1) := by decide +kernel
theorem dX5_drawOf_5 : decode cX5_drawOf 5 = .ok (.lmul, 1) := by decide +kernel
theorem dX5_drawOf_6 : decode cX5_drawOf 6 = .ok (.ldc2_w 231, 3) := by decide +kernel
theorem dX5_drawOf_9 : decode cX5_drawOf 9 = .ok (.iload_n 1, 1) := by decide +kernel
theorem dX5_drawOf_10 : decode cX5_drawOf 10 = .ok (.i2l, 1) := by decide +kernel
theorem dX5_drawOf_11 : decode cX5_drawOf 11 = .ok (.lmul, 1) := by decide +kernel
theorem dX5_drawOf_12 : decode cX5_drawOf 12 = .ok (.ladd, 1) := by decide +kernel
theorem dX5_drawOf_13 : decode cX5_drawOf 13 = .ok (.lconst 1, 1) := by decide +kernel
theorem dX5_drawOf_14 : decode cX5_drawOf 14 = .ok (.ladd, 1) := by decide +kernel
theorem dX5_drawOf_15 : decode cX5_drawOf 15 = .ok (.lstore_n 2, 1) := by decide +kernel
theorem dX5_drawOf_16 : decode cX5_drawOf 16 = .ok (.lload_n 2, 1) := by decide +kernel
theorem dX5_drawOf_17 : decode cX5_drawOf 17 = .ok (.lload_n 2, 1) := by decide +kernel
theorem dX5_drawOf_18 : decode cX5_drawOf 18 = .ok (.lmul, 1) := by decide +kernel
theorem dX5_drawOf_19 : decode cX5_drawOf 19 = .ok (.ldc2_w 233, 3) := by decide +kernel
theorem dX5_drawOf_22 : decode cX5_drawOf 22 = .ok (.lrem, 1) := by decide +kernel
theorem dX5_drawOf_23 : decode cX5_drawOf 23 = .ok (.ldc2_w 235, 3) := by decide +kernel
theorem dX5_drawOf_26 : decode cX5_drawOf 26 = .ok (.ldiv, 1) := by decide +kernel
theorem dX5_drawOf_27 : decode cX5_drawOf 27 = .ok (.l2i, 1) := by decide +kernel
theorem dX5_drawOf_28 : decode cX5_drawOf 28 = .ok (.ireturn, 1) := by decide +kernel
theorem dX6_init_0 : decode cX6_init 0 = .ok (.aload_n 0, 1) := by decide +kernel
theorem dX6_init_1 : decode cX6_init 1 = .ok (.invokespecial 1, 3) := by decide +kernel
theorem dX6_init_4 : decode cX6_init 4 = .ok (.aload_n 0, 1) := by decide +kernel
theorem dX6_init_5 : decode cX6_init 5 = .ok (.sipush 200, 3) := by decide +kernel
theorem dX6_init_8 : decode cX6_init 8 = .ok (.newarray .int, 2) := by decide +kernel
theorem dX6_init_10 : decode cX6_init 10 = .ok (.putfield 7, 3) := by decide +kernel
theorem dX6_init_13 : decode cX6_init 13 = .ok (.aload_n 0, 1) := by decide +kernel
theorem dX6_init_14 : decode cX6_init 14 = .ok (.bipush 39, 2) := by decide +kernel
theorem dX6_init_16 : decode cX6_init 16 = .ok (.newarray .int, 2) := by decide +kernel
theorem dX6_init_18 : decode cX6_init 18 = .ok (.putfield 13, 3) := by decide +kernel
theorem dX6_init_21 : decode cX6_init 21 = .ok (.aload_n 0, 1) := by decide +kernel
theorem dX6_init_22 : decode cX6_init 22 = .ok (.bipush 39, 2) := by decide +kernel
theorem dX6_init_24 : decode cX6_init 24 = .ok (.newarray .int, 2) := by decide +kernel
theorem dX6_init_26 : decode cX6_init 26 = .ok (.putfield 16, 3) := by decide +kernel
theorem dX6_init_29 : decode cX6_init 29 = .ok (.aload_n 0, 1) := by decide +kernel
theorem dX6_init_30 : decode cX6_init 30 = .ok (.bipush 73, 2) := by decide +kernel
theorem dX6_init_32 : decode cX6_init 32 = .ok (.newarray .int, 2) := by decide +kernel
theorem dX6_init_34 : decode cX6_init 34 = .ok (.putfield 19, 3) := by decide +kernel
theorem dX6_init_37 : decode cX6_init 37 = .ok (.aload_n 0, 1) := by decide +kernel
theorem dX6_init_38 : decode cX6_init 38 = .ok (.bipush 73, 2) := by decide +kernel
theorem dX6_init_40 : decode cX6_init 40 = .ok (.newarray .int, 2) := by decide +kernel
theorem dX6_init_42 : decode cX6_init 42 = .ok (.putfield 22, 3) := by decide +kernel
theorem dX6_init_45 : decode cX6_init 45 = .ok (.aload_n 0, 1) := by decide +kernel
theorem dX6_init_46 : decode cX6_init 46 = .ok (.sipush 584, 3) := by decide +kernel
theorem dX6_init_49 : decode cX6_init 49 = .ok (.newarray .int, 2) := by decide +kernel
theorem dX6_init_51 : decode cX6_init 51 = .ok (.putfield 25, 3) := by decide +kernel
theorem dX6_init_54 : decode cX6_init 54 = .ok (.aload_n 0, 1) := by decide +kernel
theorem dX6_init_55 : decode cX6_init 55 = .ok (.sipush 146, 3) := by decide +kernel
theorem dX6_init_58 : decode cX6_init 58 = .ok (.newarray .int, 2) := by decide +kernel
theorem dX6_init_60 : decode cX6_init 60 = .ok (.putfield 28, 3) := by decide +kernel
theorem dX6_init_63 : decode cX6_init 63 = .ok (.aload_n 0, 1) := by decide +kernel
theorem dX6_init_64 : decode cX6_init 64 = .ok (.bipush 6, 2) := by decide +kernel
theorem dX6_init_66 : decode cX6_init 66 = .ok (.newarray .int, 2) := by decide +kernel
theorem dX6_init_68 : decode cX6_init 68 = .ok (.putfield 31, 3) := by decide +kernel
theorem dX6_init_71 : decode cX6_init 71 = .ok (.aload_n 0, 1) := by decide +kernel
theorem dX6_init_72 : decode cX6_init 72 = .ok (.bipush 36, 2) := by decide +kernel
theorem dX6_init_74 : decode cX6_init 74 = .ok (.newarray .int, 2) := by decide +kernel
theorem dX6_init_76 : decode cX6_init 76 = .ok (.putfield 34, 3) := by decide +kernel
theorem dX6_init_79 : decode cX6_init 79 = .ok (.aload_n 0, 1) := by decide +kernel
theorem dX6_init_80 : decode cX6_init 80 = .ok (.bipush 73, 2) := by decide +kernel
theorem dX6_init_82 : decode cX6_init 82 = .ok (.newarray .int, 2) := by decide +kernel
theorem dX6_init_84 : decode cX6_init 84 = .ok (.putfield 37, 3) := by decide +kernel
theorem dX6_init_87 : decode cX6_init 87 = .ok (.aload_n 0, 1) := by decide +kernel
theorem dX6_init_88 : decode cX6_init 88 = .ok (.bipush 36, 2) := by decide +kernel
theorem dX6_init_90 : decode cX6_init 90 = .ok (.newarray .boolean, 2) := by decide +kernel
theorem dX6_init_92 : decode cX6_init 92 = .ok (.putfield 40, 3) := by decide +kernel
theorem dX6_init_95 : decode cX6_init 95 = .ok (.aload_n 0, 1) := by decide +kernel
theorem dX6_init_96 : decode cX6_init 96 = .ok (.bipush 36, 2) := by decide +kernel
theorem dX6_init_98 : decode cX6_init 98 = .ok (.newarray .boolean, 2) := by decide +kernel
theorem dX6_init_100 : decode cX6_init 100 = .ok (.putfield 44, 3) := by decide +kernel
theorem dX6_init_103 : decode cX6_init 103 = .ok (.aload_n 0, 1) := by decide +kernel
theorem dX6_init_104 : decode cX6_init 104 = .ok (.invokevirtual 47, 3) := by decide +kernel
theorem dX6_init_107 : decode cX6_init 107 = .ok (.aload_n 0, 1) := by decide +kernel
theorem dX6_init_108 : decode cX6_init 108 = .ok (.getfield 19, 3) := by decide +kernel
theorem dX6_init_111 : decode cX6_init 111 = .ok (.bipush 42, 2) := by decide +kernel
theorem dX6_init_113 : decode cX6_init 113 = .ok (.iconst 2, 1) := by decide +kernel
theorem dX6_init_114 : decode cX6_init 114 = .ok (.iastore, 1) := by decide +kernel
theorem dX6_init_115 : decode cX6_init 115 = .ok (.aload_n 0, 1) := by decide +kernel
theorem dX6_init_116 : decode cX6_init 116 = .ok (.getfield 19, 3) := by decide +kernel
theorem dX6_init_119 : decode cX6_init 119 = .ok (.bipush 43, 2) := by decide +kernel
theorem dX6_init_121 : decode cX6_init 121 = .ok (.iconst 3, 1) := by decide +kernel
theorem dX6_init_122 : decode cX6_init 122 = .ok (.iastore, 1) := by decide +kernel
theorem dX6_init_123 : decode cX6_init 123 = .ok (.aload_n 0, 1) := by decide +kernel
theorem dX6_init_124 : decode cX6_init 124 = .ok (.getfield 19, 3) := by decide +kernel
theorem dX6_init_127 : decode cX6_init 127 = .ok (.bipush 44, 2) := by decide +kernel
theorem dX6_init_129 : decode cX6_init 129 = .ok (.bipush 6, 2) := by decide +kernel
theorem dX6_init_131 : decode cX6_init 131 = .ok (.iastore, 1) := by decide +kernel
theorem dX6_init_132 : decode cX6_init 132 = .ok (.aload_n 0, 1) := by decide +kernel
theorem dX6_init_133 : decode cX6_init 133 = .ok (.getfield 19, 3) := by decide +kernel
theorem dX6_init_136 : decode cX6_init 136 = .ok (.bipush 47, 2) := by decide +kernel
theorem dX6_init_138 : decode cX6_init 138 = .ok (.iconst 1, 1) := by decide +kernel
theorem dX6_init_139 : decode cX6_init 139 = .ok (.iastore, 1) := by decide +kernel
theorem dX6_init_140 : decode cX6_init 140 = .ok (.aload_n 0, 1) := by decide +kernel
theorem dX6_init_141 : decode cX6_init 141 = .ok (.getfield 19, 3) := by decide +kernel
theorem dX6_init_144 : decode cX6_init 144 = .ok (.bipush 48, 2) := by decide +kernel
theorem dX6_init_146 : decode cX6_init 146 = .ok (.iconst 2, 1) := by decide +kernel
theorem dX6_init_147 : decode cX6_init 147 = .ok (.iastore, 1) := by decide +kernel
theorem dX6_init_148 : decode cX6_init 148 = .ok (.aload_n 0, 1) := by decide +kernel
theorem dX6_init_149 : decode cX6_init 149 = .ok (.getfield 19, 3) := by decide +kernel
theorem dX6_init_152 : decode cX6_init 152 = .ok (.bipush 39, 2) := by decide +kernel
theorem dX6_init_154 : decode cX6_init 154 = .ok (.iconst 4, 1) := by decide +kernel
theorem dX6_init_155 : decode cX6_init 155 = .ok (.iastore, 1) := by decide +kernel
theorem dX6_init_156 : decode cX6_init 156 = .ok (.aload_n 0, 1) := by decide +kernel
theorem dX6_init_157 : decode cX6_init 157 = .ok (.getfield 19, 3) := by decide +kernel
theorem dX6_init_160 : decode cX6_init 160 = .ok (.bipush 53, 2) := by decide +kernel
theorem dX6_init_162 : decode cX6_init 162 = .ok (.iconst 3, 1) := by decide +kernel
theorem dX6_init_163 : decode cX6_init 163 = .ok (.iastore, 1) := by decide +kernel
theorem dX6_init_164 : decode cX6_init 164 = .ok (.aload_n 0, 1) := by decide +kernel
theorem dX6_init_165 : decode cX6_init 165 = .ok (.getfield 16, 3) := by decide +kernel
theorem dX6_init_168 : decode cX6_init 168 = .ok (.bipush 7, 2) := by decide +kernel
theorem dX6_init_170 : decode cX6_init 170 = .ok (.iconst 1, 1) := by decide +kernel
theorem dX6_init_171 : decode cX6_init 171 = .ok (.iastore, 1) := by decide +kernel
theorem dX6_init_172 : decode cX6_init 172 = .ok (.aload_n 0, 1) := by decide +kernel
theorem dX6_init_173 : decode cX6_init 173 = .ok (.getfield 16, 3) := by decide +kernel
theorem dX6_init_176 : decode cX6_init 176 = .ok (.bipush 22, 2) := by decide +kernel
theorem dX6_init_178 : decode cX6_init 178 = .ok (.iconst 2, 1) := by decide +kernel
theorem dX6_init_179 : decode cX6_init 179 = .ok (.iastore, 1) := by decide +kernel
theorem dX6_init_180 : decode cX6_init 180 = .ok (.aload_n 0, 1) := by decide +kernel
theorem dX6_init_181 : decode cX6_init 181 = .ok (.getfield 16, 3) := by decide +kernel
theorem dX6_init_184 : decode cX6_init 184 = .ok (.bipush 12, 2) := by decide +kernel
theorem dX6_init_186 : decode cX6_init 186 = .ok (.iconst 3, 1) := by decide +kernel
theorem dX6_init_187 : decode cX6_init 187 = .ok (.iastore, 1) := by decide +kernel
theorem dX6_init_188 : decode cX6_init 188 = .ok (.aload_n 0, 1) := by decide +kernel
theorem dX6_init_189 : decode cX6_init 189 = .ok (.getfield 16, 3) := by decide +kernel
theorem dX6_init_192 : decode cX6_init 192 = .ok (.bipush 14, 2) := by decide +kernel
theorem dX6_init_194 : decode cX6_init 194 = .ok (.iconst 4, 1) := by decide +kernel
theorem dX6_init_195 : decode cX6_init 195 = .ok (.iastore, 1) := by decide +kernel
theorem dX6_init_196 : decode cX6_init 196 = .ok (.aload_n 0, 1) := by decide +kernel
theorem dX6_init_197 : decode cX6_init 197 = .ok (.getfield 19, 3) := by decide +kernel
theorem dX6_init_200 : decode cX6_init 200 = .ok (.bipush 7, 2) := by decide +kernel
theorem dX6_init_202 : decode cX6_init 202 = .ok (.iconst 3, 1) := by decide +kernel
theorem dX6_init_203 : decode cX6_init 203 = .ok (.iastore, 1) := by decide +kernel
theorem dX6_init_204 : decode cX6_init 204 = .ok (.aload_n 0, 1) := by decide +kernel
theorem dX6_init_205 : decode cX6_init 205 = .ok (.invokevirtual 50, 3) := by decide +kernel
theorem dX6_init_208 : decode cX6_init 208 = .ok (.return_, 1) := by decide +kernel
theorem dX6_in_0 : decode cX6_in 0 = .ok (.iload_n 0, 1) := by decide +kernel
theorem dX6_in_1 : decode cX6_in 1 = .ok (.iload_n 1, 1) := by decide +kernel
theorem dX6_in_2 : decode cX6_in 2 = .ok (.if_icmp .lt 12, 3) := by decide +kernel
theorem dX6_in_5 : decode cX6_in 5 = .ok (.iload_n 0, 1) := by decide +kernel
theorem dX6_in_6 : decode cX6_in 6 = .ok (.iload_n 2, 1) := by decide +kernel
theorem dX6_in_7 : decode cX6_in 7 = .ok (.if_icmp .gt 7, 3) := by decide +kernel
theorem dX6_in_10 : decode cX6_in 10 = .ok (.iconst 1, 1) := by decide +kernel
theorem dX6_in_11 : decode cX6_in 11 = .ok (.goto 4, 3) := by decide +kernel
theorem dX6_in_14 : decode cX6_in 14 = .ok (.iconst 0, 1) := by decide +kernel
theorem dX6_in_15 : decode cX6_in 15 = .ok (.ireturn, 1) := by decide +kernel
theorem dX6_cells_0 : decode cX6_cells 0 = .ok (.aload_n 0, 1) := by decide +kernel
theorem dX6_cells_1 : decode cX6_cells 1 = .ok (.getfield 13, 3) := by decide +kernel
theorem dX6_cells_4 : decode cX6_cells 4 = .ok (.iconst 0, 1) := by decide +kernel
theorem dX6_cells_5 : decode cX6_cells 5 = .ok (.iaload, 1) := by decide +kernel
theorem dX6_cells_6 : decode cX6_cells 6 = .ok (.aload_n 0, 1) := by decide +kernel
theorem dX6_cells_7 : decode cX6_cells 7 = .ok (.getfield 13, 3) := by decide +kernel
theorem dX6_cells_10 : decode cX6_cells 10 = .ok (.iconst 1, 1) := by decide +kernel
theorem dX6_cells_11 : decode cX6_cells 11 = .ok (.iaload, 1) := by decide +kernel
theorem dX6_cells_12 : decode cX6_cells 12 = .ok (.imul, 1) := by decide +kernel
theorem dX6_cells_13 : decode cX6_cells 13 = .ok (.ireturn, 1) := by decide +kernel
theorem dX6_isCell_0 : decode cX6_isCell 0 = .ok (.iload_n 1, 1) := by decide +kernel
theorem dX6_isCell_1 : decode cX6_isCell 1 = .ok (.iconst 0, 1) := by decide +kernel
theorem dX6_isCell_2 : decode cX6_isCell 2 = .ok (.aload_n 0, 1) := by decide +kernel
theorem dX6_isCell_3 : decode cX6_isCell 3 = .ok (.invokevirtual 53, 3) := by decide +kernel
theorem dX6_isCell_6 : decode cX6_isCell 6 = .ok (.iconst 1, 1) := by decide +kernel
theorem dX6_isCell_7 : decode cX6_isCell 7 = .ok (.isub, 1) := by decide +kernel
theorem dX6_isCell_8 : decode cX6_isCell 8 = .ok (.invokestatic 57, 3) := by decide +kernel
theorem dX6_isCell_11 : decode cX6_isCell 11 = .ok (.ireturn, 1) := by decide +kernel
theorem dX6_write_0 : decode cX6_write 0 = .ok (.iload_n 1, 1) := by decide +kernel
theorem dX6_write_1 : decode cX6_write 1 = .ok (.bipush 32, 2) := by decide +kernel
theorem dX6_write_3 : decode cX6_write 3 = .ok (.bipush 126, 2) := by decide +kernel
theorem dX6_write_5 : decode cX6_write 5 = .ok (.invokestatic 57, 3) := by decide +kernel
theorem dX6_write_8 : decode cX6_write 8 = .ok (.ifCond .ne 5, 3) := by decide +kernel
theorem dX6_write_11 : decode cX6_write 11 = .ok (.iconst (-1), 1) := by decide +kernel
theorem dX6_write_12 : decode cX6_write 12 = .ok (.ireturn, 1) := by decide +kernel
theorem dX6_write_13 : decode cX6_write 13 = .ok (.aload_n 0, 1) := by decide +kernel
theorem dX6_write_14 : decode cX6_write 14 = .ok (.getfield 61, 3) := by decide +kernel
theorem dX6_write_17 : decode cX6_write 17 = .ok (.sipush 200, 3) := by decide +kernel
theorem dX6_write_20 : decode cX6_write 20 = .ok (.if_icmp .ne 6, 3) := by decide +kernel
theorem dX6_write_23 : decode cX6_write 23 = .ok (.bipush (-3), 2) := by decide +kernel
theorem dX6_write_25 : decode cX6_write 25 = .ok (.ireturn, 1) := by decide +kernel
theorem dX6_write_26 : decode cX6_write 26 = .ok (.aload_n 0, 1) := by decide +kernel
theorem dX6_write_27 : decode cX6_write 27 = .ok (.getfield 7, 3) := by decide +kernel
theorem dX6_write_30 : decode cX6_write 30 = .ok (.aload_n 0, 1) := by decide +kernel
theorem dX6_write_31 : decode cX6_write 31 = .ok (.getfield 61, 3) := by decide +kernel
theorem dX6_write_34 : decode cX6_write 34 = .ok (.iload_n 1, 1) := by decide +kernel
theorem dX6_write_35 : decode cX6_write 35 = .ok (.iastore, 1) := by decide +kernel
theorem dX6_write_36 : decode cX6_write 36 = .ok (.aload_n 0, 1) := by decide +kernel
theorem dX6_write_37 : decode cX6_write 37 = .ok (.dup, 1) := by decide +kernel
theorem dX6_write_38 : decode cX6_write 38 = .ok (.getfield 61, 3) := by decide +kernel
theorem dX6_write_41 : decode cX6_write 41 = .ok (.iconst 1, 1) := by decide +kernel
theorem dX6_write_42 : decode cX6_write 42 = .ok (.iadd, 1) := by decide +kernel
theorem dX6_write_43 : decode cX6_write 43 = .ok (.putfield 61, 3) := by decide +kernel
theorem dX6_write_46 : decode cX6_write 46 = .ok (.aload_n 0, 1) := by decide +kernel
theorem dX6_write_47 : decode cX6_write 47 = .ok (.getfield 61, 3) := by decide +kernel
theorem dX6_write_50 : decode cX6_write 50 = .ok (.ireturn, 1) := by decide +kernel
theorem dX6_wipe_0 : decode cX6_wipe 0 = .ok (.aload_n 0, 1) := by decide +kernel
theorem dX6_wipe_1 : decode cX6_wipe 1 = .ok (.getfield 61, 3) := by decide +kernel
theorem dX6_wipe_4 : decode cX6_wipe 4 = .ok (.istore_n 1, 1) := by decide +kernel
theorem dX6_wipe_5 : decode cX6_wipe 5 = .ok (.aload_n 0, 1) := by decide +kernel
theorem dX6_wipe_6 : decode cX6_wipe 6 = .ok (.iconst 0, 1) := by decide +kernel
theorem dX6_wipe_7 : decode cX6_wipe 7 = .ok (.putfield 61, 3) := by decide +kernel
theorem dX6_wipe_10 : decode cX6_wipe 10 = .ok (.iload_n 1, 1) := by decide +kernel
theorem dX6_wipe_11 : decode cX6_wipe 11 = .ok (.ireturn, 1) := by decide +kernel
theorem dX6_letterAt_0 : decode cX6_letterAt 0 = .ok (.iload_n 1, 1) := by decide +kernel
theorem dX6_letterAt_1 : decode cX6_letterAt 1 = .ok (.aload_n 0, 1) := by decide +kernel
theorem dX6_letterAt_2 : decode cX6_letterAt 2 = .ok (.getfield 61, 3) := by decide +kernel
theorem dX6_letterAt_5 : decode cX6_letterAt 5 = .ok (.if_icmp .ge 12, 3) := by decide +kernel
theorem dX6_letterAt_8 : decode cX6_letterAt 8 = .ok (.aload_n 0, 1) := by decide +kernel
theorem dX6_letterAt_9 : decode cX6_letterAt 9 = .ok (.getfield 7, 3) := by decide +kernel
theorem dX6_letterAt_12 : decode cX6_letterAt 12 = .ok (.iload_n 1, 1) := by decide +kernel
theorem dX6_letterAt_13 : decode cX6_letterAt 13 = .ok (.iaload, 1) := by decide +kernel
theorem dX6_letterAt_14 : decode cX6_letterAt 14 = .ok (.goto 4, 3) := by decide +kernel
theorem dX6_letterAt_17 : decode cX6_letterAt 17 = .ok (.iconst (-1), 1) := by decide +kernel
theorem dX6_letterAt_18 : decode cX6_letterAt 18 = .ok (.ireturn, 1) := by decide +kernel
theorem dX6_isFigure_0 : decode cX6_isFigure 0 = .ok (.iload_n 0, 1) := by decide +kernel
theorem dX6_isFigure_1 : decode cX6_isFigure 1 = .ok (.bipush 48, 2) := by decide +kernel
theorem dX6_isFigure_3 : decode cX6_isFigure 3 = .ok (.bipush 57, 2) := by decide +kernel
theorem dX6_isFigure_5 : decode cX6_isFigure 5 = .ok (.invokestatic 57, 3) := by decide +kernel
theorem dX6_isFigure_8 : decode cX6_isFigure 8 = .ok (.ireturn, 1) := by decide +kernel
theorem dX6_number_0 : decode cX6_number 0 = .ok (.aload_n 0, 1) := by decide +kernel
theorem dX6_number_1 : decode cX6_number 1 = .ok (.aload_n 0, 1) := by decide +kernel
theorem dX6_number_2 : decode cX6_number 2 = .ok (.getfield 65, 3) := by decide +kernel
theorem dX6_number_5 : decode cX6_number 5 = .ok (.invokevirtual 68, 3) := by decide +kernel
theorem dX6_number_8 : decode cX6_number 8 = .ok (.invokestatic 72, 3) := by decide +kernel
theorem dX6_number_11 : decode cX6_number 11 = .ok (.ifCond .ne 5, 3) := by decide +kernel
theorem dX6_number_14 : decode cX6_number 14 = .ok (.iconst (-1), 1) := by decide +kernel
theorem dX6_number_15 : decode cX6_number 15 = .ok (.ireturn, 1) := by decide +kernel
theorem dX6_number_16 : decode cX6_number 16 = .ok (.aload_n 0, 1) := by decide +kernel
theorem dX6_number_17 : decode cX6_number 17 = .ok (.aload_n 0, 1) := by decide +kernel
theorem dX6_number_18 : decode cX6_number 18 = .ok (.getfield 65, 3) := by decide +kernel
theorem dX6_number_21 : decode cX6_number 21 = .ok (.invokevirtual 68, 3) := by decide +kernel
theorem dX6_number_24 : decode cX6_number 24 = .ok (.bipush 48, 2) := by decide +kernel
theorem dX6_number_26 : decode cX6_number 26 = .ok (.isub, 1) := by decide +kernel
theorem dX6_number_27 : decode cX6_number 27 = .ok (.istore 4, 2) := by decide +kernel
theorem dX6_number_29 : decode cX6_number 29 = .ok (.aload_n 0, 1) := by decide +kernel
theorem dX6_number_30 : decode cX6_number 30 = .ok (.dup, 1) := by decide +kernel
theorem dX6_number_31 : decode cX6_number 31 = .ok (.getfield 65, 3) := by decide +kernel
theorem dX6_number_34 : decode cX6_number 34 = .ok (.iconst 1, 1) := by decide +kernel
theorem dX6_number_35 : decode cX6_number 35 = .ok (.iadd, 1) := by decide +kernel
theorem dX6_number_36 : decode cX6_number 36 = .ok (.putfield 65, 3) := by decide +kernel
theorem dX6_number_39 : decode cX6_number 39 = .ok (.aload_n 0, 1) := by decide +kernel
end
section
theorem dX6_number_40 : decode cX6_number 40 = .ok (.aload_n 0, 1) := by decide +kernel
theorem dX6_number_41 : decode cX6_number 41 = .ok (.getfield 65, 3) := by decide +kernel
theorem dX6_number_44 : decode cX6_number 44 = .ok (.invokevirtual 68, 3) := by decide +kernel
theorem dX6_number_47 : decode cX6_number 47 = .ok (.invokestatic 72, 3) := by decide +kernel
theorem dX6_number_50 : decode cX6_number 50 = .ok (.ifCond .eq 32, 3) := by decide +kernel
theorem dX6_number_53 : decode cX6_number 53 = .ok (.bipush 10, 2) := by decide +kernel
theorem dX6_number_55 : decode cX6_number 55 = .ok (.iload 4, 2) := by decide +kernel
theorem dX6_number_57 : decode cX6_number 57 = .ok (.imul, 1) := by decide +kernel
theorem dX6_number_58 : decode cX6_number 58 = .ok (.aload_n 0, 1) := by decide +kernel
theorem dX6_number_59 : decode cX6_number 59 = .ok (.aload_n 0, 1) := by decide +kernel
theorem dX6_number_60 : decode cX6_number 60 = .ok (.getfield 65, 3) := by decide +kernel
theorem dX6_number_63 : decode cX6_number 63 = .ok (.invokevirtual 68, 3) := by decide +kernel
theorem dX6_number_66 : decode cX6_number 66 = .ok (.iadd, 1) := by decide +kernel
theorem dX6_number_67 : decode cX6_number 67 = .ok (.bipush 48, 2) := by decide +kernel
theorem dX6_number_69 : decode cX6_number 69 = .ok (.isub, 1) := by decide +kernel
theorem dX6_number_70 : decode cX6_number 70 = .ok (.istore 4, 2) := by decide +kernel
theorem dX6_number_72 : decode cX6_number 72 = .ok (.aload_n 0, 1) := by decide +kernel
theorem dX6_number_73 : decode cX6_number 73 = .ok (.dup, 1) := by decide +kernel
theorem dX6_number_74 : decode cX6_number 74 = .ok (.getfield 65, 3) := by decide +kernel
theorem dX6_number_77 : decode cX6_number 77 = .ok (.iconst 1, 1) := by decide +kernel
theorem dX6_number_78 : decode cX6_number 78 = .ok (.iadd, 1) := by decide +kernel
theorem dX6_number_79 : decode cX6_number 79 = .ok (.putfield 65, 3) := by decide +kernel
theorem dX6_number_82 : decode cX6_number 82 = .ok (.aload_n 0, 1) := by decide +kernel
theorem dX6_number_83 : decode cX6_number 83 = .ok (.aload_n 0, 1) := by decide +kernel
theorem dX6_number_84 : decode cX6_number 84 = .ok (.getfield 65, 3) := by decide +kernel
theorem dX6_number_87 : decode cX6_number 87 = .ok (.invokevirtual 68, 3) := by decide +kernel
theorem dX6_number_90 : decode cX6_number 90 = .ok (.iload_n 3, 1) := by decide +kernel
theorem dX6_number_91 : decode cX6_number 91 = .ok (.if_icmp .ne 17, 3) := by decide +kernel
theorem dX6_number_94 : decode cX6_number 94 = .ok (.iload 4, 2) := by decide +kernel
theorem dX6_number_96 : decode cX6_number 96 = .ok (.iload_n 1, 1) := by decide +kernel
theorem dX6_number_97 : decode cX6_number 97 = .ok (.iload_n 2, 1) := by decide +kernel
theorem dX6_number_98 : decode cX6_number 98 = .ok (.invokestatic 57, 3) := by decide +kernel
theorem dX6_number_101 : decode cX6_number 101 = .ok (.ifCond .eq 7, 3) := by decide +kernel
theorem dX6_number_104 : decode cX6_number 104 = .ok (.iconst 1, 1) := by decide +kernel
theorem dX6_number_105 : decode cX6_number 105 = .ok (.goto 4, 3) := by decide +kernel
theorem dX6_number_108 : decode cX6_number 108 = .ok (.iconst 0, 1) := by decide +kernel
theorem dX6_number_109 : decode cX6_number 109 = .ok (.istore 5, 2) := by decide +kernel
theorem dX6_number_111 : decode cX6_number 111 = .ok (.aload_n 0, 1) := by decide +kernel
theorem dX6_number_112 : decode cX6_number 112 = .ok (.dup, 1) := by decide +kernel
theorem dX6_number_113 : decode cX6_number 113 = .ok (.getfield 65, 3) := by decide +kernel
theorem dX6_number_116 : decode cX6_number 116 = .ok (.iconst 1, 1) := by decide +kernel
theorem dX6_number_117 : decode cX6_number 117 = .ok (.iadd, 1) := by decide +kernel
theorem dX6_number_118 : decode cX6_number 118 = .ok (.putfield 65, 3) := by decide +kernel
theorem dX6_number_121 : decode cX6_number 121 = .ok (.iload 5, 2) := by decide +kernel
theorem dX6_number_123 : decode cX6_number 123 = .ok (.ifCond .eq 8, 3) := by decide +kernel
theorem dX6_number_126 : decode cX6_number 126 = .ok (.iload 4, 2) := by decide +kernel
theorem dX6_number_128 : decode cX6_number 128 = .ok (.goto 4, 3) := by decide +kernel
theorem dX6_number_131 : decode cX6_number 131 = .ok (.iconst (-1), 1) := by decide +kernel
theorem dX6_number_132 : decode cX6_number 132 = .ok (.ireturn, 1) := by decide +kernel
theorem dX6_begins_0 : decode cX6_begins 0 = .ok (.iconst 0, 1) := by decide +kernel
theorem dX6_begins_1 : decode cX6_begins 1 = .ok (.istore_n 1, 1) := by decide +kernel
theorem dX6_begins_2 : decode cX6_begins 2 = .ok (.iload_n 1, 1) := by decide +kernel
theorem dX6_begins_3 : decode cX6_begins 3 = .ok (.bipush 39, 2) := by decide +kernel
theorem dX6_begins_5 : decode cX6_begins 5 = .ok (.if_icmp .ge 16, 3) := by decide +kernel
theorem dX6_begins_8 : decode cX6_begins 8 = .ok (.aload_n 0, 1) := by decide +kernel
theorem dX6_begins_9 : decode cX6_begins 9 = .ok (.getfield 16, 3) := by decide +kernel
theorem dX6_begins_12 : decode cX6_begins 12 = .ok (.iload_n 1, 1) := by decide +kernel
theorem dX6_begins_13 : decode cX6_begins 13 = .ok (.iconst 0, 1) := by decide +kernel
theorem dX6_begins_14 : decode cX6_begins 14 = .ok (.iastore, 1) := by decide +kernel
theorem dX6_begins_15 : decode cX6_begins 15 = .ok (.iinc 1 1, 3) := by decide +kernel
theorem dX6_begins_18 : decode cX6_begins 18 = .ok (.goto (-16), 3) := by decide +kernel
theorem dX6_begins_21 : decode cX6_begins 21 = .ok (.aload_n 0, 1) := by decide +kernel
theorem dX6_begins_22 : decode cX6_begins 22 = .ok (.getfield 16, 3) := by decide +kernel
theorem dX6_begins_25 : decode cX6_begins 25 = .ok (.iconst 0, 1) := by decide +kernel
theorem dX6_begins_26 : decode cX6_begins 26 = .ok (.iconst 4, 1) := by decide +kernel
theorem dX6_begins_27 : decode cX6_begins 27 = .ok (.iastore, 1) := by decide +kernel
theorem dX6_begins_28 : decode cX6_begins 28 = .ok (.aload_n 0, 1) := by decide +kernel
theorem dX6_begins_29 : decode cX6_begins 29 = .ok (.getfield 16, 3) := by decide +kernel
theorem dX6_begins_32 : decode cX6_begins 32 = .ok (.iconst 1, 1) := by decide +kernel
theorem dX6_begins_33 : decode cX6_begins 33 = .ok (.iconst 5, 1) := by decide +kernel
theorem dX6_begins_34 : decode cX6_begins 34 = .ok (.iastore, 1) := by decide +kernel
theorem dX6_begins_35 : decode cX6_begins 35 = .ok (.iconst 0, 1) := by decide +kernel
theorem dX6_begins_36 : decode cX6_begins 36 = .ok (.istore_n 1, 1) := by decide +kernel
theorem dX6_begins_37 : decode cX6_begins 37 = .ok (.iload_n 1, 1) := by decide +kernel
theorem dX6_begins_38 : decode cX6_begins 38 = .ok (.bipush 73, 2) := by decide +kernel
theorem dX6_begins_40 : decode cX6_begins 40 = .ok (.if_icmp .ge 31, 3) := by decide +kernel
theorem dX6_begins_43 : decode cX6_begins 43 = .ok (.aload_n 0, 1) := by decide +kernel
theorem dX6_begins_44 : decode cX6_begins 44 = .ok (.getfield 19, 3) := by decide +kernel
theorem dX6_begins_47 : decode cX6_begins 47 = .ok (.iload_n 1, 1) := by decide +kernel
theorem dX6_begins_48 : decode cX6_begins 48 = .ok (.iload_n 1, 1) := by decide +kernel
theorem dX6_begins_49 : decode cX6_begins 49 = .ok (.bipush 36, 2) := by decide +kernel
theorem dX6_begins_51 : decode cX6_begins 51 = .ok (.bipush 71, 2) := by decide +kernel
theorem dX6_begins_53 : decode cX6_begins 53 = .ok (.invokestatic 57, 3) := by decide +kernel
theorem dX6_begins_56 : decode cX6_begins 56 = .ok (.ifCond .eq 7, 3) := by decide +kernel
theorem dX6_begins_59 : decode cX6_begins 59 = .ok (.iconst 5, 1) := by decide +kernel
theorem dX6_begins_60 : decode cX6_begins 60 = .ok (.goto 4, 3) := by decide +kernel
theorem dX6_begins_63 : decode cX6_begins 63 = .ok (.iconst 0, 1) := by decide +kernel
theorem dX6_begins_64 : decode cX6_begins 64 = .ok (.iastore, 1) := by decide +kernel
theorem dX6_begins_65 : decode cX6_begins 65 = .ok (.iinc 1 1, 3) := by decide +kernel
theorem dX6_begins_68 : decode cX6_begins 68 = .ok (.goto (-31), 3) := by decide +kernel
theorem dX6_begins_71 : decode cX6_begins 71 = .ok (.return_, 1) := by decide +kernel
theorem dX6_readsItem_0 : decode cX6_readsItem 0 = .ok (.iload_n 1, 1) := by decide +kernel
theorem dX6_readsItem_1 : decode cX6_readsItem 1 = .ok (.bipush 115, 2) := by decide +kernel
theorem dX6_readsItem_3 : decode cX6_readsItem 3 = .ok (.if_icmp .ne 64, 3) := by decide +kernel
theorem dX6_readsItem_6 : decode cX6_readsItem 6 = .ok (.aload_n 0, 1) := by decide +kernel
theorem dX6_readsItem_7 : decode cX6_readsItem 7 = .ok (.iconst 2, 1) := by decide +kernel
theorem dX6_readsItem_8 : decode cX6_readsItem 8 = .ok (.bipush 6, 2) := by decide +kernel
theorem dX6_readsItem_10 : decode cX6_readsItem 10 = .ok (.bipush 44, 2) := by decide +kernel
theorem dX6_readsItem_12 : decode cX6_readsItem 12 = .ok (.invokevirtual 76, 3) := by decide +kernel
theorem dX6_readsItem_15 : decode cX6_readsItem 15 = .ok (.istore_n 2, 1) := by decide +kernel
theorem dX6_readsItem_16 : decode cX6_readsItem 16 = .ok (.iload_n 2, 1) := by decide +kernel
theorem dX6_readsItem_17 : decode cX6_readsItem 17 = .ok (.ifCond .ge 7, 3) := by decide +kernel
theorem dX6_readsItem_20 : decode cX6_readsItem 20 = .ok (.iconst (-1), 1) := by decide +kernel
theorem dX6_readsItem_21 : decode cX6_readsItem 21 = .ok (.goto 12, 3) := by decide +kernel
theorem dX6_readsItem_24 : decode cX6_readsItem 24 = .ok (.aload_n 0, 1) := by decide +kernel
theorem dX6_readsItem_25 : decode cX6_readsItem 25 = .ok (.iconst 2, 1) := by decide +kernel
theorem dX6_readsItem_26 : decode cX6_readsItem 26 = .ok (.bipush 6, 2) := by decide +kernel
theorem dX6_readsItem_28 : decode cX6_readsItem 28 = .ok (.bipush 59, 2) := by decide +kernel
theorem dX6_readsItem_30 : decode cX6_readsItem 30 = .ok (.invokevirtual 76, 3) := by decide +kernel
theorem dX6_readsItem_33 : decode cX6_readsItem 33 = .ok (.istore_n 3, 1) := by decide +kernel
theorem dX6_readsItem_34 : decode cX6_readsItem 34 = .ok (.aload_n 0, 1) := by decide +kernel
theorem dX6_readsItem_35 : decode cX6_readsItem 35 = .ok (.getfield 16, 3) := by decide +kernel
theorem dX6_readsItem_38 : decode cX6_readsItem 38 = .ok (.iconst 0, 1) := by decide +kernel
theorem dX6_readsItem_39 : decode cX6_readsItem 39 = .ok (.iload_n 2, 1) := by decide +kernel
theorem dX6_readsItem_40 : decode cX6_readsItem 40 = .ok (.iastore, 1) := by decide +kernel
theorem dX6_readsItem_41 : decode cX6_readsItem 41 = .ok (.aload_n 0, 1) := by decide +kernel
theorem dX6_readsItem_42 : decode cX6_readsItem 42 = .ok (.getfield 16, 3) := by decide +kernel
theorem dX6_readsItem_45 : decode cX6_readsItem 45 = .ok (.iconst 1, 1) := by decide +kernel
theorem dX6_readsItem_46 : decode cX6_readsItem 46 = .ok (.iload_n 3, 1) := by decide +kernel
theorem dX6_readsItem_47 : decode cX6_readsItem 47 = .ok (.iastore, 1) := by decide +kernel
theorem dX6_readsItem_48 : decode cX6_readsItem 48 = .ok (.iload_n 3, 1) := by decide +kernel
theorem dX6_readsItem_49 : decode cX6_readsItem 49 = .ok (.ifCond .le 16, 3) := by decide +kernel
theorem dX6_readsItem_52 : decode cX6_readsItem 52 = .ok (.aload_n 0, 1) := by decide +kernel
theorem dX6_readsItem_53 : decode cX6_readsItem 53 = .ok (.getfield 16, 3) := by decide +kernel
theorem dX6_readsItem_56 : decode cX6_readsItem 56 = .ok (.iconst 2, 1) := by decide +kernel
theorem dX6_readsItem_57 : decode cX6_readsItem 57 = .ok (.iaload, 1) := by decide +kernel
theorem dX6_readsItem_58 : decode cX6_readsItem 58 = .ok (.ifCond .ne 7, 3) := by decide +kernel
theorem dX6_readsItem_61 : decode cX6_readsItem 61 = .ok (.iconst 1, 1) := by decide +kernel
theorem dX6_readsItem_62 : decode cX6_readsItem 62 = .ok (.goto 4, 3) := by decide +kernel
theorem dX6_readsItem_65 : decode cX6_readsItem 65 = .ok (.iconst 0, 1) := by decide +kernel
theorem dX6_readsItem_66 : decode cX6_readsItem 66 = .ok (.ireturn, 1) := by decide +kernel
theorem dX6_readsItem_67 : decode cX6_readsItem 67 = .ok (.aload_n 0, 1) := by decide +kernel
theorem dX6_readsItem_68 : decode cX6_readsItem 68 = .ok (.getfield 16, 3) := by decide +kernel
theorem dX6_readsItem_71 : decode cX6_readsItem 71 = .ok (.iconst 2, 1) := by decide +kernel
theorem dX6_readsItem_72 : decode cX6_readsItem 72 = .ok (.iconst 1, 1) := by decide +kernel
theorem dX6_readsItem_73 : decode cX6_readsItem 73 = .ok (.iastore, 1) := by decide +kernel
theorem dX6_readsItem_74 : decode cX6_readsItem 74 = .ok (.iload_n 1, 1) := by decide +kernel
theorem dX6_readsItem_75 : decode cX6_readsItem 75 = .ok (.bipush 104, 2) := by decide +kernel
theorem dX6_readsItem_77 : decode cX6_readsItem 77 = .ok (.if_icmp .eq 17, 3) := by decide +kernel
theorem dX6_readsItem_80 : decode cX6_readsItem 80 = .ok (.iload_n 1, 1) := by decide +kernel
theorem dX6_readsItem_81 : decode cX6_readsItem 81 = .ok (.bipush 107, 2) := by decide +kernel
theorem dX6_readsItem_83 : decode cX6_readsItem 83 = .ok (.if_icmp .eq 11, 3) := by decide +kernel
theorem dX6_readsItem_86 : decode cX6_readsItem 86 = .ok (.iload_n 1, 1) := by decide +kernel
theorem dX6_readsItem_87 : decode cX6_readsItem 87 = .ok (.bipush 119, 2) := by decide +kernel
theorem dX6_readsItem_89 : decode cX6_readsItem 89 = .ok (.if_icmp .eq 5, 3) := by decide +kernel
theorem dX6_readsItem_92 : decode cX6_readsItem 92 = .ok (.iconst 0, 1) := by decide +kernel
theorem dX6_readsItem_93 : decode cX6_readsItem 93 = .ok (.ireturn, 1) := by decide +kernel
theorem dX6_readsItem_94 : decode cX6_readsItem 94 = .ok (.aload_n 0, 1) := by decide +kernel
theorem dX6_readsItem_95 : decode cX6_readsItem 95 = .ok (.iconst 0, 1) := by decide +kernel
theorem dX6_readsItem_96 : decode cX6_readsItem 96 = .ok (.aload_n 0, 1) := by decide +kernel
theorem dX6_readsItem_97 : decode cX6_readsItem 97 = .ok (.getfield 16, 3) := by decide +kernel
theorem dX6_readsItem_100 : decode cX6_readsItem 100 = .ok (.iconst 0, 1) := by decide +kernel
theorem dX6_readsItem_101 : decode cX6_readsItem 101 = .ok (.iaload, 1) := by decide +kernel
theorem dX6_readsItem_102 : decode cX6_readsItem 102 = .ok (.aload_n 0, 1) := by decide +kernel
theorem dX6_readsItem_103 : decode cX6_readsItem 103 = .ok (.getfield 16, 3) := by decide +kernel
theorem dX6_readsItem_106 : decode cX6_readsItem 106 = .ok (.iconst 1, 1) := by decide +kernel
theorem dX6_readsItem_107 : decode cX6_readsItem 107 = .ok (.iaload, 1) := by decide +kernel
theorem dX6_readsItem_108 : decode cX6_readsItem 108 = .ok (.imul, 1) := by decide +kernel
theorem dX6_readsItem_109 : decode cX6_readsItem 109 = .ok (.iconst 1, 1) := by decide +kernel
theorem dX6_readsItem_110 : decode cX6_readsItem 110 = .ok (.isub, 1) := by decide +kernel
theorem dX6_readsItem_111 : decode cX6_readsItem 111 = .ok (.bipush 44, 2) := by decide +kernel
theorem dX6_readsItem_113 : decode cX6_readsItem 113 = .ok (.invokevirtual 76, 3) := by decide +kernel
theorem dX6_readsItem_116 : decode cX6_readsItem 116 = .ok (.istore_n 2, 1) := by decide +kernel
theorem dX6_readsItem_117 : decode cX6_readsItem 117 = .ok (.iload_n 2, 1) := by decide +kernel
theorem dX6_readsItem_118 : decode cX6_readsItem 118 = .ok (.ifCond .ge 7, 3) := by decide +kernel
theorem dX6_readsItem_121 : decode cX6_readsItem 121 = .ok (.iconst (-1), 1) := by decide +kernel
theorem dX6_readsItem_122 : decode cX6_readsItem 122 = .ok (.goto 22, 3) := by decide +kernel
theorem dX6_readsItem_125 : decode cX6_readsItem 125 = .ok (.aload_n 0, 1) := by decide +kernel
theorem dX6_readsItem_126 : decode cX6_readsItem 126 = .ok (.iconst 0, 1) := by decide +kernel
theorem dX6_readsItem_127 : decode cX6_readsItem 127 = .ok (.iload_n 1, 1) := by decide +kernel
theorem dX6_readsItem_128 : decode cX6_readsItem 128 = .ok (.bipush 107, 2) := by decide +kernel
theorem dX6_readsItem_130 : decode cX6_readsItem 130 = .ok (.if_icmp .ne 7, 3) := by decide +kernel
theorem dX6_readsItem_133 : decode cX6_readsItem 133 = .ok (.iconst 4, 1) := by decide +kernel
theorem dX6_readsItem_134 : decode cX6_readsItem 134 = .ok (.goto 5, 3) := by decide +kernel
theorem dX6_readsItem_137 : decode cX6_readsItem 137 = .ok (.bipush 20, 2) := by decide +kernel
theorem dX6_readsItem_139 : decode cX6_readsItem 139 = .ok (.bipush 59, 2) := by decide +kernel
theorem dX6_readsItem_141 : decode cX6_readsItem 141 = .ok (.invokevirtual 76, 3) := by decide +kernel
theorem dX6_readsItem_144 : decode cX6_readsItem 144 = .ok (.istore_n 3, 1) := by decide +kernel
theorem dX6_readsItem_145 : decode cX6_readsItem 145 = .ok (.iload_n 3, 1) := by decide +kernel
theorem dX6_readsItem_146 : decode cX6_readsItem 146 = .ok (.ifCond .ge 5, 3) := by decide +kernel
theorem dX6_readsItem_149 : decode cX6_readsItem 149 = .ok (.iconst 0, 1) := by decide +kernel
theorem dX6_readsItem_150 : decode cX6_readsItem 150 = .ok (.ireturn, 1) := by decide +kernel
theorem dX6_readsItem_151 : decode cX6_readsItem 151 = .ok (.iload_n 1, 1) := by decide +kernel
theorem dX6_readsItem_152 : decode cX6_readsItem 152 = .ok (.bipush 104, 2) := by decide +kernel
theorem dX6_readsItem_154 : decode cX6_readsItem 154 = .ok (.if_icmp .ne 16, 3) := by decide +kernel
theorem dX6_readsItem_157 : decode cX6_readsItem 157 = .ok (.aload_n 0, 1) := by decide +kernel
theorem dX6_readsItem_158 : decode cX6_readsItem 158 = .ok (.getfield 19, 3) := by decide +kernel
theorem dX6_readsItem_161 : decode cX6_readsItem 161 = .ok (.bipush 36, 2) := by decide +kernel
theorem dX6_readsItem_163 : decode cX6_readsItem 163 = .ok (.iload_n 2, 1) := by decide +kernel
theorem dX6_readsItem_164 : decode cX6_readsItem 164 = .ok (.iadd, 1) := by decide +kernel
theorem dX6_readsItem_165 : decode cX6_readsItem 165 = .ok (.iload_n 3, 1) := by decide +kernel
theorem dX6_readsItem_166 : decode cX6_readsItem 166 = .ok (.iastore, 1) := by decide +kernel
theorem dX6_readsItem_167 : decode cX6_readsItem 167 = .ok (.goto 28, 3) := by decide +kernel
theorem dX6_readsItem_170 : decode cX6_readsItem 170 = .ok (.iload_n 1, 1) := by decide +kernel
theorem dX6_readsItem_171 : decode cX6_readsItem 171 = .ok (.bipush 107, 2) := by decide +kernel
theorem dX6_readsItem_173 : decode cX6_readsItem 173 = .ok (.if_icmp .ne 15, 3) := by decide +kernel
theorem dX6_readsItem_176 : decode cX6_readsItem 176 = .ok (.aload_n 0, 1) := by decide +kernel
theorem dX6_readsItem_177 : decode cX6_readsItem 177 = .ok (.getfield 16, 3) := by decide +kernel
theorem dX6_readsItem_180 : decode cX6_readsItem 180 = .ok (.iconst 3, 1) := by decide +kernel
theorem dX6_readsItem_181 : decode cX6_readsItem 181 = .ok (.iload_n 2, 1) := by decide +kernel
theorem dX6_readsItem_182 : decode cX6_readsItem 182 = .ok (.iadd, 1) := by decide +kernel
theorem dX6_readsItem_183 : decode cX6_readsItem 183 = .ok (.iload_n 3, 1) := by decide +kernel
theorem dX6_readsItem_184 : decode cX6_readsItem 184 = .ok (.iastore, 1) := by decide +kernel
theorem dX6_readsItem_185 : decode cX6_readsItem 185 = .ok (.goto 10, 3) := by decide +kernel
theorem dX6_readsItem_188 : decode cX6_readsItem 188 = .ok (.aload_n 0, 1) := by decide +kernel
theorem dX6_readsItem_189 : decode cX6_readsItem 189 = .ok (.getfield 19, 3) := by decide +kernel
theorem dX6_readsItem_192 : decode cX6_readsItem 192 = .ok (.iload_n 2, 1) := by decide +kernel
theorem dX6_readsItem_193 : decode cX6_readsItem 193 = .ok (.iload_n 3, 1) := by decide +kernel
theorem dX6_readsItem_194 : decode cX6_readsItem 194 = .ok (.iastore, 1) := by decide +kernel
theorem dX6_readsItem_195 : decode cX6_readsItem 195 = .ok (.iconst 1, 1) := by decide +kernel
theorem dX6_readsItem_196 : decode cX6_readsItem 196 = .ok (.ireturn, 1) := by decide +kernel
theorem dX6_readsAll_0 : decode cX6_readsAll 0 = .ok (.aload_n 0, 1) := by decide +kernel
theorem dX6_readsAll_1 : decode cX6_readsAll 1 = .ok (.invokevirtual 47, 3) := by decide +kernel
theorem dX6_readsAll_4 : decode cX6_readsAll 4 = .ok (.aload_n 0, 1) := by decide +kernel
theorem dX6_readsAll_5 : decode cX6_readsAll 5 = .ok (.iconst 0, 1) := by decide +kernel
theorem dX6_readsAll_6 : decode cX6_readsAll 6 = .ok (.putfield 65, 3) := by decide +kernel
theorem dX6_readsAll_9 : decode cX6_readsAll 9 = .ok (.aload_n 0, 1) := by decide +kernel
theorem dX6_readsAll_10 : decode cX6_readsAll 10 = .ok (.getfield 65, 3) := by decide +kernel
theorem dX6_readsAll_13 : decode cX6_readsAll 13 = .ok (.aload_n 0, 1) := by decide +kernel
theorem dX6_readsAll_14 : decode cX6_readsAll 14 = .ok (.getfield 61, 3) := by decide +kernel
theorem dX6_readsAll_17 : decode cX6_readsAll 17 = .ok (.if_icmp .ge 36, 3) := by decide +kernel
theorem dX6_readsAll_20 : decode cX6_readsAll 20 = .ok (.aload_n 0, 1) := by decide +kernel
theorem dX6_readsAll_21 : decode cX6_readsAll 21 = .ok (.getfield 65, 3) := by decide +kernel
theorem dX6_readsAll_24 : decode cX6_readsAll 24 = .ok (.istore_n 1, 1) := by decide +kernel
theorem dX6_readsAll_25 : decode cX6_readsAll 25 = .ok (.aload_n 0, 1) := by decide +kernel
theorem dX6_readsAll_26 : decode cX6_readsAll 26 = .ok (.dup, 1) := by decide +kernel
theorem dX6_readsAll_27 : decode cX6_readsAll 27 = .ok (.getfield 65, 3) := by decide +kernel
theorem dX6_readsAll_30 : decode cX6_readsAll 30 = .ok (.iconst 1, 1) := by decide +kernel
theorem dX6_readsAll_31 : decode cX6_readsAll 31 = .ok (.iadd, 1) := by decide +kernel
theorem dX6_readsAll_32 : decode cX6_readsAll 32 = .ok (.putfield 65, 3) := by decide +kernel
theorem dX6_readsAll_35 : decode cX6_readsAll 35 = .ok (.aload_n 0, 1) := by decide +kernel
theorem dX6_readsAll_36 : decode cX6_readsAll 36 = .ok (.aload_n 0, 1) := by decide +kernel
theorem dX6_readsAll_37 : decode cX6_readsAll 37 = .ok (.getfield 7, 3) := by decide +kernel
theorem dX6_readsAll_40 : decode cX6_readsAll 40 = .ok (.iload_n 1, 1) := by decide +kernel
theorem dX6_readsAll_41 : decode cX6_readsAll 41 = .ok (.iaload, 1) := by decide +kernel
theorem dX6_readsAll_42 : decode cX6_readsAll 42 = .ok (.invokevirtual 80, 3) := by decide +kernel
theorem dX6_readsAll_45 : decode cX6_readsAll 45 = .ok (.ifCond .ne 5, 3) := by decide +kernel
theorem dX6_readsAll_48 : decode cX6_readsAll 48 = .ok (.iload_n 1, 1) := by decide +kernel
theorem dX6_readsAll_49 : decode cX6_readsAll 49 = .ok (.ireturn, 1) := by decide +kernel
theorem dX6_readsAll_50 : decode cX6_readsAll 50 = .ok (.goto (-41), 3) := by decide +kernel
theorem dX6_readsAll_53 : decode cX6_readsAll 53 = .ok (.bipush (-4), 2) := by decide +kernel
theorem dX6_readsAll_55 : decode cX6_readsAll 55 = .ok (.ireturn, 1) := by decide +kernel
theorem dX6_fault_0 : decode cX6_fault 0 = .ok (.aload_n 0, 1) := by decide +kernel
theorem dX6_fault_1 : decode cX6_fault 1 = .ok (.invokevirtual 83, 3) := by decide +kernel
theorem dX6_fault_4 : decode cX6_fault 4 = .ok (.ireturn, 1) := by decide +kernel
theorem dX6_lays_0 : decode cX6_lays 0 = .ok (.iconst 0, 1) := by decide +kernel
theorem dX6_lays_1 : decode cX6_lays 1 = .ok (.istore_n 1, 1) := by decide +kernel
theorem dX6_lays_2 : decode cX6_lays 2 = .ok (.iload_n 1, 1) := by decide +kernel
theorem dX6_lays_3 : decode cX6_lays 3 = .ok (.bipush 39, 2) := by decide +kernel
theorem dX6_lays_5 : decode cX6_lays 5 = .ok (.if_icmp .ge 21, 3) := by decide +kernel
theorem dX6_lays_8 : decode cX6_lays 8 = .ok (.aload_n 0, 1) := by decide +kernel
theorem dX6_lays_9 : decode cX6_lays 9 = .ok (.getfield 13, 3) := by decide +kernel
theorem dX6_lays_12 : decode cX6_lays 12 = .ok (.iload_n 1, 1) := by decide +kernel
theorem dX6_lays_13 : decode cX6_lays 13 = .ok (.aload_n 0, 1) := by decide +kernel
theorem dX6_lays_14 : decode cX6_lays 14 = .ok (.getfield 16, 3) := by decide +kernel
theorem dX6_lays_17 : decode cX6_lays 17 = .ok (.iload_n 1, 1) := by decide +kernel
theorem dX6_lays_18 : decode cX6_lays 18 = .ok (.iaload, 1) := by decide +kernel
theorem dX6_lays_19 : decode cX6_lays 19 = .ok (.iastore, 1) := by decide +kernel
theorem dX6_lays_20 : decode cX6_lays 20 = .ok (.iinc 1 1, 3) := by decide +kernel
theorem dX6_lays_23 : decode cX6_lays 23 = .ok (.goto (-21), 3) := by decide +kernel
theorem dX6_lays_26 : decode cX6_lays 26 = .ok (.iconst 0, 1) := by decide +kernel
theorem dX6_lays_27 : decode cX6_lays 27 = .ok (.istore_n 1, 1) := by decide +kernel
theorem dX6_lays_28 : decode cX6_lays 28 = .ok (.iload_n 1, 1) := by decide +kernel
theorem dX6_lays_29 : decode cX6_lays 29 = .ok (.bipush 73, 2) := by decide +kernel
theorem dX6_lays_31 : decode cX6_lays 31 = .ok (.if_icmp .ge 21, 3) := by decide +kernel
theorem dX6_lays_34 : decode cX6_lays 34 = .ok (.aload_n 0, 1) := by decide +kernel
theorem dX6_lays_35 : decode cX6_lays 35 = .ok (.getfield 22, 3) := by decide +kernel
theorem dX6_lays_38 : decode cX6_lays 38 = .ok (.iload_n 1, 1) := by decide +kernel
theorem dX6_lays_39 : decode cX6_lays 39 = .ok (.aload_n 0, 1) := by decide +kernel
theorem dX6_lays_40 : decode cX6_lays 40 = .ok (.getfield 19, 3) := by decide +kernel
theorem dX6_lays_43 : decode cX6_lays 43 = .ok (.iload_n 1, 1) := by decide +kernel
theorem dX6_lays_44 : decode cX6_lays 44 = .ok (.iaload, 1) := by decide +kernel
theorem dX6_lays_45 : decode cX6_lays 45 = .ok (.iastore, 1) := by decide +kernel
theorem dX6_lays_46 : decode cX6_lays 46 = .ok (.iinc 1 1, 3) := by decide +kernel
theorem dX6_lays_49 : decode cX6_lays 49 = .ok (.goto (-21), 3) := by decide +kernel
theorem dX6_lays_52 : decode cX6_lays 52 = .ok (.iconst 0, 1) := by decide +kernel
theorem dX6_lays_53 : decode cX6_lays 53 = .ok (.istore_n 1, 1) := by decide +kernel
theorem dX6_lays_54 : decode cX6_lays 54 = .ok (.iload_n 1, 1) := by decide +kernel
theorem dX6_lays_55 : decode cX6_lays 55 = .ok (.bipush 36, 2) := by decide +kernel
theorem dX6_lays_57 : decode cX6_lays 57 = .ok (.if_icmp .ge 49, 3) := by decide +kernel
theorem dX6_lays_60 : decode cX6_lays 60 = .ok (.aload_n 0, 1) := by decide +kernel
theorem dX6_lays_61 : decode cX6_lays 61 = .ok (.getfield 22, 3) := by decide +kernel
theorem dX6_lays_64 : decode cX6_lays 64 = .ok (.iload_n 1, 1) := by decide +kernel
theorem dX6_lays_65 : decode cX6_lays 65 = .ok (.aload_n 0, 1) := by decide +kernel
theorem dX6_lays_66 : decode cX6_lays 66 = .ok (.getfield 13, 3) := by decide +kernel
theorem dX6_lays_69 : decode cX6_lays 69 = .ok (.iconst 3, 1) := by decide +kernel
theorem dX6_lays_70 : decode cX6_lays 70 = .ok (.iload_n 1, 1) := by decide +kernel
theorem dX6_lays_71 : decode cX6_lays 71 = .ok (.iadd, 1) := by decide +kernel
theorem dX6_lays_72 : decode cX6_lays 72 = .ok (.iaload, 1) := by decide +kernel
theorem dX6_lays_73 : decode cX6_lays 73 = .ok (.iconst 2, 1) := by decide +kernel
theorem dX6_lays_74 : decode cX6_lays 74 = .ok (.if_icmp .eq 15, 3) := by decide +kernel
theorem dX6_lays_77 : decode cX6_lays 77 = .ok (.aload_n 0, 1) := by decide +kernel
theorem dX6_lays_78 : decode cX6_lays 78 = .ok (.getfield 13, 3) := by decide +kernel
theorem dX6_lays_81 : decode cX6_lays 81 = .ok (.iconst 3, 1) := by decide +kernel
theorem dX6_lays_82 : decode cX6_lays 82 = .ok (.iload_n 1, 1) := by decide +kernel
theorem dX6_lays_83 : decode cX6_lays 83 = .ok (.iadd, 1) := by decide +kernel
theorem dX6_lays_84 : decode cX6_lays 84 = .ok (.iaload, 1) := by decide +kernel
theorem dX6_lays_85 : decode cX6_lays 85 = .ok (.iconst 3, 1) := by decide +kernel
theorem dX6_lays_86 : decode cX6_lays 86 = .ok (.if_icmp .ne 7, 3) := by decide +kernel
theorem dX6_lays_89 : decode cX6_lays 89 = .ok (.iconst 0, 1) := by decide +kernel
theorem dX6_lays_90 : decode cX6_lays 90 = .ok (.goto 9, 3) := by decide +kernel
theorem dX6_lays_93 : decode cX6_lays 93 = .ok (.aload_n 0, 1) := by decide +kernel
theorem dX6_lays_94 : decode cX6_lays 94 = .ok (.getfield 22, 3) := by decide +kernel
theorem dX6_lays_97 : decode cX6_lays 97 = .ok (.iload_n 1, 1) := by decide +kernel
theorem dX6_lays_98 : decode cX6_lays 98 = .ok (.iaload, 1) := by decide +kernel
theorem dX6_lays_99 : decode cX6_lays 99 = .ok (.iastore, 1) := by decide +kernel
theorem dX6_lays_100 : decode cX6_lays 100 = .ok (.iinc 1 1, 3) := by decide +kernel
theorem dX6_lays_103 : decode cX6_lays 103 = .ok (.goto (-49), 3) := by decide +kernel
theorem dX6_lays_106 : decode cX6_lays 106 = .ok (.aload_n 0, 1) := by decide +kernel
theorem dX6_lays_107 : decode cX6_lays 107 = .ok (.invokevirtual 86, 3) := by decide +kernel
theorem dX6_lays_110 : decode cX6_lays 110 = .ok (.aload_n 0, 1) := by decide +kernel
theorem dX6_lays_111 : decode cX6_lays 111 = .ok (.iconst 0, 1) := by decide +kernel
theorem dX6_lays_112 : decode cX6_lays 112 = .ok (.putfield 89, 3) := by decide +kernel
theorem dX6_lays_115 : decode cX6_lays 115 = .ok (.aload_n 0, 1) := by decide +kernel
theorem dX6_lays_116 : decode cX6_lays 116 = .ok (.iconst 0, 1) := by decide +kernel
theorem dX6_lays_117 : decode cX6_lays 117 = .ok (.putfield 92, 3) := by decide +kernel
theorem dX6_lays_120 : decode cX6_lays 120 = .ok (.aload_n 0, 1) := by decide +kernel
theorem dX6_lays_121 : decode cX6_lays 121 = .ok (.iconst 0, 1) := by decide +kernel
theorem dX6_lays_122 : decode cX6_lays 122 = .ok (.putfield 95, 3) := by decide +kernel
theorem dX6_lays_125 : decode cX6_lays 125 = .ok (.return_, 1) := by decide +kernel
theorem dX6_lay_0 : decode cX6_lay 0 = .ok (.aload_n 0, 1) := by decide +kernel
theorem dX6_lay_1 : decode cX6_lay 1 = .ok (.getfield 61, 3) := by decide +kernel
theorem dX6_lay_4 : decode cX6_lay 4 = .ok (.ifCond .eq 12, 3) := by decide +kernel
theorem dX6_lay_7 : decode cX6_lay 7 = .ok (.aload_n 0, 1) := by decide +kernel
theorem dX6_lay_8 : decode cX6_lay 8 = .ok (.invokevirtual 83, 3) := by decide +kernel
theorem dX6_lay_11 : decode cX6_lay 11 = .ok (.bipush (-4), 2) := by decide +kernel
theorem dX6_lay_13 : decode cX6_lay 13 = .ok (.if_icmp .eq 6, 3) := by decide +kernel
theorem dX6_lay_16 : decode cX6_lay 16 = .ok (.bipush (-2), 2) := by decide +kernel
theorem dX6_lay_18 : decode cX6_lay 18 = .ok (.ireturn, 1) := by decide +kernel
theorem dX6_lay_19 : decode cX6_lay 19 = .ok (.aload_n 0, 1) := by decide +kernel
theorem dX6_lay_20 : decode cX6_lay 20 = .ok (.invokevirtual 50, 3) := by decide +kernel
theorem dX6_lay_23 : decode cX6_lay 23 = .ok (.aload_n 0, 1) := by decide +kernel
theorem dX6_lay_24 : decode cX6_lay 24 = .ok (.invokevirtual 53, 3) := by decide +kernel
theorem dX6_lay_27 : decode cX6_lay 27 = .ok (.ireturn, 1) := by decide +kernel
theorem dX6_beside_0 : decode cX6_beside 0 = .ok (.aload_n 0, 1) := by decide +kernel
theorem dX6_beside_1 : decode cX6_beside 1 = .ok (.getfield 13, 3) := by decide +kernel
theorem dX6_beside_4 : decode cX6_beside 4 = .ok (.iconst 1, 1) := by decide +kernel
theorem dX6_beside_5 : decode cX6_beside 5 = .ok (.iaload, 1) := by decide +kernel
theorem dX6_beside_6 : decode cX6_beside 6 = .ok (.istore_n 3, 1) := by decide +kernel
theorem dX6_beside_7 : decode cX6_beside 7 = .ok (.iload_n 2, 1) := by decide +kernel
theorem dX6_beside_8 : decode cX6_beside 8 = .ok (.ifCond .ne 9, 3) := by decide +kernel
theorem dX6_beside_11 : decode cX6_beside 11 = .ok (.iload_n 1, 1) := by decide +kernel
theorem dX6_beside_12 : decode cX6_beside 12 = .ok (.iload_n 3, 1) := by decide +kernel
theorem dX6_beside_13 : decode cX6_beside 13 = .ok (.isub, 1) := by decide +kernel
theorem dX6_beside_14 : decode cX6_beside 14 = .ok (.goto 28, 3) := by decide +kernel
theorem dX6_beside_17 : decode cX6_beside 17 = .ok (.iload_n 2, 1) := by decide +kernel
theorem dX6_beside_18 : decode cX6_beside 18 = .ok (.iconst 1, 1) := by decide +kernel
theorem dX6_beside_19 : decode cX6_beside 19 = .ok (.if_icmp .ne 9, 3) := by decide +kernel
theorem dX6_beside_22 : decode cX6_beside 22 = .ok (.iload_n 1, 1) := by decide +kernel
theorem dX6_beside_23 : decode cX6_beside 23 = .ok (.iload_n 3, 1) := by decide +kernel
theorem dX6_beside_24 : decode cX6_beside 24 = .ok (.iadd, 1) := by decide +kernel
theorem dX6_beside_25 : decode cX6_beside 25 = .ok (.goto 17, 3) := by decide +kernel
theorem dX6_beside_28 : decode cX6_beside 28 = .ok (.iload_n 2, 1) := by decide +kernel
theorem dX6_beside_29 : decode cX6_beside 29 = .ok (.iconst 2, 1) := by decide +kernel
theorem dX6_beside_30 : decode cX6_beside 30 = .ok (.if_icmp .ne 9, 3) := by decide +kernel
theorem dX6_beside_33 : decode cX6_beside 33 = .ok (.iload_n 1, 1) := by decide +kernel
theorem dX6_beside_34 : decode cX6_beside 34 = .ok (.iconst 1, 1) := by decide +kernel
theorem dX6_beside_35 : decode cX6_beside 35 = .ok (.iadd, 1) := by decide +kernel
theorem dX6_beside_36 : decode cX6_beside 36 = .ok (.goto 6, 3) := by decide +kernel
theorem dX6_beside_39 : decode cX6_beside 39 = .ok (.iload_n 1, 1) := by decide +kernel
theorem dX6_beside_40 : decode cX6_beside 40 = .ok (.iconst 1, 1) := by decide +kernel
theorem dX6_beside_41 : decode cX6_beside 41 = .ok (.isub, 1) := by decide +kernel
theorem dX6_beside_42 : decode cX6_beside 42 = .ok (.istore 4, 2) := by decide +kernel
theorem dX6_beside_44 : decode cX6_beside 44 = .ok (.aload_n 0, 1) := by decide +kernel
theorem dX6_beside_45 : decode cX6_beside 45 = .ok (.iload 4, 2) := by decide +kernel
theorem dX6_beside_47 : decode cX6_beside 47 = .ok (.invokevirtual 98, 3) := by decide +kernel
theorem dX6_beside_50 : decode cX6_beside 50 = .ok (.ifCond .eq 31, 3) := by decide +kernel
theorem dX6_beside_53 : decode cX6_beside 53 = .ok (.iload_n 2, 1) := by decide +kernel
theorem dX6_beside_54 : decode cX6_beside 54 = .ok (.iconst 2, 1) := by decide +kernel
theorem dX6_beside_55 : decode cX6_beside 55 = .ok (.if_icmp .lt 13, 3) := by decide +kernel
theorem dX6_beside_58 : decode cX6_beside 58 = .ok (.iload 4, 2) := by decide +kernel
theorem dX6_beside_60 : decode cX6_beside 60 = .ok (.iload_n 3, 1) := by decide +kernel
theorem dX6_beside_61 : decode cX6_beside 61 = .ok (.idiv, 1) := by decide +kernel
theorem dX6_beside_62 : decode cX6_beside 62 = .ok (.iload_n 1, 1) := by decide +kernel
theorem dX6_beside_63 : decode cX6_beside 63 = .ok (.iload_n 3, 1) := by decide +kernel
theorem dX6_beside_64 : decode cX6_beside 64 = .ok (.idiv, 1) := by decide +kernel
theorem dX6_beside_65 : decode cX6_beside 65 = .ok (.if_icmp .ne 16, 3) := by decide +kernel
theorem dX6_beside_68 : decode cX6_beside 68 = .ok (.iload_n 2, 1) := by decide +kernel
theorem dX6_beside_69 : decode cX6_beside 69 = .ok (.iconst 3, 1) := by decide +kernel
theorem dX6_beside_70 : decode cX6_beside 70 = .ok (.if_icmp .lt 7, 3) := by decide +kernel
theorem dX6_beside_73 : decode cX6_beside 73 = .ok (.iload_n 1, 1) := by decide +kernel
theorem dX6_beside_74 : decode cX6_beside 74 = .ok (.ifCond .le 7, 3) := by decide +kernel
theorem dX6_beside_77 : decode cX6_beside 77 = .ok (.iconst 1, 1) := by decide +kernel
theorem dX6_beside_78 : decode cX6_beside 78 = .ok (.goto 4, 3) := by decide +kernel
theorem dX6_beside_81 : decode cX6_beside 81 = .ok (.iconst 0, 1) := by decide +kernel
theorem dX6_beside_82 : decode cX6_beside 82 = .ok (.istore 5, 2) := by decide +kernel
theorem dX6_beside_84 : decode cX6_beside 84 = .ok (.iload 5, 2) := by decide +kernel
theorem dX6_beside_86 : decode cX6_beside 86 = .ok (.ifCond .eq 21, 3) := by decide +kernel
theorem dX6_beside_89 : decode cX6_beside 89 = .ok (.aload_n 0, 1) := by decide +kernel
theorem dX6_beside_90 : decode cX6_beside 90 = .ok (.getfield 13, 3) := by decide +kernel
theorem dX6_beside_93 : decode cX6_beside 93 = .ok (.iconst 3, 1) := by decide +kernel
theorem dX6_beside_94 : decode cX6_beside 94 = .ok (.iload 4, 2) := by decide +kernel
theorem dX6_beside_96 : decode cX6_beside 96 = .ok (.iadd, 1) := by decide +kernel
theorem dX6_beside_97 : decode cX6_beside 97 = .ok (.iaload, 1) := by decide +kernel
theorem dX6_beside_98 : decode cX6_beside 98 = .ok (.iconst 3, 1) := by decide +kernel
theorem dX6_beside_99 : decode cX6_beside 99 = .ok (.if_icmp .eq 8, 3) := by decide +kernel
theorem dX6_beside_102 : decode cX6_beside 102 = .ok (.iload 4, 2) := by decide +kernel
theorem dX6_beside_104 : decode cX6_beside 104 = .ok (.goto 4, 3) := by decide +kernel
theorem dX6_beside_107 : decode cX6_beside 107 = .ok (.iconst (-1), 1) := by decide +kernel
theorem dX6_beside_108 : decode cX6_beside 108 = .ok (.ireturn, 1) := by decide +kernel
theorem dX6_level_0 : decode cX6_level 0 = .ok (.aload_n 0, 1) := by decide +kernel
theorem dX6_level_1 : decode cX6_level 1 = .ok (.getfield 22, 3) := by decide +kernel
theorem dX6_level_4 : decode cX6_level 4 = .ok (.bipush 36, 2) := by decide +kernel
theorem dX6_level_6 : decode cX6_level 6 = .ok (.iload_n 1, 1) := by decide +kernel
theorem dX6_level_7 : decode cX6_level 7 = .ok (.iadd, 1) := by decide +kernel
theorem dX6_level_8 : decode cX6_level 8 = .ok (.iaload, 1) := by decide +kernel
theorem dX6_level_9 : decode cX6_level 9 = .ok (.aload_n 0, 1) := by decide +kernel
theorem dX6_level_10 : decode cX6_level 10 = .ok (.getfield 22, 3) := by decide +kernel
theorem dX6_level_13 : decode cX6_level 13 = .ok (.iload_n 1, 1) := by decide +kernel
theorem dX6_level_14 : decode cX6_level 14 = .ok (.iaload, 1) := by decide +kernel
theorem dX6_level_15 : decode cX6_level 15 = .ok (.iadd, 1) := by decide +kernel
theorem dX6_level_16 : decode cX6_level 16 = .ok (.ireturn, 1) := by decide +kernel
theorem dX6_drops_0 : decode cX6_drops 0 = .ok (.aload_n 0, 1) := by decide +kernel
theorem dX6_drops_1 : decode cX6_drops 1 = .ok (.getfield 22, 3) := by decide +kernel
theorem dX6_drops_4 : decode cX6_drops 4 = .ok (.iload_n 1, 1) := by decide +kernel
theorem dX6_drops_5 : decode cX6_drops 5 = .ok (.dup2, 1) := by decide +kernel
theorem dX6_drops_6 : decode cX6_drops 6 = .ok (.iaload, 1) := by decide +kernel
theorem dX6_drops_7 : decode cX6_drops 7 = .ok (.iconst 1, 1) := by decide +kernel
theorem dX6_drops_8 : decode cX6_drops 8 = .ok (.isub, 1) := by decide +kernel
theorem dX6_drops_9 : decode cX6_drops 9 = .ok (.iastore, 1) := by decide +kernel
theorem dX6_drops_10 : decode cX6_drops 10 = .ok (.aload_n 0, 1) := by decide +kernel
theorem dX6_drops_11 : decode cX6_drops 11 = .ok (.getfield 22, 3) := by decide +kernel
theorem dX6_drops_14 : decode cX6_drops 14 = .ok (.iload_n 2, 1) := by decide +kernel
theorem dX6_drops_15 : decode cX6_drops 15 = .ok (.dup2, 1) := by decide +kernel
theorem dX6_drops_16 : decode cX6_drops 16 = .ok (.iaload, 1) := by decide +kernel
theorem dX6_drops_17 : decode cX6_drops 17 = .ok (.aload_n 0, 1) := by decide +kernel
theorem dX6_drops_18 : decode cX6_drops 18 = .ok (.getfield 13, 3) := by decide +kernel
theorem dX6_drops_21 : decode cX6_drops 21 = .ok (.iconst 3, 1) := by decide +kernel
theorem dX6_drops_22 : decode cX6_drops 22 = .ok (.iload_n 2, 1) := by decide +kernel
theorem dX6_drops_23 : decode cX6_drops 23 = .ok (.iadd, 1) := by decide +kernel
theorem dX6_drops_24 : decode cX6_drops 24 = .ok (.iaload, 1) := by decide +kernel
theorem dX6_drops_25 : decode cX6_drops 25 = .ok (.iconst 2, 1) := by decide +kernel
theorem dX6_drops_26 : decode cX6_drops 26 = .ok (.if_icmp .eq 18, 3) := by decide +kernel
theorem dX6_drops_29 : decode cX6_drops 29 = .ok (.aload_n 0, 1) := by decide +kernel
theorem dX6_drops_30 : decode cX6_drops 30 = .ok (.getfield 22, 3) := by decide +kernel
theorem dX6_drops_33 : decode cX6_drops 33 = .ok (.iload_n 2, 1) := by decide +kernel
theorem dX6_drops_34 : decode cX6_drops 34 = .ok (.iaload, 1) := by decide +kernel
theorem dX6_drops_35 : decode cX6_drops 35 = .ok (.bipush 60, 2) := by decide +kernel
theorem dX6_drops_37 : decode cX6_drops 37 = .ok (.if_icmp .ge 7, 3) := by decide +kernel
theorem dX6_drops_40 : decode cX6_drops 40 = .ok (.iconst 1, 1) := by decide +kernel
theorem dX6_drops_41 : decode cX6_drops 41 = .ok (.goto 4, 3) := by decide +kernel
theorem dX6_drops_44 : decode cX6_drops 44 = .ok (.iconst 0, 1) := by decide +kernel
theorem dX6_drops_45 : decode cX6_drops 45 = .ok (.iadd, 1) := by decide +kernel
theorem dX6_drops_46 : decode cX6_drops 46 = .ok (.iastore, 1) := by decide +kernel
theorem dX6_drops_47 : decode cX6_drops 47 = .ok (.return_, 1) := by decide +kernel
theorem dX6_sends_0 : decode cX6_sends 0 = .ok (.iconst (-1), 1) := by decide +kernel
theorem dX6_sends_1 : decode cX6_sends 1 = .ok (.istore_n 2, 1) := by decide +kernel
theorem dX6_sends_2 : decode cX6_sends 2 = .ok (.iconst 3, 1) := by decide +kernel
theorem dX6_sends_3 : decode cX6_sends 3 = .ok (.istore_n 3, 1) := by decide +kernel
theorem dX6_sends_4 : decode cX6_sends 4 = .ok (.iload_n 3, 1) := by decide +kernel
theorem dX6_sends_5 : decode cX6_sends 5 = .ok (.ifCond .lt 110, 3) := by decide +kernel
theorem dX6_sends_8 : decode cX6_sends 8 = .ok (.aload_n 0, 1) := by decide +kernel
theorem dX6_sends_9 : decode cX6_sends 9 = .ok (.getfield 22, 3) := by decide +kernel
theorem dX6_sends_12 : decode cX6_sends 12 = .ok (.iload_n 1, 1) := by decide +kernel
theorem dX6_sends_13 : decode cX6_sends 13 = .ok (.iaload, 1) := by decide +kernel
theorem dX6_sends_14 : decode cX6_sends 14 = .ok (.ifCond .le 101, 3) := by decide +kernel
theorem dX6_sends_17 : decode cX6_sends 17 = .ok (.aload_n 0, 1) := by decide +kernel
theorem dX6_sends_18 : decode cX6_sends 18 = .ok (.iload_n 1, 1) := by decide +kernel
theorem dX6_sends_19 : decode cX6_sends 19 = .ok (.iload_n 3, 1) := by decide +kernel
theorem dX6_sends_20 : decode cX6_sends 20 = .ok (.invokevirtual 101, 3) := by decide +kernel
theorem dX6_sends_23 : decode cX6_sends 23 = .ok (.istore 4, 2) := by decide +kernel
theorem dX6_sends_25 : decode cX6_sends 25 = .ok (.iload 4, 2) := by decide +kernel
theorem dX6_sends_27 : decode cX6_sends 27 = .ok (.ifCond .lt 16, 3) := by decide +kernel
theorem dX6_sends_30 : decode cX6_sends 30 = .ok (.aload_n 0, 1) := by decide +kernel
theorem dX6_sends_31 : decode cX6_sends 31 = .ok (.getfield 13, 3) := by decide +kernel
theorem dX6_sends_34 : decode cX6_sends 34 = .ok (.iconst 3, 1) := by decide +kernel
theorem dX6_sends_35 : decode cX6_sends 35 = .ok (.iload 4, 2) := by decide +kernel
theorem dX6_sends_37 : decode cX6_sends 37 = .ok (.iadd, 1) := by decide +kernel
theorem dX6_sends_38 : decode cX6_sends 38 = .ok (.iaload, 1) := by decide +kernel
theorem dX6_sends_39 : decode cX6_sends 39 = .ok (.iconst 2, 1) := by decide +kernel
theorem dX6_sends_40 : decode cX6_sends 40 = .ok (.if_icmp .ne 7, 3) := by decide +kernel
theorem dX6_sends_43 : decode cX6_sends 43 = .ok (.iconst 1, 1) := by decide +kernel
theorem dX6_sends_44 : decode cX6_sends 44 = .ok (.goto 4, 3) := by decide +kernel
theorem dX6_sends_47 : decode cX6_sends 47 = .ok (.iconst 2, 1) := by decide +kernel
theorem dX6_sends_48 : decode cX6_sends 48 = .ok (.istore 5, 2) := by decide +kernel
theorem dX6_sends_50 : decode cX6_sends 50 = .ok (.iload 4, 2) := by decide +kernel
theorem dX6_sends_52 : decode cX6_sends 52 = .ok (.ifCond .lt 24, 3) := by decide +kernel
theorem dX6_sends_55 : decode cX6_sends 55 = .ok (.aload_n 0, 1) := by decide +kernel
theorem dX6_sends_56 : decode cX6_sends 56 = .ok (.iload 4, 2) := by decide +kernel
theorem dX6_sends_58 : decode cX6_sends 58 = .ok (.invokevirtual 105, 3) := by decide +kernel
theorem dX6_sends_61 : decode cX6_sends 61 = .ok (.iload 5, 2) := by decide +kernel
theorem dX6_sends_63 : decode cX6_sends 63 = .ok (.iadd, 1) := by decide +kernel
theorem dX6_sends_64 : decode cX6_sends 64 = .ok (.aload_n 0, 1) := by decide +kernel
theorem dX6_sends_65 : decode cX6_sends 65 = .ok (.iload_n 1, 1) := by decide +kernel
theorem dX6_sends_66 : decode cX6_sends 66 = .ok (.invokevirtual 105, 3) := by decide +kernel
theorem dX6_sends_69 : decode cX6_sends 69 = .ok (.if_icmp .gt 7, 3) := by decide +kernel
theorem dX6_sends_72 : decode cX6_sends 72 = .ok (.iconst 1, 1) := by decide +kernel
theorem dX6_sends_73 : decode cX6_sends 73 = .ok (.goto 4, 3) := by decide +kernel
theorem dX6_sends_76 : decode cX6_sends 76 = .ok (.iconst 0, 1) := by decide +kernel
theorem dX6_sends_77 : decode cX6_sends 77 = .ok (.istore 6, 2) := by decide +kernel
theorem dX6_sends_79 : decode cX6_sends 79 = .ok (.iload 6, 2) := by decide +kernel
theorem dX6_sends_81 : decode cX6_sends 81 = .ok (.ifCond .eq 26, 3) := by decide +kernel
theorem dX6_sends_84 : decode cX6_sends 84 = .ok (.iload_n 2, 1) := by decide +kernel
theorem dX6_sends_85 : decode cX6_sends 85 = .ok (.ifCond .lt 17, 3) := by decide +kernel
theorem dX6_sends_88 : decode cX6_sends 88 = .ok (.aload_n 0, 1) := by decide +kernel
theorem dX6_sends_89 : decode cX6_sends 89 = .ok (.iload 4, 2) := by decide +kernel
theorem dX6_sends_91 : decode cX6_sends 91 = .ok (.invokevirtual 105, 3) := by decide +kernel
theorem dX6_sends_94 : decode cX6_sends 94 = .ok (.aload_n 0, 1) := by decide +kernel
theorem dX6_sends_95 : decode cX6_sends 95 = .ok (.iload_n 2, 1) := by decide +kernel
theorem dX6_sends_96 : decode cX6_sends 96 = .ok (.invokevirtual 105, 3) := by decide +kernel
theorem dX6_sends_99 : decode cX6_sends 99 = .ok (.if_icmp .gt 8, 3) := by decide +kernel
theorem dX6_sends_102 : decode cX6_sends 102 = .ok (.iload 4, 2) := by decide +kernel
theorem dX6_sends_104 : decode cX6_sends 104 = .ok (.goto 4, 3) := by decide +kernel
theorem dX6_sends_107 : decode cX6_sends 107 = .ok (.iload_n 2, 1) := by decide +kernel
theorem dX6_sends_108 : decode cX6_sends 108 = .ok (.istore_n 2, 1) := by decide +kernel
theorem dX6_sends_109 : decode cX6_sends 109 = .ok (.iinc 3 (-1), 3) := by decide +kernel
theorem dX6_sends_112 : decode cX6_sends 112 = .ok (.goto (-108), 3) := by decide +kernel
theorem dX6_sends_115 : decode cX6_sends 115 = .ok (.iload_n 2, 1) := by decide +kernel
theorem dX6_sends_116 : decode cX6_sends 116 = .ok (.ifCond .lt 9, 3) := by decide +kernel
theorem dX6_sends_119 : decode cX6_sends 119 = .ok (.aload_n 0, 1) := by decide +kernel
theorem dX6_sends_120 : decode cX6_sends 120 = .ok (.iload_n 1, 1) := by decide +kernel
theorem dX6_sends_121 : decode cX6_sends 121 = .ok (.iload_n 2, 1) := by decide +kernel
theorem dX6_sends_122 : decode cX6_sends 122 = .ok (.invokevirtual 108, 3) := by decide +kernel
theorem dX6_sends_125 : decode cX6_sends 125 = .ok (.iload_n 2, 1) := by decide +kernel
theorem dX6_sends_126 : decode cX6_sends 126 = .ok (.ifCond .lt 7, 3) := by decide +kernel
theorem dX6_sends_129 : decode cX6_sends 129 = .ok (.iconst 1, 1) := by decide +kernel
theorem dX6_sends_130 : decode cX6_sends 130 = .ok (.goto 4, 3) := by decide +kernel
theorem dX6_sends_133 : decode cX6_sends 133 = .ok (.iconst 0, 1) := by decide +kernel
theorem dX6_sends_134 : decode cX6_sends 134 = .ok (.ireturn, 1) := by decide +kernel
theorem dX6_flows_0 : decode cX6_flows 0 = .ok (.iconst 1, 1) := by decide +kernel
theorem dX6_flows_1 : decode cX6_flows 1 = .ok (.istore_n 1, 1) := by decide +kernel
theorem dX6_flows_2 : decode cX6_flows 2 = .ok (.iload_n 1, 1) := by decide +kernel
theorem dX6_flows_3 : decode cX6_flows 3 = .ok (.ifCond .eq 44, 3) := by decide +kernel
theorem dX6_flows_6 : decode cX6_flows 6 = .ok (.iconst 0, 1) := by decide +kernel
theorem dX6_flows_7 : decode cX6_flows 7 = .ok (.istore_n 1, 1) := by decide +kernel
theorem dX6_flows_8 : decode cX6_flows 8 = .ok (.iconst 0, 1) := by decide +kernel
theorem dX6_flows_9 : decode cX6_flows 9 = .ok (.istore_n 2, 1) := by decide +kernel
theorem dX6_flows_10 : decode cX6_flows 10 = .ok (.iload_n 2, 1) := by decide +kernel
theorem dX6_flows_11 : decode cX6_flows 11 = .ok (.aload_n 0, 1) := by decide +kernel
theorem dX6_flows_12 : decode cX6_flows 12 = .ok (.invokevirtual 53, 3) := by decide +kernel
theorem dX6_flows_15 : decode cX6_flows 15 = .ok (.if_icmp .ge 29, 3) := by decide +kernel
theorem dX6_flows_18 : decode cX6_flows 18 = .ok (.aload_n 0, 1) := by decide +kernel
theorem dX6_flows_19 : decode cX6_flows 19 = .ok (.iload_n 2, 1) := by decide +kernel
theorem dX6_flows_20 : decode cX6_flows 20 = .ok (.invokevirtual 112, 3) := by decide +kernel
theorem dX6_flows_23 : decode cX6_flows 23 = .ok (.istore_n 3, 1) := by decide +kernel
theorem dX6_flows_24 : decode cX6_flows 24 = .ok (.iload_n 1, 1) := by decide +kernel
theorem dX6_flows_25 : decode cX6_flows 25 = .ok (.ifCond .ne 7, 3) := by decide +kernel
theorem dX6_flows_28 : decode cX6_flows 28 = .ok (.iload_n 3, 1) := by decide +kernel
theorem dX6_flows_29 : decode cX6_flows 29 = .ok (.ifCond .eq 7, 3) := by decide +kernel
theorem dX6_flows_32 : decode cX6_flows 32 = .ok (.iconst 1, 1) := by decide +kernel
theorem dX6_flows_33 : decode cX6_flows 33 = .ok (.goto 4, 3) := by decide +kernel
theorem dX6_flows_36 : decode cX6_flows 36 = .ok (.iconst 0, 1) := by decide +kernel
theorem dX6_flows_37 : decode cX6_flows 37 = .ok (.istore_n 1, 1) := by decide +kernel
theorem dX6_flows_38 : decode cX6_flows 38 = .ok (.iinc 2 1, 3) := by decide +kernel
theorem dX6_flows_41 : decode cX6_flows 41 = .ok (.goto (-31), 3) := by decide +kernel
theorem dX6_flows_44 : decode cX6_flows 44 = .ok (.goto (-42), 3) := by decide +kernel
theorem dX6_flows_47 : decode cX6_flows 47 = .ok (.return_, 1) := by decide +kernel
theorem dX6_isOpen_0 : decode cX6_isOpen 0 = .ok (.aload_n 0, 1) := by decide +kernel
theorem dX6_isOpen_1 : decode cX6_isOpen 1 = .ok (.getfield 13, 3) := by decide +kernel
theorem dX6_isOpen_4 : decode cX6_isOpen 4 = .ok (.iconst 3, 1) := by decide +kernel
theorem dX6_isOpen_5 : decode cX6_isOpen 5 = .ok (.iload_n 1, 1) := by decide +kernel
theorem dX6_isOpen_6 : decode cX6_isOpen 6 = .ok (.iadd, 1) := by decide +kernel
theorem dX6_isOpen_7 : decode cX6_isOpen 7 = .ok (.iaload, 1) := by decide +kernel
theorem dX6_isOpen_8 : decode cX6_isOpen 8 = .ok (.iconst 2, 1) := by decide +kernel
theorem dX6_isOpen_9 : decode cX6_isOpen 9 = .ok (.if_icmp .eq 19, 3) := by decide +kernel
theorem dX6_isOpen_12 : decode cX6_isOpen 12 = .ok (.aload_n 0, 1) := by decide +kernel
theorem dX6_isOpen_13 : decode cX6_isOpen 13 = .ok (.getfield 13, 3) := by decide +kernel
theorem dX6_isOpen_16 : decode cX6_isOpen 16 = .ok (.iconst 3, 1) := by decide +kernel
theorem dX6_isOpen_17 : decode cX6_isOpen 17 = .ok (.iload_n 1, 1) := by decide +kernel
theorem dX6_isOpen_18 : decode cX6_isOpen 18 = .ok (.iadd, 1) := by decide +kernel
theorem dX6_isOpen_19 : decode cX6_isOpen 19 = .ok (.iaload, 1) := by decide +kernel
theorem dX6_isOpen_20 : decode cX6_isOpen 20 = .ok (.iconst 3, 1) := by decide +kernel
theorem dX6_isOpen_21 : decode cX6_isOpen 21 = .ok (.if_icmp .eq 7, 3) := by decide +kernel
theorem dX6_isOpen_24 : decode cX6_isOpen 24 = .ok (.iconst 1, 1) := by decide +kernel
theorem dX6_isOpen_25 : decode cX6_isOpen 25 = .ok (.goto 4, 3) := by decide +kernel
theorem dX6_isOpen_28 : decode cX6_isOpen 28 = .ok (.iconst 0, 1) := by decide +kernel
theorem dX6_isOpen_29 : decode cX6_isOpen 29 = .ok (.ireturn, 1) := by decide +kernel
theorem dX6_pours_0 : decode cX6_pours 0 = .ok (.iconst 0, 1) := by decide +kernel
theorem dX6_pours_1 : decode cX6_pours 1 = .ok (.istore_n 2, 1) := by decide +kernel
theorem dX6_pours_2 : decode cX6_pours 2 = .ok (.iload_n 2, 1) := by decide +kernel
theorem dX6_pours_3 : decode cX6_pours 3 = .ok (.aload_n 0, 1) := by decide +kernel
theorem dX6_pours_4 : decode cX6_pours 4 = .ok (.invokevirtual 53, 3) := by decide +kernel
theorem dX6_pours_7 : decode cX6_pours 7 = .ok (.if_icmp .ge 53, 3) := by decide +kernel
theorem dX6_pours_10 : decode cX6_pours 10 = .ok (.aload_n 0, 1) := by decide +kernel
theorem dX6_pours_11 : decode cX6_pours 11 = .ok (.getfield 22, 3) := by decide +kernel
theorem dX6_pours_14 : decode cX6_pours 14 = .ok (.iload_n 2, 1) := by decide +kernel
theorem dX6_pours_15 : decode cX6_pours 15 = .ok (.aload_n 0, 1) := by decide +kernel
theorem dX6_pours_16 : decode cX6_pours 16 = .ok (.iload_n 2, 1) := by decide +kernel
theorem dX6_pours_17 : decode cX6_pours 17 = .ok (.invokevirtual 115, 3) := by decide +kernel
theorem dX6_pours_20 : decode cX6_pours 20 = .ok (.ifCond .ne 7, 3) := by decide +kernel
theorem dX6_pours_23 : decode cX6_pours 23 = .ok (.iconst 0, 1) := by decide +kernel
theorem dX6_pours_24 : decode cX6_pours 24 = .ok (.goto 29, 3) := by decide +kernel
theorem dX6_pours_27 : decode cX6_pours 27 = .ok (.aload_n 0, 1) := by decide +kernel
theorem dX6_pours_28 : decode cX6_pours 28 = .ok (.getfield 22, 3) := by decide +kernel
theorem dX6_pours_31 : decode cX6_pours 31 = .ok (.iload_n 2, 1) := by decide +kernel
theorem dX6_pours_32 : decode cX6_pours 32 = .ok (.iaload, 1) := by decide +kernel
theorem dX6_pours_33 : decode cX6_pours 33 = .ok (.iload_n 1, 1) := by decide +kernel
theorem dX6_pours_34 : decode cX6_pours 34 = .ok (.iadd, 1) := by decide +kernel
theorem dX6_pours_35 : decode cX6_pours 35 = .ok (.bipush 60, 2) := by decide +kernel
theorem dX6_pours_37 : decode cX6_pours 37 = .ok (.if_icmp .le 8, 3) := by decide +kernel
theorem dX6_pours_40 : decode cX6_pours 40 = .ok (.bipush 60, 2) := by decide +kernel
theorem dX6_pours_42 : decode cX6_pours 42 = .ok (.goto 11, 3) := by decide +kernel
theorem dX6_pours_45 : decode cX6_pours 45 = .ok (.aload_n 0, 1) := by decide +kernel
theorem dX6_pours_46 : decode cX6_pours 46 = .ok (.getfield 22, 3) := by decide +kernel
theorem dX6_pours_49 : decode cX6_pours 49 = .ok (.iload_n 2, 1) := by decide +kernel
theorem dX6_pours_50 : decode cX6_pours 50 = .ok (.iaload, 1) := by decide +kernel
theorem dX6_pours_51 : decode cX6_pours 51 = .ok (.iload_n 1, 1) := by decide +kernel
theorem dX6_pours_52 : decode cX6_pours 52 = .ok (.iadd, 1) := by decide +kernel
theorem dX6_pours_53 : decode cX6_pours 53 = .ok (.iastore, 1) := by decide +kernel
theorem dX6_pours_54 : decode cX6_pours 54 = .ok (.iinc 2 1, 3) := by decide +kernel
theorem dX6_pours_57 : decode cX6_pours 57 = .ok (.goto (-55), 3) := by decide +kernel
theorem dX6_pours_60 : decode cX6_pours 60 = .ok (.aload_n 0, 1) := by decide +kernel
theorem dX6_pours_61 : decode cX6_pours 61 = .ok (.invokevirtual 86, 3) := by decide +kernel
theorem dX6_pours_64 : decode cX6_pours 64 = .ok (.return_, 1) := by decide +kernel
theorem dX6_shines_0 : decode cX6_shines 0 = .ok (.aload_n 0, 1) := by decide +kernel
theorem dX6_shines_1 : decode cX6_shines 1 = .ok (.getfield 22, 3) := by decide +kernel
theorem dX6_shines_4 : decode cX6_shines 4 = .ok (.bipush 72, 2) := by decide +kernel
theorem dX6_shines_6 : decode cX6_shines 6 = .ok (.dup2, 1) := by decide +kernel
theorem dX6_shines_7 : decode cX6_shines 7 = .ok (.iaload, 1) := by decide +kernel
theorem dX6_shines_8 : decode cX6_shines 8 = .ok (.iconst 1, 1) := by decide +kernel
theorem dX6_shines_9 : decode cX6_shines 9 = .ok (.iadd, 1) := by decide +kernel
theorem dX6_shines_10 : decode cX6_shines 10 = .ok (.iastore, 1) := by decide +kernel
theorem dX6_shines_11 : decode cX6_shines 11 = .ok (.iconst 0, 1) := by decide +kernel
theorem dX6_shines_12 : decode cX6_shines 12 = .ok (.istore_n 1, 1) := by decide +kernel
theorem dX6_shines_13 : decode cX6_shines 13 = .ok (.iload_n 1, 1) := by decide +kernel
theorem dX6_shines_14 : decode cX6_shines 14 = .ok (.aload_n 0, 1) := by decide +kernel
theorem dX6_shines_15 : decode cX6_shines 15 = .ok (.invokevirtual 53, 3) := by decide +kernel
theorem dX6_shines_18 : decode cX6_shines 18 = .ok (.if_icmp .ge 66, 3) := by decide +kernel
theorem dX6_shines_21 : decode cX6_shines 21 = .ok (.aload_n 0, 1) := by decide +kernel
theorem dX6_shines_22 : decode cX6_shines 22 = .ok (.getfield 22, 3) := by decide +kernel
theorem dX6_shines_25 : decode cX6_shines 25 = .ok (.iload_n 1, 1) := by decide +kernel
theorem dX6_shines_26 : decode cX6_shines 26 = .ok (.iaload, 1) := by decide +kernel
theorem dX6_shines_27 : decode cX6_shines 27 = .ok (.ifCond .le 31, 3) := by decide +kernel
theorem dX6_shines_30 : decode cX6_shines 30 = .ok (.aload_n 0, 1) := by decide +kernel
theorem dX6_shines_31 : decode cX6_shines 31 = .ok (.getfield 13, 3) := by decide +kernel
theorem dX6_shines_34 : decode cX6_shines 34 = .ok (.iconst 3, 1) := by decide +kernel
theorem dX6_shines_35 : decode cX6_shines 35 = .ok (.iload_n 1, 1) := by decide +kernel
theorem dX6_shines_36 : decode cX6_shines 36 = .ok (.iadd, 1) := by decide +kernel
theorem dX6_shines_37 : decode cX6_shines 37 = .ok (.iaload, 1) := by decide +kernel
theorem dX6_shines_38 : decode cX6_shines 38 = .ok (.iconst 1, 1) := by decide +kernel
theorem dX6_shines_39 : decode cX6_shines 39 = .ok (.if_icmp .ne 15, 3) := by decide +kernel
theorem dX6_shines_42 : decode cX6_shines 42 = .ok (.aload_n 0, 1) := by decide +kernel
theorem dX6_shines_43 : decode cX6_shines 43 = .ok (.getfield 22, 3) := by decide +kernel
theorem dX6_shines_46 : decode cX6_shines 46 = .ok (.bipush 72, 2) := by decide +kernel
theorem dX6_shines_48 : decode cX6_shines 48 = .ok (.iaload, 1) := by decide +kernel
theorem dX6_shines_49 : decode cX6_shines 49 = .ok (.iconst 2, 1) := by decide +kernel
theorem dX6_shines_50 : decode cX6_shines 50 = .ok (.irem, 1) := by decide +kernel
theorem dX6_shines_51 : decode cX6_shines 51 = .ok (.ifCond .ne 7, 3) := by decide +kernel
theorem dX6_shines_54 : decode cX6_shines 54 = .ok (.iconst 1, 1) := by decide +kernel
theorem dX6_shines_55 : decode cX6_shines 55 = .ok (.goto 4, 3) := by decide +kernel
theorem dX6_shines_58 : decode cX6_shines 58 = .ok (.iconst 0, 1) := by decide +kernel
theorem dX6_shines_59 : decode cX6_shines 59 = .ok (.istore_n 2, 1) := by decide +kernel
theorem dX6_shines_60 : decode cX6_shines 60 = .ok (.aload_n 0, 1) := by decide +kernel
theorem dX6_shines_61 : decode cX6_shines 61 = .ok (.getfield 22, 3) := by decide +kernel
theorem dX6_shines_64 : decode cX6_shines 64 = .ok (.iload_n 1, 1) := by decide +kernel
theorem dX6_shines_65 : decode cX6_shines 65 = .ok (.dup2, 1) := by decide +kernel
theorem dX6_shines_66 : decode cX6_shines 66 = .ok (.iaload, 1) := by decide +kernel
theorem dX6_shines_67 : decode cX6_shines 67 = .ok (.iload_n 2, 1) := by decide +kernel
theorem dX6_shines_68 : decode cX6_shines 68 = .ok (.ifCond .eq 7, 3) := by decide +kernel
theorem dX6_shines_71 : decode cX6_shines 71 = .ok (.iconst 1, 1) := by decide +kernel
theorem dX6_shines_72 : decode cX6_shines 72 = .ok (.goto 4, 3) := by decide +kernel
theorem dX6_shines_75 : decode cX6_shines 75 = .ok (.iconst 0, 1) := by decide +kernel
theorem dX6_shines_76 : decode cX6_shines 76 = .ok (.isub, 1) := by decide +kernel
theorem dX6_shines_77 : decode cX6_shines 77 = .ok (.iastore, 1) := by decide +kernel
theorem dX6_shines_78 : decode cX6_shines 78 = .ok (.iinc 1 1, 3) := by decide +kernel
theorem dX6_shines_81 : decode cX6_shines 81 = .ok (.goto (-68), 3) := by decide +kernel
theorem dX6_shines_84 : decode cX6_shines 84 = .ok (.iconst 0, 1) := by decide +kernel
theorem dX6_shines_85 : decode cX6_shines 85 = .ok (.istore_n 1, 1) := by decide +kernel
theorem dX6_shines_86 : decode cX6_shines 86 = .ok (.iload_n 1, 1) := by decide +kernel
theorem dX6_shines_87 : decode cX6_shines 87 = .ok (.aload_n 0, 1) := by decide +kernel
theorem dX6_shines_88 : decode cX6_shines 88 = .ok (.invokevirtual 53, 3) := by decide +kernel
theorem dX6_shines_91 : decode cX6_shines 91 = .ok (.if_icmp .ge 46, 3) := by decide +kernel
theorem dX6_shines_94 : decode cX6_shines 94 = .ok (.aload_n 0, 1) := by decide +kernel
theorem dX6_shines_95 : decode cX6_shines 95 = .ok (.getfield 22, 3) := by decide +kernel
theorem dX6_shines_98 : decode cX6_shines 98 = .ok (.iload_n 1, 1) := by decide +kernel
theorem dX6_shines_99 : decode cX6_shines 99 = .ok (.dup2, 1) := by decide +kernel
theorem dX6_shines_100 : decode cX6_shines 100 = .ok (.iaload, 1) := by decide +kernel
theorem dX6_shines_101 : decode cX6_shines 101 = .ok (.aload_n 0, 1) := by decide +kernel
theorem dX6_shines_102 : decode cX6_shines 102 = .ok (.getfield 13, 3) := by decide +kernel
theorem dX6_shines_105 : decode cX6_shines 105 = .ok (.iconst 3, 1) := by decide +kernel
theorem dX6_shines_106 : decode cX6_shines 106 = .ok (.iload_n 1, 1) := by decide +kernel
theorem dX6_shines_107 : decode cX6_shines 107 = .ok (.iadd, 1) := by decide +kernel
theorem dX6_shines_108 : decode cX6_shines 108 = .ok (.iaload, 1) := by decide +kernel
theorem dX6_shines_109 : decode cX6_shines 109 = .ok (.iconst 4, 1) := by decide +kernel
theorem dX6_shines_110 : decode cX6_shines 110 = .ok (.if_icmp .ne 18, 3) := by decide +kernel
theorem dX6_shines_113 : decode cX6_shines 113 = .ok (.aload_n 0, 1) := by decide +kernel
theorem dX6_shines_114 : decode cX6_shines 114 = .ok (.getfield 22, 3) := by decide +kernel
theorem dX6_shines_117 : decode cX6_shines 117 = .ok (.iload_n 1, 1) := by decide +kernel
theorem dX6_shines_118 : decode cX6_shines 118 = .ok (.iaload, 1) := by decide +kernel
theorem dX6_shines_119 : decode cX6_shines 119 = .ok (.bipush 60, 2) := by decide +kernel
theorem dX6_shines_121 : decode cX6_shines 121 = .ok (.if_icmp .ge 7, 3) := by decide +kernel
theorem dX6_shines_124 : decode cX6_shines 124 = .ok (.iconst 1, 1) := by decide +kernel
theorem dX6_shines_125 : decode cX6_shines 125 = .ok (.goto 4, 3) := by decide +kernel
theorem dX6_shines_128 : decode cX6_shines 128 = .ok (.iconst 0, 1) := by decide +kernel
theorem dX6_shines_129 : decode cX6_shines 129 = .ok (.iadd, 1) := by decide +kernel
theorem dX6_shines_130 : decode cX6_shines 130 = .ok (.iastore, 1) := by decide +kernel
theorem dX6_shines_131 : decode cX6_shines 131 = .ok (.iinc 1 1, 3) := by decide +kernel
theorem dX6_shines_134 : decode cX6_shines 134 = .ok (.goto (-48), 3) := by decide +kernel
theorem dX6_shines_137 : decode cX6_shines 137 = .ok (.aload_n 0, 1) := by decide +kernel
theorem dX6_shines_138 : decode cX6_shines 138 = .ok (.invokevirtual 86, 3) := by decide +kernel
theorem dX6_shines_141 : decode cX6_shines 141 = .ok (.return_, 1) := by decide +kernel
theorem dX6_laysStates_0 : decode cX6_laysStates 0 = .ok (.iconst 0, 1) := by decide +kernel
theorem dX6_laysStates_1 : decode cX6_laysStates 1 = .ok (.istore_n 1, 1) := by decide +kernel
theorem dX6_laysStates_2 : decode cX6_laysStates 2 = .ok (.iload_n 1, 1) := by decide +kernel
theorem dX6_laysStates_3 : decode cX6_laysStates 3 = .ok (.aload_n 0, 1) := by decide +kernel
theorem dX6_laysStates_4 : decode cX6_laysStates 4 = .ok (.invokevirtual 53, 3) := by decide +kernel
theorem dX6_laysStates_7 : decode cX6_laysStates 7 = .ok (.if_icmp .ge 29, 3) := by decide +kernel
theorem dX6_laysStates_10 : decode cX6_laysStates 10 = .ok (.aload_n 0, 1) := by decide +kernel
theorem dX6_laysStates_11 : decode cX6_laysStates 11 = .ok (.getfield 34, 3) := by decide +kernel
theorem dX6_laysStates_14 : decode cX6_laysStates 14 = .ok (.iload_n 1, 1) := by decide +kernel
theorem dX6_laysStates_15 : decode cX6_laysStates 15 = .ok (.aload_n 0, 1) := by decide +kernel
theorem dX6_laysStates_16 : decode cX6_laysStates 16 = .ok (.getfield 22, 3) := by decide +kernel
theorem dX6_laysStates_19 : decode cX6_laysStates 19 = .ok (.iload_n 1, 1) := by decide +kernel
theorem dX6_laysStates_20 : decode cX6_laysStates 20 = .ok (.iaload, 1) := by decide +kernel
theorem dX6_laysStates_21 : decode cX6_laysStates 21 = .ok (.ifCond .le 7, 3) := by decide +kernel
theorem dX6_laysStates_24 : decode cX6_laysStates 24 = .ok (.iload_n 1, 1) := by decide +kernel
theorem dX6_laysStates_25 : decode cX6_laysStates 25 = .ok (.goto 4, 3) := by decide +kernel
theorem dX6_laysStates_28 : decode cX6_laysStates 28 = .ok (.iconst (-1), 1) := by decide +kernel
theorem dX6_laysStates_29 : decode cX6_laysStates 29 = .ok (.iastore, 1) := by decide +kernel
theorem dX6_laysStates_30 : decode cX6_laysStates 30 = .ok (.iinc 1 1, 3) := by decide +kernel
theorem dX6_laysStates_33 : decode cX6_laysStates 33 = .ok (.goto (-31), 3) := by decide +kernel
theorem dX6_laysStates_36 : decode cX6_laysStates 36 = .ok (.iconst 1, 1) := by decide +kernel
theorem dX6_laysStates_37 : decode cX6_laysStates 37 = .ok (.istore_n 1, 1) := by decide +kernel
theorem dX6_laysStates_38 : decode cX6_laysStates 38 = .ok (.iload_n 1, 1) := by decide +kernel
theorem dX6_laysStates_39 : decode cX6_laysStates 39 = .ok (.ifCond .eq 100, 3) := by decide +kernel
theorem dX6_laysStates_42 : decode cX6_laysStates 42 = .ok (.iconst 0, 1) := by decide +kernel
theorem dX6_laysStates_43 : decode cX6_laysStates 43 = .ok (.istore_n 1, 1) := by decide +kernel
theorem dX6_laysStates_44 : decode cX6_laysStates 44 = .ok (.iconst 0, 1) := by decide +kernel
theorem dX6_laysStates_45 : decode cX6_laysStates 45 = .ok (.istore_n 2, 1) := by decide +kernel
theorem dX6_laysStates_46 : decode cX6_laysStates 46 = .ok (.iload_n 2, 1) := by decide +kernel
theorem dX6_laysStates_47 : decode cX6_laysStates 47 = .ok (.aload_n 0, 1) := by decide +kernel
theorem dX6_laysStates_48 : decode cX6_laysStates 48 = .ok (.invokevirtual 53, 3) := by decide +kernel
theorem dX6_laysStates_51 : decode cX6_laysStates 51 = .ok (.if_icmp .ge 85, 3) := by decide +kernel
theorem dX6_laysStates_54 : decode cX6_laysStates 54 = .ok (.iconst 0, 1) := by decide +kernel
theorem dX6_laysStates_55 : decode cX6_laysStates 55 = .ok (.istore_n 3, 1) := by decide +kernel
theorem dX6_laysStates_56 : decode cX6_laysStates 56 = .ok (.iload_n 3, 1) := by decide +kernel
theorem dX6_laysStates_57 : decode cX6_laysStates 57 = .ok (.iconst 4, 1) := by decide +kernel
theorem dX6_laysStates_58 : decode cX6_laysStates 58 = .ok (.if_icmp .ge 72, 3) := by decide +kernel
theorem dX6_laysStates_61 : decode cX6_laysStates 61 = .ok (.aload_n 0, 1) := by decide +kernel
theorem dX6_laysStates_62 : decode cX6_laysStates 62 = .ok (.getfield 34, 3) := by decide +kernel
theorem dX6_laysStates_65 : decode cX6_laysStates 65 = .ok (.iload_n 2, 1) := by decide +kernel
theorem dX6_laysStates_66 : decode cX6_laysStates 66 = .ok (.iaload, 1) := by decide +kernel
theorem dX6_laysStates_67 : decode cX6_laysStates 67 = .ok (.ifCond .lt 63, 3) := by decide +kernel
theorem dX6_laysStates_70 : decode cX6_laysStates 70 = .ok (.aload_n 0, 1) := by decide +kernel
theorem dX6_laysStates_71 : decode cX6_laysStates 71 = .ok (.iload_n 2, 1) := by decide +kernel
theorem dX6_laysStates_72 : decode cX6_laysStates 72 = .ok (.iload_n 3, 1) := by decide +kernel
theorem dX6_laysStates_73 : decode cX6_laysStates 73 = .ok (.invokevirtual 101, 3) := by decide +kernel
theorem dX6_laysStates_76 : decode cX6_laysStates 76 = .ok (.istore 4, 2) := by decide +kernel
theorem dX6_laysStates_78 : decode cX6_laysStates 78 = .ok (.iload 4, 2) := by decide +kernel
theorem dX6_laysStates_80 : decode cX6_laysStates 80 = .ok (.ifCond .lt 44, 3) := by decide +kernel
theorem dX6_laysStates_83 : decode cX6_laysStates 83 = .ok (.aload_n 0, 1) := by decide +kernel
theorem dX6_laysStates_84 : decode cX6_laysStates 84 = .ok (.getfield 34, 3) := by decide +kernel
theorem dX6_laysStates_87 : decode cX6_laysStates 87 = .ok (.iload 4, 2) := by decide +kernel
theorem dX6_laysStates_89 : decode cX6_laysStates 89 = .ok (.iaload, 1) := by decide +kernel
theorem dX6_laysStates_90 : decode cX6_laysStates 90 = .ok (.ifCond .lt 34, 3) := by decide +kernel
theorem dX6_laysStates_93 : decode cX6_laysStates 93 = .ok (.aload_n 0, 1) := by decide +kernel
theorem dX6_laysStates_94 : decode cX6_laysStates 94 = .ok (.getfield 34, 3) := by decide +kernel
theorem dX6_laysStates_97 : decode cX6_laysStates 97 = .ok (.iload 4, 2) := by decide +kernel
theorem dX6_laysStates_99 : decode cX6_laysStates 99 = .ok (.iaload, 1) := by decide +kernel
theorem dX6_laysStates_100 : decode cX6_laysStates 100 = .ok (.aload_n 0, 1) := by decide +kernel
theorem dX6_laysStates_101 : decode cX6_laysStates 101 = .ok (.getfield 34, 3) := by decide +kernel
theorem dX6_laysStates_104 : decode cX6_laysStates 104 = .ok (.iload_n 2, 1) := by decide +kernel
theorem dX6_laysStates_105 : decode cX6_laysStates 105 = .ok (.iaload, 1) := by decide +kernel
theorem dX6_laysStates_106 : decode cX6_laysStates 106 = .ok (.if_icmp .ge 18, 3) := by decide +kernel
theorem dX6_laysStates_109 : decode cX6_laysStates 109 = .ok (.aload_n 0, 1) := by decide +kernel
theorem dX6_laysStates_110 : decode cX6_laysStates 110 = .ok (.getfield 34, 3) := by decide +kernel
theorem dX6_laysStates_113 : decode cX6_laysStates 113 = .ok (.iload_n 2, 1) := by decide +kernel
theorem dX6_laysStates_114 : decode cX6_laysStates 114 = .ok (.aload_n 0, 1) := by decide +kernel
theorem dX6_laysStates_115 : decode cX6_laysStates 115 = .ok (.getfield 34, 3) := by decide +kernel
theorem dX6_laysStates_118 : decode cX6_laysStates 118 = .ok (.iload 4, 2) := by decide +kernel
theorem dX6_laysStates_120 : decode cX6_laysStates 120 = .ok (.iaload, 1) := by decide +kernel
theorem dX6_laysStates_121 : decode cX6_laysStates 121 = .ok (.iastore, 1) := by decide +kernel
theorem dX6_laysStates_122 : decode cX6_laysStates 122 = .ok (.iconst 1, 1) := by decide +kernel
theorem dX6_laysStates_123 : decode cX6_laysStates 123 = .ok (.istore_n 1, 1) := by decide +kernel
theorem dX6_laysStates_124 : decode cX6_laysStates 124 = .ok (.iinc 3 1, 3) := by decide +kernel
theorem dX6_laysStates_127 : decode cX6_laysStates 127 = .ok (.goto (-71), 3) := by decide +kernel
theorem dX6_laysStates_130 : decode cX6_laysStates 130 = .ok (.iinc 2 1, 3) := by decide +kernel
theorem dX6_laysStates_133 : decode cX6_laysStates 133 = .ok (.goto (-87), 3) := by decide +kernel
theorem dX6_laysStates_136 : decode cX6_laysStates 136 = .ok (.goto (-98), 3) := by decide +kernel
theorem dX6_laysStates_139 : decode cX6_laysStates 139 = .ok (.return_, 1) := by decide +kernel
theorem dX6_sizeOf_0 : decode cX6_sizeOf 0 = .ok (.iconst 0, 1) := by decide +kernel
theorem dX6_sizeOf_1 : decode cX6_sizeOf 1 = .ok (.istore_n 2, 1) := by decide +kernel
theorem dX6_sizeOf_2 : decode cX6_sizeOf 2 = .ok (.iconst 0, 1) := by decide +kernel
theorem dX6_sizeOf_3 : decode cX6_sizeOf 3 = .ok (.istore_n 3, 1) := by decide +kernel
theorem dX6_sizeOf_4 : decode cX6_sizeOf 4 = .ok (.iload_n 3, 1) := by decide +kernel
theorem dX6_sizeOf_5 : decode cX6_sizeOf 5 = .ok (.aload_n 0, 1) := by decide +kernel
theorem dX6_sizeOf_6 : decode cX6_sizeOf 6 = .ok (.invokevirtual 53, 3) := by decide +kernel
theorem dX6_sizeOf_9 : decode cX6_sizeOf 9 = .ok (.if_icmp .ge 31, 3) := by decide +kernel
theorem dX6_sizeOf_12 : decode cX6_sizeOf 12 = .ok (.iload_n 2, 1) := by decide +kernel
theorem dX6_sizeOf_13 : decode cX6_sizeOf 13 = .ok (.iload_n 1, 1) := by decide +kernel
theorem dX6_sizeOf_14 : decode cX6_sizeOf 14 = .ok (.ifCond .lt 17, 3) := by decide +kernel
theorem dX6_sizeOf_17 : decode cX6_sizeOf 17 = .ok (.aload_n 0, 1) := by decide +kernel
theorem dX6_sizeOf_18 : decode cX6_sizeOf 18 = .ok (.getfield 34, 3) := by decide +kernel
theorem dX6_sizeOf_21 : decode cX6_sizeOf 21 = .ok (.iload_n 3, 1) := by decide +kernel
theorem dX6_sizeOf_22 : decode cX6_sizeOf 22 = .ok (.iaload, 1) := by decide +kernel
theorem dX6_sizeOf_23 : decode cX6_sizeOf 23 = .ok (.iload_n 1, 1) := by decide +kernel
theorem dX6_sizeOf_24 : decode cX6_sizeOf 24 = .ok (.if_icmp .ne 7, 3) := by decide +kernel
theorem dX6_sizeOf_27 : decode cX6_sizeOf 27 = .ok (.iconst 1, 1) := by decide +kernel
theorem dX6_sizeOf_28 : decode cX6_sizeOf 28 = .ok (.goto 4, 3) := by decide +kernel
theorem dX6_sizeOf_31 : decode cX6_sizeOf 31 = .ok (.iconst 0, 1) := by decide +kernel
theorem dX6_sizeOf_32 : decode cX6_sizeOf 32 = .ok (.iadd, 1) := by decide +kernel
theorem dX6_sizeOf_33 : decode cX6_sizeOf 33 = .ok (.istore_n 2, 1) := by decide +kernel
theorem dX6_sizeOf_34 : decode cX6_sizeOf 34 = .ok (.iinc 3 1, 3) := by decide +kernel
theorem dX6_sizeOf_37 : decode cX6_sizeOf 37 = .ok (.goto (-33), 3) := by decide +kernel
theorem dX6_sizeOf_40 : decode cX6_sizeOf 40 = .ok (.iload_n 2, 1) := by decide +kernel
theorem dX6_sizeOf_41 : decode cX6_sizeOf 41 = .ok (.ireturn, 1) := by decide +kernel
theorem dX6_cell_0 : decode cX6_cell 0 = .ok (.aload_n 0, 1) := by decide +kernel
theorem dX6_cell_1 : decode cX6_cell 1 = .ok (.iload_n 1, 1) := by decide +kernel
theorem dX6_cell_2 : decode cX6_cell 2 = .ok (.invokevirtual 98, 3) := by decide +kernel
theorem dX6_cell_5 : decode cX6_cell 5 = .ok (.ifCond .ne 5, 3) := by decide +kernel
theorem dX6_cell_8 : decode cX6_cell 8 = .ok (.iconst (-1), 1) := by decide +kernel
theorem dX6_cell_9 : decode cX6_cell 9 = .ok (.ireturn, 1) := by decide +kernel
theorem dX6_cell_10 : decode cX6_cell 10 = .ok (.aload_n 0, 1) := by decide +kernel
theorem dX6_cell_11 : decode cX6_cell 11 = .ok (.invokevirtual 118, 3) := by decide +kernel
theorem dX6_cell_14 : decode cX6_cell 14 = .ok (.iconst 0, 1) := by decide +kernel
theorem dX6_cell_15 : decode cX6_cell 15 = .ok (.istore_n 3, 1) := by decide +kernel
theorem dX6_cell_16 : decode cX6_cell 16 = .ok (.iconst 0, 1) := by decide +kernel
theorem dX6_cell_17 : decode cX6_cell 17 = .ok (.istore 4, 2) := by decide +kernel
theorem dX6_cell_19 : decode cX6_cell 19 = .ok (.iload 4, 2) := by decide +kernel
theorem dX6_cell_21 : decode cX6_cell 21 = .ok (.aload_n 0, 1) := by decide +kernel
theorem dX6_cell_22 : decode cX6_cell 22 = .ok (.invokevirtual 53, 3) := by decide +kernel
theorem dX6_cell_25 : decode cX6_cell 25 = .ok (.if_icmp .ge 57, 3) := by decide +kernel
theorem dX6_cell_28 : decode cX6_cell 28 = .ok (.aload_n 0, 1) := by decide +kernel
theorem dX6_cell_29 : decode cX6_cell 29 = .ok (.getfield 34, 3) := by decide +kernel
theorem dX6_cell_32 : decode cX6_cell 32 = .ok (.iload_n 1, 1) := by decide +kernel
theorem dX6_cell_33 : decode cX6_cell 33 = .ok (.iaload, 1) := by decide +kernel
theorem dX6_cell_34 : decode cX6_cell 34 = .ok (.ifCond .lt 40, 3) := by decide +kernel
theorem dX6_cell_37 : decode cX6_cell 37 = .ok (.aload_n 0, 1) := by decide +kernel
theorem dX6_cell_38 : decode cX6_cell 38 = .ok (.getfield 34, 3) := by decide +kernel
theorem dX6_cell_41 : decode cX6_cell 41 = .ok (.iload 4, 2) := by decide +kernel
theorem dX6_cell_43 : decode cX6_cell 43 = .ok (.iaload, 1) := by decide +kernel
theorem dX6_cell_44 : decode cX6_cell 44 = .ok (.aload_n 0, 1) := by decide +kernel
theorem dX6_cell_45 : decode cX6_cell 45 = .ok (.getfield 34, 3) := by decide +kernel
theorem dX6_cell_48 : decode cX6_cell 48 = .ok (.iload_n 1, 1) := by decide +kernel
theorem dX6_cell_49 : decode cX6_cell 49 = .ok (.iaload, 1) := by decide +kernel
theorem dX6_cell_50 : decode cX6_cell 50 = .ok (.if_icmp .ne 24, 3) := by decide +kernel
theorem dX6_cell_53 : decode cX6_cell 53 = .ok (.aload_n 0, 1) := by decide +kernel
theorem dX6_cell_54 : decode cX6_cell 54 = .ok (.getfield 22, 3) := by decide +kernel
theorem dX6_cell_57 : decode cX6_cell 57 = .ok (.iload 4, 2) := by decide +kernel
theorem dX6_cell_59 : decode cX6_cell 59 = .ok (.iaload, 1) := by decide +kernel
theorem dX6_cell_60 : decode cX6_cell 60 = .ok (.iload_n 3, 1) := by decide +kernel
theorem dX6_cell_61 : decode cX6_cell 61 = .ok (.if_icmp .le 13, 3) := by decide +kernel
theorem dX6_cell_64 : decode cX6_cell 64 = .ok (.aload_n 0, 1) := by decide +kernel
theorem dX6_cell_65 : decode cX6_cell 65 = .ok (.getfield 22, 3) := by decide +kernel
theorem dX6_cell_68 : decode cX6_cell 68 = .ok (.iload 4, 2) := by decide +kernel
theorem dX6_cell_70 : decode cX6_cell 70 = .ok (.iaload, 1) := by decide +kernel
theorem dX6_cell_71 : decode cX6_cell 71 = .ok (.goto 4, 3) := by decide +kernel
theorem dX6_cell_74 : decode cX6_cell 74 = .ok (.iload_n 3, 1) := by decide +kernel
theorem dX6_cell_75 : decode cX6_cell 75 = .ok (.istore_n 3, 1) := by decide +kernel
theorem dX6_cell_76 : decode cX6_cell 76 = .ok (.iinc 4 1, 3) := by decide +kernel
theorem dX6_cell_79 : decode cX6_cell 79 = .ok (.goto (-60), 3) := by decide +kernel
theorem dX6_cell_82 : decode cX6_cell 82 = .ok (.iload_n 2, 1) := by decide +kernel
theorem dX6_cell_83 : decode cX6_cell 83 = .ok (.tableswitch 97 0 5 #[37, 47, 56, 63, 84, 95], 37) := by decide +kernel
theorem dX6_cell_120 : decode cX6_cell 120 = .ok (.aload_n 0, 1) := by decide +kernel
theorem dX6_cell_121 : decode cX6_cell 121 = .ok (.getfield 22, 3) := by decide +kernel
theorem dX6_cell_124 : decode cX6_cell 124 = .ok (.bipush 36, 2) := by decide +kernel
theorem dX6_cell_126 : decode cX6_cell 126 = .ok (.iload_n 1, 1) := by decide +kernel
theorem dX6_cell_127 : decode cX6_cell 127 = .ok (.iadd, 1) := by decide +kernel
theorem dX6_cell_128 : decode cX6_cell 128 = .ok (.iaload, 1) := by decide +kernel
theorem dX6_cell_129 : decode cX6_cell 129 = .ok (.ireturn, 1) := by decide +kernel
theorem dX6_cell_130 : decode cX6_cell 130 = .ok (.aload_n 0, 1) := by decide +kernel
theorem dX6_cell_131 : decode cX6_cell 131 = .ok (.getfield 13, 3) := by decide +kernel
theorem dX6_cell_134 : decode cX6_cell 134 = .ok (.iconst 3, 1) := by decide +kernel
theorem dX6_cell_135 : decode cX6_cell 135 = .ok (.iload_n 1, 1) := by decide +kernel
theorem dX6_cell_136 : decode cX6_cell 136 = .ok (.iadd, 1) := by decide +kernel
theorem dX6_cell_137 : decode cX6_cell 137 = .ok (.iaload, 1) := by decide +kernel
theorem dX6_cell_138 : decode cX6_cell 138 = .ok (.ireturn, 1) := by decide +kernel
theorem dX6_cell_139 : decode cX6_cell 139 = .ok (.aload_n 0, 1) := by decide +kernel
theorem dX6_cell_140 : decode cX6_cell 140 = .ok (.getfield 22, 3) := by decide +kernel
theorem dX6_cell_143 : decode cX6_cell 143 = .ok (.iload_n 1, 1) := by decide +kernel
theorem dX6_cell_144 : decode cX6_cell 144 = .ok (.iaload, 1) := by decide +kernel
theorem dX6_cell_145 : decode cX6_cell 145 = .ok (.ireturn, 1) := by decide +kernel
theorem dX6_cell_146 : decode cX6_cell 146 = .ok (.aload_n 0, 1) := by decide +kernel
theorem dX6_cell_147 : decode cX6_cell 147 = .ok (.getfield 34, 3) := by decide +kernel
theorem dX6_cell_150 : decode cX6_cell 150 = .ok (.iload_n 1, 1) := by decide +kernel
theorem dX6_cell_151 : decode cX6_cell 151 = .ok (.iaload, 1) := by decide +kernel
theorem dX6_cell_152 : decode cX6_cell 152 = .ok (.ifCond .ge 8, 3) := by decide +kernel
theorem dX6_cell_155 : decode cX6_cell 155 = .ok (.bipush (-4), 2) := by decide +kernel
theorem dX6_cell_157 : decode cX6_cell 157 = .ok (.goto 9, 3) := by decide +kernel
theorem dX6_cell_160 : decode cX6_cell 160 = .ok (.aload_n 0, 1) := by decide +kernel
theorem dX6_cell_161 : decode cX6_cell 161 = .ok (.getfield 34, 3) := by decide +kernel
theorem dX6_cell_164 : decode cX6_cell 164 = .ok (.iload_n 1, 1) := by decide +kernel
theorem dX6_cell_165 : decode cX6_cell 165 = .ok (.iaload, 1) := by decide +kernel
theorem dX6_cell_166 : decode cX6_cell 166 = .ok (.ireturn, 1) := by decide +kernel
theorem dX6_cell_167 : decode cX6_cell 167 = .ok (.aload_n 0, 1) := by decide +kernel
theorem dX6_cell_168 : decode cX6_cell 168 = .ok (.aload_n 0, 1) := by decide +kernel
theorem dX6_cell_169 : decode cX6_cell 169 = .ok (.getfield 34, 3) := by decide +kernel
theorem dX6_cell_172 : decode cX6_cell 172 = .ok (.iload_n 1, 1) := by decide +kernel
theorem dX6_cell_173 : decode cX6_cell 173 = .ok (.iaload, 1) := by decide +kernel
theorem dX6_cell_174 : decode cX6_cell 174 = .ok (.invokevirtual 121, 3) := by decide +kernel
theorem dX6_cell_177 : decode cX6_cell 177 = .ok (.ireturn, 1) := by decide +kernel
theorem dX6_cell_178 : decode cX6_cell 178 = .ok (.iload_n 3, 1) := by decide +kernel
theorem dX6_cell_179 : decode cX6_cell 179 = .ok (.ireturn, 1) := by decide +kernel
theorem dX6_cell_180 : decode cX6_cell 180 = .ok (.iconst (-1), 1) := by decide +kernel
theorem dX6_cell_181 : decode cX6_cell 181 = .ok (.ireturn, 1) := by decide +kernel
theorem dX6_keeps_0 : decode cX6_keeps 0 = .ok (.aload_n 0, 1) := by decide +kernel
theorem dX6_keeps_1 : decode cX6_keeps 1 = .ok (.getfield 89, 3) := by decide +kernel
theorem dX6_keeps_4 : decode cX6_keeps 4 = .ok (.bipush 8, 2) := by decide +kernel
theorem dX6_keeps_6 : decode cX6_keeps 6 = .ok (.if_icmp .ne 43, 3) := by decide +kernel
theorem dX6_keeps_9 : decode cX6_keeps 9 = .ok (.iconst 0, 1) := by decide +kernel
theorem dX6_keeps_10 : decode cX6_keeps 10 = .ok (.istore_n 1, 1) := by decide +kernel
theorem dX6_keeps_11 : decode cX6_keeps 11 = .ok (.iload_n 1, 1) := by decide +kernel
theorem dX6_keeps_12 : decode cX6_keeps 12 = .ok (.sipush 511, 3) := by decide +kernel
theorem dX6_keeps_15 : decode cX6_keeps 15 = .ok (.if_icmp .ge 24, 3) := by decide +kernel
theorem dX6_keeps_18 : decode cX6_keeps 18 = .ok (.aload_n 0, 1) := by decide +kernel
theorem dX6_keeps_19 : decode cX6_keeps 19 = .ok (.getfield 25, 3) := by decide +kernel
theorem dX6_keeps_22 : decode cX6_keeps 22 = .ok (.iload_n 1, 1) := by decide +kernel
theorem dX6_keeps_23 : decode cX6_keeps 23 = .ok (.aload_n 0, 1) := by decide +kernel
theorem dX6_keeps_24 : decode cX6_keeps 24 = .ok (.getfield 25, 3) := by decide +kernel
theorem dX6_keeps_27 : decode cX6_keeps 27 = .ok (.iload_n 1, 1) := by decide +kernel
theorem dX6_keeps_28 : decode cX6_keeps 28 = .ok (.bipush 73, 2) := by decide +kernel
theorem dX6_keeps_30 : decode cX6_keeps 30 = .ok (.iadd, 1) := by decide +kernel
theorem dX6_keeps_31 : decode cX6_keeps 31 = .ok (.iaload, 1) := by decide +kernel
theorem dX6_keeps_32 : decode cX6_keeps 32 = .ok (.iastore, 1) := by decide +kernel
theorem dX6_keeps_33 : decode cX6_keeps 33 = .ok (.iinc 1 1, 3) := by decide +kernel
theorem dX6_keeps_36 : decode cX6_keeps 36 = .ok (.goto (-25), 3) := by decide +kernel
theorem dX6_keeps_39 : decode cX6_keeps 39 = .ok (.aload_n 0, 1) := by decide +kernel
theorem dX6_keeps_40 : decode cX6_keeps 40 = .ok (.dup, 1) := by decide +kernel
theorem dX6_keeps_41 : decode cX6_keeps 41 = .ok (.getfield 89, 3) := by decide +kernel
theorem dX6_keeps_44 : decode cX6_keeps 44 = .ok (.iconst 1, 1) := by decide +kernel
theorem dX6_keeps_45 : decode cX6_keeps 45 = .ok (.isub, 1) := by decide +kernel
theorem dX6_keeps_46 : decode cX6_keeps 46 = .ok (.putfield 89, 3) := by decide +kernel
theorem dX6_keeps_49 : decode cX6_keeps 49 = .ok (.iconst 0, 1) := by decide +kernel
theorem dX6_keeps_50 : decode cX6_keeps 50 = .ok (.istore_n 1, 1) := by decide +kernel
theorem dX6_keeps_51 : decode cX6_keeps 51 = .ok (.iload_n 1, 1) := by decide +kernel
theorem dX6_keeps_52 : decode cX6_keeps 52 = .ok (.bipush 73, 2) := by decide +kernel
theorem dX6_keeps_54 : decode cX6_keeps 54 = .ok (.if_icmp .ge 29, 3) := by decide +kernel
theorem dX6_keeps_57 : decode cX6_keeps 57 = .ok (.aload_n 0, 1) := by decide +kernel
theorem dX6_keeps_58 : decode cX6_keeps 58 = .ok (.getfield 25, 3) := by decide +kernel
theorem dX6_keeps_61 : decode cX6_keeps 61 = .ok (.bipush 73, 2) := by decide +kernel
theorem dX6_keeps_63 : decode cX6_keeps 63 = .ok (.aload_n 0, 1) := by decide +kernel
theorem dX6_keeps_64 : decode cX6_keeps 64 = .ok (.getfield 89, 3) := by decide +kernel
theorem dX6_keeps_67 : decode cX6_keeps 67 = .ok (.imul, 1) := by decide +kernel
theorem dX6_keeps_68 : decode cX6_keeps 68 = .ok (.iload_n 1, 1) := by decide +kernel
theorem dX6_keeps_69 : decode cX6_keeps 69 = .ok (.iadd, 1) := by decide +kernel
theorem dX6_keeps_70 : decode cX6_keeps 70 = .ok (.aload_n 0, 1) := by decide +kernel
theorem dX6_keeps_71 : decode cX6_keeps 71 = .ok (.getfield 22, 3) := by decide +kernel
theorem dX6_keeps_74 : decode cX6_keeps 74 = .ok (.iload_n 1, 1) := by decide +kernel
theorem dX6_keeps_75 : decode cX6_keeps 75 = .ok (.iaload, 1) := by decide +kernel
theorem dX6_keeps_76 : decode cX6_keeps 76 = .ok (.iastore, 1) := by decide +kernel
theorem dX6_keeps_77 : decode cX6_keeps 77 = .ok (.iinc 1 1, 3) := by decide +kernel
theorem dX6_keeps_80 : decode cX6_keeps 80 = .ok (.goto (-29), 3) := by decide +kernel
theorem dX6_keeps_83 : decode cX6_keeps 83 = .ok (.aload_n 0, 1) := by decide +kernel
theorem dX6_keeps_84 : decode cX6_keeps 84 = .ok (.dup, 1) := by decide +kernel
theorem dX6_keeps_85 : decode cX6_keeps 85 = .ok (.getfield 89, 3) := by decide +kernel
theorem dX6_keeps_88 : decode cX6_keeps 88 = .ok (.iconst 1, 1) := by decide +kernel
theorem dX6_keeps_89 : decode cX6_keeps 89 = .ok (.iadd, 1) := by decide +kernel
theorem dX6_keeps_90 : decode cX6_keeps 90 = .ok (.putfield 89, 3) := by decide +kernel
theorem dX6_keeps_93 : decode cX6_keeps 93 = .ok (.return_, 1) := by decide +kernel
theorem dX6_all_0 : decode cX6_all 0 = .ok (.iconst 0, 1) := by decide +kernel
theorem dX6_all_1 : decode cX6_all 1 = .ok (.istore_n 1, 1) := by decide +kernel
theorem dX6_all_2 : decode cX6_all 2 = .ok (.iconst 0, 1) := by decide +kernel
theorem dX6_all_3 : decode cX6_all 3 = .ok (.istore_n 2, 1) := by decide +kernel
theorem dX6_all_4 : decode cX6_all 4 = .ok (.iload_n 2, 1) := by decide +kernel
theorem dX6_all_5 : decode cX6_all 5 = .ok (.aload_n 0, 1) := by decide +kernel
theorem dX6_all_6 : decode cX6_all 6 = .ok (.invokevirtual 53, 3) := by decide +kernel
theorem dX6_all_9 : decode cX6_all 9 = .ok (.if_icmp .ge 18, 3) := by decide +kernel
theorem dX6_all_12 : decode cX6_all 12 = .ok (.iload_n 1, 1) := by decide +kernel
theorem dX6_all_13 : decode cX6_all 13 = .ok (.aload_n 0, 1) := by decide +kernel
theorem dX6_all_14 : decode cX6_all 14 = .ok (.getfield 22, 3) := by decide +kernel
theorem dX6_all_17 : decode cX6_all 17 = .ok (.iload_n 2, 1) := by decide +kernel
theorem dX6_all_18 : decode cX6_all 18 = .ok (.iaload, 1) := by decide +kernel
theorem dX6_all_19 : decode cX6_all 19 = .ok (.iadd, 1) := by decide +kernel
theorem dX6_all_20 : decode cX6_all 20 = .ok (.istore_n 1, 1) := by decide +kernel
theorem dX6_all_21 : decode cX6_all 21 = .ok (.iinc 2 1, 3) := by decide +kernel
theorem dX6_all_24 : decode cX6_all 24 = .ok (.goto (-20), 3) := by decide +kernel
theorem dX6_all_27 : decode cX6_all 27 = .ok (.iload_n 1, 1) := by decide +kernel
theorem dX6_all_28 : decode cX6_all 28 = .ok (.ireturn, 1) := by decide +kernel
theorem dX6_rain_0 : decode cX6_rain 0 = .ok (.iload_n 1, 1) := by decide +kernel
theorem dX6_rain_1 : decode cX6_rain 1 = .ok (.iconst 1, 1) := by decide +kernel
theorem dX6_rain_2 : decode cX6_rain 2 = .ok (.bipush 9, 2) := by decide +kernel
theorem dX6_rain_4 : decode cX6_rain 4 = .ok (.invokestatic 57, 3) := by decide +kernel
theorem dX6_rain_7 : decode cX6_rain 7 = .ok (.ifCond .ne 5, 3) := by decide +kernel
theorem dX6_rain_10 : decode cX6_rain 10 = .ok (.iconst (-1), 1) := by decide +kernel
theorem dX6_rain_11 : decode cX6_rain 11 = .ok (.ireturn, 1) := by decide +kernel
theorem dX6_rain_12 : decode cX6_rain 12 = .ok (.aload_n 0, 1) := by decide +kernel
theorem dX6_rain_13 : decode cX6_rain 13 = .ok (.invokevirtual 124, 3) := by decide +kernel
theorem dX6_rain_16 : decode cX6_rain 16 = .ok (.aload_n 0, 1) := by decide +kernel
theorem dX6_rain_17 : decode cX6_rain 17 = .ok (.iload_n 1, 1) := by decide +kernel
theorem dX6_rain_18 : decode cX6_rain 18 = .ok (.invokevirtual 127, 3) := by decide +kernel
theorem dX6_rain_21 : decode cX6_rain 21 = .ok (.aload_n 0, 1) := by decide +kernel
theorem dX6_rain_22 : decode cX6_rain 22 = .ok (.invokevirtual 131, 3) := by decide +kernel
theorem dX6_rain_25 : decode cX6_rain 25 = .ok (.ireturn, 1) := by decide +kernel
theorem dX6_shine_0 : decode cX6_shine 0 = .ok (.iload_n 1, 1) := by decide +kernel
theorem dX6_shine_1 : decode cX6_shine 1 = .ok (.iconst 1, 1) := by decide +kernel
theorem dX6_shine_2 : decode cX6_shine 2 = .ok (.bipush 20, 2) := by decide +kernel
theorem dX6_shine_4 : decode cX6_shine 4 = .ok (.invokestatic 57, 3) := by decide +kernel
theorem dX6_shine_7 : decode cX6_shine 7 = .ok (.ifCond .ne 5, 3) := by decide +kernel
theorem dX6_shine_10 : decode cX6_shine 10 = .ok (.iconst (-1), 1) := by decide +kernel
theorem dX6_shine_11 : decode cX6_shine 11 = .ok (.ireturn, 1) := by decide +kernel
theorem dX6_shine_12 : decode cX6_shine 12 = .ok (.aload_n 0, 1) := by decide +kernel
theorem dX6_shine_13 : decode cX6_shine 13 = .ok (.invokevirtual 124, 3) := by decide +kernel
theorem dX6_shine_16 : decode cX6_shine 16 = .ok (.iconst 0, 1) := by decide +kernel
theorem dX6_shine_17 : decode cX6_shine 17 = .ok (.istore_n 2, 1) := by decide +kernel
theorem dX6_shine_18 : decode cX6_shine 18 = .ok (.iload_n 2, 1) := by decide +kernel
theorem dX6_shine_19 : decode cX6_shine 19 = .ok (.iload_n 1, 1) := by decide +kernel
theorem dX6_shine_20 : decode cX6_shine 20 = .ok (.if_icmp .ge 13, 3) := by decide +kernel
theorem dX6_shine_23 : decode cX6_shine 23 = .ok (.aload_n 0, 1) := by decide +kernel
theorem dX6_shine_24 : decode cX6_shine 24 = .ok (.invokevirtual 134, 3) := by decide +kernel
theorem dX6_shine_27 : decode cX6_shine 27 = .ok (.iinc 2 1, 3) := by decide +kernel
theorem dX6_shine_30 : decode cX6_shine 30 = .ok (.goto (-12), 3) := by decide +kernel
theorem dX6_shine_33 : decode cX6_shine 33 = .ok (.aload_n 0, 1) := by decide +kernel
theorem dX6_shine_34 : decode cX6_shine 34 = .ok (.getfield 22, 3) := by decide +kernel
theorem dX6_shine_37 : decode cX6_shine 37 = .ok (.bipush 72, 2) := by decide +kernel
theorem dX6_shine_39 : decode cX6_shine 39 = .ok (.iaload, 1) := by decide +kernel
theorem dX6_shine_40 : decode cX6_shine 40 = .ok (.ireturn, 1) := by decide +kernel
theorem dX6_boot_0 : decode cX6_boot 0 = .ok (.aload_n 0, 1) := by decide +kernel
theorem dX6_boot_1 : decode cX6_boot 1 = .ok (.iload_n 1, 1) := by decide +kernel
theorem dX6_boot_2 : decode cX6_boot 2 = .ok (.invokevirtual 98, 3) := by decide +kernel
theorem dX6_boot_5 : decode cX6_boot 5 = .ok (.ifCond .ne 5, 3) := by decide +kernel
theorem dX6_boot_8 : decode cX6_boot 8 = .ok (.iconst (-1), 1) := by decide +kernel
theorem dX6_boot_9 : decode cX6_boot 9 = .ok (.ireturn, 1) := by decide +kernel
theorem dX6_boot_10 : decode cX6_boot 10 = .ok (.aload_n 0, 1) := by decide +kernel
theorem dX6_boot_11 : decode cX6_boot 11 = .ok (.getfield 22, 3) := by decide +kernel
theorem dX6_boot_14 : decode cX6_boot 14 = .ok (.iload_n 1, 1) := by decide +kernel
theorem dX6_boot_15 : decode cX6_boot 15 = .ok (.iaload, 1) := by decide +kernel
theorem dX6_boot_16 : decode cX6_boot 16 = .ok (.ifCond .ne 6, 3) := by decide +kernel
theorem dX6_boot_19 : decode cX6_boot 19 = .ok (.bipush (-2), 2) := by decide +kernel
theorem dX6_boot_21 : decode cX6_boot 21 = .ok (.ireturn, 1) := by decide +kernel
theorem dX6_boot_22 : decode cX6_boot 22 = .ok (.aload_n 0, 1) := by decide +kernel
theorem dX6_boot_23 : decode cX6_boot 23 = .ok (.invokevirtual 124, 3) := by decide +kernel
theorem dX6_boot_26 : decode cX6_boot 26 = .ok (.iconst 0, 1) := by decide +kernel
theorem dX6_boot_27 : decode cX6_boot 27 = .ok (.istore_n 2, 1) := by decide +kernel
theorem dX6_boot_28 : decode cX6_boot 28 = .ok (.iload_n 2, 1) := by decide +kernel
theorem dX6_boot_29 : decode cX6_boot 29 = .ok (.iconst 4, 1) := by decide +kernel
theorem dX6_boot_30 : decode cX6_boot 30 = .ok (.if_icmp .ge 35, 3) := by decide +kernel
theorem dX6_boot_33 : decode cX6_boot 33 = .ok (.aload_n 0, 1) := by decide +kernel
theorem dX6_boot_34 : decode cX6_boot 34 = .ok (.iload_n 1, 1) := by decide +kernel
theorem dX6_boot_35 : decode cX6_boot 35 = .ok (.iload_n 2, 1) := by decide +kernel
theorem dX6_boot_36 : decode cX6_boot 36 = .ok (.invokevirtual 101, 3) := by decide +kernel
theorem dX6_boot_39 : decode cX6_boot 39 = .ok (.istore_n 3, 1) := by decide +kernel
theorem dX6_boot_40 : decode cX6_boot 40 = .ok (.iload_n 3, 1) := by decide +kernel
theorem dX6_boot_41 : decode cX6_boot 41 = .ok (.ifCond .lt 18, 3) := by decide +kernel
theorem dX6_boot_44 : decode cX6_boot 44 = .ok (.aload_n 0, 1) := by decide +kernel
theorem dX6_boot_45 : decode cX6_boot 45 = .ok (.getfield 22, 3) := by decide +kernel
theorem dX6_boot_48 : decode cX6_boot 48 = .ok (.iload_n 1, 1) := by decide +kernel
theorem dX6_boot_49 : decode cX6_boot 49 = .ok (.iaload, 1) := by decide +kernel
theorem dX6_boot_50 : decode cX6_boot 50 = .ok (.ifCond .le 9, 3) := by decide +kernel
theorem dX6_boot_53 : decode cX6_boot 53 = .ok (.aload_n 0, 1) := by decide +kernel
theorem dX6_boot_54 : decode cX6_boot 54 = .ok (.iload_n 1, 1) := by decide +kernel
theorem dX6_boot_55 : decode cX6_boot 55 = .ok (.iload_n 3, 1) := by decide +kernel
theorem dX6_boot_56 : decode cX6_boot 56 = .ok (.invokevirtual 108, 3) := by decide +kernel
theorem dX6_boot_59 : decode cX6_boot 59 = .ok (.iinc 2 1, 3) := by decide +kernel
theorem dX6_boot_62 : decode cX6_boot 62 = .ok (.goto (-34), 3) := by decide +kernel
theorem dX6_boot_65 : decode cX6_boot 65 = .ok (.aload_n 0, 1) := by decide +kernel
theorem dX6_boot_66 : decode cX6_boot 66 = .ok (.invokevirtual 86, 3) := by decide +kernel
theorem dX6_boot_69 : decode cX6_boot 69 = .ok (.aload_n 0, 1) := by decide +kernel
theorem dX6_boot_70 : decode cX6_boot 70 = .ok (.getfield 22, 3) := by decide +kernel
theorem dX6_boot_73 : decode cX6_boot 73 = .ok (.iload_n 1, 1) := by decide +kernel
theorem dX6_boot_74 : decode cX6_boot 74 = .ok (.iaload, 1) := by decide +kernel
theorem dX6_boot_75 : decode cX6_boot 75 = .ok (.ireturn, 1) := by decide +kernel
theorem dX6_stone_0 : decode cX6_stone 0 = .ok (.aload_n 0, 1) := by decide +kernel
theorem dX6_stone_1 : decode cX6_stone 1 = .ok (.iload_n 1, 1) := by decide +kernel
theorem dX6_stone_2 : decode cX6_stone 2 = .ok (.invokevirtual 98, 3) := by decide +kernel
theorem dX6_stone_5 : decode cX6_stone 5 = .ok (.ifCond .ne 5, 3) := by decide +kernel
theorem dX6_stone_8 : decode cX6_stone 8 = .ok (.iconst (-1), 1) := by decide +kernel
theorem dX6_stone_9 : decode cX6_stone 9 = .ok (.ireturn, 1) := by decide +kernel
theorem dX6_stone_10 : decode cX6_stone 10 = .ok (.aload_n 0, 1) := by decide +kernel
theorem dX6_stone_11 : decode cX6_stone 11 = .ok (.iload_n 1, 1) := by decide +kernel
theorem dX6_stone_12 : decode cX6_stone 12 = .ok (.invokevirtual 115, 3) := by decide +kernel
theorem dX6_stone_15 : decode cX6_stone 15 = .ok (.ifCond .eq 25, 3) := by decide +kernel
theorem dX6_stone_18 : decode cX6_stone 18 = .ok (.aload_n 0, 1) := by decide +kernel
theorem dX6_stone_19 : decode cX6_stone 19 = .ok (.getfield 22, 3) := by decide +kernel
theorem dX6_stone_22 : decode cX6_stone 22 = .ok (.bipush 36, 2) := by decide +kernel
theorem dX6_stone_24 : decode cX6_stone 24 = .ok (.iload_n 1, 1) := by decide +kernel
theorem dX6_stone_25 : decode cX6_stone 25 = .ok (.iadd, 1) := by decide +kernel
theorem dX6_stone_26 : decode cX6_stone 26 = .ok (.iaload, 1) := by decide +kernel
theorem dX6_stone_27 : decode cX6_stone 27 = .ok (.iload_n 2, 1) := by decide +kernel
theorem dX6_stone_28 : decode cX6_stone 28 = .ok (.ifCond .eq 7, 3) := by decide +kernel
theorem dX6_stone_31 : decode cX6_stone 31 = .ok (.iconst 0, 1) := by decide +kernel
theorem dX6_stone_32 : decode cX6_stone 32 = .ok (.goto 5, 3) := by decide +kernel
theorem dX6_stone_35 : decode cX6_stone 35 = .ok (.bipush 20, 2) := by decide +kernel
theorem dX6_stone_37 : decode cX6_stone 37 = .ok (.if_icmp .ne 6, 3) := by decide +kernel
theorem dX6_stone_40 : decode cX6_stone 40 = .ok (.bipush (-2), 2) := by decide +kernel
theorem dX6_stone_42 : decode cX6_stone 42 = .ok (.ireturn, 1) := by decide +kernel
theorem dX6_stone_43 : decode cX6_stone 43 = .ok (.aload_n 0, 1) := by decide +kernel
theorem dX6_stone_44 : decode cX6_stone 44 = .ok (.invokevirtual 124, 3) := by decide +kernel
theorem dX6_stone_47 : decode cX6_stone 47 = .ok (.aload_n 0, 1) := by decide +kernel
theorem dX6_stone_48 : decode cX6_stone 48 = .ok (.getfield 22, 3) := by decide +kernel
theorem dX6_stone_51 : decode cX6_stone 51 = .ok (.bipush 36, 2) := by decide +kernel
theorem dX6_stone_53 : decode cX6_stone 53 = .ok (.iload_n 1, 1) := by decide +kernel
theorem dX6_stone_54 : decode cX6_stone 54 = .ok (.iadd, 1) := by decide +kernel
theorem dX6_stone_55 : decode cX6_stone 55 = .ok (.dup2, 1) := by decide +kernel
theorem dX6_stone_56 : decode cX6_stone 56 = .ok (.iaload, 1) := by decide +kernel
theorem dX6_stone_57 : decode cX6_stone 57 = .ok (.iload_n 2, 1) := by decide +kernel
theorem dX6_stone_58 : decode cX6_stone 58 = .ok (.ifCond .eq 7, 3) := by decide +kernel
theorem dX6_stone_61 : decode cX6_stone 61 = .ok (.iconst (-1), 1) := by decide +kernel
theorem dX6_stone_62 : decode cX6_stone 62 = .ok (.goto 4, 3) := by decide +kernel
theorem dX6_stone_65 : decode cX6_stone 65 = .ok (.iconst 1, 1) := by decide +kernel
theorem dX6_stone_66 : decode cX6_stone 66 = .ok (.iadd, 1) := by decide +kernel
theorem dX6_stone_67 : decode cX6_stone 67 = .ok (.iastore, 1) := by decide +kernel
theorem dX6_stone_68 : decode cX6_stone 68 = .ok (.aload_n 0, 1) := by decide +kernel
theorem dX6_stone_69 : decode cX6_stone 69 = .ok (.invokevirtual 86, 3) := by decide +kernel
theorem dX6_stone_72 : decode cX6_stone 72 = .ok (.aload_n 0, 1) := by decide +kernel
theorem dX6_stone_73 : decode cX6_stone 73 = .ok (.getfield 22, 3) := by decide +kernel
theorem dX6_stone_76 : decode cX6_stone 76 = .ok (.bipush 36, 2) := by decide +kernel
theorem dX6_stone_78 : decode cX6_stone 78 = .ok (.iload_n 1, 1) := by decide +kernel
theorem dX6_stone_79 : decode cX6_stone 79 = .ok (.iadd, 1) := by decide +kernel
theorem dX6_stone_80 : decode cX6_stone 80 = .ok (.iaload, 1) := by decide +kernel
theorem dX6_stone_81 : decode cX6_stone 81 = .ok (.ireturn, 1) := by decide +kernel
theorem dX6_undo_0 : decode cX6_undo 0 = .ok (.aload_n 0, 1) := by decide +kernel
theorem dX6_undo_1 : decode cX6_undo 1 = .ok (.getfield 89, 3) := by decide +kernel
theorem dX6_undo_4 : decode cX6_undo 4 = .ok (.ifCond .ne 6, 3) := by decide +kernel
theorem dX6_undo_7 : decode cX6_undo 7 = .ok (.bipush (-2), 2) := by decide +kernel
theorem dX6_undo_9 : decode cX6_undo 9 = .ok (.ireturn, 1) := by decide +kernel
theorem dX6_undo_10 : decode cX6_undo 10 = .ok (.aload_n 0, 1) := by decide +kernel
theorem dX6_undo_11 : decode cX6_undo 11 = .ok (.dup, 1) := by decide +kernel
theorem dX6_undo_12 : decode cX6_undo 12 = .ok (.getfield 89, 3) := by decide +kernel
theorem dX6_undo_15 : decode cX6_undo 15 = .ok (.iconst 1, 1) := by decide +kernel
theorem dX6_undo_16 : decode cX6_undo 16 = .ok (.isub, 1) := by decide +kernel
theorem dX6_undo_17 : decode cX6_undo 17 = .ok (.putfield 89, 3) := by decide +kernel
theorem dX6_undo_20 : decode cX6_undo 20 = .ok (.iconst 0, 1) := by decide +kernel
theorem dX6_undo_21 : decode cX6_undo 21 = .ok (.istore_n 1, 1) := by decide +kernel
theorem dX6_undo_22 : decode cX6_undo 22 = .ok (.iload_n 1, 1) := by decide +kernel
theorem dX6_undo_23 : decode cX6_undo 23 = .ok (.bipush 73, 2) := by decide +kernel
theorem dX6_undo_25 : decode cX6_undo 25 = .ok (.if_icmp .ge 29, 3) := by decide +kernel
theorem dX6_undo_28 : decode cX6_undo 28 = .ok (.aload_n 0, 1) := by decide +kernel
theorem dX6_undo_29 : decode cX6_undo 29 = .ok (.getfield 22, 3) := by decide +kernel
theorem dX6_undo_32 : decode cX6_undo 32 = .ok (.iload_n 1, 1) := by decide +kernel
theorem dX6_undo_33 : decode cX6_undo 33 = .ok (.aload_n 0, 1) := by decide +kernel
theorem dX6_undo_34 : decode cX6_undo 34 = .ok (.getfield 25, 3) := by decide +kernel
theorem dX6_undo_37 : decode cX6_undo 37 = .ok (.bipush 73, 2) := by decide +kernel
theorem dX6_undo_39 : decode cX6_undo 39 = .ok (.aload_n 0, 1) := by decide +kernel
theorem dX6_undo_40 : decode cX6_undo 40 = .ok (.getfield 89, 3) := by decide +kernel
theorem dX6_undo_43 : decode cX6_undo 43 = .ok (.imul, 1) := by decide +kernel
theorem dX6_undo_44 : decode cX6_undo 44 = .ok (.iload_n 1, 1) := by decide +kernel
theorem dX6_undo_45 : decode cX6_undo 45 = .ok (.iadd, 1) := by decide +kernel
theorem dX6_undo_46 : decode cX6_undo 46 = .ok (.iaload, 1) := by decide +kernel
theorem dX6_undo_47 : decode cX6_undo 47 = .ok (.iastore, 1) := by decide +kernel
theorem dX6_undo_48 : decode cX6_undo 48 = .ok (.iinc 1 1, 3) := by decide +kernel
theorem dX6_undo_51 : decode cX6_undo 51 = .ok (.goto (-29), 3) := by decide +kernel
theorem dX6_undo_54 : decode cX6_undo 54 = .ok (.aload_n 0, 1) := by decide +kernel
theorem dX6_undo_55 : decode cX6_undo 55 = .ok (.getfield 89, 3) := by decide +kernel
theorem dX6_undo_58 : decode cX6_undo 58 = .ok (.ireturn, 1) := by decide +kernel
theorem dX6_holds_0 : decode cX6_holds 0 = .ok (.iconst 0, 1) := by decide +kernel
theorem dX6_holds_1 : decode cX6_holds 1 = .ok (.istore_n 1, 1) := by decide +kernel
theorem dX6_holds_2 : decode cX6_holds 2 = .ok (.iload_n 1, 1) := by decide +kernel
theorem dX6_holds_3 : decode cX6_holds 3 = .ok (.bipush 73, 2) := by decide +kernel
theorem dX6_holds_5 : decode cX6_holds 5 = .ok (.if_icmp .ge 21, 3) := by decide +kernel
theorem dX6_holds_8 : decode cX6_holds 8 = .ok (.aload_n 0, 1) := by decide +kernel
theorem dX6_holds_9 : decode cX6_holds 9 = .ok (.getfield 37, 3) := by decide +kernel
theorem dX6_holds_12 : decode cX6_holds 12 = .ok (.iload_n 1, 1) := by decide +kernel
theorem dX6_holds_13 : decode cX6_holds 13 = .ok (.aload_n 0, 1) := by decide +kernel
theorem dX6_holds_14 : decode cX6_holds 14 = .ok (.getfield 22, 3) := by decide +kernel
theorem dX6_holds_17 : decode cX6_holds 17 = .ok (.iload_n 1, 1) := by decide +kernel
theorem dX6_holds_18 : decode cX6_holds 18 = .ok (.iaload, 1) := by decide +kernel
theorem dX6_holds_19 : decode cX6_holds 19 = .ok (.iastore, 1) := by decide +kernel
theorem dX6_holds_20 : decode cX6_holds 20 = .ok (.iinc 1 1, 3) := by decide +kernel
theorem dX6_holds_23 : decode cX6_holds 23 = .ok (.goto (-21), 3) := by decide +kernel
theorem dX6_holds_26 : decode cX6_holds 26 = .ok (.return_, 1) := by decide +kernel
theorem dX6_lets_0 : decode cX6_lets 0 = .ok (.iconst 0, 1) := by decide +kernel
theorem dX6_lets_1 : decode cX6_lets 1 = .ok (.istore_n 1, 1) := by decide +kernel
theorem dX6_lets_2 : decode cX6_lets 2 = .ok (.iload_n 1, 1) := by decide +kernel
theorem dX6_lets_3 : decode cX6_lets 3 = .ok (.bipush 73, 2) := by decide +kernel
theorem dX6_lets_5 : decode cX6_lets 5 = .ok (.if_icmp .ge 21, 3) := by decide +kernel
theorem dX6_lets_8 : decode cX6_lets 8 = .ok (.aload_n 0, 1) := by decide +kernel
theorem dX6_lets_9 : decode cX6_lets 9 = .ok (.getfield 22, 3) := by decide +kernel
theorem dX6_lets_12 : decode cX6_lets 12 = .ok (.iload_n 1, 1) := by decide +kernel
theorem dX6_lets_13 : decode cX6_lets 13 = .ok (.aload_n 0, 1) := by decide +kernel
theorem dX6_lets_14 : decode cX6_lets 14 = .ok (.getfield 37, 3) := by decide +kernel
theorem dX6_lets_17 : decode cX6_lets 17 = .ok (.iload_n 1, 1) := by decide +kernel
theorem dX6_lets_18 : decode cX6_lets 18 = .ok (.iaload, 1) := by decide +kernel
theorem dX6_lets_19 : decode cX6_lets 19 = .ok (.iastore, 1) := by decide +kernel
theorem dX6_lets_20 : decode cX6_lets 20 = .ok (.iinc 1 1, 3) := by decide +kernel
theorem dX6_lets_23 : decode cX6_lets 23 = .ok (.goto (-21), 3) := by decide +kernel
theorem dX6_lets_26 : decode cX6_lets 26 = .ok (.return_, 1) := by decide +kernel
theorem dX6_behind_0 : decode cX6_behind 0 = .ok (.iload_n 1, 1) := by decide +kernel
theorem dX6_behind_1 : decode cX6_behind 1 = .ok (.iconst 0, 1) := by decide +kernel
theorem dX6_behind_2 : decode cX6_behind 2 = .ok (.bipush 40, 2) := by decide +kernel
theorem dX6_behind_4 : decode cX6_behind 4 = .ok (.invokestatic 57, 3) := by decide +kernel
theorem dX6_behind_7 : decode cX6_behind 7 = .ok (.ifCond .eq 20, 3) := by decide +kernel
theorem dX6_behind_10 : decode cX6_behind 10 = .ok (.aload_n 0, 1) := by decide +kernel
theorem dX6_behind_11 : decode cX6_behind 11 = .ok (.iload_n 2, 1) := by decide +kernel
theorem dX6_behind_12 : decode cX6_behind 12 = .ok (.invokevirtual 98, 3) := by decide +kernel
theorem dX6_behind_15 : decode cX6_behind 15 = .ok (.ifCond .eq 12, 3) := by decide +kernel
theorem dX6_behind_18 : decode cX6_behind 18 = .ok (.iload_n 3, 1) := by decide +kernel
theorem dX6_behind_19 : decode cX6_behind 19 = .ok (.iconst 0, 1) := by decide +kernel
theorem dX6_behind_20 : decode cX6_behind 20 = .ok (.iconst 1, 1) := by decide +kernel
theorem dX6_behind_21 : decode cX6_behind 21 = .ok (.invokestatic 57, 3) := by decide +kernel
theorem dX6_behind_24 : decode cX6_behind 24 = .ok (.ifCond .ne 5, 3) := by decide +kernel
theorem dX6_behind_27 : decode cX6_behind 27 = .ok (.iconst (-1), 1) := by decide +kernel
theorem dX6_behind_28 : decode cX6_behind 28 = .ok (.ireturn, 1) := by decide +kernel
theorem dX6_behind_29 : decode cX6_behind 29 = .ok (.aload_n 0, 1) := by decide +kernel
theorem dX6_behind_30 : decode cX6_behind 30 = .ok (.invokevirtual 137, 3) := by decide +kernel
theorem dX6_behind_33 : decode cX6_behind 33 = .ok (.iconst 0, 1) := by decide +kernel
theorem dX6_behind_34 : decode cX6_behind 34 = .ok (.istore 4, 2) := by decide +kernel
theorem dX6_behind_36 : decode cX6_behind 36 = .ok (.iload 4, 2) := by decide +kernel
theorem dX6_behind_38 : decode cX6_behind 38 = .ok (.iload_n 1, 1) := by decide +kernel
theorem dX6_behind_39 : decode cX6_behind 39 = .ok (.if_icmp .ge 13, 3) := by decide +kernel
theorem dX6_behind_42 : decode cX6_behind 42 = .ok (.aload_n 0, 1) := by decide +kernel
theorem dX6_behind_43 : decode cX6_behind 43 = .ok (.invokevirtual 134, 3) := by decide +kernel
theorem dX6_behind_46 : decode cX6_behind 46 = .ok (.iinc 4 1, 3) := by decide +kernel
theorem dX6_behind_49 : decode cX6_behind 49 = .ok (.goto (-13), 3) := by decide +kernel
theorem dX6_behind_52 : decode cX6_behind 52 = .ok (.aload_n 0, 1) := by decide +kernel
theorem dX6_behind_53 : decode cX6_behind 53 = .ok (.invokevirtual 118, 3) := by decide +kernel
theorem dX6_behind_56 : decode cX6_behind 56 = .ok (.iload_n 3, 1) := by decide +kernel
theorem dX6_behind_57 : decode cX6_behind 57 = .ok (.ifCond .ne 12, 3) := by decide +kernel
theorem dX6_behind_60 : decode cX6_behind 60 = .ok (.aload_n 0, 1) := by decide +kernel
theorem dX6_behind_61 : decode cX6_behind 61 = .ok (.getfield 22, 3) := by decide +kernel
theorem dX6_behind_64 : decode cX6_behind 64 = .ok (.iload_n 2, 1) := by decide +kernel
theorem dX6_behind_65 : decode cX6_behind 65 = .ok (.iaload, 1) := by decide +kernel
theorem dX6_behind_66 : decode cX6_behind 66 = .ok (.goto 23, 3) := by decide +kernel
theorem dX6_behind_69 : decode cX6_behind 69 = .ok (.aload_n 0, 1) := by decide +kernel
theorem dX6_behind_70 : decode cX6_behind 70 = .ok (.getfield 34, 3) := by decide +kernel
theorem dX6_behind_73 : decode cX6_behind 73 = .ok (.iload_n 2, 1) := by decide +kernel
theorem dX6_behind_74 : decode cX6_behind 74 = .ok (.iaload, 1) := by decide +kernel
theorem dX6_behind_75 : decode cX6_behind 75 = .ok (.ifCond .ge 8, 3) := by decide +kernel
theorem dX6_behind_78 : decode cX6_behind 78 = .ok (.bipush (-4), 2) := by decide +kernel
theorem dX6_behind_80 : decode cX6_behind 80 = .ok (.goto 9, 3) := by decide +kernel
theorem dX6_behind_83 : decode cX6_behind 83 = .ok (.aload_n 0, 1) := by decide +kernel
theorem dX6_behind_84 : decode cX6_behind 84 = .ok (.getfield 34, 3) := by decide +kernel
theorem dX6_behind_87 : decode cX6_behind 87 = .ok (.iload_n 2, 1) := by decide +kernel
theorem dX6_behind_88 : decode cX6_behind 88 = .ok (.iaload, 1) := by decide +kernel
theorem dX6_behind_89 : decode cX6_behind 89 = .ok (.istore 4, 2) := by decide +kernel
theorem dX6_behind_91 : decode cX6_behind 91 = .ok (.aload_n 0, 1) := by decide +kernel
theorem dX6_behind_92 : decode cX6_behind 92 = .ok (.invokevirtual 140, 3) := by decide +kernel
theorem dX6_behind_95 : decode cX6_behind 95 = .ok (.iload 4, 2) := by decide +kernel
theorem dX6_behind_97 : decode cX6_behind 97 = .ok (.ireturn, 1) := by decide +kernel
theorem dX6_lowest_0 : decode cX6_lowest 0 = .ok (.bipush (-4), 2) := by decide +kernel
theorem dX6_lowest_2 : decode cX6_lowest 2 = .ok (.istore_n 1, 1) := by decide +kernel
theorem dX6_lowest_3 : decode cX6_lowest 3 = .ok (.aload_n 0, 1) := by decide +kernel
theorem dX6_lowest_4 : decode cX6_lowest 4 = .ok (.invokevirtual 53, 3) := by decide +kernel
theorem dX6_lowest_7 : decode cX6_lowest 7 = .ok (.iconst 1, 1) := by decide +kernel
theorem dX6_lowest_8 : decode cX6_lowest 8 = .ok (.isub, 1) := by decide +kernel
theorem dX6_lowest_9 : decode cX6_lowest 9 = .ok (.istore_n 2, 1) := by decide +kernel
theorem dX6_lowest_10 : decode cX6_lowest 10 = .ok (.iload_n 2, 1) := by decide +kernel
theorem dX6_lowest_11 : decode cX6_lowest 11 = .ok (.ifCond .lt 24, 3) := by decide +kernel
theorem dX6_lowest_14 : decode cX6_lowest 14 = .ok (.aload_n 0, 1) := by decide +kernel
theorem dX6_lowest_15 : decode cX6_lowest 15 = .ok (.getfield 22, 3) := by decide +kernel
theorem dX6_lowest_18 : decode cX6_lowest 18 = .ok (.iload_n 2, 1) := by decide +kernel
theorem dX6_lowest_19 : decode cX6_lowest 19 = .ok (.iaload, 1) := by decide +kernel
theorem dX6_lowest_20 : decode cX6_lowest 20 = .ok (.ifCond .le 7, 3) := by decide +kernel
theorem dX6_lowest_23 : decode cX6_lowest 23 = .ok (.iload_n 2, 1) := by decide +kernel
theorem dX6_lowest_24 : decode cX6_lowest 24 = .ok (.goto 4, 3) := by decide +kernel
theorem dX6_lowest_27 : decode cX6_lowest 27 = .ok (.iload_n 1, 1) := by decide +kernel
theorem dX6_lowest_28 : decode cX6_lowest 28 = .ok (.istore_n 1, 1) := by decide +kernel
theorem dX6_lowest_29 : decode cX6_lowest 29 = .ok (.iinc 2 (-1), 3) := by decide +kernel
theorem dX6_lowest_32 : decode cX6_lowest 32 = .ok (.goto (-22), 3) := by decide +kernel
theorem dX6_lowest_35 : decode cX6_lowest 35 = .ok (.iload_n 1, 1) := by decide +kernel
theorem dX6_lowest_36 : decode cX6_lowest 36 = .ok (.ireturn, 1) := by decide +kernel
theorem dX6_dry_0 : decode cX6_dry 0 = .ok (.iload_n 1, 1) := by decide +kernel
theorem dX6_dry_1 : decode cX6_dry 1 = .ok (.iconst 0, 1) := by decide +kernel
theorem dX6_dry_2 : decode cX6_dry 2 = .ok (.iconst 1, 1) := by decide +kernel
theorem dX6_dry_3 : decode cX6_dry 3 = .ok (.invokestatic 57, 3) := by decide +kernel
theorem dX6_dry_6 : decode cX6_dry 6 = .ok (.ifCond .ne 5, 3) := by decide +kernel
theorem dX6_dry_9 : decode cX6_dry 9 = .ok (.iconst (-1), 1) := by decide +kernel
theorem dX6_dry_10 : decode cX6_dry 10 = .ok (.ireturn, 1) := by decide +kernel
theorem dX6_dry_11 : decode cX6_dry 11 = .ok (.aload_n 0, 1) := by decide +kernel
theorem dX6_dry_12 : decode cX6_dry 12 = .ok (.invokevirtual 137, 3) := by decide +kernel
theorem dX6_dry_15 : decode cX6_dry 15 = .ok (.bipush (-4), 2) := by decide +kernel
theorem dX6_dry_17 : decode cX6_dry 17 = .ok (.istore_n 2, 1) := by decide +kernel
theorem dX6_dry_18 : decode cX6_dry 18 = .ok (.bipush (-4), 2) := by decide +kernel
theorem dX6_dry_20 : decode cX6_dry 20 = .ok (.istore_n 3, 1) := by decide +kernel
theorem dX6_dry_21 : decode cX6_dry 21 = .ok (.iconst 0, 1) := by decide +kernel
theorem dX6_dry_22 : decode cX6_dry 22 = .ok (.istore 4, 2) := by decide +kernel
theorem dX6_dry_24 : decode cX6_dry 24 = .ok (.iload 4, 2) := by decide +kernel
theorem dX6_dry_26 : decode cX6_dry 26 = .ok (.bipush 61, 2) := by decide +kernel
theorem dX6_dry_28 : decode cX6_dry 28 = .ok (.if_icmp .ge 54, 3) := by decide +kernel
theorem dX6_dry_31 : decode cX6_dry 31 = .ok (.iload_n 3, 1) := by decide +kernel
theorem dX6_dry_32 : decode cX6_dry 32 = .ok (.bipush (-4), 2) := by decide +kernel
theorem dX6_dry_34 : decode cX6_dry 34 = .ok (.if_icmp .ne 48, 3) := by decide +kernel
theorem dX6_dry_37 : decode cX6_dry 37 = .ok (.aload_n 0, 1) := by decide +kernel
theorem dX6_dry_38 : decode cX6_dry 38 = .ok (.invokevirtual 143, 3) := by decide +kernel
theorem dX6_dry_41 : decode cX6_dry 41 = .ok (.istore 5, 2) := by decide +kernel
theorem dX6_dry_43 : decode cX6_dry 43 = .ok (.iload 5, 2) := by decide +kernel
theorem dX6_dry_45 : decode cX6_dry 45 = .ok (.bipush (-4), 2) := by decide +kernel
theorem dX6_dry_47 : decode cX6_dry 47 = .ok (.if_icmp .ne 8, 3) := by decide +kernel
theorem dX6_dry_50 : decode cX6_dry 50 = .ok (.iload 4, 2) := by decide +kernel
theorem dX6_dry_52 : decode cX6_dry 52 = .ok (.goto 5, 3) := by decide +kernel
theorem dX6_dry_55 : decode cX6_dry 55 = .ok (.bipush (-4), 2) := by decide +kernel
theorem dX6_dry_57 : decode cX6_dry 57 = .ok (.istore_n 3, 1) := by decide +kernel
theorem dX6_dry_58 : decode cX6_dry 58 = .ok (.iload 5, 2) := by decide +kernel
theorem dX6_dry_60 : decode cX6_dry 60 = .ok (.bipush (-4), 2) := by decide +kernel
theorem dX6_dry_62 : decode cX6_dry 62 = .ok (.if_icmp .ne 7, 3) := by decide +kernel
theorem dX6_dry_65 : decode cX6_dry 65 = .ok (.iload_n 2, 1) := by decide +kernel
theorem dX6_dry_66 : decode cX6_dry 66 = .ok (.goto 5, 3) := by decide +kernel
theorem dX6_dry_69 : decode cX6_dry 69 = .ok (.iload 5, 2) := by decide +kernel
theorem dX6_dry_71 : decode cX6_dry 71 = .ok (.istore_n 2, 1) := by decide +kernel
theorem dX6_dry_72 : decode cX6_dry 72 = .ok (.aload_n 0, 1) := by decide +kernel
theorem dX6_dry_73 : decode cX6_dry 73 = .ok (.invokevirtual 134, 3) := by decide +kernel
theorem dX6_dry_76 : decode cX6_dry 76 = .ok (.iinc 4 1, 3) := by decide +kernel
theorem dX6_dry_79 : decode cX6_dry 79 = .ok (.goto (-55), 3) := by decide +kernel
theorem dX6_dry_82 : decode cX6_dry 82 = .ok (.aload_n 0, 1) := by decide +kernel
theorem dX6_dry_83 : decode cX6_dry 83 = .ok (.invokevirtual 140, 3) := by decide +kernel
theorem dX6_dry_86 : decode cX6_dry 86 = .ok (.iload_n 1, 1) := by decide +kernel
theorem dX6_dry_87 : decode cX6_dry 87 = .ok (.ifCond .eq 9, 3) := by decide +kernel
theorem dX6_dry_90 : decode cX6_dry 90 = .ok (.iload_n 3, 1) := by decide +kernel
theorem dX6_dry_91 : decode cX6_dry 91 = .ok (.bipush (-4), 2) := by decide +kernel
theorem dX6_dry_93 : decode cX6_dry 93 = .ok (.if_icmp .ne 7, 3) := by decide +kernel
theorem dX6_dry_96 : decode cX6_dry 96 = .ok (.iload_n 3, 1) := by decide +kernel
theorem dX6_dry_97 : decode cX6_dry 97 = .ok (.goto 4, 3) := by decide +kernel
theorem dX6_dry_100 : decode cX6_dry 100 = .ok (.iload_n 2, 1) := by decide +kernel
theorem dX6_dry_101 : decode cX6_dry 101 = .ok (.ireturn, 1) := by decide +kernel
theorem dX6_isOne_0 : decode cX6_isOne 0 = .ok (.aload_n 0, 1) := by decide +kernel
theorem dX6_isOne_1 : decode cX6_isOne 1 = .ok (.invokevirtual 118, 3) := by decide +kernel
theorem dX6_isOne_4 : decode cX6_isOne 4 = .ok (.aload_n 0, 1) := by decide +kernel
theorem dX6_isOne_5 : decode cX6_isOne 5 = .ok (.getfield 34, 3) := by decide +kernel
theorem dX6_isOne_8 : decode cX6_isOne 8 = .ok (.iload_n 1, 1) := by decide +kernel
theorem dX6_isOne_9 : decode cX6_isOne 9 = .ok (.iaload, 1) := by decide +kernel
theorem dX6_isOne_10 : decode cX6_isOne 10 = .ok (.ifCond .lt 22, 3) := by decide +kernel
theorem dX6_isOne_13 : decode cX6_isOne 13 = .ok (.aload_n 0, 1) := by decide +kernel
theorem dX6_isOne_14 : decode cX6_isOne 14 = .ok (.getfield 34, 3) := by decide +kernel
theorem dX6_isOne_17 : decode cX6_isOne 17 = .ok (.iload_n 1, 1) := by decide +kernel
theorem dX6_isOne_18 : decode cX6_isOne 18 = .ok (.iaload, 1) := by decide +kernel
theorem dX6_isOne_19 : decode cX6_isOne 19 = .ok (.aload_n 0, 1) := by decide +kernel
theorem dX6_isOne_20 : decode cX6_isOne 20 = .ok (.getfield 34, 3) := by decide +kernel
theorem dX6_isOne_23 : decode cX6_isOne 23 = .ok (.iload_n 2, 1) := by decide +kernel
theorem dX6_isOne_24 : decode cX6_isOne 24 = .ok (.iaload, 1) := by decide +kernel
theorem dX6_isOne_25 : decode cX6_isOne 25 = .ok (.if_icmp .ne 7, 3) := by decide +kernel
theorem dX6_isOne_28 : decode cX6_isOne 28 = .ok (.iconst 1, 1) := by decide +kernel
theorem dX6_isOne_29 : decode cX6_isOne 29 = .ok (.goto 4, 3) := by decide +kernel
theorem dX6_isOne_32 : decode cX6_isOne 32 = .ok (.iconst 0, 1) := by decide +kernel
theorem dX6_isOne_33 : decode cX6_isOne 33 = .ok (.ireturn, 1) := by decide +kernel
theorem dX6_join_0 : decode cX6_join 0 = .ok (.aload_n 0, 1) := by decide +kernel
theorem dX6_join_1 : decode cX6_join 1 = .ok (.iload_n 1, 1) := by decide +kernel
theorem dX6_join_2 : decode cX6_join 2 = .ok (.invokevirtual 98, 3) := by decide +kernel
theorem dX6_join_5 : decode cX6_join 5 = .ok (.ifCond .eq 16, 3) := by decide +kernel
theorem dX6_join_8 : decode cX6_join 8 = .ok (.aload_n 0, 1) := by decide +kernel
theorem dX6_join_9 : decode cX6_join 9 = .ok (.iload_n 2, 1) := by decide +kernel
theorem dX6_join_10 : decode cX6_join 10 = .ok (.invokevirtual 98, 3) := by decide +kernel
theorem dX6_join_13 : decode cX6_join 13 = .ok (.ifCond .eq 8, 3) := by decide +kernel
theorem dX6_join_16 : decode cX6_join 16 = .ok (.iload_n 1, 1) := by decide +kernel
theorem dX6_join_17 : decode cX6_join 17 = .ok (.iload_n 2, 1) := by decide +kernel
theorem dX6_join_18 : decode cX6_join 18 = .ok (.if_icmp .ne 5, 3) := by decide +kernel
theorem dX6_join_21 : decode cX6_join 21 = .ok (.iconst (-1), 1) := by decide +kernel
theorem dX6_join_22 : decode cX6_join 22 = .ok (.ireturn, 1) := by decide +kernel
theorem dX6_join_23 : decode cX6_join 23 = .ok (.aload_n 0, 1) := by decide +kernel
theorem dX6_join_24 : decode cX6_join 24 = .ok (.invokevirtual 137, 3) := by decide +kernel
theorem dX6_join_27 : decode cX6_join 27 = .ok (.bipush (-4), 2) := by decide +kernel
theorem dX6_join_29 : decode cX6_join 29 = .ok (.istore_n 3, 1) := by decide +kernel
theorem dX6_join_30 : decode cX6_join 30 = .ok (.iconst 0, 1) := by decide +kernel
theorem dX6_join_31 : decode cX6_join 31 = .ok (.istore 4, 2) := by decide +kernel
theorem dX6_join_33 : decode cX6_join 33 = .ok (.iload 4, 2) := by decide +kernel
theorem dX6_join_35 : decode cX6_join 35 = .ok (.bipush 31, 2) := by decide +kernel
theorem dX6_join_37 : decode cX6_join 37 = .ok (.if_icmp .ge 47, 3) := by decide +kernel
theorem dX6_join_40 : decode cX6_join 40 = .ok (.iload_n 3, 1) := by decide +kernel
theorem dX6_join_41 : decode cX6_join 41 = .ok (.bipush (-4), 2) := by decide +kernel
theorem dX6_join_43 : decode cX6_join 43 = .ok (.if_icmp .ne 41, 3) := by decide +kernel
theorem dX6_join_46 : decode cX6_join 46 = .ok (.iload 4, 2) := by decide +kernel
theorem dX6_join_48 : decode cX6_join 48 = .ok (.ifCond .le 9, 3) := by decide +kernel
theorem dX6_join_51 : decode cX6_join 51 = .ok (.aload_n 0, 1) := by decide +kernel
theorem dX6_join_52 : decode cX6_join 52 = .ok (.iload 4, 2) := by decide +kernel
theorem dX6_join_54 : decode cX6_join 54 = .ok (.invokevirtual 127, 3) := by decide +kernel
theorem dX6_join_57 : decode cX6_join 57 = .ok (.aload_n 0, 1) := by decide +kernel
theorem dX6_join_58 : decode cX6_join 58 = .ok (.iload_n 1, 1) := by decide +kernel
theorem dX6_join_59 : decode cX6_join 59 = .ok (.iload_n 2, 1) := by decide +kernel
theorem dX6_join_60 : decode cX6_join 60 = .ok (.invokevirtual 146, 3) := by decide +kernel
theorem dX6_join_63 : decode cX6_join 63 = .ok (.ifCond .eq 8, 3) := by decide +kernel
theorem dX6_join_66 : decode cX6_join 66 = .ok (.iload 4, 2) := by decide +kernel
theorem dX6_join_68 : decode cX6_join 68 = .ok (.goto 5, 3) := by decide +kernel
theorem dX6_join_71 : decode cX6_join 71 = .ok (.bipush (-4), 2) := by decide +kernel
theorem dX6_join_73 : decode cX6_join 73 = .ok (.istore_n 3, 1) := by decide +kernel
theorem dX6_join_74 : decode cX6_join 74 = .ok (.aload_n 0, 1) := by decide +kernel
theorem dX6_join_75 : decode cX6_join 75 = .ok (.invokevirtual 140, 3) := by decide +kernel
theorem dX6_join_78 : decode cX6_join 78 = .ok (.iinc 4 1, 3) := by decide +kernel
theorem dX6_join_81 : decode cX6_join 81 = .ok (.goto (-48), 3) := by decide +kernel
theorem dX6_join_84 : decode cX6_join 84 = .ok (.iload_n 3, 1) := by decide +kernel
theorem dX6_join_85 : decode cX6_join 85 = .ok (.ireturn, 1) := by decide +kernel
theorem dX6_part_0 : decode cX6_part 0 = .ok (.aload_n 0, 1) := by decide +kernel
theorem dX6_part_1 : decode cX6_part 1 = .ok (.iload_n 1, 1) := by decide +kernel
theorem dX6_part_2 : decode cX6_part 2 = .ok (.invokevirtual 98, 3) := by decide +kernel
theorem dX6_part_5 : decode cX6_part 5 = .ok (.ifCond .eq 16, 3) := by decide +kernel
theorem dX6_part_8 : decode cX6_part 8 = .ok (.aload_n 0, 1) := by decide +kernel
theorem dX6_part_9 : decode cX6_part 9 = .ok (.iload_n 2, 1) := by decide +kernel
theorem dX6_part_10 : decode cX6_part 10 = .ok (.invokevirtual 98, 3) := by decide +kernel
theorem dX6_part_13 : decode cX6_part 13 = .ok (.ifCond .eq 8, 3) := by decide +kernel
theorem dX6_part_16 : decode cX6_part 16 = .ok (.iload_n 1, 1) := by decide +kernel
theorem dX6_part_17 : decode cX6_part 17 = .ok (.iload_n 2, 1) := by decide +kernel
theorem dX6_part_18 : decode cX6_part 18 = .ok (.if_icmp .ne 5, 3) := by decide +kernel
theorem dX6_part_21 : decode cX6_part 21 = .ok (.iconst (-1), 1) := by decide +kernel
theorem dX6_part_22 : decode cX6_part 22 = .ok (.ireturn, 1) := by decide +kernel
theorem dX6_part_23 : decode cX6_part 23 = .ok (.aload_n 0, 1) := by decide +kernel
theorem dX6_part_24 : decode cX6_part 24 = .ok (.iload_n 1, 1) := by decide +kernel
theorem dX6_part_25 : decode cX6_part 25 = .ok (.iload_n 2, 1) := by decide +kernel
theorem dX6_part_26 : decode cX6_part 26 = .ok (.invokevirtual 146, 3) := by decide +kernel
theorem dX6_part_29 : decode cX6_part 29 = .ok (.ifCond .ne 6, 3) := by decide +kernel
theorem dX6_part_32 : decode cX6_part 32 = .ok (.bipush (-2), 2) := by decide +kernel
theorem dX6_part_34 : decode cX6_part 34 = .ok (.ireturn, 1) := by decide +kernel
theorem dX6_part_35 : decode cX6_part 35 = .ok (.aload_n 0, 1) := by decide +kernel
theorem dX6_part_36 : decode cX6_part 36 = .ok (.invokevirtual 137, 3) := by decide +kernel
theorem dX6_part_39 : decode cX6_part 39 = .ok (.bipush (-4), 2) := by decide +kernel
theorem dX6_part_41 : decode cX6_part 41 = .ok (.istore_n 3, 1) := by decide +kernel
theorem dX6_part_42 : decode cX6_part 42 = .ok (.iconst 1, 1) := by decide +kernel
theorem dX6_part_43 : decode cX6_part 43 = .ok (.istore 4, 2) := by decide +kernel
theorem dX6_part_45 : decode cX6_part 45 = .ok (.iload 4, 2) := by decide +kernel
theorem dX6_part_47 : decode cX6_part 47 = .ok (.bipush 61, 2) := by decide +kernel
theorem dX6_part_49 : decode cX6_part 49 = .ok (.if_icmp .ge 36, 3) := by decide +kernel
theorem dX6_part_52 : decode cX6_part 52 = .ok (.iload_n 3, 1) := by decide +kernel
theorem dX6_part_53 : decode cX6_part 53 = .ok (.bipush (-4), 2) := by decide +kernel
theorem dX6_part_55 : decode cX6_part 55 = .ok (.if_icmp .ne 30, 3) := by decide +kernel
theorem dX6_part_58 : decode cX6_part 58 = .ok (.aload_n 0, 1) := by decide +kernel
theorem dX6_part_59 : decode cX6_part 59 = .ok (.invokevirtual 134, 3) := by decide +kernel
theorem dX6_part_62 : decode cX6_part 62 = .ok (.aload_n 0, 1) := by decide +kernel
theorem dX6_part_63 : decode cX6_part 63 = .ok (.iload_n 1, 1) := by decide +kernel
theorem dX6_part_64 : decode cX6_part 64 = .ok (.iload_n 2, 1) := by decide +kernel
theorem dX6_part_65 : decode cX6_part 65 = .ok (.invokevirtual 146, 3) := by decide +kernel
theorem dX6_part_68 : decode cX6_part 68 = .ok (.ifCond .eq 8, 3) := by decide +kernel
theorem dX6_part_71 : decode cX6_part 71 = .ok (.bipush (-4), 2) := by decide +kernel
theorem dX6_part_73 : decode cX6_part 73 = .ok (.goto 5, 3) := by decide +kernel
theorem dX6_part_76 : decode cX6_part 76 = .ok (.iload 4, 2) := by decide +kernel
theorem dX6_part_78 : decode cX6_part 78 = .ok (.istore_n 3, 1) := by decide +kernel
theorem dX6_part_79 : decode cX6_part 79 = .ok (.iinc 4 1, 3) := by decide +kernel
theorem dX6_part_82 : decode cX6_part 82 = .ok (.goto (-37), 3) := by decide +kernel
theorem dX6_part_85 : decode cX6_part 85 = .ok (.aload_n 0, 1) := by decide +kernel
theorem dX6_part_86 : decode cX6_part 86 = .ok (.invokevirtual 140, 3) := by decide +kernel
theorem dX6_part_89 : decode cX6_part 89 = .ok (.iload_n 3, 1) := by decide +kernel
theorem dX6_part_90 : decode cX6_part 90 = .ok (.ireturn, 1) := by decide +kernel
theorem dX6_way_0 : decode cX6_way 0 = .ok (.aload_n 0, 1) := by decide +kernel
theorem dX6_way_1 : decode cX6_way 1 = .ok (.iload_n 1, 1) := by decide +kernel
theorem dX6_way_2 : decode cX6_way 2 = .ok (.invokevirtual 98, 3) := by decide +kernel
theorem dX6_way_5 : decode cX6_way 5 = .ok (.ifCond .eq 11, 3) := by decide +kernel
theorem dX6_way_8 : decode cX6_way 8 = .ok (.aload_n 0, 1) := by decide +kernel
theorem dX6_way_9 : decode cX6_way 9 = .ok (.iload_n 2, 1) := by decide +kernel
theorem dX6_way_10 : decode cX6_way 10 = .ok (.invokevirtual 98, 3) := by decide +kernel
theorem dX6_way_13 : decode cX6_way 13 = .ok (.ifCond .ne 5, 3) := by decide +kernel
theorem dX6_way_16 : decode cX6_way 16 = .ok (.iconst (-1), 1) := by decide +kernel
theorem dX6_way_17 : decode cX6_way 17 = .ok (.ireturn, 1) := by decide +kernel
theorem dX6_way_18 : decode cX6_way 18 = .ok (.aload_n 0, 1) := by decide +kernel
theorem dX6_way_19 : decode cX6_way 19 = .ok (.getfield 22, 3) := by decide +kernel
theorem dX6_way_22 : decode cX6_way 22 = .ok (.iload_n 1, 1) := by decide +kernel
theorem dX6_way_23 : decode cX6_way 23 = .ok (.iaload, 1) := by decide +kernel
theorem dX6_way_24 : decode cX6_way 24 = .ok (.ifCond .ne 6, 3) := by decide +kernel
theorem dX6_way_27 : decode cX6_way 27 = .ok (.bipush (-4), 2) := by decide +kernel
theorem dX6_way_29 : decode cX6_way 29 = .ok (.ireturn, 1) := by decide +kernel
theorem dX6_way_30 : decode cX6_way 30 = .ok (.aload_n 0, 1) := by decide +kernel
theorem dX6_way_31 : decode cX6_way 31 = .ok (.invokevirtual 137, 3) := by decide +kernel
theorem dX6_way_34 : decode cX6_way 34 = .ok (.iconst 0, 1) := by decide +kernel
theorem dX6_way_35 : decode cX6_way 35 = .ok (.istore_n 3, 1) := by decide +kernel
theorem dX6_way_36 : decode cX6_way 36 = .ok (.iload_n 3, 1) := by decide +kernel
theorem dX6_way_37 : decode cX6_way 37 = .ok (.aload_n 0, 1) := by decide +kernel
theorem dX6_way_38 : decode cX6_way 38 = .ok (.invokevirtual 53, 3) := by decide +kernel
theorem dX6_way_41 : decode cX6_way 41 = .ok (.if_icmp .ge 25, 3) := by decide +kernel
theorem dX6_way_44 : decode cX6_way 44 = .ok (.aload_n 0, 1) := by decide +kernel
theorem dX6_way_45 : decode cX6_way 45 = .ok (.getfield 40, 3) := by decide +kernel
theorem dX6_way_48 : decode cX6_way 48 = .ok (.iload_n 3, 1) := by decide +kernel
theorem dX6_way_49 : decode cX6_way 49 = .ok (.iload_n 3, 1) := by decide +kernel
theorem dX6_way_50 : decode cX6_way 50 = .ok (.iload_n 1, 1) := by decide +kernel
theorem dX6_way_51 : decode cX6_way 51 = .ok (.if_icmp .ne 7, 3) := by decide +kernel
theorem dX6_way_54 : decode cX6_way 54 = .ok (.iconst 1, 1) := by decide +kernel
theorem dX6_way_55 : decode cX6_way 55 = .ok (.goto 4, 3) := by decide +kernel
theorem dX6_way_58 : decode cX6_way 58 = .ok (.iconst 0, 1) := by decide +kernel
theorem dX6_way_59 : decode cX6_way 59 = .ok (.bastore, 1) := by decide +kernel
theorem dX6_way_60 : decode cX6_way 60 = .ok (.iinc 3 1, 3) := by decide +kernel
theorem dX6_way_63 : decode cX6_way 63 = .ok (.goto (-27), 3) := by decide +kernel
theorem dX6_way_66 : decode cX6_way 66 = .ok (.iload_n 1, 1) := by decide +kernel
theorem dX6_way_67 : decode cX6_way 67 = .ok (.iload_n 2, 1) := by decide +kernel
theorem dX6_way_68 : decode cX6_way 68 = .ok (.if_icmp .ne 7, 3) := by decide +kernel
theorem dX6_way_71 : decode cX6_way 71 = .ok (.iconst 0, 1) := by decide +kernel
theorem dX6_way_72 : decode cX6_way 72 = .ok (.goto 5, 3) := by decide +kernel
theorem dX6_way_75 : decode cX6_way 75 = .ok (.bipush (-4), 2) := by decide +kernel
theorem dX6_way_77 : decode cX6_way 77 = .ok (.istore_n 3, 1) := by decide +kernel
theorem dX6_way_78 : decode cX6_way 78 = .ok (.iconst 1, 1) := by decide +kernel
theorem dX6_way_79 : decode cX6_way 79 = .ok (.istore 4, 2) := by decide +kernel
theorem dX6_way_81 : decode cX6_way 81 = .ok (.iload 4, 2) := by decide +kernel
theorem dX6_way_83 : decode cX6_way 83 = .ok (.bipush 41, 2) := by decide +kernel
theorem dX6_way_85 : decode cX6_way 85 = .ok (.if_icmp .ge 212, 3) := by decide +kernel
theorem dX6_way_88 : decode cX6_way 88 = .ok (.iload_n 3, 1) := by decide +kernel
theorem dX6_way_89 : decode cX6_way 89 = .ok (.bipush (-4), 2) := by decide +kernel
theorem dX6_way_91 : decode cX6_way 91 = .ok (.if_icmp .ne 206, 3) := by decide +kernel
theorem dX6_way_94 : decode cX6_way 94 = .ok (.iconst 0, 1) := by decide +kernel
theorem dX6_way_95 : decode cX6_way 95 = .ok (.istore 5, 2) := by decide +kernel
theorem dX6_way_97 : decode cX6_way 97 = .ok (.iload 5, 2) := by decide +kernel
theorem dX6_way_99 : decode cX6_way 99 = .ok (.aload_n 0, 1) := by decide +kernel
theorem dX6_way_100 : decode cX6_way 100 = .ok (.invokevirtual 53, 3) := by decide +kernel
theorem dX6_way_103 : decode cX6_way 103 = .ok (.if_icmp .ge 117, 3) := by decide +kernel
theorem dX6_way_106 : decode cX6_way 106 = .ok (.aload_n 0, 1) := by decide +kernel
theorem dX6_way_107 : decode cX6_way 107 = .ok (.getfield 44, 3) := by decide +kernel
theorem dX6_way_110 : decode cX6_way 110 = .ok (.iload 5, 2) := by decide +kernel
theorem dX6_way_112 : decode cX6_way 112 = .ok (.aload_n 0, 1) := by decide +kernel
theorem dX6_way_113 : decode cX6_way 113 = .ok (.getfield 40, 3) := by decide +kernel
theorem dX6_way_116 : decode cX6_way 116 = .ok (.iload 5, 2) := by decide +kernel
theorem dX6_way_118 : decode cX6_way 118 = .ok (.baload, 1) := by decide +kernel
theorem dX6_way_119 : decode cX6_way 119 = .ok (.bastore, 1) := by decide +kernel
theorem dX6_way_120 : decode cX6_way 120 = .ok (.iconst 0, 1) := by decide +kernel
theorem dX6_way_121 : decode cX6_way 121 = .ok (.istore 6, 2) := by decide +kernel
theorem dX6_way_123 : decode cX6_way 123 = .ok (.iload 6, 2) := by decide +kernel
theorem dX6_way_125 : decode cX6_way 125 = .ok (.iconst 4, 1) := by decide +kernel
theorem dX6_way_126 : decode cX6_way 126 = .ok (.if_icmp .ge 56, 3) := by decide +kernel
theorem dX6_way_129 : decode cX6_way 129 = .ok (.aload_n 0, 1) := by decide +kernel
theorem dX6_way_130 : decode cX6_way 130 = .ok (.iload 5, 2) := by decide +kernel
theorem dX6_way_132 : decode cX6_way 132 = .ok (.iload 6, 2) := by decide +kernel
theorem dX6_way_134 : decode cX6_way 134 = .ok (.invokevirtual 101, 3) := by decide +kernel
theorem dX6_way_137 : decode cX6_way 137 = .ok (.istore 7, 2) := by decide +kernel
theorem dX6_way_139 : decode cX6_way 139 = .ok (.aload_n 0, 1) := by decide +kernel
theorem dX6_way_140 : decode cX6_way 140 = .ok (.getfield 44, 3) := by decide +kernel
theorem dX6_way_143 : decode cX6_way 143 = .ok (.iload 5, 2) := by decide +kernel
theorem dX6_way_145 : decode cX6_way 145 = .ok (.aload_n 0, 1) := by decide +kernel
theorem dX6_way_146 : decode cX6_way 146 = .ok (.getfield 44, 3) := by decide +kernel
theorem dX6_way_149 : decode cX6_way 149 = .ok (.iload 5, 2) := by decide +kernel
theorem dX6_way_151 : decode cX6_way 151 = .ok (.baload, 1) := by decide +kernel
theorem dX6_way_152 : decode cX6_way 152 = .ok (.ifCond .ne 18, 3) := by decide +kernel
theorem dX6_way_155 : decode cX6_way 155 = .ok (.iload 7, 2) := by decide +kernel
theorem dX6_way_157 : decode cX6_way 157 = .ok (.ifCond .lt 17, 3) := by decide +kernel
theorem dX6_way_160 : decode cX6_way 160 = .ok (.aload_n 0, 1) := by decide +kernel
theorem dX6_way_161 : decode cX6_way 161 = .ok (.getfield 40, 3) := by decide +kernel
theorem dX6_way_164 : decode cX6_way 164 = .ok (.iload 7, 2) := by decide +kernel
theorem dX6_way_166 : decode cX6_way 166 = .ok (.baload, 1) := by decide +kernel
theorem dX6_way_167 : decode cX6_way 167 = .ok (.ifCond .eq 7, 3) := by decide +kernel
theorem dX6_way_170 : decode cX6_way 170 = .ok (.iconst 1, 1) := by decide +kernel
theorem dX6_way_171 : decode cX6_way 171 = .ok (.goto 4, 3) := by decide +kernel
theorem dX6_way_174 : decode cX6_way 174 = .ok (.iconst 0, 1) := by decide +kernel
theorem dX6_way_175 : decode cX6_way 175 = .ok (.bastore, 1) := by decide +kernel
theorem dX6_way_176 : decode cX6_way 176 = .ok (.iinc 6 1, 3) := by decide +kernel
theorem dX6_way_179 : decode cX6_way 179 = .ok (.goto (-56), 3) := by decide +kernel
theorem dX6_way_182 : decode cX6_way 182 = .ok (.aload_n 0, 1) := by decide +kernel
theorem dX6_way_183 : decode cX6_way 183 = .ok (.getfield 44, 3) := by decide +kernel
theorem dX6_way_186 : decode cX6_way 186 = .ok (.iload 5, 2) := by decide +kernel
theorem dX6_way_188 : decode cX6_way 188 = .ok (.aload_n 0, 1) := by decide +kernel
theorem dX6_way_189 : decode cX6_way 189 = .ok (.getfield 44, 3) := by decide +kernel
theorem dX6_way_192 : decode cX6_way 192 = .ok (.iload 5, 2) := by decide +kernel
end
section
theorem dX6_way_194 : decode cX6_way 194 = .ok (.baload, 1) := by decide +kernel
theorem dX6_way_195 : decode cX6_way 195 = .ok (.ifCond .eq 17, 3) := by decide +kernel
theorem dX6_way_198 : decode cX6_way 198 = .ok (.aload_n 0, 1) := by decide +kernel
theorem dX6_way_199 : decode cX6_way 199 = .ok (.getfield 22, 3) := by decide +kernel
theorem dX6_way_202 : decode cX6_way 202 = .ok (.iload 5, 2) := by decide +kernel
theorem dX6_way_204 : decode cX6_way 204 = .ok (.iaload, 1) := by decide +kernel
theorem dX6_way_205 : decode cX6_way 205 = .ok (.ifCond .le 7, 3) := by decide +kernel
theorem dX6_way_208 : decode cX6_way 208 = .ok (.iconst 1, 1) := by decide +kernel
theorem dX6_way_209 : decode cX6_way 209 = .ok (.goto 4, 3) := by decide +kernel
theorem dX6_way_212 : decode cX6_way 212 = .ok (.iconst 0, 1) := by decide +kernel
theorem dX6_way_213 : decode cX6_way 213 = .ok (.bastore, 1) := by decide +kernel
theorem dX6_way_214 : decode cX6_way 214 = .ok (.iinc 5 1, 3) := by decide +kernel
theorem dX6_way_217 : decode cX6_way 217 = .ok (.goto (-120), 3) := by decide +kernel
theorem dX6_way_220 : decode cX6_way 220 = .ok (.aload_n 0, 1) := by decide +kernel
theorem dX6_way_221 : decode cX6_way 221 = .ok (.invokevirtual 134, 3) := by decide +kernel
theorem dX6_way_224 : decode cX6_way 224 = .ok (.iconst 0, 1) := by decide +kernel
theorem dX6_way_225 : decode cX6_way 225 = .ok (.istore 5, 2) := by decide +kernel
theorem dX6_way_227 : decode cX6_way 227 = .ok (.iload 5, 2) := by decide +kernel
theorem dX6_way_229 : decode cX6_way 229 = .ok (.aload_n 0, 1) := by decide +kernel
theorem dX6_way_230 : decode cX6_way 230 = .ok (.invokevirtual 53, 3) := by decide +kernel
theorem dX6_way_233 : decode cX6_way 233 = .ok (.if_icmp .ge 41, 3) := by decide +kernel
theorem dX6_way_236 : decode cX6_way 236 = .ok (.aload_n 0, 1) := by decide +kernel
theorem dX6_way_237 : decode cX6_way 237 = .ok (.getfield 40, 3) := by decide +kernel
theorem dX6_way_240 : decode cX6_way 240 = .ok (.iload 5, 2) := by decide +kernel
theorem dX6_way_242 : decode cX6_way 242 = .ok (.aload_n 0, 1) := by decide +kernel
theorem dX6_way_243 : decode cX6_way 243 = .ok (.getfield 44, 3) := by decide +kernel
theorem dX6_way_246 : decode cX6_way 246 = .ok (.iload 5, 2) := by decide +kernel
theorem dX6_way_248 : decode cX6_way 248 = .ok (.baload, 1) := by decide +kernel
theorem dX6_way_249 : decode cX6_way 249 = .ok (.ifCond .eq 17, 3) := by decide +kernel
theorem dX6_way_252 : decode cX6_way 252 = .ok (.aload_n 0, 1) := by decide +kernel
theorem dX6_way_253 : decode cX6_way 253 = .ok (.getfield 22, 3) := by decide +kernel
theorem dX6_way_256 : decode cX6_way 256 = .ok (.iload 5, 2) := by decide +kernel
theorem dX6_way_258 : decode cX6_way 258 = .ok (.iaload, 1) := by decide +kernel
theorem dX6_way_259 : decode cX6_way 259 = .ok (.ifCond .le 7, 3) := by decide +kernel
theorem dX6_way_262 : decode cX6_way 262 = .ok (.iconst 1, 1) := by decide +kernel
theorem dX6_way_263 : decode cX6_way 263 = .ok (.goto 4, 3) := by decide +kernel
theorem dX6_way_266 : decode cX6_way 266 = .ok (.iconst 0, 1) := by decide +kernel
theorem dX6_way_267 : decode cX6_way 267 = .ok (.bastore, 1) := by decide +kernel
theorem dX6_way_268 : decode cX6_way 268 = .ok (.iinc 5 1, 3) := by decide +kernel
theorem dX6_way_271 : decode cX6_way 271 = .ok (.goto (-44), 3) := by decide +kernel
theorem dX6_way_274 : decode cX6_way 274 = .ok (.aload_n 0, 1) := by decide +kernel
theorem dX6_way_275 : decode cX6_way 275 = .ok (.getfield 40, 3) := by decide +kernel
theorem dX6_way_278 : decode cX6_way 278 = .ok (.iload_n 2, 1) := by decide +kernel
theorem dX6_way_279 : decode cX6_way 279 = .ok (.baload, 1) := by decide +kernel
theorem dX6_way_280 : decode cX6_way 280 = .ok (.ifCond .eq 8, 3) := by decide +kernel
theorem dX6_way_283 : decode cX6_way 283 = .ok (.iload 4, 2) := by decide +kernel
theorem dX6_way_285 : decode cX6_way 285 = .ok (.goto 5, 3) := by decide +kernel
theorem dX6_way_288 : decode cX6_way 288 = .ok (.bipush (-4), 2) := by decide +kernel
theorem dX6_way_290 : decode cX6_way 290 = .ok (.istore_n 3, 1) := by decide +kernel
theorem dX6_way_291 : decode cX6_way 291 = .ok (.iinc 4 1, 3) := by decide +kernel
theorem dX6_way_294 : decode cX6_way 294 = .ok (.goto (-213), 3) := by decide +kernel
theorem dX6_way_297 : decode cX6_way 297 = .ok (.aload_n 0, 1) := by decide +kernel
theorem dX6_way_298 : decode cX6_way 298 = .ok (.invokevirtual 140, 3) := by decide +kernel
theorem dX6_way_301 : decode cX6_way 301 = .ok (.iload_n 3, 1) := by decide +kernel
theorem dX6_way_302 : decode cX6_way 302 = .ok (.ireturn, 1) := by decide +kernel
theorem dX6_areApart_0 : decode cX6_areApart 0 = .ok (.iload_n 3, 1) := by decide +kernel
theorem dX6_areApart_1 : decode cX6_areApart 1 = .ok (.ifCond .le 8, 3) := by decide +kernel
theorem dX6_areApart_4 : decode cX6_areApart 4 = .ok (.aload_n 0, 1) := by decide +kernel
theorem dX6_areApart_5 : decode cX6_areApart 5 = .ok (.iload_n 3, 1) := by decide +kernel
theorem dX6_areApart_6 : decode cX6_areApart 6 = .ok (.invokevirtual 127, 3) := by decide +kernel
theorem dX6_areApart_9 : decode cX6_areApart 9 = .ok (.aload_n 0, 1) := by decide +kernel
theorem dX6_areApart_10 : decode cX6_areApart 10 = .ok (.iload_n 1, 1) := by decide +kernel
theorem dX6_areApart_11 : decode cX6_areApart 11 = .ok (.iload_n 2, 1) := by decide +kernel
theorem dX6_areApart_12 : decode cX6_areApart 12 = .ok (.invokevirtual 146, 3) := by decide +kernel
theorem dX6_areApart_15 : decode cX6_areApart 15 = .ok (.ifCond .ne 7, 3) := by decide +kernel
theorem dX6_areApart_18 : decode cX6_areApart 18 = .ok (.iconst 1, 1) := by decide +kernel
theorem dX6_areApart_19 : decode cX6_areApart 19 = .ok (.goto 4, 3) := by decide +kernel
theorem dX6_areApart_22 : decode cX6_areApart 22 = .ok (.iconst 0, 1) := by decide +kernel
theorem dX6_areApart_23 : decode cX6_areApart 23 = .ok (.istore 4, 2) := by decide +kernel
theorem dX6_areApart_25 : decode cX6_areApart 25 = .ok (.aload_n 0, 1) := by decide +kernel
theorem dX6_areApart_26 : decode cX6_areApart 26 = .ok (.invokevirtual 140, 3) := by decide +kernel
theorem dX6_areApart_29 : decode cX6_areApart 29 = .ok (.iload 4, 2) := by decide +kernel
theorem dX6_areApart_31 : decode cX6_areApart 31 = .ok (.ireturn, 1) := by decide +kernel
theorem dX6_kerb_0 : decode cX6_kerb 0 = .ok (.aload_n 0, 1) := by decide +kernel
theorem dX6_kerb_1 : decode cX6_kerb 1 = .ok (.iload_n 1, 1) := by decide +kernel
theorem dX6_kerb_2 : decode cX6_kerb 2 = .ok (.invokevirtual 98, 3) := by decide +kernel
theorem dX6_kerb_5 : decode cX6_kerb 5 = .ok (.ifCond .eq 26, 3) := by decide +kernel
theorem dX6_kerb_8 : decode cX6_kerb 8 = .ok (.aload_n 0, 1) := by decide +kernel
theorem dX6_kerb_9 : decode cX6_kerb 9 = .ok (.iload_n 2, 1) := by decide +kernel
theorem dX6_kerb_10 : decode cX6_kerb 10 = .ok (.invokevirtual 98, 3) := by decide +kernel
theorem dX6_kerb_13 : decode cX6_kerb 13 = .ok (.ifCond .eq 18, 3) := by decide +kernel
theorem dX6_kerb_16 : decode cX6_kerb 16 = .ok (.iload_n 1, 1) := by decide +kernel
theorem dX6_kerb_17 : decode cX6_kerb 17 = .ok (.iload_n 2, 1) := by decide +kernel
theorem dX6_kerb_18 : decode cX6_kerb 18 = .ok (.if_icmp .eq 13, 3) := by decide +kernel
theorem dX6_kerb_21 : decode cX6_kerb 21 = .ok (.iload_n 3, 1) := by decide +kernel
theorem dX6_kerb_22 : decode cX6_kerb 22 = .ok (.iconst 0, 1) := by decide +kernel
theorem dX6_kerb_23 : decode cX6_kerb 23 = .ok (.bipush 9, 2) := by decide +kernel
theorem dX6_kerb_25 : decode cX6_kerb 25 = .ok (.invokestatic 57, 3) := by decide +kernel
theorem dX6_kerb_28 : decode cX6_kerb 28 = .ok (.ifCond .ne 5, 3) := by decide +kernel
theorem dX6_kerb_31 : decode cX6_kerb 31 = .ok (.iconst (-1), 1) := by decide +kernel
theorem dX6_kerb_32 : decode cX6_kerb 32 = .ok (.ireturn, 1) := by decide +kernel
theorem dX6_kerb_33 : decode cX6_kerb 33 = .ok (.aload_n 0, 1) := by decide +kernel
theorem dX6_kerb_34 : decode cX6_kerb 34 = .ok (.invokevirtual 137, 3) := by decide +kernel
theorem dX6_kerb_37 : decode cX6_kerb 37 = .ok (.aload_n 0, 1) := by decide +kernel
theorem dX6_kerb_38 : decode cX6_kerb 38 = .ok (.iload_n 1, 1) := by decide +kernel
theorem dX6_kerb_39 : decode cX6_kerb 39 = .ok (.iload_n 2, 1) := by decide +kernel
theorem dX6_kerb_40 : decode cX6_kerb 40 = .ok (.iload_n 3, 1) := by decide +kernel
theorem dX6_kerb_41 : decode cX6_kerb 41 = .ok (.invokevirtual 150, 3) := by decide +kernel
theorem dX6_kerb_44 : decode cX6_kerb 44 = .ok (.ifCond .eq 6, 3) := by decide +kernel
theorem dX6_kerb_47 : decode cX6_kerb 47 = .ok (.bipush 100, 2) := by decide +kernel
theorem dX6_kerb_49 : decode cX6_kerb 49 = .ok (.ireturn, 1) := by decide +kernel
theorem dX6_kerb_50 : decode cX6_kerb 50 = .ok (.iconst 0, 1) := by decide +kernel
theorem dX6_kerb_51 : decode cX6_kerb 51 = .ok (.istore 4, 2) := by decide +kernel
theorem dX6_kerb_53 : decode cX6_kerb 53 = .ok (.iload 4, 2) := by decide +kernel
theorem dX6_kerb_55 : decode cX6_kerb 55 = .ok (.aload_n 0, 1) := by decide +kernel
theorem dX6_kerb_56 : decode cX6_kerb 56 = .ok (.invokevirtual 53, 3) := by decide +kernel
theorem dX6_kerb_59 : decode cX6_kerb 59 = .ok (.if_icmp .ge 93, 3) := by decide +kernel
theorem dX6_kerb_62 : decode cX6_kerb 62 = .ok (.iload 4, 2) := by decide +kernel
theorem dX6_kerb_64 : decode cX6_kerb 64 = .ok (.iload_n 1, 1) := by decide +kernel
theorem dX6_kerb_65 : decode cX6_kerb 65 = .ok (.if_icmp .eq 81, 3) := by decide +kernel
theorem dX6_kerb_68 : decode cX6_kerb 68 = .ok (.iload 4, 2) := by decide +kernel
theorem dX6_kerb_70 : decode cX6_kerb 70 = .ok (.iload_n 2, 1) := by decide +kernel
theorem dX6_kerb_71 : decode cX6_kerb 71 = .ok (.if_icmp .eq 75, 3) := by decide +kernel
theorem dX6_kerb_74 : decode cX6_kerb 74 = .ok (.aload_n 0, 1) := by decide +kernel
theorem dX6_kerb_75 : decode cX6_kerb 75 = .ok (.getfield 13, 3) := by decide +kernel
theorem dX6_kerb_78 : decode cX6_kerb 78 = .ok (.iconst 3, 1) := by decide +kernel
theorem dX6_kerb_79 : decode cX6_kerb 79 = .ok (.iload 4, 2) := by decide +kernel
theorem dX6_kerb_81 : decode cX6_kerb 81 = .ok (.iadd, 1) := by decide +kernel
theorem dX6_kerb_82 : decode cX6_kerb 82 = .ok (.iaload, 1) := by decide +kernel
theorem dX6_kerb_83 : decode cX6_kerb 83 = .ok (.iconst 3, 1) := by decide +kernel
theorem dX6_kerb_84 : decode cX6_kerb 84 = .ok (.if_icmp .eq 62, 3) := by decide +kernel
theorem dX6_kerb_87 : decode cX6_kerb 87 = .ok (.aload_n 0, 1) := by decide +kernel
theorem dX6_kerb_88 : decode cX6_kerb 88 = .ok (.getfield 22, 3) := by decide +kernel
theorem dX6_kerb_91 : decode cX6_kerb 91 = .ok (.iload 4, 2) := by decide +kernel
theorem dX6_kerb_93 : decode cX6_kerb 93 = .ok (.iaload, 1) := by decide +kernel
theorem dX6_kerb_94 : decode cX6_kerb 94 = .ok (.ifCond .ne 52, 3) := by decide +kernel
theorem dX6_kerb_97 : decode cX6_kerb 97 = .ok (.aload_n 0, 1) := by decide +kernel
theorem dX6_kerb_98 : decode cX6_kerb 98 = .ok (.getfield 13, 3) := by decide +kernel
theorem dX6_kerb_101 : decode cX6_kerb 101 = .ok (.iconst 3, 1) := by decide +kernel
theorem dX6_kerb_102 : decode cX6_kerb 102 = .ok (.iload 4, 2) := by decide +kernel
theorem dX6_kerb_104 : decode cX6_kerb 104 = .ok (.iadd, 1) := by decide +kernel
theorem dX6_kerb_105 : decode cX6_kerb 105 = .ok (.iaload, 1) := by decide +kernel
theorem dX6_kerb_106 : decode cX6_kerb 106 = .ok (.istore 5, 2) := by decide +kernel
theorem dX6_kerb_108 : decode cX6_kerb 108 = .ok (.aload_n 0, 1) := by decide +kernel
theorem dX6_kerb_109 : decode cX6_kerb 109 = .ok (.getfield 13, 3) := by decide +kernel
theorem dX6_kerb_112 : decode cX6_kerb 112 = .ok (.iconst 3, 1) := by decide +kernel
theorem dX6_kerb_113 : decode cX6_kerb 113 = .ok (.iload 4, 2) := by decide +kernel
theorem dX6_kerb_115 : decode cX6_kerb 115 = .ok (.iadd, 1) := by decide +kernel
theorem dX6_kerb_116 : decode cX6_kerb 116 = .ok (.iconst 3, 1) := by decide +kernel
theorem dX6_kerb_117 : decode cX6_kerb 117 = .ok (.iastore, 1) := by decide +kernel
theorem dX6_kerb_118 : decode cX6_kerb 118 = .ok (.aload_n 0, 1) := by decide +kernel
theorem dX6_kerb_119 : decode cX6_kerb 119 = .ok (.iload_n 1, 1) := by decide +kernel
theorem dX6_kerb_120 : decode cX6_kerb 120 = .ok (.iload_n 2, 1) := by decide +kernel
theorem dX6_kerb_121 : decode cX6_kerb 121 = .ok (.iload_n 3, 1) := by decide +kernel
theorem dX6_kerb_122 : decode cX6_kerb 122 = .ok (.invokevirtual 150, 3) := by decide +kernel
theorem dX6_kerb_125 : decode cX6_kerb 125 = .ok (.istore 6, 2) := by decide +kernel
theorem dX6_kerb_127 : decode cX6_kerb 127 = .ok (.aload_n 0, 1) := by decide +kernel
theorem dX6_kerb_128 : decode cX6_kerb 128 = .ok (.getfield 13, 3) := by decide +kernel
theorem dX6_kerb_131 : decode cX6_kerb 131 = .ok (.iconst 3, 1) := by decide +kernel
theorem dX6_kerb_132 : decode cX6_kerb 132 = .ok (.iload 4, 2) := by decide +kernel
theorem dX6_kerb_134 : decode cX6_kerb 134 = .ok (.iadd, 1) := by decide +kernel
theorem dX6_kerb_135 : decode cX6_kerb 135 = .ok (.iload 5, 2) := by decide +kernel
theorem dX6_kerb_137 : decode cX6_kerb 137 = .ok (.iastore, 1) := by decide +kernel
theorem dX6_kerb_138 : decode cX6_kerb 138 = .ok (.iload 6, 2) := by decide +kernel
theorem dX6_kerb_140 : decode cX6_kerb 140 = .ok (.ifCond .eq 6, 3) := by decide +kernel
theorem dX6_kerb_143 : decode cX6_kerb 143 = .ok (.iload 4, 2) := by decide +kernel
theorem dX6_kerb_145 : decode cX6_kerb 145 = .ok (.ireturn, 1) := by decide +kernel
theorem dX6_kerb_146 : decode cX6_kerb 146 = .ok (.iinc 4 1, 3) := by decide +kernel
theorem dX6_kerb_149 : decode cX6_kerb 149 = .ok (.goto (-96), 3) := by decide +kernel
theorem dX6_kerb_152 : decode cX6_kerb 152 = .ok (.bipush (-4), 2) := by decide +kernel
theorem dX6_kerb_154 : decode cX6_kerb 154 = .ok (.ireturn, 1) := by decide +kernel
theorem dX6_ring_0 : decode cX6_ring 0 = .ok (.aload_n 0, 1) := by decide +kernel
theorem dX6_ring_1 : decode cX6_ring 1 = .ok (.iload_n 1, 1) := by decide +kernel
theorem dX6_ring_2 : decode cX6_ring 2 = .ok (.invokevirtual 98, 3) := by decide +kernel
theorem dX6_ring_5 : decode cX6_ring 5 = .ok (.ifCond .eq 13, 3) := by decide +kernel
theorem dX6_ring_8 : decode cX6_ring 8 = .ok (.iload_n 2, 1) := by decide +kernel
theorem dX6_ring_9 : decode cX6_ring 9 = .ok (.iconst 0, 1) := by decide +kernel
theorem dX6_ring_10 : decode cX6_ring 10 = .ok (.bipush 60, 2) := by decide +kernel
theorem dX6_ring_12 : decode cX6_ring 12 = .ok (.invokestatic 57, 3) := by decide +kernel
theorem dX6_ring_15 : decode cX6_ring 15 = .ok (.ifCond .ne 5, 3) := by decide +kernel
theorem dX6_ring_18 : decode cX6_ring 18 = .ok (.iconst (-1), 1) := by decide +kernel
theorem dX6_ring_19 : decode cX6_ring 19 = .ok (.ireturn, 1) := by decide +kernel
theorem dX6_ring_20 : decode cX6_ring 20 = .ok (.aload_n 0, 1) := by decide +kernel
theorem dX6_ring_21 : decode cX6_ring 21 = .ok (.getfield 95, 3) := by decide +kernel
theorem dX6_ring_24 : decode cX6_ring 24 = .ok (.bipush 6, 2) := by decide +kernel
theorem dX6_ring_26 : decode cX6_ring 26 = .ok (.if_icmp .ne 6, 3) := by decide +kernel
theorem dX6_ring_29 : decode cX6_ring 29 = .ok (.bipush (-3), 2) := by decide +kernel
theorem dX6_ring_31 : decode cX6_ring 31 = .ok (.ireturn, 1) := by decide +kernel
theorem dX6_ring_32 : decode cX6_ring 32 = .ok (.aload_n 0, 1) := by decide +kernel
theorem dX6_ring_33 : decode cX6_ring 33 = .ok (.getfield 31, 3) := by decide +kernel
theorem dX6_ring_36 : decode cX6_ring 36 = .ok (.aload_n 0, 1) := by decide +kernel
theorem dX6_ring_37 : decode cX6_ring 37 = .ok (.getfield 95, 3) := by decide +kernel
theorem dX6_ring_40 : decode cX6_ring 40 = .ok (.bipush 100, 2) := by decide +kernel
theorem dX6_ring_42 : decode cX6_ring 42 = .ok (.iload_n 1, 1) := by decide +kernel
theorem dX6_ring_43 : decode cX6_ring 43 = .ok (.imul, 1) := by decide +kernel
theorem dX6_ring_44 : decode cX6_ring 44 = .ok (.iload_n 2, 1) := by decide +kernel
theorem dX6_ring_45 : decode cX6_ring 45 = .ok (.iadd, 1) := by decide +kernel
theorem dX6_ring_46 : decode cX6_ring 46 = .ok (.iastore, 1) := by decide +kernel
theorem dX6_ring_47 : decode cX6_ring 47 = .ok (.aload_n 0, 1) := by decide +kernel
theorem dX6_ring_48 : decode cX6_ring 48 = .ok (.dup, 1) := by decide +kernel
theorem dX6_ring_49 : decode cX6_ring 49 = .ok (.getfield 95, 3) := by decide +kernel
theorem dX6_ring_52 : decode cX6_ring 52 = .ok (.iconst 1, 1) := by decide +kernel
theorem dX6_ring_53 : decode cX6_ring 53 = .ok (.iadd, 1) := by decide +kernel
theorem dX6_ring_54 : decode cX6_ring 54 = .ok (.putfield 95, 3) := by decide +kernel
theorem dX6_ring_57 : decode cX6_ring 57 = .ok (.aload_n 0, 1) := by decide +kernel
theorem dX6_ring_58 : decode cX6_ring 58 = .ok (.getfield 95, 3) := by decide +kernel
theorem dX6_ring_61 : decode cX6_ring 61 = .ok (.ireturn, 1) := by decide +kernel
theorem dX6_forget_0 : decode cX6_forget 0 = .ok (.aload_n 0, 1) := by decide +kernel
theorem dX6_forget_1 : decode cX6_forget 1 = .ok (.getfield 95, 3) := by decide +kernel
theorem dX6_forget_4 : decode cX6_forget 4 = .ok (.istore_n 1, 1) := by decide +kernel
theorem dX6_forget_5 : decode cX6_forget 5 = .ok (.aload_n 0, 1) := by decide +kernel
theorem dX6_forget_6 : decode cX6_forget 6 = .ok (.iconst 0, 1) := by decide +kernel
theorem dX6_forget_7 : decode cX6_forget 7 = .ok (.putfield 95, 3) := by decide +kernel
theorem dX6_forget_10 : decode cX6_forget 10 = .ok (.iload_n 1, 1) := by decide +kernel
theorem dX6_forget_11 : decode cX6_forget 11 = .ok (.ireturn, 1) := by decide +kernel
theorem dX6_rains_0 : decode cX6_rains 0 = .ok (.aload_n 0, 1) := by decide +kernel
theorem dX6_rains_1 : decode cX6_rains 1 = .ok (.invokevirtual 137, 3) := by decide +kernel
theorem dX6_rains_4 : decode cX6_rains 4 = .ok (.iconst 0, 1) := by decide +kernel
theorem dX6_rains_5 : decode cX6_rains 5 = .ok (.istore_n 1, 1) := by decide +kernel
theorem dX6_rains_6 : decode cX6_rains 6 = .ok (.iconst 0, 1) := by decide +kernel
theorem dX6_rains_7 : decode cX6_rains 7 = .ok (.istore_n 2, 1) := by decide +kernel
theorem dX6_rains_8 : decode cX6_rains 8 = .ok (.iload_n 2, 1) := by decide +kernel
theorem dX6_rains_9 : decode cX6_rains 9 = .ok (.bipush 31, 2) := by decide +kernel
theorem dX6_rains_11 : decode cX6_rains 11 = .ok (.if_icmp .ge 94, 3) := by decide +kernel
theorem dX6_rains_14 : decode cX6_rains 14 = .ok (.iload_n 2, 1) := by decide +kernel
theorem dX6_rains_15 : decode cX6_rains 15 = .ok (.ifCond .le 8, 3) := by decide +kernel
theorem dX6_rains_18 : decode cX6_rains 18 = .ok (.aload_n 0, 1) := by decide +kernel
theorem dX6_rains_19 : decode cX6_rains 19 = .ok (.iload_n 2, 1) := by decide +kernel
theorem dX6_rains_20 : decode cX6_rains 20 = .ok (.invokevirtual 127, 3) := by decide +kernel
theorem dX6_rains_23 : decode cX6_rains 23 = .ok (.iconst 1, 1) := by decide +kernel
theorem dX6_rains_24 : decode cX6_rains 24 = .ok (.istore_n 3, 1) := by decide +kernel
theorem dX6_rains_25 : decode cX6_rains 25 = .ok (.iconst 0, 1) := by decide +kernel
theorem dX6_rains_26 : decode cX6_rains 26 = .ok (.istore 4, 2) := by decide +kernel
theorem dX6_rains_28 : decode cX6_rains 28 = .ok (.iload 4, 2) := by decide +kernel
theorem dX6_rains_30 : decode cX6_rains 30 = .ok (.aload_n 0, 1) := by decide +kernel
theorem dX6_rains_31 : decode cX6_rains 31 = .ok (.getfield 95, 3) := by decide +kernel
theorem dX6_rains_34 : decode cX6_rains 34 = .ok (.if_icmp .ge 47, 3) := by decide +kernel
theorem dX6_rains_37 : decode cX6_rains 37 = .ok (.iload_n 3, 1) := by decide +kernel
theorem dX6_rains_38 : decode cX6_rains 38 = .ok (.ifCond .eq 35, 3) := by decide +kernel
theorem dX6_rains_41 : decode cX6_rains 41 = .ok (.aload_n 0, 1) := by decide +kernel
theorem dX6_rains_42 : decode cX6_rains 42 = .ok (.getfield 22, 3) := by decide +kernel
theorem dX6_rains_45 : decode cX6_rains 45 = .ok (.aload_n 0, 1) := by decide +kernel
theorem dX6_rains_46 : decode cX6_rains 46 = .ok (.getfield 31, 3) := by decide +kernel
theorem dX6_rains_49 : decode cX6_rains 49 = .ok (.iload 4, 2) := by decide +kernel
theorem dX6_rains_51 : decode cX6_rains 51 = .ok (.iaload, 1) := by decide +kernel
theorem dX6_rains_52 : decode cX6_rains 52 = .ok (.bipush 100, 2) := by decide +kernel
theorem dX6_rains_54 : decode cX6_rains 54 = .ok (.idiv, 1) := by decide +kernel
theorem dX6_rains_55 : decode cX6_rains 55 = .ok (.iaload, 1) := by decide +kernel
theorem dX6_rains_56 : decode cX6_rains 56 = .ok (.aload_n 0, 1) := by decide +kernel
theorem dX6_rains_57 : decode cX6_rains 57 = .ok (.getfield 31, 3) := by decide +kernel
theorem dX6_rains_60 : decode cX6_rains 60 = .ok (.iload 4, 2) := by decide +kernel
theorem dX6_rains_62 : decode cX6_rains 62 = .ok (.iaload, 1) := by decide +kernel
theorem dX6_rains_63 : decode cX6_rains 63 = .ok (.bipush 100, 2) := by decide +kernel
theorem dX6_rains_65 : decode cX6_rains 65 = .ok (.irem, 1) := by decide +kernel
theorem dX6_rains_66 : decode cX6_rains 66 = .ok (.if_icmp .ne 7, 3) := by decide +kernel
theorem dX6_rains_69 : decode cX6_rains 69 = .ok (.iconst 1, 1) := by decide +kernel
theorem dX6_rains_70 : decode cX6_rains 70 = .ok (.goto 4, 3) := by decide +kernel
theorem dX6_rains_73 : decode cX6_rains 73 = .ok (.iconst 0, 1) := by decide +kernel
theorem dX6_rains_74 : decode cX6_rains 74 = .ok (.istore_n 3, 1) := by decide +kernel
theorem dX6_rains_75 : decode cX6_rains 75 = .ok (.iinc 4 1, 3) := by decide +kernel
theorem dX6_rains_78 : decode cX6_rains 78 = .ok (.goto (-50), 3) := by decide +kernel
theorem dX6_rains_81 : decode cX6_rains 81 = .ok (.iload_n 1, 1) := by decide +kernel
theorem dX6_rains_82 : decode cX6_rains 82 = .ok (.iload_n 3, 1) := by decide +kernel
theorem dX6_rains_83 : decode cX6_rains 83 = .ok (.ifCond .eq 9, 3) := by decide +kernel
theorem dX6_rains_86 : decode cX6_rains 86 = .ok (.iconst 1, 1) := by decide +kernel
theorem dX6_rains_87 : decode cX6_rains 87 = .ok (.iload_n 2, 1) := by decide +kernel
theorem dX6_rains_88 : decode cX6_rains 88 = .ok (.ishl, 1) := by decide +kernel
theorem dX6_rains_89 : decode cX6_rains 89 = .ok (.goto 4, 3) := by decide +kernel
theorem dX6_rains_92 : decode cX6_rains 92 = .ok (.iconst 0, 1) := by decide +kernel
theorem dX6_rains_93 : decode cX6_rains 93 = .ok (.ior, 1) := by decide +kernel
theorem dX6_rains_94 : decode cX6_rains 94 = .ok (.istore_n 1, 1) := by decide +kernel
theorem dX6_rains_95 : decode cX6_rains 95 = .ok (.aload_n 0, 1) := by decide +kernel
theorem dX6_rains_96 : decode cX6_rains 96 = .ok (.invokevirtual 140, 3) := by decide +kernel
theorem dX6_rains_99 : decode cX6_rains 99 = .ok (.iinc 2 1, 3) := by decide +kernel
theorem dX6_rains_102 : decode cX6_rains 102 = .ok (.goto (-94), 3) := by decide +kernel
theorem dX6_rains_105 : decode cX6_rains 105 = .ok (.iload_n 1, 1) := by decide +kernel
theorem dX6_rains_106 : decode cX6_rains 106 = .ok (.ireturn, 1) := by decide +kernel
theorem dX6_common_0 : decode cX6_common 0 = .ok (.iload_n 0, 1) := by decide +kernel
theorem dX6_common_1 : decode cX6_common 1 = .ok (.istore_n 2, 1) := by decide +kernel
theorem dX6_common_2 : decode cX6_common 2 = .ok (.iload_n 1, 1) := by decide +kernel
theorem dX6_common_3 : decode cX6_common 3 = .ok (.istore_n 3, 1) := by decide +kernel
theorem dX6_common_4 : decode cX6_common 4 = .ok (.iload_n 3, 1) := by decide +kernel
theorem dX6_common_5 : decode cX6_common 5 = .ok (.ifCond .le 16, 3) := by decide +kernel
theorem dX6_common_8 : decode cX6_common 8 = .ok (.iload_n 2, 1) := by decide +kernel
theorem dX6_common_9 : decode cX6_common 9 = .ok (.iload_n 3, 1) := by decide +kernel
theorem dX6_common_10 : decode cX6_common 10 = .ok (.irem, 1) := by decide +kernel
theorem dX6_common_11 : decode cX6_common 11 = .ok (.istore 4, 2) := by decide +kernel
theorem dX6_common_13 : decode cX6_common 13 = .ok (.iload_n 3, 1) := by decide +kernel
theorem dX6_common_14 : decode cX6_common 14 = .ok (.istore_n 2, 1) := by decide +kernel
theorem dX6_common_15 : decode cX6_common 15 = .ok (.iload 4, 2) := by decide +kernel
theorem dX6_common_17 : decode cX6_common 17 = .ok (.istore_n 3, 1) := by decide +kernel
theorem dX6_common_18 : decode cX6_common 18 = .ok (.goto (-14), 3) := by decide +kernel
theorem dX6_common_21 : decode cX6_common 21 = .ok (.iload_n 2, 1) := by decide +kernel
theorem dX6_common_22 : decode cX6_common 22 = .ok (.ireturn, 1) := by decide +kernel
theorem dX6_wet_0 : decode cX6_wet 0 = .ok (.iconst 0, 1) := by decide +kernel
theorem dX6_wet_1 : decode cX6_wet 1 = .ok (.istore_n 1, 1) := by decide +kernel
theorem dX6_wet_2 : decode cX6_wet 2 = .ok (.iconst 0, 1) := by decide +kernel
theorem dX6_wet_3 : decode cX6_wet 3 = .ok (.istore_n 2, 1) := by decide +kernel
theorem dX6_wet_4 : decode cX6_wet 4 = .ok (.iload_n 2, 1) := by decide +kernel
theorem dX6_wet_5 : decode cX6_wet 5 = .ok (.aload_n 0, 1) := by decide +kernel
theorem dX6_wet_6 : decode cX6_wet 6 = .ok (.invokevirtual 53, 3) := by decide +kernel
theorem dX6_wet_9 : decode cX6_wet 9 = .ok (.if_icmp .ge 26, 3) := by decide +kernel
theorem dX6_wet_12 : decode cX6_wet 12 = .ok (.iload_n 1, 1) := by decide +kernel
theorem dX6_wet_13 : decode cX6_wet 13 = .ok (.aload_n 0, 1) := by decide +kernel
theorem dX6_wet_14 : decode cX6_wet 14 = .ok (.getfield 22, 3) := by decide +kernel
theorem dX6_wet_17 : decode cX6_wet 17 = .ok (.iload_n 2, 1) := by decide +kernel
theorem dX6_wet_18 : decode cX6_wet 18 = .ok (.iaload, 1) := by decide +kernel
theorem dX6_wet_19 : decode cX6_wet 19 = .ok (.ifCond .le 7, 3) := by decide +kernel
theorem dX6_wet_22 : decode cX6_wet 22 = .ok (.iconst 1, 1) := by decide +kernel
theorem dX6_wet_23 : decode cX6_wet 23 = .ok (.goto 4, 3) := by decide +kernel
theorem dX6_wet_26 : decode cX6_wet 26 = .ok (.iconst 0, 1) := by decide +kernel
theorem dX6_wet_27 : decode cX6_wet 27 = .ok (.iadd, 1) := by decide +kernel
theorem dX6_wet_28 : decode cX6_wet 28 = .ok (.istore_n 1, 1) := by decide +kernel
theorem dX6_wet_29 : decode cX6_wet 29 = .ok (.iinc 2 1, 3) := by decide +kernel
theorem dX6_wet_32 : decode cX6_wet 32 = .ok (.goto (-28), 3) := by decide +kernel
theorem dX6_wet_35 : decode cX6_wet 35 = .ok (.iload_n 1, 1) := by decide +kernel
theorem dX6_wet_36 : decode cX6_wet 36 = .ok (.ireturn, 1) := by decide +kernel
theorem dX6_sky_0 : decode cX6_sky 0 = .ok (.aload_n 0, 1) := by decide +kernel
theorem dX6_sky_1 : decode cX6_sky 1 = .ok (.iload_n 1, 1) := by decide +kernel
theorem dX6_sky_2 : decode cX6_sky 2 = .ok (.invokevirtual 98, 3) := by decide +kernel
theorem dX6_sky_5 : decode cX6_sky 5 = .ok (.ifCond .eq 12, 3) := by decide +kernel
theorem dX6_sky_8 : decode cX6_sky 8 = .ok (.iload_n 2, 1) := by decide +kernel
theorem dX6_sky_9 : decode cX6_sky 9 = .ok (.iconst 0, 1) := by decide +kernel
theorem dX6_sky_10 : decode cX6_sky 10 = .ok (.iconst 1, 1) := by decide +kernel
theorem dX6_sky_11 : decode cX6_sky 11 = .ok (.invokestatic 57, 3) := by decide +kernel
theorem dX6_sky_14 : decode cX6_sky 14 = .ok (.ifCond .ne 5, 3) := by decide +kernel
theorem dX6_sky_17 : decode cX6_sky 17 = .ok (.iconst (-1), 1) := by decide +kernel
theorem dX6_sky_18 : decode cX6_sky 18 = .ok (.ireturn, 1) := by decide +kernel
theorem dX6_sky_19 : decode cX6_sky 19 = .ok (.aload_n 0, 1) := by decide +kernel
theorem dX6_sky_20 : decode cX6_sky 20 = .ok (.invokevirtual 118, 3) := by decide +kernel
theorem dX6_sky_23 : decode cX6_sky 23 = .ok (.aload_n 0, 1) := by decide +kernel
theorem dX6_sky_24 : decode cX6_sky 24 = .ok (.getfield 34, 3) := by decide +kernel
theorem dX6_sky_27 : decode cX6_sky 27 = .ok (.iload_n 1, 1) := by decide +kernel
theorem dX6_sky_28 : decode cX6_sky 28 = .ok (.iaload, 1) := by decide +kernel
theorem dX6_sky_29 : decode cX6_sky 29 = .ok (.ifCond .ge 6, 3) := by decide +kernel
theorem dX6_sky_32 : decode cX6_sky 32 = .ok (.bipush (-4), 2) := by decide +kernel
theorem dX6_sky_34 : decode cX6_sky 34 = .ok (.ireturn, 1) := by decide +kernel
theorem dX6_sky_35 : decode cX6_sky 35 = .ok (.aload_n 0, 1) := by decide +kernel
theorem dX6_sky_36 : decode cX6_sky 36 = .ok (.aload_n 0, 1) := by decide +kernel
theorem dX6_sky_37 : decode cX6_sky 37 = .ok (.getfield 34, 3) := by decide +kernel
theorem dX6_sky_40 : decode cX6_sky 40 = .ok (.iload_n 1, 1) := by decide +kernel
theorem dX6_sky_41 : decode cX6_sky 41 = .ok (.iaload, 1) := by decide +kernel
theorem dX6_sky_42 : decode cX6_sky 42 = .ok (.invokevirtual 121, 3) := by decide +kernel
theorem dX6_sky_45 : decode cX6_sky 45 = .ok (.istore_n 3, 1) := by decide +kernel
theorem dX6_sky_46 : decode cX6_sky 46 = .ok (.aload_n 0, 1) := by decide +kernel
theorem dX6_sky_47 : decode cX6_sky 47 = .ok (.invokevirtual 153, 3) := by decide +kernel
theorem dX6_sky_50 : decode cX6_sky 50 = .ok (.istore 4, 2) := by decide +kernel
theorem dX6_sky_52 : decode cX6_sky 52 = .ok (.iload_n 3, 1) := by decide +kernel
theorem dX6_sky_53 : decode cX6_sky 53 = .ok (.iload 4, 2) := by decide +kernel
theorem dX6_sky_55 : decode cX6_sky 55 = .ok (.invokestatic 156, 3) := by decide +kernel
theorem dX6_sky_58 : decode cX6_sky 58 = .ok (.istore 5, 2) := by decide +kernel
theorem dX6_sky_60 : decode cX6_sky 60 = .ok (.iload_n 2, 1) := by decide +kernel
theorem dX6_sky_61 : decode cX6_sky 61 = .ok (.ifCond .ne 10, 3) := by decide +kernel
theorem dX6_sky_64 : decode cX6_sky 64 = .ok (.iload_n 3, 1) := by decide +kernel
theorem dX6_sky_65 : decode cX6_sky 65 = .ok (.iload 5, 2) := by decide +kernel
theorem dX6_sky_67 : decode cX6_sky 67 = .ok (.idiv, 1) := by decide +kernel
theorem dX6_sky_68 : decode cX6_sky 68 = .ok (.goto 8, 3) := by decide +kernel
theorem dX6_sky_71 : decode cX6_sky 71 = .ok (.iload 4, 2) := by decide +kernel
theorem dX6_sky_73 : decode cX6_sky 73 = .ok (.iload 5, 2) := by decide +kernel
theorem dX6_sky_75 : decode cX6_sky 75 = .ok (.idiv, 1) := by decide +kernel
theorem dX6_sky_76 : decode cX6_sky 76 = .ok (.ireturn, 1) := by decide +kernel
theorem dX6_sun_0 : decode cX6_sun 0 = .ok (.aload_n 0, 1) := by decide +kernel
theorem dX6_sun_1 : decode cX6_sun 1 = .ok (.iload_n 1, 1) := by decide +kernel
theorem dX6_sun_2 : decode cX6_sun 2 = .ok (.invokevirtual 98, 3) := by decide +kernel
theorem dX6_sun_5 : decode cX6_sun 5 = .ok (.ifCond .eq 33, 3) := by decide +kernel
theorem dX6_sun_8 : decode cX6_sun 8 = .ok (.iload_n 2, 1) := by decide +kernel
theorem dX6_sun_9 : decode cX6_sun 9 = .ok (.iconst 0, 1) := by decide +kernel
theorem dX6_sun_10 : decode cX6_sun 10 = .ok (.bipush 6, 2) := by decide +kernel
theorem dX6_sun_12 : decode cX6_sun 12 = .ok (.invokestatic 57, 3) := by decide +kernel
theorem dX6_sun_15 : decode cX6_sun 15 = .ok (.ifCond .eq 23, 3) := by decide +kernel
theorem dX6_sun_18 : decode cX6_sun 18 = .ok (.iload_n 3, 1) := by decide +kernel
theorem dX6_sun_19 : decode cX6_sun 19 = .ok (.iconst 0, 1) := by decide +kernel
theorem dX6_sun_20 : decode cX6_sun 20 = .ok (.bipush 10, 2) := by decide +kernel
theorem dX6_sun_22 : decode cX6_sun 22 = .ok (.invokestatic 57, 3) := by decide +kernel
theorem dX6_sun_25 : decode cX6_sun 25 = .ok (.ifCond .eq 13, 3) := by decide +kernel
theorem dX6_sun_28 : decode cX6_sun 28 = .ok (.iload 4, 2) := by decide +kernel
theorem dX6_sun_30 : decode cX6_sun 30 = .ok (.iconst 0, 1) := by decide +kernel
theorem dX6_sun_31 : decode cX6_sun 31 = .ok (.iconst 1, 1) := by decide +kernel
theorem dX6_sun_32 : decode cX6_sun 32 = .ok (.invokestatic 57, 3) := by decide +kernel
theorem dX6_sun_35 : decode cX6_sun 35 = .ok (.ifCond .ne 5, 3) := by decide +kernel
theorem dX6_sun_38 : decode cX6_sun 38 = .ok (.iconst (-1), 1) := by decide +kernel
theorem dX6_sun_39 : decode cX6_sun 39 = .ok (.ireturn, 1) := by decide +kernel
theorem dX6_sun_40 : decode cX6_sun 40 = .ok (.aload_n 0, 1) := by decide +kernel
theorem dX6_sun_41 : decode cX6_sun 41 = .ok (.invokevirtual 137, 3) := by decide +kernel
theorem dX6_sun_44 : decode cX6_sun 44 = .ok (.iconst 0, 1) := by decide +kernel
theorem dX6_sun_45 : decode cX6_sun 45 = .ok (.istore 5, 2) := by decide +kernel
theorem dX6_sun_47 : decode cX6_sun 47 = .ok (.iconst 1, 1) := by decide +kernel
theorem dX6_sun_48 : decode cX6_sun 48 = .ok (.istore 6, 2) := by decide +kernel
theorem dX6_sun_50 : decode cX6_sun 50 = .ok (.iconst 0, 1) := by decide +kernel
theorem dX6_sun_51 : decode cX6_sun 51 = .ok (.istore 7, 2) := by decide +kernel
theorem dX6_sun_53 : decode cX6_sun 53 = .ok (.iload 7, 2) := by decide +kernel
theorem dX6_sun_55 : decode cX6_sun 55 = .ok (.iload_n 2, 1) := by decide +kernel
theorem dX6_sun_56 : decode cX6_sun 56 = .ok (.if_icmp .ge 16, 3) := by decide +kernel
theorem dX6_sun_59 : decode cX6_sun 59 = .ok (.iload 6, 2) := by decide +kernel
theorem dX6_sun_61 : decode cX6_sun 61 = .ok (.bipush 10, 2) := by decide +kernel
theorem dX6_sun_63 : decode cX6_sun 63 = .ok (.imul, 1) := by decide +kernel
theorem dX6_sun_64 : decode cX6_sun 64 = .ok (.istore 6, 2) := by decide +kernel
theorem dX6_sun_66 : decode cX6_sun 66 = .ok (.iinc 7 1, 3) := by decide +kernel
theorem dX6_sun_69 : decode cX6_sun 69 = .ok (.goto (-16), 3) := by decide +kernel
theorem dX6_sun_72 : decode cX6_sun 72 = .ok (.iconst 0, 1) := by decide +kernel
theorem dX6_sun_73 : decode cX6_sun 73 = .ok (.istore 7, 2) := by decide +kernel
theorem dX6_sun_75 : decode cX6_sun 75 = .ok (.iload 7, 2) := by decide +kernel
theorem dX6_sun_77 : decode cX6_sun 77 = .ok (.iconst 1, 1) := by decide +kernel
theorem dX6_sun_78 : decode cX6_sun 78 = .ok (.iload_n 2, 1) := by decide +kernel
theorem dX6_sun_79 : decode cX6_sun 79 = .ok (.ishl, 1) := by decide +kernel
theorem dX6_sun_80 : decode cX6_sun 80 = .ok (.if_icmp .ge 96, 3) := by decide +kernel
theorem dX6_sun_83 : decode cX6_sun 83 = .ok (.iconst 1, 1) := by decide +kernel
theorem dX6_sun_84 : decode cX6_sun 84 = .ok (.istore 8, 2) := by decide +kernel
theorem dX6_sun_86 : decode cX6_sun 86 = .ok (.iconst 0, 1) := by decide +kernel
theorem dX6_sun_87 : decode cX6_sun 87 = .ok (.istore 9, 2) := by decide +kernel
theorem dX6_sun_89 : decode cX6_sun 89 = .ok (.iload 9, 2) := by decide +kernel
theorem dX6_sun_91 : decode cX6_sun 91 = .ok (.iload_n 2, 1) := by decide +kernel
theorem dX6_sun_92 : decode cX6_sun 92 = .ok (.if_icmp .ge 54, 3) := by decide +kernel
theorem dX6_sun_95 : decode cX6_sun 95 = .ok (.iload 7, 2) := by decide +kernel
theorem dX6_sun_97 : decode cX6_sun 97 = .ok (.iload 9, 2) := by decide +kernel
theorem dX6_sun_99 : decode cX6_sun 99 = .ok (.ishr, 1) := by decide +kernel
theorem dX6_sun_100 : decode cX6_sun 100 = .ok (.iconst 1, 1) := by decide +kernel
theorem dX6_sun_101 : decode cX6_sun 101 = .ok (.iand, 1) := by decide +kernel
theorem dX6_sun_102 : decode cX6_sun 102 = .ok (.iconst 1, 1) := by decide +kernel
theorem dX6_sun_103 : decode cX6_sun 103 = .ok (.if_icmp .ne 7, 3) := by decide +kernel
theorem dX6_sun_106 : decode cX6_sun 106 = .ok (.iconst 1, 1) := by decide +kernel
theorem dX6_sun_107 : decode cX6_sun 107 = .ok (.goto 4, 3) := by decide +kernel
theorem dX6_sun_110 : decode cX6_sun 110 = .ok (.iconst 0, 1) := by decide +kernel
theorem dX6_sun_111 : decode cX6_sun 111 = .ok (.istore 10, 2) := by decide +kernel
theorem dX6_sun_113 : decode cX6_sun 113 = .ok (.iload 8, 2) := by decide +kernel
theorem dX6_sun_115 : decode cX6_sun 115 = .ok (.iload 10, 2) := by decide +kernel
theorem dX6_sun_117 : decode cX6_sun 117 = .ok (.ifCond .eq 7, 3) := by decide +kernel
theorem dX6_sun_120 : decode cX6_sun 120 = .ok (.iload_n 3, 1) := by decide +kernel
theorem dX6_sun_121 : decode cX6_sun 121 = .ok (.goto 7, 3) := by decide +kernel
theorem dX6_sun_124 : decode cX6_sun 124 = .ok (.bipush 10, 2) := by decide +kernel
theorem dX6_sun_126 : decode cX6_sun 126 = .ok (.iload_n 3, 1) := by decide +kernel
theorem dX6_sun_127 : decode cX6_sun 127 = .ok (.isub, 1) := by decide +kernel
theorem dX6_sun_128 : decode cX6_sun 128 = .ok (.imul, 1) := by decide +kernel
theorem dX6_sun_129 : decode cX6_sun 129 = .ok (.istore 8, 2) := by decide +kernel
theorem dX6_sun_131 : decode cX6_sun 131 = .ok (.iload 10, 2) := by decide +kernel
theorem dX6_sun_133 : decode cX6_sun 133 = .ok (.ifCond .eq 7, 3) := by decide +kernel
theorem dX6_sun_136 : decode cX6_sun 136 = .ok (.aload_n 0, 1) := by decide +kernel
theorem dX6_sun_137 : decode cX6_sun 137 = .ok (.invokevirtual 134, 3) := by decide +kernel
theorem dX6_sun_140 : decode cX6_sun 140 = .ok (.iinc 9 1, 3) := by decide +kernel
theorem dX6_sun_143 : decode cX6_sun 143 = .ok (.goto (-54), 3) := by decide +kernel
theorem dX6_sun_146 : decode cX6_sun 146 = .ok (.iload 5, 2) := by decide +kernel
theorem dX6_sun_148 : decode cX6_sun 148 = .ok (.aload_n 0, 1) := by decide +kernel
theorem dX6_sun_149 : decode cX6_sun 149 = .ok (.getfield 22, 3) := by decide +kernel
theorem dX6_sun_152 : decode cX6_sun 152 = .ok (.iload_n 1, 1) := by decide +kernel
theorem dX6_sun_153 : decode cX6_sun 153 = .ok (.iaload, 1) := by decide +kernel
theorem dX6_sun_154 : decode cX6_sun 154 = .ok (.ifCond .le 8, 3) := by decide +kernel
theorem dX6_sun_157 : decode cX6_sun 157 = .ok (.iload 8, 2) := by decide +kernel
theorem dX6_sun_159 : decode cX6_sun 159 = .ok (.goto 4, 3) := by decide +kernel
theorem dX6_sun_162 : decode cX6_sun 162 = .ok (.iconst 0, 1) := by decide +kernel
theorem dX6_sun_163 : decode cX6_sun 163 = .ok (.iadd, 1) := by decide +kernel
theorem dX6_sun_164 : decode cX6_sun 164 = .ok (.istore 5, 2) := by decide +kernel
theorem dX6_sun_166 : decode cX6_sun 166 = .ok (.aload_n 0, 1) := by decide +kernel
theorem dX6_sun_167 : decode cX6_sun 167 = .ok (.invokevirtual 140, 3) := by decide +kernel
theorem dX6_sun_170 : decode cX6_sun 170 = .ok (.iinc 7 1, 3) := by decide +kernel
theorem dX6_sun_173 : decode cX6_sun 173 = .ok (.goto (-98), 3) := by decide +kernel
theorem dX6_sun_176 : decode cX6_sun 176 = .ok (.iload 5, 2) := by decide +kernel
theorem dX6_sun_178 : decode cX6_sun 178 = .ok (.iload 6, 2) := by decide +kernel
theorem dX6_sun_180 : decode cX6_sun 180 = .ok (.invokestatic 156, 3) := by decide +kernel
theorem dX6_sun_183 : decode cX6_sun 183 = .ok (.istore 7, 2) := by decide +kernel
theorem dX6_sun_185 : decode cX6_sun 185 = .ok (.iload 4, 2) := by decide +kernel
theorem dX6_sun_187 : decode cX6_sun 187 = .ok (.ifCond .ne 11, 3) := by decide +kernel
theorem dX6_sun_190 : decode cX6_sun 190 = .ok (.iload 5, 2) := by decide +kernel
theorem dX6_sun_192 : decode cX6_sun 192 = .ok (.iload 7, 2) := by decide +kernel
theorem dX6_sun_194 : decode cX6_sun 194 = .ok (.idiv, 1) := by decide +kernel
theorem dX6_sun_195 : decode cX6_sun 195 = .ok (.goto 8, 3) := by decide +kernel
theorem dX6_sun_198 : decode cX6_sun 198 = .ok (.iload 6, 2) := by decide +kernel
theorem dX6_sun_200 : decode cX6_sun 200 = .ok (.iload 7, 2) := by decide +kernel
theorem dX6_sun_202 : decode cX6_sun 202 = .ok (.idiv, 1) := by decide +kernel
theorem dX6_sun_203 : decode cX6_sun 203 = .ok (.ireturn, 1) := by decide +kernel
theorem dX6_manyStates_0 : decode cX6_manyStates 0 = .ok (.aload_n 0, 1) := by decide +kernel
theorem dX6_manyStates_1 : decode cX6_manyStates 1 = .ok (.invokevirtual 118, 3) := by decide +kernel
theorem dX6_manyStates_4 : decode cX6_manyStates 4 = .ok (.iconst 0, 1) := by decide +kernel
theorem dX6_manyStates_5 : decode cX6_manyStates 5 = .ok (.istore_n 1, 1) := by decide +kernel
theorem dX6_manyStates_6 : decode cX6_manyStates 6 = .ok (.iconst 0, 1) := by decide +kernel
theorem dX6_manyStates_7 : decode cX6_manyStates 7 = .ok (.istore_n 2, 1) := by decide +kernel
theorem dX6_manyStates_8 : decode cX6_manyStates 8 = .ok (.iload_n 2, 1) := by decide +kernel
theorem dX6_manyStates_9 : decode cX6_manyStates 9 = .ok (.aload_n 0, 1) := by decide +kernel
theorem dX6_manyStates_10 : decode cX6_manyStates 10 = .ok (.invokevirtual 53, 3) := by decide +kernel
theorem dX6_manyStates_13 : decode cX6_manyStates 13 = .ok (.if_icmp .ge 27, 3) := by decide +kernel
theorem dX6_manyStates_16 : decode cX6_manyStates 16 = .ok (.iload_n 1, 1) := by decide +kernel
theorem dX6_manyStates_17 : decode cX6_manyStates 17 = .ok (.aload_n 0, 1) := by decide +kernel
theorem dX6_manyStates_18 : decode cX6_manyStates 18 = .ok (.getfield 34, 3) := by decide +kernel
theorem dX6_manyStates_21 : decode cX6_manyStates 21 = .ok (.iload_n 2, 1) := by decide +kernel
theorem dX6_manyStates_22 : decode cX6_manyStates 22 = .ok (.iaload, 1) := by decide +kernel
theorem dX6_manyStates_23 : decode cX6_manyStates 23 = .ok (.iload_n 2, 1) := by decide +kernel
theorem dX6_manyStates_24 : decode cX6_manyStates 24 = .ok (.if_icmp .ne 7, 3) := by decide +kernel
theorem dX6_manyStates_27 : decode cX6_manyStates 27 = .ok (.iconst 1, 1) := by decide +kernel
theorem dX6_manyStates_28 : decode cX6_manyStates 28 = .ok (.goto 4, 3) := by decide +kernel
theorem dX6_manyStates_31 : decode cX6_manyStates 31 = .ok (.iconst 0, 1) := by decide +kernel
theorem dX6_manyStates_32 : decode cX6_manyStates 32 = .ok (.iadd, 1) := by decide +kernel
theorem dX6_manyStates_33 : decode cX6_manyStates 33 = .ok (.istore_n 1, 1) := by decide +kernel
theorem dX6_manyStates_34 : decode cX6_manyStates 34 = .ok (.iinc 2 1, 3) := by decide +kernel
theorem dX6_manyStates_37 : decode cX6_manyStates 37 = .ok (.goto (-29), 3) := by decide +kernel
theorem dX6_manyStates_40 : decode cX6_manyStates 40 = .ok (.iload_n 1, 1) := by decide +kernel
theorem dX6_manyStates_41 : decode cX6_manyStates 41 = .ok (.ireturn, 1) := by decide +kernel
theorem dX6_year_0 : decode cX6_year 0 = .ok (.iload_n 1, 1) := by decide +kernel
theorem dX6_year_1 : decode cX6_year 1 = .ok (.iconst 0, 1) := by decide +kernel
theorem dX6_year_2 : decode cX6_year 2 = .ok (.sipush 9999, 3) := by decide +kernel
theorem dX6_year_5 : decode cX6_year 5 = .ok (.invokestatic 57, 3) := by decide +kernel
theorem dX6_year_8 : decode cX6_year 8 = .ok (.ifCond .eq 22, 3) := by decide +kernel
theorem dX6_year_11 : decode cX6_year 11 = .ok (.iload_n 2, 1) := by decide +kernel
theorem dX6_year_12 : decode cX6_year 12 = .ok (.iconst 1, 1) := by decide +kernel
theorem dX6_year_13 : decode cX6_year 13 = .ok (.bipush 30, 2) := by decide +kernel
theorem dX6_year_15 : decode cX6_year 15 = .ok (.invokestatic 57, 3) := by decide +kernel
theorem dX6_year_18 : decode cX6_year 18 = .ok (.ifCond .eq 12, 3) := by decide +kernel
theorem dX6_year_21 : decode cX6_year 21 = .ok (.iload_n 3, 1) := by decide +kernel
theorem dX6_year_22 : decode cX6_year 22 = .ok (.iconst 0, 1) := by decide +kernel
theorem dX6_year_23 : decode cX6_year 23 = .ok (.iconst 1, 1) := by decide +kernel
theorem dX6_year_24 : decode cX6_year 24 = .ok (.invokestatic 57, 3) := by decide +kernel
theorem dX6_year_27 : decode cX6_year 27 = .ok (.ifCond .ne 5, 3) := by decide +kernel
theorem dX6_year_30 : decode cX6_year 30 = .ok (.iconst (-1), 1) := by decide +kernel
theorem dX6_year_31 : decode cX6_year 31 = .ok (.ireturn, 1) := by decide +kernel
theorem dX6_year_32 : decode cX6_year 32 = .ok (.aload_n 0, 1) := by decide +kernel
theorem dX6_year_33 : decode cX6_year 33 = .ok (.invokevirtual 137, 3) := by decide +kernel
theorem dX6_year_36 : decode cX6_year 36 = .ok (.iconst 0, 1) := by decide +kernel
theorem dX6_year_37 : decode cX6_year 37 = .ok (.istore 4, 2) := by decide +kernel
theorem dX6_year_39 : decode cX6_year 39 = .ok (.iload 4, 2) := by decide +kernel
theorem dX6_year_41 : decode cX6_year 41 = .ok (.iload_n 2, 1) := by decide +kernel
theorem dX6_year_42 : decode cX6_year 42 = .ok (.if_icmp .ge 81, 3) := by decide +kernel
theorem dX6_year_45 : decode cX6_year 45 = .ok (.ldc2_w 159, 3) := by decide +kernel
theorem dX6_year_48 : decode cX6_year 48 = .ok (.iload_n 1, 1) := by decide +kernel
theorem dX6_year_49 : decode cX6_year 49 = .ok (.i2l, 1) := by decide +kernel
theorem dX6_year_50 : decode cX6_year 50 = .ok (.lmul, 1) := by decide +kernel
theorem dX6_year_51 : decode cX6_year 51 = .ok (.ldc2_w 161, 3) := by decide +kernel
theorem dX6_year_54 : decode cX6_year 54 = .ok (.iload 4, 2) := by decide +kernel
theorem dX6_year_56 : decode cX6_year 56 = .ok (.i2l, 1) := by decide +kernel
theorem dX6_year_57 : decode cX6_year 57 = .ok (.lmul, 1) := by decide +kernel
theorem dX6_year_58 : decode cX6_year 58 = .ok (.ladd, 1) := by decide +kernel
theorem dX6_year_59 : decode cX6_year 59 = .ok (.lconst 1, 1) := by decide +kernel
theorem dX6_year_60 : decode cX6_year 60 = .ok (.ladd, 1) := by decide +kernel
theorem dX6_year_61 : decode cX6_year 61 = .ok (.lstore 5, 2) := by decide +kernel
theorem dX6_year_63 : decode cX6_year 63 = .ok (.lload 5, 2) := by decide +kernel
theorem dX6_year_65 : decode cX6_year 65 = .ok (.lload 5, 2) := by decide +kernel
theorem dX6_year_67 : decode cX6_year 67 = .ok (.lmul, 1) := by decide +kernel
theorem dX6_year_68 : decode cX6_year 68 = .ok (.ldc2_w 163, 3) := by decide +kernel
theorem dX6_year_71 : decode cX6_year 71 = .ok (.lrem, 1) := by decide +kernel
theorem dX6_year_72 : decode cX6_year 72 = .ok (.l2i, 1) := by decide +kernel
theorem dX6_year_73 : decode cX6_year 73 = .ok (.bipush 8, 2) := by decide +kernel
theorem dX6_year_75 : decode cX6_year 75 = .ok (.idiv, 1) := by decide +kernel
theorem dX6_year_76 : decode cX6_year 76 = .ok (.istore 7, 2) := by decide +kernel
theorem dX6_year_78 : decode cX6_year 78 = .ok (.iload 7, 2) := by decide +kernel
theorem dX6_year_80 : decode cX6_year 80 = .ok (.iconst 4, 1) := by decide +kernel
theorem dX6_year_81 : decode cX6_year 81 = .ok (.irem, 1) := by decide +kernel
theorem dX6_year_82 : decode cX6_year 82 = .ok (.ifCond .le 11, 3) := by decide +kernel
theorem dX6_year_85 : decode cX6_year 85 = .ok (.aload_n 0, 1) := by decide +kernel
theorem dX6_year_86 : decode cX6_year 86 = .ok (.iload 7, 2) := by decide +kernel
theorem dX6_year_88 : decode cX6_year 88 = .ok (.iconst 4, 1) := by decide +kernel
theorem dX6_year_89 : decode cX6_year 89 = .ok (.irem, 1) := by decide +kernel
theorem dX6_year_90 : decode cX6_year 90 = .ok (.invokevirtual 127, 3) := by decide +kernel
theorem dX6_year_93 : decode cX6_year 93 = .ok (.iconst 0, 1) := by decide +kernel
theorem dX6_year_94 : decode cX6_year 94 = .ok (.istore 8, 2) := by decide +kernel
theorem dX6_year_96 : decode cX6_year 96 = .ok (.iload 8, 2) := by decide +kernel
theorem dX6_year_98 : decode cX6_year 98 = .ok (.iload 7, 2) := by decide +kernel
theorem dX6_year_100 : decode cX6_year 100 = .ok (.iconst 4, 1) := by decide +kernel
theorem dX6_year_101 : decode cX6_year 101 = .ok (.idiv, 1) := by decide +kernel
theorem dX6_year_102 : decode cX6_year 102 = .ok (.iconst 4, 1) := by decide +kernel
theorem dX6_year_103 : decode cX6_year 103 = .ok (.irem, 1) := by decide +kernel
theorem dX6_year_104 : decode cX6_year 104 = .ok (.if_icmp .ge 13, 3) := by decide +kernel
theorem dX6_year_107 : decode cX6_year 107 = .ok (.aload_n 0, 1) := by decide +kernel
theorem dX6_year_108 : decode cX6_year 108 = .ok (.invokevirtual 134, 3) := by decide +kernel
theorem dX6_year_111 : decode cX6_year 111 = .ok (.iinc 8 1, 3) := by decide +kernel
theorem dX6_year_114 : decode cX6_year 114 = .ok (.goto (-18), 3) := by decide +kernel
theorem dX6_year_117 : decode cX6_year 117 = .ok (.iinc 4 1, 3) := by decide +kernel
theorem dX6_year_120 : decode cX6_year 120 = .ok (.goto (-81), 3) := by decide +kernel
theorem dX6_year_123 : decode cX6_year 123 = .ok (.iload_n 3, 1) := by decide +kernel
theorem dX6_year_124 : decode cX6_year 124 = .ok (.ifCond .ne 10, 3) := by decide +kernel
theorem dX6_year_127 : decode cX6_year 127 = .ok (.aload_n 0, 1) := by decide +kernel
theorem dX6_year_128 : decode cX6_year 128 = .ok (.invokevirtual 165, 3) := by decide +kernel
theorem dX6_year_131 : decode cX6_year 131 = .ok (.goto 7, 3) := by decide +kernel
theorem dX6_year_134 : decode cX6_year 134 = .ok (.aload_n 0, 1) := by decide +kernel
theorem dX6_year_135 : decode cX6_year 135 = .ok (.invokevirtual 131, 3) := by decide +kernel
theorem dX6_year_138 : decode cX6_year 138 = .ok (.istore 4, 2) := by decide +kernel
theorem dX6_year_140 : decode cX6_year 140 = .ok (.aload_n 0, 1) := by decide +kernel
theorem dX6_year_141 : decode cX6_year 141 = .ok (.invokevirtual 140, 3) := by decide +kernel
theorem dX6_year_144 : decode cX6_year 144 = .ok (.iload 4, 2) := by decide +kernel
theorem dX6_year_146 : decode cX6_year 146 = .ok (.ireturn, 1) := by decide +kernel
theorem dX6_keep_0 : decode cX6_keep 0 = .ok (.aload_n 0, 1) := by decide +kernel
theorem dX6_keep_1 : decode cX6_keep 1 = .ok (.getfield 92, 3) := by decide +kernel
theorem dX6_keep_4 : decode cX6_keep 4 = .ok (.iconst 2, 1) := by decide +kernel
theorem dX6_keep_5 : decode cX6_keep 5 = .ok (.if_icmp .ne 6, 3) := by decide +kernel
theorem dX6_keep_8 : decode cX6_keep 8 = .ok (.bipush (-3), 2) := by decide +kernel
theorem dX6_keep_10 : decode cX6_keep 10 = .ok (.ireturn, 1) := by decide +kernel
theorem dX6_keep_11 : decode cX6_keep 11 = .ok (.iconst 0, 1) := by decide +kernel
theorem dX6_keep_12 : decode cX6_keep 12 = .ok (.istore_n 1, 1) := by decide +kernel
theorem dX6_keep_13 : decode cX6_keep 13 = .ok (.iload_n 1, 1) := by decide +kernel
theorem dX6_keep_14 : decode cX6_keep 14 = .ok (.bipush 73, 2) := by decide +kernel
theorem dX6_keep_16 : decode cX6_keep 16 = .ok (.if_icmp .ge 29, 3) := by decide +kernel
theorem dX6_keep_19 : decode cX6_keep 19 = .ok (.aload_n 0, 1) := by decide +kernel
theorem dX6_keep_20 : decode cX6_keep 20 = .ok (.getfield 28, 3) := by decide +kernel
theorem dX6_keep_23 : decode cX6_keep 23 = .ok (.bipush 73, 2) := by decide +kernel
theorem dX6_keep_25 : decode cX6_keep 25 = .ok (.aload_n 0, 1) := by decide +kernel
theorem dX6_keep_26 : decode cX6_keep 26 = .ok (.getfield 92, 3) := by decide +kernel
theorem dX6_keep_29 : decode cX6_keep 29 = .ok (.imul, 1) := by decide +kernel
theorem dX6_keep_30 : decode cX6_keep 30 = .ok (.iload_n 1, 1) := by decide +kernel
theorem dX6_keep_31 : decode cX6_keep 31 = .ok (.iadd, 1) := by decide +kernel
theorem dX6_keep_32 : decode cX6_keep 32 = .ok (.aload_n 0, 1) := by decide +kernel
theorem dX6_keep_33 : decode cX6_keep 33 = .ok (.getfield 22, 3) := by decide +kernel
theorem dX6_keep_36 : decode cX6_keep 36 = .ok (.iload_n 1, 1) := by decide +kernel
theorem dX6_keep_37 : decode cX6_keep 37 = .ok (.iaload, 1) := by decide +kernel
theorem dX6_keep_38 : decode cX6_keep 38 = .ok (.iastore, 1) := by decide +kernel
theorem dX6_keep_39 : decode cX6_keep 39 = .ok (.iinc 1 1, 3) := by decide +kernel
theorem dX6_keep_42 : decode cX6_keep 42 = .ok (.goto (-29), 3) := by decide +kernel
theorem dX6_keep_45 : decode cX6_keep 45 = .ok (.aload_n 0, 1) := by decide +kernel
theorem dX6_keep_46 : decode cX6_keep 46 = .ok (.dup, 1) := by decide +kernel
theorem dX6_keep_47 : decode cX6_keep 47 = .ok (.getfield 92, 3) := by decide +kernel
theorem dX6_keep_50 : decode cX6_keep 50 = .ok (.iconst 1, 1) := by decide +kernel
theorem dX6_keep_51 : decode cX6_keep 51 = .ok (.iadd, 1) := by decide +kernel
theorem dX6_keep_52 : decode cX6_keep 52 = .ok (.putfield 92, 3) := by decide +kernel
theorem dX6_keep_55 : decode cX6_keep 55 = .ok (.aload_n 0, 1) := by decide +kernel
theorem dX6_keep_56 : decode cX6_keep 56 = .ok (.getfield 92, 3) := by decide +kernel
theorem dX6_keep_59 : decode cX6_keep 59 = .ok (.ireturn, 1) := by decide +kernel
theorem dX6_back_0 : decode cX6_back 0 = .ok (.aload_n 0, 1) := by decide +kernel
theorem dX6_back_1 : decode cX6_back 1 = .ok (.getfield 92, 3) := by decide +kernel
theorem dX6_back_4 : decode cX6_back 4 = .ok (.ifCond .ne 6, 3) := by decide +kernel
theorem dX6_back_7 : decode cX6_back 7 = .ok (.bipush (-2), 2) := by decide +kernel
theorem dX6_back_9 : decode cX6_back 9 = .ok (.ireturn, 1) := by decide +kernel
theorem dX6_back_10 : decode cX6_back 10 = .ok (.aload_n 0, 1) := by decide +kernel
theorem dX6_back_11 : decode cX6_back 11 = .ok (.dup, 1) := by decide +kernel
theorem dX6_back_12 : decode cX6_back 12 = .ok (.getfield 92, 3) := by decide +kernel
theorem dX6_back_15 : decode cX6_back 15 = .ok (.iconst 1, 1) := by decide +kernel
theorem dX6_back_16 : decode cX6_back 16 = .ok (.isub, 1) := by decide +kernel
theorem dX6_back_17 : decode cX6_back 17 = .ok (.putfield 92, 3) := by decide +kernel
theorem dX6_back_20 : decode cX6_back 20 = .ok (.iconst 0, 1) := by decide +kernel
theorem dX6_back_21 : decode cX6_back 21 = .ok (.istore_n 1, 1) := by decide +kernel
theorem dX6_back_22 : decode cX6_back 22 = .ok (.iload_n 1, 1) := by decide +kernel
theorem dX6_back_23 : decode cX6_back 23 = .ok (.bipush 73, 2) := by decide +kernel
theorem dX6_back_25 : decode cX6_back 25 = .ok (.if_icmp .ge 29, 3) := by decide +kernel
theorem dX6_back_28 : decode cX6_back 28 = .ok (.aload_n 0, 1) := by decide +kernel
theorem dX6_back_29 : decode cX6_back 29 = .ok (.getfield 22, 3) := by decide +kernel
theorem dX6_back_32 : decode cX6_back 32 = .ok (.iload_n 1, 1) := by decide +kernel
theorem dX6_back_33 : decode cX6_back 33 = .ok (.aload_n 0, 1) := by decide +kernel
theorem dX6_back_34 : decode cX6_back 34 = .ok (.getfield 28, 3) := by decide +kernel
theorem dX6_back_37 : decode cX6_back 37 = .ok (.bipush 73, 2) := by decide +kernel
theorem dX6_back_39 : decode cX6_back 39 = .ok (.aload_n 0, 1) := by decide +kernel
theorem dX6_back_40 : decode cX6_back 40 = .ok (.getfield 92, 3) := by decide +kernel
theorem dX6_back_43 : decode cX6_back 43 = .ok (.imul, 1) := by decide +kernel
theorem dX6_back_44 : decode cX6_back 44 = .ok (.iload_n 1, 1) := by decide +kernel
theorem dX6_back_45 : decode cX6_back 45 = .ok (.iadd, 1) := by decide +kernel
theorem dX6_back_46 : decode cX6_back 46 = .ok (.iaload, 1) := by decide +kernel
theorem dX6_back_47 : decode cX6_back 47 = .ok (.iastore, 1) := by decide +kernel
theorem dX6_back_48 : decode cX6_back 48 = .ok (.iinc 1 1, 3) := by decide +kernel
theorem dX6_back_51 : decode cX6_back 51 = .ok (.goto (-29), 3) := by decide +kernel
theorem dX6_back_54 : decode cX6_back 54 = .ok (.aload_n 0, 1) := by decide +kernel
theorem dX6_back_55 : decode cX6_back 55 = .ok (.iconst 0, 1) := by decide +kernel
theorem dX6_back_56 : decode cX6_back 56 = .ok (.putfield 89, 3) := by decide +kernel
theorem dX6_back_59 : decode cX6_back 59 = .ok (.aload_n 0, 1) := by decide +kernel
theorem dX6_back_60 : decode cX6_back 60 = .ok (.getfield 92, 3) := by decide +kernel
theorem dX6_back_63 : decode cX6_back 63 = .ok (.ireturn, 1) := by decide +kernel
theorem dX6_count_0 : decode cX6_count 0 = .ok (.iload_n 1, 1) := by decide +kernel
theorem dX6_count_1 : decode cX6_count 1 = .ok (.tableswitch 110 0 9 #[55, 60, 67, 72, 77, 82, 90, 95, 100, 105], 55) := by decide +kernel
theorem dX6_count_56 : decode cX6_count 56 = .ok (.aload_n 0, 1) := by decide +kernel
theorem dX6_count_57 : decode cX6_count 57 = .ok (.invokevirtual 53, 3) := by decide +kernel
theorem dX6_count_60 : decode cX6_count 60 = .ok (.ireturn, 1) := by decide +kernel
theorem dX6_count_61 : decode cX6_count 61 = .ok (.aload_n 0, 1) := by decide +kernel
theorem dX6_count_62 : decode cX6_count 62 = .ok (.getfield 13, 3) := by decide +kernel
theorem dX6_count_65 : decode cX6_count 65 = .ok (.iconst 0, 1) := by decide +kernel
theorem dX6_count_66 : decode cX6_count 66 = .ok (.iaload, 1) := by decide +kernel
theorem dX6_count_67 : decode cX6_count 67 = .ok (.ireturn, 1) := by decide +kernel
theorem dX6_count_68 : decode cX6_count 68 = .ok (.aload_n 0, 1) := by decide +kernel
theorem dX6_count_69 : decode cX6_count 69 = .ok (.invokevirtual 153, 3) := by decide +kernel
theorem dX6_count_72 : decode cX6_count 72 = .ok (.ireturn, 1) := by decide +kernel
theorem dX6_count_73 : decode cX6_count 73 = .ok (.aload_n 0, 1) := by decide +kernel
theorem dX6_count_74 : decode cX6_count 74 = .ok (.invokevirtual 165, 3) := by decide +kernel
theorem dX6_count_77 : decode cX6_count 77 = .ok (.ireturn, 1) := by decide +kernel
theorem dX6_count_78 : decode cX6_count 78 = .ok (.aload_n 0, 1) := by decide +kernel
theorem dX6_count_79 : decode cX6_count 79 = .ok (.invokevirtual 131, 3) := by decide +kernel
theorem dX6_count_82 : decode cX6_count 82 = .ok (.ireturn, 1) := by decide +kernel
theorem dX6_count_83 : decode cX6_count 83 = .ok (.aload_n 0, 1) := by decide +kernel
theorem dX6_count_84 : decode cX6_count 84 = .ok (.getfield 22, 3) := by decide +kernel
theorem dX6_count_87 : decode cX6_count 87 = .ok (.bipush 72, 2) := by decide +kernel
theorem dX6_count_89 : decode cX6_count 89 = .ok (.iaload, 1) := by decide +kernel
theorem dX6_count_90 : decode cX6_count 90 = .ok (.ireturn, 1) := by decide +kernel
theorem dX6_count_91 : decode cX6_count 91 = .ok (.aload_n 0, 1) := by decide +kernel
theorem dX6_count_92 : decode cX6_count 92 = .ok (.getfield 95, 3) := by decide +kernel
theorem dX6_count_95 : decode cX6_count 95 = .ok (.ireturn, 1) := by decide +kernel
theorem dX6_count_96 : decode cX6_count 96 = .ok (.aload_n 0, 1) := by decide +kernel
theorem dX6_count_97 : decode cX6_count 97 = .ok (.getfield 89, 3) := by decide +kernel
theorem dX6_count_100 : decode cX6_count 100 = .ok (.ireturn, 1) := by decide +kernel
theorem dX6_count_101 : decode cX6_count 101 = .ok (.aload_n 0, 1) := by decide +kernel
theorem dX6_count_102 : decode cX6_count 102 = .ok (.getfield 92, 3) := by decide +kernel
theorem dX6_count_105 : decode cX6_count 105 = .ok (.ireturn, 1) := by decide +kernel
theorem dX6_count_106 : decode cX6_count 106 = .ok (.aload_n 0, 1) := by decide +kernel
theorem dX6_count_107 : decode cX6_count 107 = .ok (.getfield 61, 3) := by decide +kernel
theorem dX6_count_110 : decode cX6_count 110 = .ok (.ireturn, 1) := by decide +kernel
theorem dX6_count_111 : decode cX6_count 111 = .ok (.iconst (-1), 1) := by decide +kernel
theorem dX6_count_112 : decode cX6_count 112 = .ok (.ireturn, 1) := by decide +kernel
theorem dJ6_bitCount_0f7a4_0 : decode cJ6_bitCount_0f7a4 0 = .ok (.iload_n 0, 1) := by decide +kernel
theorem dJ6_bitCount_0f7a4_1 : decode cJ6_bitCount_0f7a4 1 = .ok (.iload_n 0, 1) := by decide +kernel
theorem dJ6_bitCount_0f7a4_2 : decode cJ6_bitCount_0f7a4 2 = .ok (.iconst 1, 1) := by decide +kernel
theorem dJ6_bitCount_0f7a4_3 : decode cJ6_bitCount_0f7a4 3 = .ok (.iushr, 1) := by decide +kernel
theorem dJ6_bitCount_0f7a4_4 : decode cJ6_bitCount_0f7a4 4 = .ok (.ldc_w 265, 3) := by decide +kernel
theorem dJ6_bitCount_0f7a4_7 : decode cJ6_bitCount_0f7a4 7 = .ok (.iand, 1) := by decide +kernel
theorem dJ6_bitCount_0f7a4_8 : decode cJ6_bitCount_0f7a4 8 = .ok (.isub, 1) := by decide +kernel
theorem dJ6_bitCount_0f7a4_9 : decode cJ6_bitCount_0f7a4 9 = .ok (.istore_n 0, 1) := by decide +kernel
theorem dJ6_bitCount_0f7a4_10 : decode cJ6_bitCount_0f7a4 10 = .ok (.iload_n 0, 1) := by decide +kernel
theorem dJ6_bitCount_0f7a4_11 : decode cJ6_bitCount_0f7a4 11 = .ok (.ldc_w 266, 3) := by decide +kernel
theorem dJ6_bitCount_0f7a4_14 : decode cJ6_bitCount_0f7a4 14 = .ok (.iand, 1) := by decide +kernel
theorem dJ6_bitCount_0f7a4_15 : decode cJ6_bitCount_0f7a4 15 = .ok (.iload_n 0, 1) := by decide +kernel
theorem dJ6_bitCount_0f7a4_16 : decode cJ6_bitCount_0f7a4 16 = .ok (.iconst 2, 1) := by decide +kernel
theorem dJ6_bitCount_0f7a4_17 : decode cJ6_bitCount_0f7a4 17 = .ok (.iushr, 1) := by decide +kernel
theorem dJ6_bitCount_0f7a4_18 : decode cJ6_bitCount_0f7a4 18 = .ok (.ldc_w 266, 3) := by decide +kernel
theorem dJ6_bitCount_0f7a4_21 : decode cJ6_bitCount_0f7a4 21 = .ok (.iand, 1) := by decide +kernel
theorem dJ6_bitCount_0f7a4_22 : decode cJ6_bitCount_0f7a4 22 = .ok (.iadd, 1) := by decide +kernel
theorem dJ6_bitCount_0f7a4_23 : decode cJ6_bitCount_0f7a4 23 = .ok (.istore_n 0, 1) := by decide +kernel
theorem dJ6_bitCount_0f7a4_24 : decode cJ6_bitCount_0f7a4 24 = .ok (.iload_n 0, 1) := by decide +kernel
theorem dJ6_bitCount_0f7a4_25 : decode cJ6_bitCount_0f7a4 25 = .ok (.iload_n 0, 1) := by decide +kernel
theorem dJ6_bitCount_0f7a4_26 : decode cJ6_bitCount_0f7a4 26 = .ok (.iconst 4, 1) := by decide +kernel
theorem dJ6_bitCount_0f7a4_27 : decode cJ6_bitCount_0f7a4 27 = .ok (.iushr, 1) := by decide +kernel
theorem dJ6_bitCount_0f7a4_28 : decode cJ6_bitCount_0f7a4 28 = .ok (.iadd, 1) := by decide +kernel
theorem dJ6_bitCount_0f7a4_29 : decode cJ6_bitCount_0f7a4 29 = .ok (.ldc_w 267, 3) := by decide +kernel
theorem dJ6_bitCount_0f7a4_32 : decode cJ6_bitCount_0f7a4 32 = .ok (.iand, 1) := by decide +kernel
theorem dJ6_bitCount_0f7a4_33 : decode cJ6_bitCount_0f7a4 33 = .ok (.istore_n 0, 1) := by decide +kernel
theorem dJ6_bitCount_0f7a4_34 : decode cJ6_bitCount_0f7a4 34 = .ok (.iload_n 0, 1) := by decide +kernel
theorem dJ6_bitCount_0f7a4_35 : decode cJ6_bitCount_0f7a4 35 = .ok (.iload_n 0, 1) := by decide +kernel
theorem dJ6_bitCount_0f7a4_36 : decode cJ6_bitCount_0f7a4 36 = .ok (.bipush 8, 2) := by decide +kernel
theorem dJ6_bitCount_0f7a4_38 : decode cJ6_bitCount_0f7a4 38 = .ok (.iushr, 1) := by decide +kernel
theorem dJ6_bitCount_0f7a4_39 : decode cJ6_bitCount_0f7a4 39 = .ok (.iadd, 1) := by decide +kernel
theorem dJ6_bitCount_0f7a4_40 : decode cJ6_bitCount_0f7a4 40 = .ok (.istore_n 0, 1) := by decide +kernel
theorem dJ6_bitCount_0f7a4_41 : decode cJ6_bitCount_0f7a4 41 = .ok (.iload_n 0, 1) := by decide +kernel
theorem dJ6_bitCount_0f7a4_42 : decode cJ6_bitCount_0f7a4 42 = .ok (.iload_n 0, 1) := by decide +kernel
theorem dJ6_bitCount_0f7a4_43 : decode cJ6_bitCount_0f7a4 43 = .ok (.bipush 16, 2) := by decide +kernel
theorem dJ6_bitCount_0f7a4_45 : decode cJ6_bitCount_0f7a4 45 = .ok (.iushr, 1) := by decide +kernel
theorem dJ6_bitCount_0f7a4_46 : decode cJ6_bitCount_0f7a4 46 = .ok (.iadd, 1) := by decide +kernel
theorem dJ6_bitCount_0f7a4_47 : decode cJ6_bitCount_0f7a4 47 = .ok (.istore_n 0, 1) := by decide +kernel
theorem dJ6_bitCount_0f7a4_48 : decode cJ6_bitCount_0f7a4 48 = .ok (.iload_n 0, 1) := by decide +kernel
theorem dJ6_bitCount_0f7a4_49 : decode cJ6_bitCount_0f7a4 49 = .ok (.bipush 63, 2) := by decide +kernel
theorem dJ6_bitCount_0f7a4_51 : decode cJ6_bitCount_0f7a4 51 = .ok (.iand, 1) := by decide +kernel
theorem dJ6_bitCount_0f7a4_52 : decode cJ6_bitCount_0f7a4 52 = .ok (.ireturn, 1) := by decide +kernel
theorem dJ9_max_7cf53_0 : decode cJ9_max_7cf53 0 = .ok (.iload_n 0, 1) := by decide +kernel
theorem dJ9_max_7cf53_1 : decode cJ9_max_7cf53 1 = .ok (.iload_n 1, 1) := by decide +kernel
theorem dJ9_max_7cf53_2 : decode cJ9_max_7cf53 2 = .ok (.if_icmp .lt 7, 3) := by decide +kernel
theorem dJ9_max_7cf53_5 : decode cJ9_max_7cf53 5 = .ok (.iload_n 0, 1) := by decide +kernel
theorem dJ9_max_7cf53_6 : decode cJ9_max_7cf53 6 = .ok (.goto 4, 3) := by decide +kernel
theorem dJ9_max_7cf53_9 : decode cJ9_max_7cf53 9 = .ok (.iload_n 1, 1) := by decide +kernel
theorem dJ9_max_7cf53_10 : decode cJ9_max_7cf53 10 = .ok (.ireturn, 1) := by decide +kernel
theorem dJ9_min_7cf53_0 : decode cJ9_min_7cf53 0 = .ok (.iload_n 0, 1) := by decide +kernel
theorem dJ9_min_7cf53_1 : decode cJ9_min_7cf53 1 = .ok (.iload_n 1, 1) := by decide +kernel
theorem dJ9_min_7cf53_2 : decode cJ9_min_7cf53 2 = .ok (.if_icmp .gt 7, 3) := by decide +kernel
theorem dJ9_min_7cf53_5 : decode cJ9_min_7cf53 5 = .ok (.iload_n 0, 1) := by decide +kernel
theorem dJ9_min_7cf53_6 : decode cJ9_min_7cf53 6 = .ok (.goto 4, 3) := by decide +kernel
theorem dJ9_min_7cf53_9 : decode cJ9_min_7cf53 9 = .ok (.iload_n 1, 1) := by decide +kernel
theorem dJ9_min_7cf53_10 : decode cJ9_min_7cf53 10 = .ok (.ireturn, 1) := by decide +kernel
theorem dJ0_length_8abf5_0 : decode cJ0_length_8abf5 0 = .ok (.aload_n 0, 1) := by decide +kernel
theorem dJ0_length_8abf5_1 : decode cJ0_length_8abf5 1 = .ok (.getfield 9, 3) := by decide +kernel
theorem dJ0_length_8abf5_4 : decode cJ0_length_8abf5 4 = .ok (.arraylength, 1) := by decide +kernel
theorem dJ0_length_8abf5_5 : decode cJ0_length_8abf5 5 = .ok (.aload_n 0, 1) := by decide +kernel
theorem dJ0_length_8abf5_6 : decode cJ0_length_8abf5 6 = .ok (.invokevirtual 335, 3) := by decide +kernel
theorem dJ0_length_8abf5_9 : decode cJ0_length_8abf5 9 = .ok (.ishr, 1) := by decide +kernel
theorem dJ0_length_8abf5_10 : decode cJ0_length_8abf5 10 = .ok (.ireturn, 1) := by decide +kernel
theorem dJ0_charAt_5068e_0 : decode cJ0_charAt_5068e 0 = .ok (.aload_n 0, 1) := by decide +kernel
theorem dJ0_charAt_5068e_1 : decode cJ0_charAt_5068e 1 = .ok (.invokevirtual 492, 3) := by decide +kernel
theorem dJ0_charAt_5068e_4 : decode cJ0_charAt_5068e 4 = .ok (.ifCond .eq 12, 3) := by decide +kernel
theorem dJ0_charAt_5068e_7 : decode cJ0_charAt_5068e 7 = .ok (.aload_n 0, 1) := by decide +kernel
theorem dJ0_charAt_5068e_8 : decode cJ0_charAt_5068e 8 = .ok (.getfield 9, 3) := by decide +kernel
theorem dJ0_charAt_5068e_11 : decode cJ0_charAt_5068e 11 = .ok (.iload_n 1, 1) := by decide +kernel
theorem dJ0_charAt_5068e_12 : decode cJ0_charAt_5068e 12 = .ok (.invokestatic 495, 3) := by decide +kernel
theorem dJ0_charAt_5068e_15 : decode cJ0_charAt_5068e 15 = .ok (.ireturn, 1) := by decide +kernel
theorem dJ0_charAt_5068e_16 : decode cJ0_charAt_5068e 16 = .ok (.aload_n 0, 1) := by decide +kernel
theorem dJ0_charAt_5068e_17 : decode cJ0_charAt_5068e 17 = .ok (.getfield 9, 3) := by decide +kernel
theorem dJ0_charAt_5068e_20 : decode cJ0_charAt_5068e 20 = .ok (.iload_n 1, 1) := by decide +kernel
theorem dJ0_charAt_5068e_21 : decode cJ0_charAt_5068e 21 = .ok (.invokestatic 498, 3) := by decide +kernel
theorem dJ0_charAt_5068e_24 : decode cJ0_charAt_5068e 24 = .ok (.ireturn, 1) := by decide +kernel
theorem dJ0_coder_7d493_0 : decode cJ0_coder_7d493 0 = .ok (.getstatic 38, 3) := by decide +kernel
theorem dJ0_coder_7d493_3 : decode cJ0_coder_7d493 3 = .ok (.ifCond .eq 10, 3) := by decide +kernel
theorem dJ0_coder_7d493_6 : decode cJ0_coder_7d493 6 = .ok (.aload_n 0, 1) := by decide +kernel
theorem dJ0_coder_7d493_7 : decode cJ0_coder_7d493 7 = .ok (.getfield 15, 3) := by decide +kernel
theorem dJ0_coder_7d493_10 : decode cJ0_coder_7d493 10 = .ok (.goto 4, 3) := by decide +kernel
theorem dJ0_coder_7d493_13 : decode cJ0_coder_7d493 13 = .ok (.iconst 1, 1) := by decide +kernel
theorem dJ0_coder_7d493_14 : decode cJ0_coder_7d493 14 = .ok (.ireturn, 1) := by decide +kernel
theorem dJ0_isLatin1_aae02_0 : decode cJ0_isLatin1_aae02 0 = .ok (.getstatic 38, 3) := by decide +kernel
theorem dJ0_isLatin1_aae02_3 : decode cJ0_isLatin1_aae02 3 = .ok (.ifCond .eq 14, 3) := by decide +kernel
theorem dJ0_isLatin1_aae02_6 : decode cJ0_isLatin1_aae02 6 = .ok (.aload_n 0, 1) := by decide +kernel
theorem dJ0_isLatin1_aae02_7 : decode cJ0_isLatin1_aae02 7 = .ok (.getfield 15, 3) := by decide +kernel
theorem dJ0_isLatin1_aae02_10 : decode cJ0_isLatin1_aae02 10 = .ok (.ifCond .ne 7, 3) := by decide +kernel
theorem dJ0_isLatin1_aae02_13 : decode cJ0_isLatin1_aae02 13 = .ok (.iconst 1, 1) := by decide +kernel
theorem dJ0_isLatin1_aae02_14 : decode cJ0_isLatin1_aae02 14 = .ok (.goto 4, 3) := by decide +kernel
theorem dJ0_isLatin1_aae02_17 : decode cJ0_isLatin1_aae02 17 = .ok (.iconst 0, 1) := by decide +kernel
theorem dJ0_isLatin1_aae02_18 : decode cJ0_isLatin1_aae02 18 = .ok (.ireturn, 1) := by decide +kernel
theorem dJ0_checkIndex_df160_0 : decode cJ0_checkIndex_df160 0 = .ok (.iload_n 0, 1) := by decide +kernel
theorem dJ0_checkIndex_df160_1 : decode cJ0_checkIndex_df160 1 = .ok (.iload_n 1, 1) := by decide +kernel
theorem dJ0_checkIndex_df160_2 : decode cJ0_checkIndex_df160 2 = .ok (.getstatic 1053, 3) := by decide +kernel
theorem dJ0_checkIndex_df160_5 : decode cJ0_checkIndex_df160 5 = .ok (.invokestatic 1059, 3) := by decide +kernel
theorem dJ0_checkIndex_df160_8 : decode cJ0_checkIndex_df160 8 = .ok (.pop, 1) := by decide +kernel
theorem dJ0_checkIndex_df160_9 : decode cJ0_checkIndex_df160 9 = .ok (.return_, 1) := by decide +kernel
theorem dJ1_charAt_3b067_0 : decode cJ1_charAt_3b067 0 = .ok (.iload_n 1, 1) := by decide +kernel
theorem dJ1_charAt_3b067_1 : decode cJ1_charAt_3b067 1 = .ok (.aload_n 0, 1) := by decide +kernel
theorem dJ1_charAt_3b067_2 : decode cJ1_charAt_3b067 2 = .ok (.arraylength, 1) := by decide +kernel
theorem dJ1_charAt_3b067_3 : decode cJ1_charAt_3b067 3 = .ok (.invokestatic 9, 3) := by decide +kernel
theorem dJ1_charAt_3b067_6 : decode cJ1_charAt_3b067 6 = .ok (.aload_n 0, 1) := by decide +kernel
theorem dJ1_charAt_3b067_7 : decode cJ1_charAt_3b067 7 = .ok (.iload_n 1, 1) := by decide +kernel
theorem dJ1_charAt_3b067_8 : decode cJ1_charAt_3b067 8 = .ok (.baload, 1) := by decide +kernel
theorem dJ1_charAt_3b067_9 : decode cJ1_charAt_3b067 9 = .ok (.sipush 255, 3) := by decide +kernel
theorem dJ1_charAt_3b067_12 : decode cJ1_charAt_3b067 12 = .ok (.iand, 1) := by decide +kernel
theorem dJ1_charAt_3b067_13 : decode cJ1_charAt_3b067 13 = .ok (.i2c, 1) := by decide +kernel
theorem dJ1_charAt_3b067_14 : decode cJ1_charAt_3b067 14 = .ok (.ireturn, 1) := by decide +kernel
theorem dJ2_getChar_3b067_0 : decode cJ2_getChar_3b067 0 = .ok (.getstatic 44, 3) := by decide +kernel
theorem dJ2_getChar_3b067_3 : decode cJ2_getChar_3b067 3 = .ok (.ifCond .ne 25, 3) := by decide +kernel
theorem dJ2_getChar_3b067_6 : decode cJ2_getChar_3b067 6 = .ok (.iload_n 1, 1) := by decide +kernel
theorem dJ2_getChar_3b067_7 : decode cJ2_getChar_3b067 7 = .ok (.ifCond .lt 11, 3) := by decide +kernel
theorem dJ2_getChar_3b067_10 : decode cJ2_getChar_3b067 10 = .ok (.iload_n 1, 1) := by decide +kernel
theorem dJ2_getChar_3b067_11 : decode cJ2_getChar_3b067 11 = .ok (.aload_n 0, 1) := by decide +kernel
theorem dJ2_getChar_3b067_12 : decode cJ2_getChar_3b067 12 = .ok (.invokestatic 48, 3) := by decide +kernel
theorem dJ2_getChar_3b067_15 : decode cJ2_getChar_3b067 15 = .ok (.if_icmp .lt 13, 3) := by decide +kernel
theorem dJ2_getChar_3b067_18 : decode cJ2_getChar_3b067 18 = .ok (.new 52, 3) := by decide +kernel
theorem dJ2_getChar_3b067_21 : decode cJ2_getChar_3b067 21 = .ok (.dup, 1) := by decide +kernel
theorem dJ2_getChar_3b067_22 : decode cJ2_getChar_3b067 22 = .ok (.ldc 54, 2) := by decide +kernel
theorem dJ2_getChar_3b067_24 : decode cJ2_getChar_3b067 24 = .ok (.invokespecial 56, 3) := by decide +kernel
theorem dJ2_getChar_3b067_27 : decode cJ2_getChar_3b067 27 = .ok (.athrow, 1) := by decide +kernel
theorem dJ2_getChar_3b067_28 : decode cJ2_getChar_3b067 28 = .ok (.iload_n 1, 1) := by decide +kernel
theorem dJ2_getChar_3b067_29 : decode cJ2_getChar_3b067 29 = .ok (.iconst 1, 1) := by decide +kernel
theorem dJ2_getChar_3b067_30 : decode cJ2_getChar_3b067 30 = .ok (.ishl, 1) := by decide +kernel
theorem dJ2_getChar_3b067_31 : decode cJ2_getChar_3b067 31 = .ok (.istore_n 1, 1) := by decide +kernel
theorem dJ2_getChar_3b067_32 : decode cJ2_getChar_3b067 32 = .ok (.aload_n 0, 1) := by decide +kernel
theorem dJ2_getChar_3b067_33 : decode cJ2_getChar_3b067 33 = .ok (.iload_n 1, 1) := by decide +kernel
theorem dJ2_getChar_3b067_34 : decode cJ2_getChar_3b067 34 = .ok (.iinc 1 1, 3) := by decide +kernel
theorem dJ2_getChar_3b067_37 : decode cJ2_getChar_3b067 37 = .ok (.baload, 1) := by decide +kernel
theorem dJ2_getChar_3b067_38 : decode cJ2_getChar_3b067 38 = .ok (.sipush 255, 3) := by decide +kernel
theorem dJ2_getChar_3b067_41 : decode cJ2_getChar_3b067 41 = .ok (.iand, 1) := by decide +kernel
theorem dJ2_getChar_3b067_42 : decode cJ2_getChar_3b067 42 = .ok (.getstatic 59, 3) := by decide +kernel
theorem dJ2_getChar_3b067_45 : decode cJ2_getChar_3b067 45 = .ok (.ishl, 1) := by decide +kernel
theorem dJ2_getChar_3b067_46 : decode cJ2_getChar_3b067 46 = .ok (.aload_n 0, 1) := by decide +kernel
theorem dJ2_getChar_3b067_47 : decode cJ2_getChar_3b067 47 = .ok (.iload_n 1, 1) := by decide +kernel
theorem dJ2_getChar_3b067_48 : decode cJ2_getChar_3b067 48 = .ok (.baload, 1) := by decide +kernel
theorem dJ2_getChar_3b067_49 : decode cJ2_getChar_3b067 49 = .ok (.sipush 255, 3) := by decide +kernel
theorem dJ2_getChar_3b067_52 : decode cJ2_getChar_3b067 52 = .ok (.iand, 1) := by decide +kernel
theorem dJ2_getChar_3b067_53 : decode cJ2_getChar_3b067 53 = .ok (.getstatic 63, 3) := by decide +kernel
theorem dJ2_getChar_3b067_56 : decode cJ2_getChar_3b067 56 = .ok (.ishl, 1) := by decide +kernel
theorem dJ2_getChar_3b067_57 : decode cJ2_getChar_3b067 57 = .ok (.ior, 1) := by decide +kernel
theorem dJ2_getChar_3b067_58 : decode cJ2_getChar_3b067 58 = .ok (.i2c, 1) := by decide +kernel
theorem dJ2_getChar_3b067_59 : decode cJ2_getChar_3b067 59 = .ok (.ireturn, 1) := by decide +kernel
theorem dJ2_length_9d52b_0 : decode cJ2_length_9d52b 0 = .ok (.aload_n 0, 1) := by decide +kernel
theorem dJ2_length_9d52b_1 : decode cJ2_length_9d52b 1 = .ok (.arraylength, 1) := by decide +kernel
theorem dJ2_length_9d52b_2 : decode cJ2_length_9d52b 2 = .ok (.iconst 1, 1) := by decide +kernel
theorem dJ2_length_9d52b_3 : decode cJ2_length_9d52b 3 = .ok (.ishr, 1) := by decide +kernel
theorem dJ2_length_9d52b_4 : decode cJ2_length_9d52b 4 = .ok (.ireturn, 1) := by decide +kernel
theorem dJ2_charAt_3b067_0 : decode cJ2_charAt_3b067 0 = .ok (.iload_n 1, 1) := by decide +kernel
theorem dJ2_charAt_3b067_1 : decode cJ2_charAt_3b067 1 = .ok (.aload_n 0, 1) := by decide +kernel
theorem dJ2_charAt_3b067_2 : decode cJ2_charAt_3b067 2 = .ok (.invokestatic 67, 3) := by decide +kernel
theorem dJ2_charAt_3b067_5 : decode cJ2_charAt_3b067 5 = .ok (.aload_n 0, 1) := by decide +kernel
theorem dJ2_charAt_3b067_6 : decode cJ2_charAt_3b067 6 = .ok (.iload_n 1, 1) := by decide +kernel
theorem dJ2_charAt_3b067_7 : decode cJ2_charAt_3b067 7 = .ok (.invokestatic 71, 3) := by decide +kernel
theorem dJ2_charAt_3b067_10 : decode cJ2_charAt_3b067 10 = .ok (.ireturn, 1) := by decide +kernel
theorem dJ2_checkIndex_2214a_0 : decode cJ2_checkIndex_2214a 0 = .ok (.iload_n 0, 1) := by decide +kernel
theorem dJ2_checkIndex_2214a_1 : decode cJ2_checkIndex_2214a 1 = .ok (.aload_n 1, 1) := by decide +kernel
theorem dJ2_checkIndex_2214a_2 : decode cJ2_checkIndex_2214a 2 = .ok (.invokestatic 48, 3) := by decide +kernel
theorem dJ2_checkIndex_2214a_5 : decode cJ2_checkIndex_2214a 5 = .ok (.invokestatic 414, 3) := by decide +kernel
theorem dJ2_checkIndex_2214a_8 : decode cJ2_checkIndex_2214a 8 = .ok (.return_, 1) := by decide +kernel
theorem dJ7_fill_d0a16_0 : decode cJ7_fill_d0a16 0 = .ok (.iconst 0, 1) := by decide +kernel
theorem dJ7_fill_d0a16_1 : decode cJ7_fill_d0a16 1 = .ok (.istore_n 3, 1) := by decide +kernel
theorem dJ7_fill_d0a16_2 : decode cJ7_fill_d0a16 2 = .ok (.aload_n 0, 1) := by decide +kernel
theorem dJ7_fill_d0a16_3 : decode cJ7_fill_d0a16 3 = .ok (.arraylength, 1) := by decide +kernel
theorem dJ7_fill_d0a16_4 : decode cJ7_fill_d0a16 4 = .ok (.istore 4, 2) := by decide +kernel
theorem dJ7_fill_d0a16_6 : decode cJ7_fill_d0a16 6 = .ok (.iload_n 3, 1) := by decide +kernel
theorem dJ7_fill_d0a16_7 : decode cJ7_fill_d0a16 7 = .ok (.iload 4, 2) := by decide +kernel
theorem dJ7_fill_d0a16_9 : decode cJ7_fill_d0a16 9 = .ok (.if_icmp .ge 13, 3) := by decide +kernel
theorem dJ7_fill_d0a16_12 : decode cJ7_fill_d0a16 12 = .ok (.aload_n 0, 1) := by decide +kernel
theorem dJ7_fill_d0a16_13 : decode cJ7_fill_d0a16 13 = .ok (.iload_n 3, 1) := by decide +kernel
theorem dJ7_fill_d0a16_14 : decode cJ7_fill_d0a16 14 = .ok (.lload_n 1, 1) := by decide +kernel
theorem dJ7_fill_d0a16_15 : decode cJ7_fill_d0a16 15 = .ok (.lastore, 1) := by decide +kernel
theorem dJ7_fill_d0a16_16 : decode cJ7_fill_d0a16 16 = .ok (.iinc 3 1, 3) := by decide +kernel
theorem dJ7_fill_d0a16_19 : decode cJ7_fill_d0a16 19 = .ok (.goto (-13), 3) := by decide +kernel
theorem dJ7_fill_d0a16_22 : decode cJ7_fill_d0a16 22 = .ok (.return_, 1) := by decide +kernel
theorem dJ7_fill_53178_0 : decode cJ7_fill_53178 0 = .ok (.iconst 0, 1) := by decide +kernel
theorem dJ7_fill_53178_1 : decode cJ7_fill_53178 1 = .ok (.istore_n 2, 1) := by decide +kernel
theorem dJ7_fill_53178_2 : decode cJ7_fill_53178 2 = .ok (.aload_n 0, 1) := by decide +kernel
theorem dJ7_fill_53178_3 : decode cJ7_fill_53178 3 = .ok (.arraylength, 1) := by decide +kernel
theorem dJ7_fill_53178_4 : decode cJ7_fill_53178 4 = .ok (.istore_n 3, 1) := by decide +kernel
theorem dJ7_fill_53178_5 : decode cJ7_fill_53178 5 = .ok (.iload_n 2, 1) := by decide +kernel
theorem dJ7_fill_53178_6 : decode cJ7_fill_53178 6 = .ok (.iload_n 3, 1) := by decide +kernel
theorem dJ7_fill_53178_7 : decode cJ7_fill_53178 7 = .ok (.if_icmp .ge 13, 3) := by decide +kernel
theorem dJ7_fill_53178_10 : decode cJ7_fill_53178 10 = .ok (.aload_n 0, 1) := by decide +kernel
theorem dJ7_fill_53178_11 : decode cJ7_fill_53178 11 = .ok (.iload_n 2, 1) := by decide +kernel
theorem dJ7_fill_53178_12 : decode cJ7_fill_53178 12 = .ok (.iload_n 1, 1) := by decide +kernel
theorem dJ7_fill_53178_13 : decode cJ7_fill_53178 13 = .ok (.iastore, 1) := by decide +kernel
theorem dJ7_fill_53178_14 : decode cJ7_fill_53178 14 = .ok (.iinc 2 1, 3) := by decide +kernel
theorem dJ7_fill_53178_17 : decode cJ7_fill_53178 17 = .ok (.goto (-12), 3) := by decide +kernel
theorem dJ7_fill_53178_20 : decode cJ7_fill_53178 20 = .ok (.return_, 1) := by decide +kernel
theorem dJ3_checkIndex_8e157_0 : decode cJ3_checkIndex_8e157 0 = .ok (.iload_n 0, 1) := by decide +kernel
theorem dJ3_checkIndex_8e157_1 : decode cJ3_checkIndex_8e157 1 = .ok (.ifCond .lt 8, 3) := by decide +kernel
theorem dJ3_checkIndex_8e157_4 : decode cJ3_checkIndex_8e157 4 = .ok (.iload_n 0, 1) := by decide +kernel
theorem dJ3_checkIndex_8e157_5 : decode cJ3_checkIndex_8e157 5 = .ok (.iload_n 1, 1) := by decide +kernel
theorem dJ3_checkIndex_8e157_6 : decode cJ3_checkIndex_8e157 6 = .ok (.if_icmp .lt 10, 3) := by decide +kernel
theorem dJ3_checkIndex_8e157_9 : decode cJ3_checkIndex_8e157 9 = .ok (.aload_n 2, 1) := by decide +kernel
theorem dJ3_checkIndex_8e157_10 : decode cJ3_checkIndex_8e157 10 = .ok (.iload_n 0, 1) := by decide +kernel
theorem dJ3_checkIndex_8e157_11 : decode cJ3_checkIndex_8e157 11 = .ok (.iload_n 1, 1) := by decide +kernel
theorem dJ3_checkIndex_8e157_12 : decode cJ3_checkIndex_8e157 12 = .ok (.invokestatic 95, 3) := by decide +kernel
theorem dJ3_checkIndex_8e157_15 : decode cJ3_checkIndex_8e157 15 = .ok (.athrow, 1) := by decide +kernel
theorem dJ3_checkIndex_8e157_16 : decode cJ3_checkIndex_8e157 16 = .ok (.iload_n 0, 1) := by decide +kernel
theorem dJ3_checkIndex_8e157_17 : decode cJ3_checkIndex_8e157 17 = .ok (.ireturn, 1) := by decide +kernel
theorem dL_law_0 : decode cL_law 0 = .ok (.new 7, 3) := by decide +kernel
theorem dL_law_3 : decode cL_law 3 = .ok (.dup, 1) := by decide +kernel
theorem dL_law_4 : decode cL_law 4 = .ok (.invokespecial 9, 3) := by decide +kernel
theorem dL_law_7 : decode cL_law 7 = .ok (.astore_n 1, 1) := by decide +kernel
theorem dL_law_8 : decode cL_law 8 = .ok (.new 10, 3) := by decide +kernel
theorem dL_law_11 : decode cL_law 11 = .ok (.dup, 1) := by decide +kernel
theorem dL_law_12 : decode cL_law 12 = .ok (.invokespecial 12, 3) := by decide +kernel
theorem dL_law_15 : decode cL_law 15 = .ok (.astore_n 2, 1) := by decide +kernel
theorem dL_law_16 : decode cL_law 16 = .ok (.iconst 0, 1) := by decide +kernel
theorem dL_law_17 : decode cL_law 17 = .ok (.istore_n 3, 1) := by decide +kernel
theorem dL_law_18 : decode cL_law 18 = .ok (.iload_n 3, 1) := by decide +kernel
theorem dL_law_19 : decode cL_law 19 = .ok (.aload_n 0, 1) := by decide +kernel
theorem dL_law_20 : decode cL_law 20 = .ok (.arraylength, 1) := by decide +kernel
theorem dL_law_21 : decode cL_law 21 = .ok (.iconst 5, 1) := by decide +kernel
theorem dL_law_22 : decode cL_law 22 = .ok (.isub, 1) := by decide +kernel
theorem dL_law_23 : decode cL_law 23 = .ok (.if_icmp .gt 802, 3) := by decide +kernel
theorem dL_law_26 : decode cL_law 26 = .ok (.aload_n 0, 1) := by decide +kernel
theorem dL_law_27 : decode cL_law 27 = .ok (.iload_n 3, 1) := by decide +kernel
theorem dL_law_28 : decode cL_law 28 = .ok (.iaload, 1) := by decide +kernel
theorem dL_law_29 : decode cL_law 29 = .ok (.bipush 31, 2) := by decide +kernel
theorem dL_law_31 : decode cL_law 31 = .ok (.iand, 1) := by decide +kernel
theorem dL_law_32 : decode cL_law 32 = .ok (.tableswitch 787 0 24 #[116, 139, 152, 165, 178, 211, 234, 257, 280, 329, 342, 385, 408, 441, 474, 507, 550, 583, 596, 609, 642, 695, 738, 751, 764], 116) := by decide +kernel
theorem dL_law_148 : decode cL_law 148 = .ok (.aload_n 1, 1) := by decide +kernel
theorem dL_law_149 : decode cL_law 149 = .ok (.aload_n 0, 1) := by decide +kernel
theorem dL_law_150 : decode cL_law 150 = .ok (.iload_n 3, 1) := by decide +kernel
theorem dL_law_151 : decode cL_law 151 = .ok (.iconst 1, 1) := by decide +kernel
theorem dL_law_152 : decode cL_law 152 = .ok (.iadd, 1) := by decide +kernel
theorem dL_law_153 : decode cL_law 153 = .ok (.iaload, 1) := by decide +kernel
theorem dL_law_154 : decode cL_law 154 = .ok (.invokevirtual 13, 3) := by decide +kernel
theorem dL_law_157 : decode cL_law 157 = .ok (.aload_n 2, 1) := by decide +kernel
theorem dL_law_158 : decode cL_law 158 = .ok (.aload_n 0, 1) := by decide +kernel
theorem dL_law_159 : decode cL_law 159 = .ok (.iload_n 3, 1) := by decide +kernel
theorem dL_law_160 : decode cL_law 160 = .ok (.iconst 1, 1) := by decide +kernel
theorem dL_law_161 : decode cL_law 161 = .ok (.iadd, 1) := by decide +kernel
theorem dL_law_162 : decode cL_law 162 = .ok (.iaload, 1) := by decide +kernel
theorem dL_law_163 : decode cL_law 163 = .ok (.invokevirtual 17, 3) := by decide +kernel
theorem dL_law_166 : decode cL_law 166 = .ok (.if_icmp .eq 653, 3) := by decide +kernel
theorem dL_law_169 : decode cL_law 169 = .ok (.iconst 0, 1) := by decide +kernel
theorem dL_law_170 : decode cL_law 170 = .ok (.ireturn, 1) := by decide +kernel
theorem dL_law_171 : decode cL_law 171 = .ok (.aload_n 1, 1) := by decide +kernel
theorem dL_law_172 : decode cL_law 172 = .ok (.invokevirtual 18, 3) := by decide +kernel
theorem dL_law_175 : decode cL_law 175 = .ok (.aload_n 2, 1) := by decide +kernel
theorem dL_law_176 : decode cL_law 176 = .ok (.invokevirtual 22, 3) := by decide +kernel
theorem dL_law_179 : decode cL_law 179 = .ok (.if_icmp .eq 640, 3) := by decide +kernel
theorem dL_law_182 : decode cL_law 182 = .ok (.iconst 0, 1) := by decide +kernel
theorem dL_law_183 : decode cL_law 183 = .ok (.ireturn, 1) := by decide +kernel
theorem dL_law_184 : decode cL_law 184 = .ok (.aload_n 1, 1) := by decide +kernel
theorem dL_law_185 : decode cL_law 185 = .ok (.invokevirtual 23, 3) := by decide +kernel
theorem dL_law_188 : decode cL_law 188 = .ok (.aload_n 2, 1) := by decide +kernel
theorem dL_law_189 : decode cL_law 189 = .ok (.invokevirtual 26, 3) := by decide +kernel
theorem dL_law_192 : decode cL_law 192 = .ok (.if_icmp .eq 627, 3) := by decide +kernel
theorem dL_law_195 : decode cL_law 195 = .ok (.iconst 0, 1) := by decide +kernel
theorem dL_law_196 : decode cL_law 196 = .ok (.ireturn, 1) := by decide +kernel
theorem dL_law_197 : decode cL_law 197 = .ok (.aload_n 1, 1) := by decide +kernel
theorem dL_law_198 : decode cL_law 198 = .ok (.invokevirtual 27, 3) := by decide +kernel
theorem dL_law_201 : decode cL_law 201 = .ok (.aload_n 2, 1) := by decide +kernel
theorem dL_law_202 : decode cL_law 202 = .ok (.invokevirtual 30, 3) := by decide +kernel
theorem dL_law_205 : decode cL_law 205 = .ok (.if_icmp .eq 614, 3) := by decide +kernel
theorem dL_law_208 : decode cL_law 208 = .ok (.iconst 0, 1) := by decide +kernel
theorem dL_law_209 : decode cL_law 209 = .ok (.ireturn, 1) := by decide +kernel
theorem dL_law_210 : decode cL_law 210 = .ok (.aload_n 1, 1) := by decide +kernel
theorem dL_law_211 : decode cL_law 211 = .ok (.aload_n 0, 1) := by decide +kernel
theorem dL_law_212 : decode cL_law 212 = .ok (.iload_n 3, 1) := by decide +kernel
theorem dL_law_213 : decode cL_law 213 = .ok (.iconst 1, 1) := by decide +kernel
theorem dL_law_214 : decode cL_law 214 = .ok (.iadd, 1) := by decide +kernel
theorem dL_law_215 : decode cL_law 215 = .ok (.iaload, 1) := by decide +kernel
theorem dL_law_216 : decode cL_law 216 = .ok (.aload_n 0, 1) := by decide +kernel
theorem dL_law_217 : decode cL_law 217 = .ok (.iload_n 3, 1) := by decide +kernel
theorem dL_law_218 : decode cL_law 218 = .ok (.iconst 2, 1) := by decide +kernel
theorem dL_law_219 : decode cL_law 219 = .ok (.iadd, 1) := by decide +kernel
theorem dL_law_220 : decode cL_law 220 = .ok (.iaload, 1) := by decide +kernel
theorem dL_law_221 : decode cL_law 221 = .ok (.invokevirtual 31, 3) := by decide +kernel
theorem dL_law_224 : decode cL_law 224 = .ok (.aload_n 2, 1) := by decide +kernel
theorem dL_law_225 : decode cL_law 225 = .ok (.aload_n 0, 1) := by decide +kernel
theorem dL_law_226 : decode cL_law 226 = .ok (.iload_n 3, 1) := by decide +kernel
theorem dL_law_227 : decode cL_law 227 = .ok (.iconst 1, 1) := by decide +kernel
theorem dL_law_228 : decode cL_law 228 = .ok (.iadd, 1) := by decide +kernel
theorem dL_law_229 : decode cL_law 229 = .ok (.iaload, 1) := by decide +kernel
theorem dL_law_230 : decode cL_law 230 = .ok (.aload_n 0, 1) := by decide +kernel
theorem dL_law_231 : decode cL_law 231 = .ok (.iload_n 3, 1) := by decide +kernel
theorem dL_law_232 : decode cL_law 232 = .ok (.iconst 2, 1) := by decide +kernel
theorem dL_law_233 : decode cL_law 233 = .ok (.iadd, 1) := by decide +kernel
theorem dL_law_234 : decode cL_law 234 = .ok (.iaload, 1) := by decide +kernel
theorem dL_law_235 : decode cL_law 235 = .ok (.invokevirtual 35, 3) := by decide +kernel
theorem dL_law_238 : decode cL_law 238 = .ok (.if_icmp .eq 581, 3) := by decide +kernel
theorem dL_law_241 : decode cL_law 241 = .ok (.iconst 0, 1) := by decide +kernel
theorem dL_law_242 : decode cL_law 242 = .ok (.ireturn, 1) := by decide +kernel
theorem dL_law_243 : decode cL_law 243 = .ok (.aload_n 1, 1) := by decide +kernel
theorem dL_law_244 : decode cL_law 244 = .ok (.aload_n 0, 1) := by decide +kernel
theorem dL_law_245 : decode cL_law 245 = .ok (.iload_n 3, 1) := by decide +kernel
theorem dL_law_246 : decode cL_law 246 = .ok (.iconst 1, 1) := by decide +kernel
theorem dL_law_247 : decode cL_law 247 = .ok (.iadd, 1) := by decide +kernel
theorem dL_law_248 : decode cL_law 248 = .ok (.iaload, 1) := by decide +kernel
theorem dL_law_249 : decode cL_law 249 = .ok (.invokevirtual 36, 3) := by decide +kernel
theorem dL_law_252 : decode cL_law 252 = .ok (.aload_n 2, 1) := by decide +kernel
theorem dL_law_253 : decode cL_law 253 = .ok (.aload_n 0, 1) := by decide +kernel
theorem dL_law_254 : decode cL_law 254 = .ok (.iload_n 3, 1) := by decide +kernel
theorem dL_law_255 : decode cL_law 255 = .ok (.iconst 1, 1) := by decide +kernel
theorem dL_law_256 : decode cL_law 256 = .ok (.iadd, 1) := by decide +kernel
theorem dL_law_257 : decode cL_law 257 = .ok (.iaload, 1) := by decide +kernel
theorem dL_law_258 : decode cL_law 258 = .ok (.invokevirtual 39, 3) := by decide +kernel
theorem dL_law_261 : decode cL_law 261 = .ok (.if_icmp .eq 558, 3) := by decide +kernel
theorem dL_law_264 : decode cL_law 264 = .ok (.iconst 0, 1) := by decide +kernel
theorem dL_law_265 : decode cL_law 265 = .ok (.ireturn, 1) := by decide +kernel
theorem dL_law_266 : decode cL_law 266 = .ok (.aload_n 1, 1) := by decide +kernel
theorem dL_law_267 : decode cL_law 267 = .ok (.aload_n 0, 1) := by decide +kernel
theorem dL_law_268 : decode cL_law 268 = .ok (.iload_n 3, 1) := by decide +kernel
theorem dL_law_269 : decode cL_law 269 = .ok (.iconst 1, 1) := by decide +kernel
theorem dL_law_270 : decode cL_law 270 = .ok (.iadd, 1) := by decide +kernel
theorem dL_law_271 : decode cL_law 271 = .ok (.iaload, 1) := by decide +kernel
theorem dL_law_272 : decode cL_law 272 = .ok (.invokevirtual 40, 3) := by decide +kernel
theorem dL_law_275 : decode cL_law 275 = .ok (.aload_n 2, 1) := by decide +kernel
theorem dL_law_276 : decode cL_law 276 = .ok (.aload_n 0, 1) := by decide +kernel
theorem dL_law_277 : decode cL_law 277 = .ok (.iload_n 3, 1) := by decide +kernel
theorem dL_law_278 : decode cL_law 278 = .ok (.iconst 1, 1) := by decide +kernel
theorem dL_law_279 : decode cL_law 279 = .ok (.iadd, 1) := by decide +kernel
theorem dL_law_280 : decode cL_law 280 = .ok (.iaload, 1) := by decide +kernel
theorem dL_law_281 : decode cL_law 281 = .ok (.invokevirtual 43, 3) := by decide +kernel
theorem dL_law_284 : decode cL_law 284 = .ok (.if_icmp .eq 535, 3) := by decide +kernel
theorem dL_law_287 : decode cL_law 287 = .ok (.iconst 0, 1) := by decide +kernel
theorem dL_law_288 : decode cL_law 288 = .ok (.ireturn, 1) := by decide +kernel
theorem dL_law_289 : decode cL_law 289 = .ok (.aload_n 1, 1) := by decide +kernel
theorem dL_law_290 : decode cL_law 290 = .ok (.aload_n 0, 1) := by decide +kernel
theorem dL_law_291 : decode cL_law 291 = .ok (.iload_n 3, 1) := by decide +kernel
theorem dL_law_292 : decode cL_law 292 = .ok (.iconst 1, 1) := by decide +kernel
theorem dL_law_293 : decode cL_law 293 = .ok (.iadd, 1) := by decide +kernel
theorem dL_law_294 : decode cL_law 294 = .ok (.iaload, 1) := by decide +kernel
theorem dL_law_295 : decode cL_law 295 = .ok (.invokevirtual 44, 3) := by decide +kernel
theorem dL_law_298 : decode cL_law 298 = .ok (.aload_n 2, 1) := by decide +kernel
theorem dL_law_299 : decode cL_law 299 = .ok (.aload_n 0, 1) := by decide +kernel
theorem dL_law_300 : decode cL_law 300 = .ok (.iload_n 3, 1) := by decide +kernel
theorem dL_law_301 : decode cL_law 301 = .ok (.iconst 1, 1) := by decide +kernel
theorem dL_law_302 : decode cL_law 302 = .ok (.iadd, 1) := by decide +kernel
theorem dL_law_303 : decode cL_law 303 = .ok (.iaload, 1) := by decide +kernel
theorem dL_law_304 : decode cL_law 304 = .ok (.invokevirtual 47, 3) := by decide +kernel
theorem dL_law_307 : decode cL_law 307 = .ok (.if_icmp .eq 512, 3) := by decide +kernel
theorem dL_law_310 : decode cL_law 310 = .ok (.iconst 0, 1) := by decide +kernel
theorem dL_law_311 : decode cL_law 311 = .ok (.ireturn, 1) := by decide +kernel
theorem dL_law_312 : decode cL_law 312 = .ok (.aload_n 1, 1) := by decide +kernel
theorem dL_law_313 : decode cL_law 313 = .ok (.aload_n 0, 1) := by decide +kernel
theorem dL_law_314 : decode cL_law 314 = .ok (.iload_n 3, 1) := by decide +kernel
theorem dL_law_315 : decode cL_law 315 = .ok (.iconst 1, 1) := by decide +kernel
theorem dL_law_316 : decode cL_law 316 = .ok (.iadd, 1) := by decide +kernel
theorem dL_law_317 : decode cL_law 317 = .ok (.iaload, 1) := by decide +kernel
theorem dL_law_318 : decode cL_law 318 = .ok (.aload_n 0, 1) := by decide +kernel
theorem dL_law_319 : decode cL_law 319 = .ok (.iload_n 3, 1) := by decide +kernel
theorem dL_law_320 : decode cL_law 320 = .ok (.iconst 2, 1) := by decide +kernel
theorem dL_law_321 : decode cL_law 321 = .ok (.iadd, 1) := by decide +kernel
theorem dL_law_322 : decode cL_law 322 = .ok (.iaload, 1) := by decide +kernel
theorem dL_law_323 : decode cL_law 323 = .ok (.ifCond .eq 7, 3) := by decide +kernel
theorem dL_law_326 : decode cL_law 326 = .ok (.iconst 1, 1) := by decide +kernel
theorem dL_law_327 : decode cL_law 327 = .ok (.goto 4, 3) := by decide +kernel
theorem dL_law_330 : decode cL_law 330 = .ok (.iconst 0, 1) := by decide +kernel
theorem dL_law_331 : decode cL_law 331 = .ok (.invokevirtual 48, 3) := by decide +kernel
theorem dL_law_334 : decode cL_law 334 = .ok (.aload_n 2, 1) := by decide +kernel
theorem dL_law_335 : decode cL_law 335 = .ok (.aload_n 0, 1) := by decide +kernel
theorem dL_law_336 : decode cL_law 336 = .ok (.iload_n 3, 1) := by decide +kernel
theorem dL_law_337 : decode cL_law 337 = .ok (.iconst 1, 1) := by decide +kernel
theorem dL_law_338 : decode cL_law 338 = .ok (.iadd, 1) := by decide +kernel
theorem dL_law_339 : decode cL_law 339 = .ok (.iaload, 1) := by decide +kernel
theorem dL_law_340 : decode cL_law 340 = .ok (.aload_n 0, 1) := by decide +kernel
theorem dL_law_341 : decode cL_law 341 = .ok (.iload_n 3, 1) := by decide +kernel
theorem dL_law_342 : decode cL_law 342 = .ok (.iconst 2, 1) := by decide +kernel
theorem dL_law_343 : decode cL_law 343 = .ok (.iadd, 1) := by decide +kernel
theorem dL_law_344 : decode cL_law 344 = .ok (.iaload, 1) := by decide +kernel
theorem dL_law_345 : decode cL_law 345 = .ok (.ifCond .eq 7, 3) := by decide +kernel
theorem dL_law_348 : decode cL_law 348 = .ok (.iconst 1, 1) := by decide +kernel
theorem dL_law_349 : decode cL_law 349 = .ok (.goto 4, 3) := by decide +kernel
theorem dL_law_352 : decode cL_law 352 = .ok (.iconst 0, 1) := by decide +kernel
theorem dL_law_353 : decode cL_law 353 = .ok (.invokevirtual 52, 3) := by decide +kernel
theorem dL_law_356 : decode cL_law 356 = .ok (.if_icmp .eq 463, 3) := by decide +kernel
theorem dL_law_359 : decode cL_law 359 = .ok (.iconst 0, 1) := by decide +kernel
theorem dL_law_360 : decode cL_law 360 = .ok (.ireturn, 1) := by decide +kernel
theorem dL_law_361 : decode cL_law 361 = .ok (.aload_n 1, 1) := by decide +kernel
theorem dL_law_362 : decode cL_law 362 = .ok (.invokevirtual 53, 3) := by decide +kernel
theorem dL_law_365 : decode cL_law 365 = .ok (.aload_n 2, 1) := by decide +kernel
theorem dL_law_366 : decode cL_law 366 = .ok (.invokevirtual 56, 3) := by decide +kernel
theorem dL_law_369 : decode cL_law 369 = .ok (.if_icmp .eq 450, 3) := by decide +kernel
theorem dL_law_372 : decode cL_law 372 = .ok (.iconst 0, 1) := by decide +kernel
theorem dL_law_373 : decode cL_law 373 = .ok (.ireturn, 1) := by decide +kernel
theorem dL_law_374 : decode cL_law 374 = .ok (.aload_n 1, 1) := by decide +kernel
theorem dL_law_375 : decode cL_law 375 = .ok (.aload_n 0, 1) := by decide +kernel
theorem dL_law_376 : decode cL_law 376 = .ok (.iload_n 3, 1) := by decide +kernel
theorem dL_law_377 : decode cL_law 377 = .ok (.iconst 1, 1) := by decide +kernel
theorem dL_law_378 : decode cL_law 378 = .ok (.iadd, 1) := by decide +kernel
theorem dL_law_379 : decode cL_law 379 = .ok (.iaload, 1) := by decide +kernel
theorem dL_law_380 : decode cL_law 380 = .ok (.aload_n 0, 1) := by decide +kernel
theorem dL_law_381 : decode cL_law 381 = .ok (.iload_n 3, 1) := by decide +kernel
theorem dL_law_382 : decode cL_law 382 = .ok (.iconst 2, 1) := by decide +kernel
theorem dL_law_383 : decode cL_law 383 = .ok (.iadd, 1) := by decide +kernel
theorem dL_law_384 : decode cL_law 384 = .ok (.iaload, 1) := by decide +kernel
theorem dL_law_385 : decode cL_law 385 = .ok (.aload_n 0, 1) := by decide +kernel
theorem dL_law_386 : decode cL_law 386 = .ok (.iload_n 3, 1) := by decide +kernel
theorem dL_law_387 : decode cL_law 387 = .ok (.iconst 3, 1) := by decide +kernel
theorem dL_law_388 : decode cL_law 388 = .ok (.iadd, 1) := by decide +kernel
theorem dL_law_389 : decode cL_law 389 = .ok (.iaload, 1) := by decide +kernel
theorem dL_law_390 : decode cL_law 390 = .ok (.invokevirtual 57, 3) := by decide +kernel
theorem dL_law_393 : decode cL_law 393 = .ok (.aload_n 2, 1) := by decide +kernel
theorem dL_law_394 : decode cL_law 394 = .ok (.aload_n 0, 1) := by decide +kernel
theorem dL_law_395 : decode cL_law 395 = .ok (.iload_n 3, 1) := by decide +kernel
theorem dL_law_396 : decode cL_law 396 = .ok (.iconst 1, 1) := by decide +kernel
theorem dL_law_397 : decode cL_law 397 = .ok (.iadd, 1) := by decide +kernel
theorem dL_law_398 : decode cL_law 398 = .ok (.iaload, 1) := by decide +kernel
theorem dL_law_399 : decode cL_law 399 = .ok (.aload_n 0, 1) := by decide +kernel
theorem dL_law_400 : decode cL_law 400 = .ok (.iload_n 3, 1) := by decide +kernel
theorem dL_law_401 : decode cL_law 401 = .ok (.iconst 2, 1) := by decide +kernel
theorem dL_law_402 : decode cL_law 402 = .ok (.iadd, 1) := by decide +kernel
theorem dL_law_403 : decode cL_law 403 = .ok (.iaload, 1) := by decide +kernel
theorem dL_law_404 : decode cL_law 404 = .ok (.aload_n 0, 1) := by decide +kernel
theorem dL_law_405 : decode cL_law 405 = .ok (.iload_n 3, 1) := by decide +kernel
theorem dL_law_406 : decode cL_law 406 = .ok (.iconst 3, 1) := by decide +kernel
theorem dL_law_407 : decode cL_law 407 = .ok (.iadd, 1) := by decide +kernel
theorem dL_law_408 : decode cL_law 408 = .ok (.iaload, 1) := by decide +kernel
theorem dL_law_409 : decode cL_law 409 = .ok (.invokevirtual 61, 3) := by decide +kernel
theorem dL_law_412 : decode cL_law 412 = .ok (.if_icmp .eq 407, 3) := by decide +kernel
theorem dL_law_415 : decode cL_law 415 = .ok (.iconst 0, 1) := by decide +kernel
theorem dL_law_416 : decode cL_law 416 = .ok (.ireturn, 1) := by decide +kernel
theorem dL_law_417 : decode cL_law 417 = .ok (.aload_n 1, 1) := by decide +kernel
theorem dL_law_418 : decode cL_law 418 = .ok (.aload_n 0, 1) := by decide +kernel
theorem dL_law_419 : decode cL_law 419 = .ok (.iload_n 3, 1) := by decide +kernel
theorem dL_law_420 : decode cL_law 420 = .ok (.iconst 1, 1) := by decide +kernel
theorem dL_law_421 : decode cL_law 421 = .ok (.iadd, 1) := by decide +kernel
theorem dL_law_422 : decode cL_law 422 = .ok (.iaload, 1) := by decide +kernel
theorem dL_law_423 : decode cL_law 423 = .ok (.invokevirtual 62, 3) := by decide +kernel
theorem dL_law_426 : decode cL_law 426 = .ok (.aload_n 2, 1) := by decide +kernel
theorem dL_law_427 : decode cL_law 427 = .ok (.aload_n 0, 1) := by decide +kernel
theorem dL_law_428 : decode cL_law 428 = .ok (.iload_n 3, 1) := by decide +kernel
theorem dL_law_429 : decode cL_law 429 = .ok (.iconst 1, 1) := by decide +kernel
theorem dL_law_430 : decode cL_law 430 = .ok (.iadd, 1) := by decide +kernel
theorem dL_law_431 : decode cL_law 431 = .ok (.iaload, 1) := by decide +kernel
theorem dL_law_432 : decode cL_law 432 = .ok (.invokevirtual 65, 3) := by decide +kernel
theorem dL_law_435 : decode cL_law 435 = .ok (.if_icmp .eq 384, 3) := by decide +kernel
theorem dL_law_438 : decode cL_law 438 = .ok (.iconst 0, 1) := by decide +kernel
theorem dL_law_439 : decode cL_law 439 = .ok (.ireturn, 1) := by decide +kernel
theorem dL_law_440 : decode cL_law 440 = .ok (.aload_n 1, 1) := by decide +kernel
theorem dL_law_441 : decode cL_law 441 = .ok (.aload_n 0, 1) := by decide +kernel
theorem dL_law_442 : decode cL_law 442 = .ok (.iload_n 3, 1) := by decide +kernel
theorem dL_law_443 : decode cL_law 443 = .ok (.iconst 1, 1) := by decide +kernel
theorem dL_law_444 : decode cL_law 444 = .ok (.iadd, 1) := by decide +kernel
theorem dL_law_445 : decode cL_law 445 = .ok (.iaload, 1) := by decide +kernel
theorem dL_law_446 : decode cL_law 446 = .ok (.aload_n 0, 1) := by decide +kernel
theorem dL_law_447 : decode cL_law 447 = .ok (.iload_n 3, 1) := by decide +kernel
theorem dL_law_448 : decode cL_law 448 = .ok (.iconst 2, 1) := by decide +kernel
theorem dL_law_449 : decode cL_law 449 = .ok (.iadd, 1) := by decide +kernel
theorem dL_law_450 : decode cL_law 450 = .ok (.iaload, 1) := by decide +kernel
theorem dL_law_451 : decode cL_law 451 = .ok (.invokevirtual 66, 3) := by decide +kernel
theorem dL_law_454 : decode cL_law 454 = .ok (.aload_n 2, 1) := by decide +kernel
theorem dL_law_455 : decode cL_law 455 = .ok (.aload_n 0, 1) := by decide +kernel
theorem dL_law_456 : decode cL_law 456 = .ok (.iload_n 3, 1) := by decide +kernel
theorem dL_law_457 : decode cL_law 457 = .ok (.iconst 1, 1) := by decide +kernel
theorem dL_law_458 : decode cL_law 458 = .ok (.iadd, 1) := by decide +kernel
theorem dL_law_459 : decode cL_law 459 = .ok (.iaload, 1) := by decide +kernel
theorem dL_law_460 : decode cL_law 460 = .ok (.aload_n 0, 1) := by decide +kernel
theorem dL_law_461 : decode cL_law 461 = .ok (.iload_n 3, 1) := by decide +kernel
theorem dL_law_462 : decode cL_law 462 = .ok (.iconst 2, 1) := by decide +kernel
theorem dL_law_463 : decode cL_law 463 = .ok (.iadd, 1) := by decide +kernel
theorem dL_law_464 : decode cL_law 464 = .ok (.iaload, 1) := by decide +kernel
theorem dL_law_465 : decode cL_law 465 = .ok (.invokevirtual 69, 3) := by decide +kernel
theorem dL_law_468 : decode cL_law 468 = .ok (.if_icmp .eq 351, 3) := by decide +kernel
theorem dL_law_471 : decode cL_law 471 = .ok (.iconst 0, 1) := by decide +kernel
theorem dL_law_472 : decode cL_law 472 = .ok (.ireturn, 1) := by decide +kernel
theorem dL_law_473 : decode cL_law 473 = .ok (.aload_n 1, 1) := by decide +kernel
theorem dL_law_474 : decode cL_law 474 = .ok (.aload_n 0, 1) := by decide +kernel
theorem dL_law_475 : decode cL_law 475 = .ok (.iload_n 3, 1) := by decide +kernel
theorem dL_law_476 : decode cL_law 476 = .ok (.iconst 1, 1) := by decide +kernel
theorem dL_law_477 : decode cL_law 477 = .ok (.iadd, 1) := by decide +kernel
theorem dL_law_478 : decode cL_law 478 = .ok (.iaload, 1) := by decide +kernel
theorem dL_law_479 : decode cL_law 479 = .ok (.aload_n 0, 1) := by decide +kernel
theorem dL_law_480 : decode cL_law 480 = .ok (.iload_n 3, 1) := by decide +kernel
theorem dL_law_481 : decode cL_law 481 = .ok (.iconst 2, 1) := by decide +kernel
theorem dL_law_482 : decode cL_law 482 = .ok (.iadd, 1) := by decide +kernel
theorem dL_law_483 : decode cL_law 483 = .ok (.iaload, 1) := by decide +kernel
theorem dL_law_484 : decode cL_law 484 = .ok (.invokevirtual 70, 3) := by decide +kernel
theorem dL_law_487 : decode cL_law 487 = .ok (.aload_n 2, 1) := by decide +kernel
theorem dL_law_488 : decode cL_law 488 = .ok (.aload_n 0, 1) := by decide +kernel
theorem dL_law_489 : decode cL_law 489 = .ok (.iload_n 3, 1) := by decide +kernel
theorem dL_law_490 : decode cL_law 490 = .ok (.iconst 1, 1) := by decide +kernel
theorem dL_law_491 : decode cL_law 491 = .ok (.iadd, 1) := by decide +kernel
theorem dL_law_492 : decode cL_law 492 = .ok (.iaload, 1) := by decide +kernel
theorem dL_law_493 : decode cL_law 493 = .ok (.aload_n 0, 1) := by decide +kernel
theorem dL_law_494 : decode cL_law 494 = .ok (.iload_n 3, 1) := by decide +kernel
theorem dL_law_495 : decode cL_law 495 = .ok (.iconst 2, 1) := by decide +kernel
theorem dL_law_496 : decode cL_law 496 = .ok (.iadd, 1) := by decide +kernel
theorem dL_law_497 : decode cL_law 497 = .ok (.iaload, 1) := by decide +kernel
theorem dL_law_498 : decode cL_law 498 = .ok (.invokevirtual 73, 3) := by decide +kernel
theorem dL_law_501 : decode cL_law 501 = .ok (.if_icmp .eq 318, 3) := by decide +kernel
theorem dL_law_504 : decode cL_law 504 = .ok (.iconst 0, 1) := by decide +kernel
theorem dL_law_505 : decode cL_law 505 = .ok (.ireturn, 1) := by decide +kernel
theorem dL_law_506 : decode cL_law 506 = .ok (.aload_n 1, 1) := by decide +kernel
theorem dL_law_507 : decode cL_law 507 = .ok (.aload_n 0, 1) := by decide +kernel
theorem dL_law_508 : decode cL_law 508 = .ok (.iload_n 3, 1) := by decide +kernel
theorem dL_law_509 : decode cL_law 509 = .ok (.iconst 1, 1) := by decide +kernel
theorem dL_law_510 : decode cL_law 510 = .ok (.iadd, 1) := by decide +kernel
theorem dL_law_511 : decode cL_law 511 = .ok (.iaload, 1) := by decide +kernel
theorem dL_law_512 : decode cL_law 512 = .ok (.aload_n 0, 1) := by decide +kernel
theorem dL_law_513 : decode cL_law 513 = .ok (.iload_n 3, 1) := by decide +kernel
theorem dL_law_514 : decode cL_law 514 = .ok (.iconst 2, 1) := by decide +kernel
theorem dL_law_515 : decode cL_law 515 = .ok (.iadd, 1) := by decide +kernel
theorem dL_law_516 : decode cL_law 516 = .ok (.iaload, 1) := by decide +kernel
theorem dL_law_517 : decode cL_law 517 = .ok (.invokevirtual 74, 3) := by decide +kernel
theorem dL_law_520 : decode cL_law 520 = .ok (.aload_n 2, 1) := by decide +kernel
theorem dL_law_521 : decode cL_law 521 = .ok (.aload_n 0, 1) := by decide +kernel
theorem dL_law_522 : decode cL_law 522 = .ok (.iload_n 3, 1) := by decide +kernel
theorem dL_law_523 : decode cL_law 523 = .ok (.iconst 1, 1) := by decide +kernel
theorem dL_law_524 : decode cL_law 524 = .ok (.iadd, 1) := by decide +kernel
theorem dL_law_525 : decode cL_law 525 = .ok (.iaload, 1) := by decide +kernel
theorem dL_law_526 : decode cL_law 526 = .ok (.aload_n 0, 1) := by decide +kernel
theorem dL_law_527 : decode cL_law 527 = .ok (.iload_n 3, 1) := by decide +kernel
theorem dL_law_528 : decode cL_law 528 = .ok (.iconst 2, 1) := by decide +kernel
theorem dL_law_529 : decode cL_law 529 = .ok (.iadd, 1) := by decide +kernel
theorem dL_law_530 : decode cL_law 530 = .ok (.iaload, 1) := by decide +kernel
theorem dL_law_531 : decode cL_law 531 = .ok (.invokevirtual 77, 3) := by decide +kernel
theorem dL_law_534 : decode cL_law 534 = .ok (.if_icmp .eq 285, 3) := by decide +kernel
theorem dL_law_537 : decode cL_law 537 = .ok (.iconst 0, 1) := by decide +kernel
theorem dL_law_538 : decode cL_law 538 = .ok (.ireturn, 1) := by decide +kernel
theorem dL_law_539 : decode cL_law 539 = .ok (.aload_n 1, 1) := by decide +kernel
theorem dL_law_540 : decode cL_law 540 = .ok (.aload_n 0, 1) := by decide +kernel
theorem dL_law_541 : decode cL_law 541 = .ok (.iload_n 3, 1) := by decide +kernel
theorem dL_law_542 : decode cL_law 542 = .ok (.iconst 1, 1) := by decide +kernel
theorem dL_law_543 : decode cL_law 543 = .ok (.iadd, 1) := by decide +kernel
theorem dL_law_544 : decode cL_law 544 = .ok (.iaload, 1) := by decide +kernel
theorem dL_law_545 : decode cL_law 545 = .ok (.aload_n 0, 1) := by decide +kernel
theorem dL_law_546 : decode cL_law 546 = .ok (.iload_n 3, 1) := by decide +kernel
theorem dL_law_547 : decode cL_law 547 = .ok (.iconst 2, 1) := by decide +kernel
theorem dL_law_548 : decode cL_law 548 = .ok (.iadd, 1) := by decide +kernel
theorem dL_law_549 : decode cL_law 549 = .ok (.iaload, 1) := by decide +kernel
theorem dL_law_550 : decode cL_law 550 = .ok (.aload_n 0, 1) := by decide +kernel
theorem dL_law_551 : decode cL_law 551 = .ok (.iload_n 3, 1) := by decide +kernel
theorem dL_law_552 : decode cL_law 552 = .ok (.iconst 3, 1) := by decide +kernel
theorem dL_law_553 : decode cL_law 553 = .ok (.iadd, 1) := by decide +kernel
theorem dL_law_554 : decode cL_law 554 = .ok (.iaload, 1) := by decide +kernel
theorem dL_law_555 : decode cL_law 555 = .ok (.invokevirtual 78, 3) := by decide +kernel
theorem dL_law_558 : decode cL_law 558 = .ok (.aload_n 2, 1) := by decide +kernel
theorem dL_law_559 : decode cL_law 559 = .ok (.aload_n 0, 1) := by decide +kernel
theorem dL_law_560 : decode cL_law 560 = .ok (.iload_n 3, 1) := by decide +kernel
theorem dL_law_561 : decode cL_law 561 = .ok (.iconst 1, 1) := by decide +kernel
theorem dL_law_562 : decode cL_law 562 = .ok (.iadd, 1) := by decide +kernel
theorem dL_law_563 : decode cL_law 563 = .ok (.iaload, 1) := by decide +kernel
theorem dL_law_564 : decode cL_law 564 = .ok (.aload_n 0, 1) := by decide +kernel
theorem dL_law_565 : decode cL_law 565 = .ok (.iload_n 3, 1) := by decide +kernel
theorem dL_law_566 : decode cL_law 566 = .ok (.iconst 2, 1) := by decide +kernel
theorem dL_law_567 : decode cL_law 567 = .ok (.iadd, 1) := by decide +kernel
theorem dL_law_568 : decode cL_law 568 = .ok (.iaload, 1) := by decide +kernel
theorem dL_law_569 : decode cL_law 569 = .ok (.aload_n 0, 1) := by decide +kernel
theorem dL_law_570 : decode cL_law 570 = .ok (.iload_n 3, 1) := by decide +kernel
theorem dL_law_571 : decode cL_law 571 = .ok (.iconst 3, 1) := by decide +kernel
theorem dL_law_572 : decode cL_law 572 = .ok (.iadd, 1) := by decide +kernel
theorem dL_law_573 : decode cL_law 573 = .ok (.iaload, 1) := by decide +kernel
theorem dL_law_574 : decode cL_law 574 = .ok (.invokevirtual 81, 3) := by decide +kernel
theorem dL_law_577 : decode cL_law 577 = .ok (.if_icmp .eq 242, 3) := by decide +kernel
theorem dL_law_580 : decode cL_law 580 = .ok (.iconst 0, 1) := by decide +kernel
theorem dL_law_581 : decode cL_law 581 = .ok (.ireturn, 1) := by decide +kernel
theorem dL_law_582 : decode cL_law 582 = .ok (.aload_n 1, 1) := by decide +kernel
theorem dL_law_583 : decode cL_law 583 = .ok (.aload_n 0, 1) := by decide +kernel
theorem dL_law_584 : decode cL_law 584 = .ok (.iload_n 3, 1) := by decide +kernel
theorem dL_law_585 : decode cL_law 585 = .ok (.iconst 1, 1) := by decide +kernel
theorem dL_law_586 : decode cL_law 586 = .ok (.iadd, 1) := by decide +kernel
theorem dL_law_587 : decode cL_law 587 = .ok (.iaload, 1) := by decide +kernel
theorem dL_law_588 : decode cL_law 588 = .ok (.aload_n 0, 1) := by decide +kernel
theorem dL_law_589 : decode cL_law 589 = .ok (.iload_n 3, 1) := by decide +kernel
theorem dL_law_590 : decode cL_law 590 = .ok (.iconst 2, 1) := by decide +kernel
theorem dL_law_591 : decode cL_law 591 = .ok (.iadd, 1) := by decide +kernel
theorem dL_law_592 : decode cL_law 592 = .ok (.iaload, 1) := by decide +kernel
theorem dL_law_593 : decode cL_law 593 = .ok (.invokevirtual 82, 3) := by decide +kernel
theorem dL_law_596 : decode cL_law 596 = .ok (.aload_n 2, 1) := by decide +kernel
theorem dL_law_597 : decode cL_law 597 = .ok (.aload_n 0, 1) := by decide +kernel
theorem dL_law_598 : decode cL_law 598 = .ok (.iload_n 3, 1) := by decide +kernel
theorem dL_law_599 : decode cL_law 599 = .ok (.iconst 1, 1) := by decide +kernel
theorem dL_law_600 : decode cL_law 600 = .ok (.iadd, 1) := by decide +kernel
theorem dL_law_601 : decode cL_law 601 = .ok (.iaload, 1) := by decide +kernel
theorem dL_law_602 : decode cL_law 602 = .ok (.aload_n 0, 1) := by decide +kernel
theorem dL_law_603 : decode cL_law 603 = .ok (.iload_n 3, 1) := by decide +kernel
theorem dL_law_604 : decode cL_law 604 = .ok (.iconst 2, 1) := by decide +kernel
theorem dL_law_605 : decode cL_law 605 = .ok (.iadd, 1) := by decide +kernel
theorem dL_law_606 : decode cL_law 606 = .ok (.iaload, 1) := by decide +kernel
theorem dL_law_607 : decode cL_law 607 = .ok (.invokevirtual 85, 3) := by decide +kernel
theorem dL_law_610 : decode cL_law 610 = .ok (.if_icmp .eq 209, 3) := by decide +kernel
theorem dL_law_613 : decode cL_law 613 = .ok (.iconst 0, 1) := by decide +kernel
theorem dL_law_614 : decode cL_law 614 = .ok (.ireturn, 1) := by decide +kernel
theorem dL_law_615 : decode cL_law 615 = .ok (.aload_n 1, 1) := by decide +kernel
theorem dL_law_616 : decode cL_law 616 = .ok (.invokevirtual 86, 3) := by decide +kernel
theorem dL_law_619 : decode cL_law 619 = .ok (.aload_n 2, 1) := by decide +kernel
theorem dL_law_620 : decode cL_law 620 = .ok (.invokevirtual 89, 3) := by decide +kernel
theorem dL_law_623 : decode cL_law 623 = .ok (.if_icmp .eq 196, 3) := by decide +kernel
theorem dL_law_626 : decode cL_law 626 = .ok (.iconst 0, 1) := by decide +kernel
theorem dL_law_627 : decode cL_law 627 = .ok (.ireturn, 1) := by decide +kernel
theorem dL_law_628 : decode cL_law 628 = .ok (.aload_n 1, 1) := by decide +kernel
theorem dL_law_629 : decode cL_law 629 = .ok (.invokevirtual 90, 3) := by decide +kernel
theorem dL_law_632 : decode cL_law 632 = .ok (.aload_n 2, 1) := by decide +kernel
theorem dL_law_633 : decode cL_law 633 = .ok (.invokevirtual 93, 3) := by decide +kernel
theorem dL_law_636 : decode cL_law 636 = .ok (.if_icmp .eq 183, 3) := by decide +kernel
theorem dL_law_639 : decode cL_law 639 = .ok (.iconst 0, 1) := by decide +kernel
theorem dL_law_640 : decode cL_law 640 = .ok (.ireturn, 1) := by decide +kernel
theorem dL_law_641 : decode cL_law 641 = .ok (.aload_n 1, 1) := by decide +kernel
theorem dL_law_642 : decode cL_law 642 = .ok (.aload_n 0, 1) := by decide +kernel
theorem dL_law_643 : decode cL_law 643 = .ok (.iload_n 3, 1) := by decide +kernel
theorem dL_law_644 : decode cL_law 644 = .ok (.iconst 1, 1) := by decide +kernel
theorem dL_law_645 : decode cL_law 645 = .ok (.iadd, 1) := by decide +kernel
theorem dL_law_646 : decode cL_law 646 = .ok (.iaload, 1) := by decide +kernel
theorem dL_law_647 : decode cL_law 647 = .ok (.aload_n 0, 1) := by decide +kernel
theorem dL_law_648 : decode cL_law 648 = .ok (.iload_n 3, 1) := by decide +kernel
theorem dL_law_649 : decode cL_law 649 = .ok (.iconst 2, 1) := by decide +kernel
theorem dL_law_650 : decode cL_law 650 = .ok (.iadd, 1) := by decide +kernel
theorem dL_law_651 : decode cL_law 651 = .ok (.iaload, 1) := by decide +kernel
theorem dL_law_652 : decode cL_law 652 = .ok (.invokevirtual 94, 3) := by decide +kernel
theorem dL_law_655 : decode cL_law 655 = .ok (.aload_n 2, 1) := by decide +kernel
theorem dL_law_656 : decode cL_law 656 = .ok (.aload_n 0, 1) := by decide +kernel
theorem dL_law_657 : decode cL_law 657 = .ok (.iload_n 3, 1) := by decide +kernel
theorem dL_law_658 : decode cL_law 658 = .ok (.iconst 1, 1) := by decide +kernel
theorem dL_law_659 : decode cL_law 659 = .ok (.iadd, 1) := by decide +kernel
theorem dL_law_660 : decode cL_law 660 = .ok (.iaload, 1) := by decide +kernel
theorem dL_law_661 : decode cL_law 661 = .ok (.aload_n 0, 1) := by decide +kernel
theorem dL_law_662 : decode cL_law 662 = .ok (.iload_n 3, 1) := by decide +kernel
theorem dL_law_663 : decode cL_law 663 = .ok (.iconst 2, 1) := by decide +kernel
theorem dL_law_664 : decode cL_law 664 = .ok (.iadd, 1) := by decide +kernel
theorem dL_law_665 : decode cL_law 665 = .ok (.iaload, 1) := by decide +kernel
theorem dL_law_666 : decode cL_law 666 = .ok (.invokevirtual 97, 3) := by decide +kernel
theorem dL_law_669 : decode cL_law 669 = .ok (.if_icmp .eq 150, 3) := by decide +kernel
theorem dL_law_672 : decode cL_law 672 = .ok (.iconst 0, 1) := by decide +kernel
theorem dL_law_673 : decode cL_law 673 = .ok (.ireturn, 1) := by decide +kernel
theorem dL_law_674 : decode cL_law 674 = .ok (.aload_n 1, 1) := by decide +kernel
theorem dL_law_675 : decode cL_law 675 = .ok (.aload_n 0, 1) := by decide +kernel
theorem dL_law_676 : decode cL_law 676 = .ok (.iload_n 3, 1) := by decide +kernel
theorem dL_law_677 : decode cL_law 677 = .ok (.iconst 1, 1) := by decide +kernel
theorem dL_law_678 : decode cL_law 678 = .ok (.iadd, 1) := by decide +kernel
theorem dL_law_679 : decode cL_law 679 = .ok (.iaload, 1) := by decide +kernel
theorem dL_law_680 : decode cL_law 680 = .ok (.aload_n 0, 1) := by decide +kernel
theorem dL_law_681 : decode cL_law 681 = .ok (.iload_n 3, 1) := by decide +kernel
theorem dL_law_682 : decode cL_law 682 = .ok (.iconst 2, 1) := by decide +kernel
theorem dL_law_683 : decode cL_law 683 = .ok (.iadd, 1) := by decide +kernel
theorem dL_law_684 : decode cL_law 684 = .ok (.iaload, 1) := by decide +kernel
theorem dL_law_685 : decode cL_law 685 = .ok (.aload_n 0, 1) := by decide +kernel
theorem dL_law_686 : decode cL_law 686 = .ok (.iload_n 3, 1) := by decide +kernel
theorem dL_law_687 : decode cL_law 687 = .ok (.iconst 3, 1) := by decide +kernel
theorem dL_law_688 : decode cL_law 688 = .ok (.iadd, 1) := by decide +kernel
theorem dL_law_689 : decode cL_law 689 = .ok (.iaload, 1) := by decide +kernel
theorem dL_law_690 : decode cL_law 690 = .ok (.aload_n 0, 1) := by decide +kernel
theorem dL_law_691 : decode cL_law 691 = .ok (.iload_n 3, 1) := by decide +kernel
theorem dL_law_692 : decode cL_law 692 = .ok (.iconst 4, 1) := by decide +kernel
theorem dL_law_693 : decode cL_law 693 = .ok (.iadd, 1) := by decide +kernel
theorem dL_law_694 : decode cL_law 694 = .ok (.iaload, 1) := by decide +kernel
theorem dL_law_695 : decode cL_law 695 = .ok (.invokevirtual 98, 3) := by decide +kernel
theorem dL_law_698 : decode cL_law 698 = .ok (.aload_n 2, 1) := by decide +kernel
theorem dL_law_699 : decode cL_law 699 = .ok (.aload_n 0, 1) := by decide +kernel
theorem dL_law_700 : decode cL_law 700 = .ok (.iload_n 3, 1) := by decide +kernel
theorem dL_law_701 : decode cL_law 701 = .ok (.iconst 1, 1) := by decide +kernel
theorem dL_law_702 : decode cL_law 702 = .ok (.iadd, 1) := by decide +kernel
theorem dL_law_703 : decode cL_law 703 = .ok (.iaload, 1) := by decide +kernel
theorem dL_law_704 : decode cL_law 704 = .ok (.aload_n 0, 1) := by decide +kernel
theorem dL_law_705 : decode cL_law 705 = .ok (.iload_n 3, 1) := by decide +kernel
theorem dL_law_706 : decode cL_law 706 = .ok (.iconst 2, 1) := by decide +kernel
theorem dL_law_707 : decode cL_law 707 = .ok (.iadd, 1) := by decide +kernel
theorem dL_law_708 : decode cL_law 708 = .ok (.iaload, 1) := by decide +kernel
theorem dL_law_709 : decode cL_law 709 = .ok (.aload_n 0, 1) := by decide +kernel
theorem dL_law_710 : decode cL_law 710 = .ok (.iload_n 3, 1) := by decide +kernel
theorem dL_law_711 : decode cL_law 711 = .ok (.iconst 3, 1) := by decide +kernel
theorem dL_law_712 : decode cL_law 712 = .ok (.iadd, 1) := by decide +kernel
theorem dL_law_713 : decode cL_law 713 = .ok (.iaload, 1) := by decide +kernel
theorem dL_law_714 : decode cL_law 714 = .ok (.aload_n 0, 1) := by decide +kernel
theorem dL_law_715 : decode cL_law 715 = .ok (.iload_n 3, 1) := by decide +kernel
theorem dL_law_716 : decode cL_law 716 = .ok (.iconst 4, 1) := by decide +kernel
theorem dL_law_717 : decode cL_law 717 = .ok (.iadd, 1) := by decide +kernel
theorem dL_law_718 : decode cL_law 718 = .ok (.iaload, 1) := by decide +kernel
theorem dL_law_719 : decode cL_law 719 = .ok (.invokevirtual 102, 3) := by decide +kernel
theorem dL_law_722 : decode cL_law 722 = .ok (.if_icmp .eq 97, 3) := by decide +kernel
theorem dL_law_725 : decode cL_law 725 = .ok (.iconst 0, 1) := by decide +kernel
theorem dL_law_726 : decode cL_law 726 = .ok (.ireturn, 1) := by decide +kernel
theorem dL_law_727 : decode cL_law 727 = .ok (.aload_n 1, 1) := by decide +kernel
theorem dL_law_728 : decode cL_law 728 = .ok (.aload_n 0, 1) := by decide +kernel
theorem dL_law_729 : decode cL_law 729 = .ok (.iload_n 3, 1) := by decide +kernel
theorem dL_law_730 : decode cL_law 730 = .ok (.iconst 1, 1) := by decide +kernel
theorem dL_law_731 : decode cL_law 731 = .ok (.iadd, 1) := by decide +kernel
theorem dL_law_732 : decode cL_law 732 = .ok (.iaload, 1) := by decide +kernel
theorem dL_law_733 : decode cL_law 733 = .ok (.aload_n 0, 1) := by decide +kernel
theorem dL_law_734 : decode cL_law 734 = .ok (.iload_n 3, 1) := by decide +kernel
theorem dL_law_735 : decode cL_law 735 = .ok (.iconst 2, 1) := by decide +kernel
theorem dL_law_736 : decode cL_law 736 = .ok (.iadd, 1) := by decide +kernel
theorem dL_law_737 : decode cL_law 737 = .ok (.iaload, 1) := by decide +kernel
theorem dL_law_738 : decode cL_law 738 = .ok (.aload_n 0, 1) := by decide +kernel
theorem dL_law_739 : decode cL_law 739 = .ok (.iload_n 3, 1) := by decide +kernel
theorem dL_law_740 : decode cL_law 740 = .ok (.iconst 3, 1) := by decide +kernel
theorem dL_law_741 : decode cL_law 741 = .ok (.iadd, 1) := by decide +kernel
theorem dL_law_742 : decode cL_law 742 = .ok (.iaload, 1) := by decide +kernel
theorem dL_law_743 : decode cL_law 743 = .ok (.invokevirtual 103, 3) := by decide +kernel
theorem dL_law_746 : decode cL_law 746 = .ok (.aload_n 2, 1) := by decide +kernel
theorem dL_law_747 : decode cL_law 747 = .ok (.aload_n 0, 1) := by decide +kernel
theorem dL_law_748 : decode cL_law 748 = .ok (.iload_n 3, 1) := by decide +kernel
theorem dL_law_749 : decode cL_law 749 = .ok (.iconst 1, 1) := by decide +kernel
theorem dL_law_750 : decode cL_law 750 = .ok (.iadd, 1) := by decide +kernel
theorem dL_law_751 : decode cL_law 751 = .ok (.iaload, 1) := by decide +kernel
theorem dL_law_752 : decode cL_law 752 = .ok (.aload_n 0, 1) := by decide +kernel
theorem dL_law_753 : decode cL_law 753 = .ok (.iload_n 3, 1) := by decide +kernel
theorem dL_law_754 : decode cL_law 754 = .ok (.iconst 2, 1) := by decide +kernel
theorem dL_law_755 : decode cL_law 755 = .ok (.iadd, 1) := by decide +kernel
theorem dL_law_756 : decode cL_law 756 = .ok (.iaload, 1) := by decide +kernel
theorem dL_law_757 : decode cL_law 757 = .ok (.aload_n 0, 1) := by decide +kernel
theorem dL_law_758 : decode cL_law 758 = .ok (.iload_n 3, 1) := by decide +kernel
theorem dL_law_759 : decode cL_law 759 = .ok (.iconst 3, 1) := by decide +kernel
theorem dL_law_760 : decode cL_law 760 = .ok (.iadd, 1) := by decide +kernel
theorem dL_law_761 : decode cL_law 761 = .ok (.iaload, 1) := by decide +kernel
theorem dL_law_762 : decode cL_law 762 = .ok (.invokevirtual 106, 3) := by decide +kernel
theorem dL_law_765 : decode cL_law 765 = .ok (.if_icmp .eq 54, 3) := by decide +kernel
theorem dL_law_768 : decode cL_law 768 = .ok (.iconst 0, 1) := by decide +kernel
theorem dL_law_769 : decode cL_law 769 = .ok (.ireturn, 1) := by decide +kernel
theorem dL_law_770 : decode cL_law 770 = .ok (.aload_n 1, 1) := by decide +kernel
theorem dL_law_771 : decode cL_law 771 = .ok (.invokevirtual 107, 3) := by decide +kernel
theorem dL_law_774 : decode cL_law 774 = .ok (.aload_n 2, 1) := by decide +kernel
theorem dL_law_775 : decode cL_law 775 = .ok (.invokevirtual 110, 3) := by decide +kernel
theorem dL_law_778 : decode cL_law 778 = .ok (.if_icmp .eq 41, 3) := by decide +kernel
theorem dL_law_781 : decode cL_law 781 = .ok (.iconst 0, 1) := by decide +kernel
theorem dL_law_782 : decode cL_law 782 = .ok (.ireturn, 1) := by decide +kernel
theorem dL_law_783 : decode cL_law 783 = .ok (.aload_n 1, 1) := by decide +kernel
theorem dL_law_784 : decode cL_law 784 = .ok (.invokevirtual 111, 3) := by decide +kernel
theorem dL_law_787 : decode cL_law 787 = .ok (.aload_n 2, 1) := by decide +kernel
theorem dL_law_788 : decode cL_law 788 = .ok (.invokevirtual 114, 3) := by decide +kernel
theorem dL_law_791 : decode cL_law 791 = .ok (.if_icmp .eq 28, 3) := by decide +kernel
theorem dL_law_794 : decode cL_law 794 = .ok (.iconst 0, 1) := by decide +kernel
theorem dL_law_795 : decode cL_law 795 = .ok (.ireturn, 1) := by decide +kernel
theorem dL_law_796 : decode cL_law 796 = .ok (.aload_n 1, 1) := by decide +kernel
theorem dL_law_797 : decode cL_law 797 = .ok (.aload_n 0, 1) := by decide +kernel
theorem dL_law_798 : decode cL_law 798 = .ok (.iload_n 3, 1) := by decide +kernel
theorem dL_law_799 : decode cL_law 799 = .ok (.iconst 1, 1) := by decide +kernel
theorem dL_law_800 : decode cL_law 800 = .ok (.iadd, 1) := by decide +kernel
theorem dL_law_801 : decode cL_law 801 = .ok (.iaload, 1) := by decide +kernel
theorem dL_law_802 : decode cL_law 802 = .ok (.invokevirtual 115, 3) := by decide +kernel
theorem dL_law_805 : decode cL_law 805 = .ok (.aload_n 2, 1) := by decide +kernel
theorem dL_law_806 : decode cL_law 806 = .ok (.aload_n 0, 1) := by decide +kernel
theorem dL_law_807 : decode cL_law 807 = .ok (.iload_n 3, 1) := by decide +kernel
theorem dL_law_808 : decode cL_law 808 = .ok (.iconst 1, 1) := by decide +kernel
theorem dL_law_809 : decode cL_law 809 = .ok (.iadd, 1) := by decide +kernel
theorem dL_law_810 : decode cL_law 810 = .ok (.iaload, 1) := by decide +kernel
theorem dL_law_811 : decode cL_law 811 = .ok (.invokevirtual 118, 3) := by decide +kernel
theorem dL_law_814 : decode cL_law 814 = .ok (.if_icmp .eq 5, 3) := by decide +kernel
theorem dL_law_817 : decode cL_law 817 = .ok (.iconst 0, 1) := by decide +kernel
theorem dL_law_818 : decode cL_law 818 = .ok (.ireturn, 1) := by decide +kernel
theorem dL_law_819 : decode cL_law 819 = .ok (.iinc 3 5, 3) := by decide +kernel
theorem dL_law_822 : decode cL_law 822 = .ok (.goto (-804), 3) := by decide +kernel
theorem dL_law_825 : decode cL_law 825 = .ok (.iconst 1, 1) := by decide +kernel
theorem dL_law_826 : decode cL_law 826 = .ok (.ireturn, 1) := by decide +kernel
end
section
/-! numbers: whole numbers in the range of an int; a model's partial functions -/
abbrev z_n (x : Int) : Prop := -2147483648 ≤ x ∧ x ≤ 2147483647
abbrev z_r (f : Int → Int) : Prop := ∀ j, z_n (f j)
def z_i (x : Int) : Value := .int (Int32.ofInt x)
theorem z_toInt {x : Int} (h : z_n x) : (Int32.ofInt x).toInt = x := Int32.toInt_ofInt_of_le (by omega) (by omega)
theorem z_of (x : Int32) : z_n x.toInt := ⟨by have := x.le_toInt; omega, by have := x.toInt_lt; omega⟩
theorem z_eqi {x y : Int} (hx : z_n x) (hy : z_n y) : Int32.ofInt x = Int32.ofInt y ↔ x = y := ⟨fun h => by rw [← z_toInt hx, ← z_toInt hy, h], fun h => by rw [h]⟩
theorem z_lti {x y : Int} (hx : z_n x) (hy : z_n y) : Int32.ofInt x < Int32.ofInt y ↔ x < y := by rw [Int32.lt_iff_toInt_lt, z_toInt hx, z_toInt hy]
theorem z_lei {x y : Int} (hx : z_n x) (hy : z_n y) : Int32.ofInt x ≤ Int32.ofInt y ↔ x ≤ y := by rw [Int32.le_iff_toInt_le, z_toInt hx, z_toInt hy]
theorem z_zero : (0 : Int32) = Int32.ofInt 0 := rfl
theorem z_n0 : z_n 0 := ⟨by omega, by omega⟩
theorem z_clamp {x : Int} (h : z_n x) : (Int32.ofInt x).toNatClampNeg = x.toNat := by rw [← Int32.toNat_toInt, z_toInt h]
theorem z_idx {x : Int} {n : Nat} (h : 0 ≤ x ∧ x < (n : Int)) (hn : z_n x) : vp_in (Int32.ofInt x) n := by
  unfold vp_in
  rw [z_clamp hn, z_zero, z_lti hn z_n0]
  omega
def z_up {α : Type} (f : Int → α) (i : Int) (v : α) : Int → α := fun j => if j = i then v else f j
def z_cpy {α : Type} (f g : Int → α) (sp dp n : Int) : Int → α := fun k => if dp ≤ k ∧ k < dp + n then f (sp + (k - dp)) else g k
theorem z_r_up {f : Int → Int} {i v : Int} (hf : z_r f) (hv : z_n v) : z_r (z_up f i v) := fun j => by
  unfold z_up
  split
  · exact hv
  · exact hf j
theorem z_r_cpy {f g : Int → Int} {a b n : Int} (hf : z_r f) (hg : z_r g) : z_r (z_cpy f g a b n) := fun j => by
  unfold z_cpy
  split
  · exact hf _
  · exact hg j
def z_chk {α : Type} (p : Prop) [Decidable p] (k : Option α) : Option α := if p then k else none
theorem z_chk_some {α : Type} {p : Prop} [Decidable p] {k : Option α} {r : α} (h : z_chk p k = some r) : p ∧ k = some r := by
  unfold z_chk at h
  split at h
  · exact ⟨‹p›, h⟩
  · cases h
theorem z_chk_pos {α : Type} {p : Prop} [Decidable p] (hp : p) (k : Option α) : z_chk p k = k := if_pos hp
theorem z_ite {α : Type} {p : Prop} [Decidable p] {a b c : α} (h : (if p then a else b) = c) : (p ∧ a = c) ∨ (¬ p ∧ b = c) := by
  split at h
  · exact Or.inl ⟨‹p›, h⟩
  · exact Or.inr ⟨‹¬ p›, h⟩
def z_b0 {δ : Type} (x : Option Unit) (f : Option δ) : Option δ := match x with
  | none => none
  | some _ => f
theorem z_b0s {δ : Type} {x : Option Unit} {f : Option δ} {r : δ} (h : z_b0 x f = some r) : x = some () ∧ f = some r := by
  cases x with
  | none => cases h
  | some a => exact ⟨rfl, h⟩
def z_b1 {α δ : Type} (x : Option α) (f : α → Option δ) : Option δ := match x with
  | none => none
  | some a => f a
theorem z_b1s {α δ : Type} {x : Option α} {f : α → Option δ} {r : δ} (h : z_b1 x f = some r) : ∃ a, x = some a ∧ f a = some r := by
  cases x with
  | none => cases h
  | some a => exact ⟨a, rfl, h⟩
theorem z_b1p {α δ : Type} {x : Option α} {a : α} (h : x = some a) (f : α → Option δ) : z_b1 x f = f a := by rw [h]; rfl
def z_b2 {α β δ : Type} (x : Option (α × β)) (f : α → β → Option δ) : Option δ := match x with
  | none => none
  | some (a, b) => f a b
theorem z_b2s {α β δ : Type} {x : Option (α × β)} {f : α → β → Option δ} {r : δ} (h : z_b2 x f = some r) : ∃ a b, x = some (a, b) ∧ f a b = some r := by
  cases x with
  | none => cases h
  | some a => exact ⟨a.1, a.2, rfl, h⟩
def z_b3 {α β γ δ : Type} (x : Option (α × β × γ)) (f : α → β → γ → Option δ) : Option δ := match x with
  | none => none
  | some (a, b, c) => f a b c
theorem z_b3s {α β γ δ : Type} {x : Option (α × β × γ)} {f : α → β → γ → Option δ} {r : δ} (h : z_b3 x f = some r) : ∃ a b c, x = some (a, b, c) ∧ f a b c = some r := by
  cases x with
  | none => cases h
  | some a => exact ⟨a.1, a.2.1, a.2.2, rfl, h⟩
def z_b4 {α β γ ε δ : Type} (x : Option (α × β × γ × ε)) (f : α → β → γ → ε → Option δ) : Option δ := match x with
  | none => none
  | some (a, b, c, d) => f a b c d
theorem z_b4s {α β γ ε δ : Type} {x : Option (α × β × γ × ε)} {f : α → β → γ → ε → Option δ} {r : δ} (h : z_b4 x f = some r) : ∃ a b c d, x = some (a, b, c, d) ∧ f a b c d = some r := by
  cases x with
  | none => cases h
  | some a => exact ⟨a.1, a.2.1, a.2.2.1, a.2.2.2, rfl, h⟩
def z_b5 {α β γ ε ζ δ : Type} (x : Option (α × β × γ × ε × ζ)) (f : α → β → γ → ε → ζ → Option δ) : Option δ := match x with
  | none => none
  | some (a, b, c, d, e) => f a b c d e
theorem z_b5s {α β γ ε ζ δ : Type} {x : Option (α × β × γ × ε × ζ)} {f : α → β → γ → ε → ζ → Option δ} {r : δ} (h : z_b5 x f = some r) : ∃ a b c d e, x = some (a, b, c, d, e) ∧ f a b c d e = some r := by
  cases x with
  | none => cases h
  | some a => exact ⟨a.1, a.2.1, a.2.2.1, a.2.2.2.1, a.2.2.2.2, rfl, h⟩
def z_b6 {α β γ ε ζ η δ : Type} (x : Option (α × β × γ × ε × ζ × η)) (f : α → β → γ → ε → ζ → η → Option δ) : Option δ := match x with
  | none => none
  | some (a, b, c, d, e, g) => f a b c d e g
theorem z_b6s {α β γ ε ζ η δ : Type} {x : Option (α × β × γ × ε × ζ × η)} {f : α → β → γ → ε → ζ → η → Option δ} {r : δ} (h : z_b6 x f = some r) : ∃ a b c d e g, x = some (a, b, c, d, e, g) ∧ f a b c d e g = some r := by
  cases x with
  | none => cases h
  | some a => exact ⟨a.1, a.2.1, a.2.2.1, a.2.2.2.1, a.2.2.2.2.1, a.2.2.2.2.2, rfl, h⟩
/-! int operations that are not sums and products -/
def z_and (a b : Int) : Int := (Int32.ofInt a &&& Int32.ofInt b).toInt
def z_or (a b : Int) : Int := (Int32.ofInt a ||| Int32.ofInt b).toInt
def z_shl (a b : Int) : Int := (Int32.ofInt a <<< (Int32.ofInt b &&& 31)).toInt
def z_shr (a b : Int) : Int := (Int32.ofInt a >>> (Int32.ofInt b &&& 31)).toInt
def z_ushr (a b : Int) : Int := ((Int32.ofInt a).toUInt32 >>> ((Int32.ofInt b).toUInt32 &&& Int32.toUInt32 31)).toInt32.toInt
def z_i2c (a : Int) : Int := ((Int32.ofInt a).toUInt32 % 65536).toInt32.toInt
def z_i2l (a : Int) : Int64 := (Int32.ofInt a).toInt64
def z_l2i (a : Int64) : Int := a.toInt32.toInt
def z_lcmp (a b : Int64) : Int := (lg_cmp a b).toInt
def z_lshl (a : Int64) (b : Int) : Int64 := a <<< ((Int32.ofInt b).toInt64 &&& 63)
def z_lshr (a : Int64) (b : Int) : Int64 := a >>> ((Int32.ofInt b).toInt64 &&& 63)
def z_lrem (a b : Int64) : Int64 := a - a / b * b
theorem z_iof (x : Int32) : z_i x.toInt = .int x := by unfold z_i; rw [Int32.ofInt_toInt]
/-! worlds -/
abbrev z_G : Type := va_G × ClassId × ClassId × ClassId × ClassId
def z_T (G : z_G) : List (ClassId × FieldType) := [(G.2.1, .int), (G.2.2.1, .long), (G.2.2.2.1, .char), (G.2.2.2.2, .boolean)]
def z_nest : List Cond := [.methodLinkNest RX5 13 yX3_init RX5, .methodLinkNest RX5 20 yX0_init RX5, .methodLinkNest RX5 27 yX4_init RX5, .methodLinkNest RX5 40 yX2_init RX5, .methodLinkNest RX5 47 yX1_init RX5, .methodLinkNest RX0 32 yX5_isFrom RX5, .methodLinkNest RX3 58 yX5_isFrom RX5]
def z_K (G : z_G) (U : State) : Prop := va_K G.1 vwCl (z_T G) U ∧ ∀ w ∈ z_nest, va_Nw w U
theorem z_nest_form {w : Cond} (h : w ∈ z_nest) : ∃ a i x hh, w = .methodLinkNest a i x hh := by
  simp only [z_nest, List.mem_cons, List.not_mem_nil, or_false] at h
  rcases h with rfl | rfl | rfl | rfl | rfl | rfl | rfl <;> exact ⟨_, _, _, _, rfl⟩
theorem z_K.moved {G : z_G} {s U : State} (hW : s.WarmedH U.vm) (h : z_K G s) : z_K G U := by
  refine ⟨va_K.moved hW.alike h.1, fun w hw => ?_⟩
  have h2 := h.2 w hw
  obtain ⟨a, i, x, hh, rfl⟩ := z_nest_form hw
  exact va_Nw.warmM hW h2
theorem z_K.same {G : z_G} {s U : State} (e : s.vm = U.vm) (h : z_K G s) : z_K G U := by
  refine ⟨va_K.moved (by rw [e]; exact Vm.Alike.refl U.vm) h.1, fun w hw => ?_⟩
  have h2 := h.2 w hw
  obtain ⟨a, i, x, hh, rfl⟩ := z_nest_form hw
  exact va_Nw.same rfl e h2
def z_a (c : ClassId) (n : Nat) (f : Int → Int) : va_E := .inl (c, (n, .inl (fun j => Int32.ofInt (f (j : Int)))))
def z_l (c : ClassId) (n : Nat) (f : Int → Int64) : va_E := .inl (c, (n, .inr (.inl (fun j => f (j : Int)))))
def z_o (ci : Nat) (fs : List Value) : va_E := .inr (ci, fs)
def z_W : List Cond := lw_tbl.filter goodWord
theorem z_mem (i : Nat) {w : Cond} (h : lw_tbl[i]? = some w) (hg : goodWord w = true) : w ∈ z_W := List.mem_filter.mpr ⟨List.mem_of_getElem? h, hg⟩
theorem z_W_tbl {w : Cond} (h : w ∈ z_W) : w ∈ lw_tbl := (List.mem_filter.mp h).1
theorem z_W_good {w : Cond} (h : w ∈ z_W) : goodWord w = true := (List.mem_filter.mp h).2
/-- the cells isC of ws take the contents xs -/
def z_put : va_W → List Nat → va_W → va_W
  | ws, i :: is, x :: xs => z_put (ws.set i x) is xs
  | ws, _, _ => ws
theorem z_put_get : ∀ (is : List Nat) (xs ws : va_W), is.length = xs.length → va_nd is = true → ∀ (k : Nat) (q : Nat × va_E), (z_put ws is xs)[k]? = some q → (∃ j : Nat, is[j]? = some k ∧ xs[j]? = some q) ∨ (k ∉ is ∧ ws[k]? = some q)
  | [], xs, ws, _, _, k, q, h => Or.inr ⟨List.not_mem_nil, by cases xs <;> exact h⟩
  | i :: is, [], ws, hl, _, k, q, h => by cases hl
  | i :: is, x :: xs, ws, hl, hn, k, q, h => by
    simp only [va_nd, Bool.and_eq_true, decide_eq_true_eq] at hn
    rcases z_put_get is xs (ws.set i x) (by simpa using hl) hn.2 k q h with ⟨j, h1, h2⟩ | ⟨h1, h2⟩
    · exact Or.inl ⟨j + 1, by simpa using h1, by simpa using h2⟩
    · by_cases hk : k = i
      · subst hk
        have hlt : k < ws.length := by
          have := (List.getElem?_eq_some_iff.mp h2).1
          simpa using this
        rw [List.getElem?_set_self hlt] at h2
        exact Or.inl ⟨0, rfl, by simpa using h2⟩
      · rw [List.getElem?_set_ne (Ne.symm hk)] at h2
        exact Or.inr ⟨fun hm => (List.mem_cons.mp hm).elim hk h1, h2⟩
theorem z_at {is : List Nat} {ws wc : va_W} (hs : is.map (fun i => ws[i]?) = wc.map some) (k : Nat) (q : Nat × va_E) (hq : wc[k]? = some q) : ∃ i, is[k]? = some i ∧ ws[i]? = some q := by
  have h1 : (is.map (fun i => ws[i]?))[k]? = some (some q) := by rw [hs, List.getElem?_map, hq]; rfl
  rw [List.getElem?_map] at h1
  cases hi : is[k]? with
  | none => rw [hi] at h1; cases h1
  | some i => rw [hi] at h1; exact ⟨i, rfl, Option.some.inj h1⟩
theorem z_at2 {is : List Nat} {ws wc : va_W} (hs : is.map (fun i => ws[i]?) = wc.map some) (k i : Nat) (hi : is[k]? = some i) : ∃ q, wc[k]? = some q ∧ ws[i]? = some q := by
  have h1 : (wc.map some)[k]? = some (ws[i]?) := by rw [← hs, List.getElem?_map, hi]; rfl
  rw [List.getElem?_map] at h1
  cases hq : wc[k]? with
  | none => rw [hq] at h1; cases h1
  | some q => rw [hq] at h1; exact ⟨q, rfl, (Option.some.inj h1).symm⟩
theorem z_len {is : List Nat} {ws wc : va_W} (hs : is.map (fun i => ws[i]?) = wc.map some) : is.length = wc.length := by
  have := congrArg List.length hs
  simpa using this
theorem z_adr {w1 wc : va_W} (h : w1.map (fun q => q.1) = wc.map (fun q => q.1)) (k : Nat) {q q' : Nat × va_E} (h1 : w1[k]? = some q) (h2 : wc[k]? = some q') : q.1 = q'.1 := by
  have e : (w1.map (fun q => q.1))[k]? = (wc.map (fun q => q.1))[k]? := by rw [h]
  rw [List.getElem?_map, List.getElem?_map, h1, h2] at e
  exact Option.some.inj e
/-- behind a call: the callee's cells take their new contents in their places, what it has made comes behind -/
theorem z_join {A : Nat → Prop} {D : va_G} {cl : List vw_C} {ws wc w1 wn : va_W} {H H1 : Heap} (hP : va_P D cl ws H) (hD : va_D A ws) (is : List Nat) (hs : is.map (fun i => ws[i]?) = wc.map some) (hn : va_nd is = true) (hw : w1.map (fun q => q.1) = wc.map (fun q => q.1))
    (hk : ∀ q : Nat, q < H.size → ¬ va_A wc H.size q → H1[q]? = H[q]?) (hF : ∀ q, va_A wc H.size q → A q) (hP1 : va_P D cl (w1 ++ wn) H1) (hD1 : va_D (va_A wc H.size) (w1 ++ wn)) : va_P D cl (z_put ws is w1 ++ wn) H1 ∧ va_D A (z_put ws is w1 ++ wn) := by
  have hl1 : w1.length = wc.length := by have := congrArg List.length hw; simpa using this
  have hl : is.length = w1.length := by rw [hl1]; exact z_len hs
  have apart : ∀ (k : Nat) (q : Nat × va_E), k ∉ is → ws[k]? = some q → q.1 < H.size ∧ ¬ va_A wc H.size q.1 := by
    intro k q hki hq
    have hlt := (hP k q hq).lt
    refine ⟨hlt, fun h => ?_⟩
    rcases h with ⟨k2, e, h⟩ | h
    · obtain ⟨j, h3, h4⟩ := z_at hs k2 (q.1, e) h
      have hij := hD.1 k j q (q.1, e) hq h4 rfl
      subst hij
      exact hki (List.mem_of_getElem? h3)
    · omega
  have in1 : ∀ (j : Nat) (q : Nat × va_E), w1[j]? = some q → (w1 ++ wn)[j]? = some q := fun j q h => by
    rw [List.getElem?_append_left (List.getElem?_eq_some_iff.mp h).1]; exact h
  have in2 : ∀ (j : Nat) (q : Nat × va_E), wn[j]? = some q → (w1 ++ wn)[w1.length + j]? = some q := fun j q h => by
    rw [List.getElem?_append_right (by omega), Nat.add_sub_cancel_left]; exact h
  have adr : ∀ (k : Nat) (q : Nat × va_E), (z_put ws is w1)[k]? = some q → ∃ q0, ws[k]? = some q0 ∧ q0.1 = q.1 := by
    intro k q hq
    rcases z_put_get is w1 ws hl hn k q hq with ⟨j, h1, h2⟩ | ⟨h1, h2⟩
    · obtain ⟨q', h3, h4⟩ := z_at2 hs j k h1
      exact ⟨q', h4, (z_adr hw j h2 h3).symm⟩
    · exact ⟨q, h2, rfl⟩
  have PA : va_P D cl (z_put ws is w1) H1 := by
    intro k q hq
    rcases z_put_get is w1 ws hl hn k q hq with ⟨j, h1, h2⟩ | ⟨h1, h2⟩
    · exact hP1 j q (in1 j q h2)
    · obtain ⟨g1, g2⟩ := apart k q h1 h2
      exact (hP k q h2).kept (hk q.1 g1 g2)
  have PB : va_P D cl wn H1 := fun k q hq => hP1 _ q (in2 k q hq)
  have DA : va_D A (z_put ws is w1) := by
    refine ⟨fun i j x y hi hj hxy => ?_, fun k q hq => ?_⟩
    · obtain ⟨x0, h1, h2⟩ := adr i x hi
      obtain ⟨y0, h3, h4⟩ := adr j y hj
      exact hD.1 i j x0 y0 h1 h3 (h2.trans (hxy.trans h4.symm))
    · obtain ⟨q0, h1, h2⟩ := adr k q hq
      rw [← h2]
      exact hD.2 k q0 h1
  have DB : va_D A wn := by
    refine ⟨fun i j x y hi hj hxy => ?_, fun k q hq => hF q.1 (hD1.2 _ q (in2 k q hq))⟩
    have := hD1.1 _ _ x y (in2 i x hi) (in2 j y hj) hxy
    omega
  refine ⟨va_P.app PA PB, va_D.app DA DB fun i j x y hx hy hxy => ?_⟩
  obtain ⟨x0, h1, h2⟩ := adr i x hx
  have hyA := hD1.2 _ y (in2 j y hy)
  rcases hyA with ⟨k2, e, h⟩ | h
  · have hk2 : k2 < w1.length := by rw [hl1]; exact (List.getElem?_eq_some_iff.mp h).1
    have h3 : w1[k2]? = some w1[k2] := List.getElem?_eq_getElem hk2
    have h4 := z_adr hw k2 h3 h
    have := hD1.1 k2 (w1.length + j) _ y (in1 k2 _ h3) (in2 j y hy) h4
    omega
  · have := (hP i x0 h1).lt
    omega
end
section
/-! the judgement: from pc, with these locals, this stack, this world, the method comes to its end -/
abbrev z_X : Type := Program × Launch × Env × Room × State × MethodId × Array Value × List Frame × Method × Code × z_G × (Nat → Prop) × Heap × (State → Prop) × Nat
def z_J : z_X → Nat → Nat → va_W → List (Nat × Value) → Nat → List Value → Prop
  | (p, l, e, R, s, m, args, below, meth, c, G, A, H0, Q, nL), ce, sl, ws, L, pc, st => ∀ (H : Heap) (locs : List Loc) (ls : Array Slot), va_P G.1 vwCl ws H → va_D A ws → va_S A H0 H locs → lv_has ls nL L → W p l e R s m args below meth c H locs ce sl Q (F0 m pc ls st)
def z_C : z_X → Launch → z_G → String → ByteArray → Nat → Room → Prop
  | (p, l, _, R, s, m, args, _, _, c, G, A, H0, _, nL), l', G', own, cc, nL', R' => p.tables.exec = Jvm.exec ∧ c.code = cc ∧ c.maxLocals = nL' ∧ s.vm.findClass own = some m.cls ∧ (∀ w ∈ z_W, w.before args s = true) ∧ z_K G s ∧ (∀ q, H0.size ≤ q → A q) ∧ l = l' ∧ G = G' ∧ nL = nL' ∧ R = R'
def z_Qc (G : z_G) (wc : va_W) (sz : Nat) (post : Option Value → va_W → Prop) : Array Value → State → Outcome → State → Prop := fun _ st oc t => (∃ v w, oc = .returned v ∧ post v w ∧ va_P G.1 vwCl w t.heap ∧ va_D (va_A wc sz) w) ∧ va_F (va_A wc sz) st t
def z_M (l : Launch) (G : z_G) (y : MethodName) (cc : ByteArray) (nL : Nat) (ret : Option FieldType) (rm : Room) (vs : List Value) (wc : va_W) (mc ms : Nat) (post : Option Value → va_W → Prop) : Prop :=
  ∀ sz : Nat, Met l y (Cond.code y cc nL ret :: z_W) rm (va_Pc vs (fun U => U.heap.size = sz ∧ va_P G.1 vwCl wc U.heap ∧ z_K G U ∧ va_D (fun _ => True) wc)) (z_Qc G wc sz post) mc ms (va_A wc sz)
def z_E : z_X → MethodName → Option FieldType → Nat → Nat → (Option Value → va_W → Prop) → Prop
  | (_, _, _, _, s, _, args, below, meth, _, G, A, H0, Q, _), y, ret, mc, ms, post => meth.sig.returnType = ret ∧ meth.locks = false ∧ meth.name = y.name ∧ H0 = s.heap ∧ ∃ wc, A = va_A wc s.heap.size ∧ Q = MQ below (z_Qc G wc s.heap.size post) args s mc ms (va_A wc s.heap.size)
theorem z_M.intro {l : Launch} {G : z_G} {y : MethodName} {cc : ByteArray} {nL : Nat} {ret : Option FieldType} {rm : Room} {vs : List Value} {wc : va_W} {mc ms : Nat} {post : Option Value → va_W → Prop} (hy : plainName y.cls = true) (hlen : (lg_sl vs).length ≤ nL) {L : List (Nat × Value)} (hL : lv_args 0 vs = L)
    (body : ∀ X : z_X, z_C X l G y.cls cc nL rm → z_E X y ret mc ms post → z_J X 0 0 wc L 0 []) : z_M l G y cc nL ret rm vs wc mc ms post := by
  intro sz
  subst hL
  refine Met.ofW (cc := cc) (maxL := nL) (ret := ret) hy rfl ?_
  intro p e s m args below meth c s₁ B hml hv
  obtain ⟨rfl, hsz, hP, hK, hD0⟩ := hv
  subst hsz
  have hts := atoms_spec (ws := Cond.code y cc nL ret :: z_W) B.pre
  have hown : s.vm.findClass y.cls = some m.cls := findClass_of_methodNamed B.named
  have hnm : meth.name = y.name := (name_of_methodNamed B.named B.method).1
  have h := body (p, l, e, rm, s, m, vs.toArray, below, meth, c, G, va_A wc s.heap.size, s.heap, MQ below (z_Qc G wc s.heap.size post) vs.toArray s mc ms (va_A wc s.heap.size), nL)
    ⟨B.exec, B.bytes, hml, hown, fun w hw => hts w (List.mem_cons_of_mem _ hw), hK, fun q hq => Or.inr hq, rfl, rfl, rfl, rfl⟩ ⟨B.returns, B.notSynchronized, hnm, rfl, wc, rfl, rfl⟩
  rw [lg_entry_eq]
  exact h s.heap [] _ hP hD0.self va_S.rf (lv_entry vs hlen)
section
variable {X : z_X} {l : Launch} {G : z_G} {own : String} {cc : ByteArray} {nL : Nat} {R : Room} {ce sl : Nat} {ws ws' : va_W} {L L' : List (Nat × Value)} {pc tgt : Nat} {st : List Value} {a b : Nat} {x y : Int} {u v : Int64}
theorem z_sub (ks : List Nat) (h : lv_pick L ks = L') (kk : z_J X ce sl ws L' pc st) : z_J X ce sl ws L pc st := by
  obtain ⟨p, l', e, R', s, m, args, below, meth, c, G', A, H0, Q, n⟩ := X
  intro H locs ls hP hD hS hl
  exact kk H locs ls hP hD hS (lv_sub hl ks h)
theorem z_iconst (C : z_C X l G own cc nL R) (d : decode cc pc = .ok (.iconst x, 1)) (kk : z_J X ce sl ws L (pc + 1) (z_i x :: st)) : z_J X ce sl ws L pc st := by
  obtain ⟨p, l', e, R', s, m, args, below, meth, c, G', A, H0, Q, n⟩ := X
  obtain ⟨hx, hb, hml, hown, hts, hK, hA, rfl, rfl, rfl, rfl⟩ := C
  intro H locs ls hP hD hS hl
  exact lv_iconst hx hb d rfl (kk H locs ls hP hD hS hl)
theorem z_bipush (C : z_C X l G own cc nL R) (d : decode cc pc = .ok (.bipush x, 2)) (h : (Int8.ofInt x).toInt32 = Int32.ofInt x) (kk : z_J X ce sl ws L (pc + 2) (z_i x :: st)) : z_J X ce sl ws L pc st := by
  obtain ⟨p, l', e, R', s, m, args, below, meth, c, G', A, H0, Q, n⟩ := X
  obtain ⟨hx, hb, hml, hown, hts, hK, hA, rfl, rfl, rfl, rfl⟩ := C
  intro H locs ls hP hD hS hl
  exact lv_bipush hx hb d h (kk H locs ls hP hD hS hl)
theorem z_sipush (C : z_C X l G own cc nL R) (d : decode cc pc = .ok (.sipush x, 3)) (h : (Int16.ofInt x).toInt32 = Int32.ofInt x) (kk : z_J X ce sl ws L (pc + 3) (z_i x :: st)) : z_J X ce sl ws L pc st := by
  obtain ⟨p, l', e, R', s, m, args, below, meth, c, G', A, H0, Q, n⟩ := X
  obtain ⟨hx, hb, hml, hown, hts, hK, hA, rfl, rfl, rfl, rfl⟩ := C
  intro H locs ls hP hD hS hl
  exact lv_sipush hx hb d h (kk H locs ls hP hD hS hl)
theorem z_lconst (C : z_C X l G own cc nL R) {n : Fin 2} (d : decode cc pc = .ok (.lconst n, 1)) (h : Int64.ofNat (n : Nat) = v) (kk : z_J X ce sl ws L (pc + 1) (.long v :: st)) : z_J X ce sl ws L pc st := by
  obtain ⟨p, l', e, R', s, m, args, below, meth, c, G', A, H0, Q, n⟩ := X
  obtain ⟨hx, hb, hml, hown, hts, hK, hA, rfl, rfl, rfl, rfl⟩ := C
  intro H locs ls hP hD hS hl
  exact lv_lconst hx hb d h (kk H locs ls hP hD hS hl)
theorem z_ldc (C : z_C X l G own cc nL R) {idx : Nat} (hc : Cond.constant own idx (Int32.ofInt x) ∈ z_W) (d : decode cc pc = .ok (.ldc idx, 2)) (kk : z_J X ce sl ws L (pc + 2) (z_i x :: st)) : z_J X ce sl ws L pc st := by
  obtain ⟨p, l', e, R', s, m, args, below, meth, c, G', A, H0, Q, n⟩ := X
  obtain ⟨hx, hb, hml, hown, hts, hK, hA, rfl, rfl, rfl, rfl⟩ := C
  intro H locs ls hP hD hS hl
  exact lv_ldc hx hb hown (hts _ hc) d (kk H locs ls hP hD hS hl)
theorem z_ldcw (C : z_C X l G own cc nL R) {idx : Nat} (hc : Cond.constant own idx (Int32.ofInt x) ∈ z_W) (d : decode cc pc = .ok (.ldc_w idx, 3)) (kk : z_J X ce sl ws L (pc + 3) (z_i x :: st)) : z_J X ce sl ws L pc st := by
  obtain ⟨p, l', e, R', s, m, args, below, meth, c, G', A, H0, Q, n⟩ := X
  obtain ⟨hx, hb, hml, hown, hts, hK, hA, rfl, rfl, rfl, rfl⟩ := C
  intro H locs ls hP hD hS hl
  exact lv_ldcw hx hb hown (hts _ hc) d (kk H locs ls hP hD hS hl)
theorem z_ldc2 (C : z_C X l G own cc nL R) {idx : Nat} (hc : Cond.constantLong own idx v ∈ z_W) (d : decode cc pc = .ok (.ldc2_w idx, 3)) (kk : z_J X ce sl ws L (pc + 3) (.long v :: st)) : z_J X ce sl ws L pc st := by
  obtain ⟨p, l', e, R', s, m, args, below, meth, c, G', A, H0, Q, n⟩ := X
  obtain ⟨hx, hb, hml, hown, hts, hK, hA, rfl, rfl, rfl, rfl⟩ := C
  intro H locs ls hP hD hS hl
  exact lv_ldc2 hx hb hown (hts _ hc) d (kk H locs ls hP hD hS hl)
theorem z_iload_n (C : z_C X l G own cc nL R) {k : Fin 4} (d : decode cc pc = .ok (.iload_n k, 1)) (q : Nat) (h : L[q]? = some ((k : Nat), z_i x)) (kk : z_J X ce sl ws L (pc + 1) (z_i x :: st)) : z_J X ce sl ws L pc st := by
  obtain ⟨p, l', e, R', s, m, args, below, meth, c, G', A, H0, Q, n⟩ := X
  obtain ⟨hx, hb, hml, hown, hts, hK, hA, rfl, rfl, rfl, rfl⟩ := C
  intro H locs ls hP hD hS hl
  exact lv_iload_n hx hb d rfl (lv_at hl q h) (kk H locs ls hP hD hS hl)
theorem z_iload (C : z_C X l G own cc nL R) {i : Nat} (d : decode cc pc = .ok (.iload i, 2)) (q : Nat) (h : L[q]? = some (i, z_i x)) (kk : z_J X ce sl ws L (pc + 2) (z_i x :: st)) : z_J X ce sl ws L pc st := by
  obtain ⟨p, l', e, R', s, m, args, below, meth, c, G', A, H0, Q, n⟩ := X
  obtain ⟨hx, hb, hml, hown, hts, hK, hA, rfl, rfl, rfl, rfl⟩ := C
  intro H locs ls hP hD hS hl
  exact lv_iload hx hb d (lv_at hl q h) (kk H locs ls hP hD hS hl)
theorem z_lload_n (C : z_C X l G own cc nL R) {k : Fin 4} (d : decode cc pc = .ok (.lload_n k, 1)) (q : Nat) (h : L[q]? = some ((k : Nat), .long v)) (kk : z_J X ce sl ws L (pc + 1) (.long v :: st)) : z_J X ce sl ws L pc st := by
  obtain ⟨p, l', e, R', s, m, args, below, meth, c, G', A, H0, Q, n⟩ := X
  obtain ⟨hx, hb, hml, hown, hts, hK, hA, rfl, rfl, rfl, rfl⟩ := C
  intro H locs ls hP hD hS hl
  exact lv_lload_n hx hb d rfl (lv_at hl q h) (kk H locs ls hP hD hS hl)
theorem z_lload (C : z_C X l G own cc nL R) {i : Nat} (d : decode cc pc = .ok (.lload i, 2)) (q : Nat) (h : L[q]? = some (i, .long v)) (kk : z_J X ce sl ws L (pc + 2) (.long v :: st)) : z_J X ce sl ws L pc st := by
  obtain ⟨p, l', e, R', s, m, args, below, meth, c, G', A, H0, Q, n⟩ := X
  obtain ⟨hx, hb, hml, hown, hts, hK, hA, rfl, rfl, rfl, rfl⟩ := C
  intro H locs ls hP hD hS hl
  exact lv_lload hx hb d (lv_at hl q h) (kk H locs ls hP hD hS hl)
theorem z_aload_n (C : z_C X l G own cc nL R) {k : Fin 4} (d : decode cc pc = .ok (.aload_n k, 1)) (q : Nat) (h : L[q]? = some ((k : Nat), .ref a)) (kk : z_J X ce sl ws L (pc + 1) (.ref a :: st)) : z_J X ce sl ws L pc st := by
  obtain ⟨p, l', e, R', s, m, args, below, meth, c, G', A, H0, Q, n⟩ := X
  obtain ⟨hx, hb, hml, hown, hts, hK, hA, rfl, rfl, rfl, rfl⟩ := C
  intro H locs ls hP hD hS hl
  exact lv_aload_n hx hb d rfl (lv_at hl q h) (kk H locs ls hP hD hS hl)
theorem z_istore_n (C : z_C X l G own cc nL R) {k : Fin 4} (d : decode cc pc = .ok (.istore_n k, 1)) (hn : (k : Nat) < nL) (h : ((k : Nat), z_i x) :: L.filter (fun q => !(q.1 == (k : Nat)) && !(q.1 + 1 == (k : Nat) && q.2.category == 2)) = L') (kk : z_J X ce sl ws L' (pc + 1) st) : z_J X ce sl ws L pc (z_i x :: st) := by
  obtain ⟨p, l', e, R', s, m, args, below, meth, c, G', A, H0, Q, n⟩ := X
  obtain ⟨hx, hb, hml, hown, hts, hK, hA, rfl, rfl, rfl, rfl⟩ := C
  intro H locs ls hP hD hS hl
  exact lv_istore_n hx hb d rfl hl hn h (fun ls hl => kk H locs ls hP hD hS hl)
theorem z_istore (C : z_C X l G own cc nL R) {i : Nat} (d : decode cc pc = .ok (.istore i, 2)) (hn : i < nL) (h : (i, z_i x) :: L.filter (fun q => !(q.1 == i) && !(q.1 + 1 == i && q.2.category == 2)) = L') (kk : z_J X ce sl ws L' (pc + 2) st) : z_J X ce sl ws L pc (z_i x :: st) := by
  obtain ⟨p, l', e, R', s, m, args, below, meth, c, G', A, H0, Q, n⟩ := X
  obtain ⟨hx, hb, hml, hown, hts, hK, hA, rfl, rfl, rfl, rfl⟩ := C
  intro H locs ls hP hD hS hl
  exact lv_istore hx hb d hl hn h (fun ls hl => kk H locs ls hP hD hS hl)
theorem z_astore_n (C : z_C X l G own cc nL R) {k : Fin 4} (d : decode cc pc = .ok (.astore_n k, 1)) (hn : (k : Nat) < nL) (h : ((k : Nat), Value.ref a) :: L.filter (fun q => !(q.1 == (k : Nat)) && !(q.1 + 1 == (k : Nat) && q.2.category == 2)) = L') (kk : z_J X ce sl ws L' (pc + 1) st) : z_J X ce sl ws L pc (.ref a :: st) := by
  obtain ⟨p, l', e, R', s, m, args, below, meth, c, G', A, H0, Q, n⟩ := X
  obtain ⟨hx, hb, hml, hown, hts, hK, hA, rfl, rfl, rfl, rfl⟩ := C
  intro H locs ls hP hD hS hl
  exact lv_astore_n hx hb d rfl hl hn h (fun ls hl => kk H locs ls hP hD hS hl)
theorem z_lstore_n (C : z_C X l G own cc nL R) {k : Fin 4} (d : decode cc pc = .ok (.lstore_n k, 1)) (hn : (k : Nat) + 1 < nL) (h : ((k : Nat), Value.long v) :: L.filter (fun q => !(q.1 == (k : Nat)) && (!(q.1 == (k : Nat) + 1) && !(q.1 + 1 == (k : Nat) && q.2.category == 2))) = L') (kk : z_J X ce sl ws L' (pc + 1) st) : z_J X ce sl ws L pc (.long v :: st) := by
  obtain ⟨p, l', e, R', s, m, args, below, meth, c, G', A, H0, Q, n⟩ := X
  obtain ⟨hx, hb, hml, hown, hts, hK, hA, rfl, rfl, rfl, rfl⟩ := C
  intro H locs ls hP hD hS hl
  exact lv_lstore_n hx hb d rfl hl hn h (fun ls hl => kk H locs ls hP hD hS hl)
theorem z_lstore (C : z_C X l G own cc nL R) {i : Nat} (d : decode cc pc = .ok (.lstore i, 2)) (hn : i + 1 < nL) (h : (i, Value.long v) :: L.filter (fun q => !(q.1 == i) && (!(q.1 == i + 1) && !(q.1 + 1 == i && q.2.category == 2))) = L') (kk : z_J X ce sl ws L' (pc + 2) st) : z_J X ce sl ws L pc (.long v :: st) := by
  obtain ⟨p, l', e, R', s, m, args, below, meth, c, G', A, H0, Q, n⟩ := X
  obtain ⟨hx, hb, hml, hown, hts, hK, hA, rfl, rfl, rfl, rfl⟩ := C
  intro H locs ls hP hD hS hl
  exact lv_lstore hx hb d hl hn h (fun ls hl => kk H locs ls hP hD hS hl)
theorem z_iinc (C : z_C X l G own cc nL R) {i : Nat} {n : Int} (d : decode cc pc = .ok (.iinc i n, 3)) (q : Nat) (hq : L[q]? = some (i, z_i x)) (hn : i < nL) (h : (i, z_i (x + n)) :: L.filter (fun q => !(q.1 == i) && !(q.1 + 1 == i && q.2.category == 2)) = L') (kk : z_J X ce sl ws L' (pc + 3) st) : z_J X ce sl ws L pc st := by
  obtain ⟨p, l', e, R', s, m, args, below, meth, c, G', A, H0, Q, n'⟩ := X
  obtain ⟨hx, hb, hml, hown, hts, hK, hA, rfl, rfl, rfl, rfl⟩ := C
  intro H locs ls hP hD hS hl
  exact lv_iinc hx hb d hl hq (Int32.ofInt_add x n).symm hn h (fun ls hl => kk H locs ls hP hD hS hl)
theorem z_iadd (C : z_C X l G own cc nL R) (d : decode cc pc = .ok (.iadd, 1)) (kk : z_J X ce sl ws L (pc + 1) (z_i (x + y) :: st)) : z_J X ce sl ws L pc (z_i y :: z_i x :: st) := by
  obtain ⟨p, l', e, R', s, m, args, below, meth, c, G', A, H0, Q, n⟩ := X
  obtain ⟨hx, hb, hml, hown, hts, hK, hA, rfl, rfl, rfl, rfl⟩ := C
  intro H locs ls hP hD hS hl
  refine lv_iadd hx hb d ?_
  rw [← Int32.ofInt_add]
  exact kk H locs ls hP hD hS hl
theorem z_isub (C : z_C X l G own cc nL R) (d : decode cc pc = .ok (.isub, 1)) (kk : z_J X ce sl ws L (pc + 1) (z_i (x - y) :: st)) : z_J X ce sl ws L pc (z_i y :: z_i x :: st) := by
  obtain ⟨p, l', e, R', s, m, args, below, meth, c, G', A, H0, Q, n⟩ := X
  obtain ⟨hx, hb, hml, hown, hts, hK, hA, rfl, rfl, rfl, rfl⟩ := C
  intro H locs ls hP hD hS hl
  refine lv_isub hx hb d ?_
  rw [← Int32.ofInt_sub]
  exact kk H locs ls hP hD hS hl
theorem z_imul (C : z_C X l G own cc nL R) (d : decode cc pc = .ok (.imul, 1)) (kk : z_J X ce sl ws L (pc + 1) (z_i (x * y) :: st)) : z_J X ce sl ws L pc (z_i y :: z_i x :: st) := by
  obtain ⟨p, l', e, R', s, m, args, below, meth, c, G', A, H0, Q, n⟩ := X
  obtain ⟨hx, hb, hml, hown, hts, hK, hA, rfl, rfl, rfl, rfl⟩ := C
  intro H locs ls hP hD hS hl
  refine lv_imul hx hb d ?_
  rw [← Int32.ofInt_mul]
  exact kk H locs ls hP hD hS hl
theorem z_ofdiv (hx : z_n x) (hy : z_n y) : Int32.ofInt x / Int32.ofInt y = Int32.ofInt (x.tdiv y) := (Int32.ofInt_tdiv (by rw [Int32.toInt_minValue]; omega) (by rw [Int32.toInt_maxValue]; omega) (by rw [Int32.toInt_minValue]; omega) (by rw [Int32.toInt_maxValue]; omega)).symm
theorem z_idiv (C : z_C X l G own cc nL R) (hx1 : z_n x) (hy1 : z_n y) (hy : y ≠ 0) (d : decode cc pc = .ok (.idiv, 1)) (kk : z_J X ce sl ws L (pc + 1) (z_i (x.tdiv y) :: st)) : z_J X ce sl ws L pc (z_i y :: z_i x :: st) := by
  obtain ⟨p, l', e, R', s, m, args, below, meth, c, G', A, H0, Q, n⟩ := X
  obtain ⟨hx, hb, hml, hown, hts, hK, hA, rfl, rfl, rfl, rfl⟩ := C
  intro H locs ls hP hD hS hl
  refine lv_idiv hx hb d (fun h => hy ((z_eqi hy1 z_n0).mp h)) ?_
  rw [z_ofdiv hx1 hy1]
  exact kk H locs ls hP hD hS hl
theorem z_irem (C : z_C X l G own cc nL R) (hx1 : z_n x) (hy1 : z_n y) (hy : y ≠ 0) (d : decode cc pc = .ok (.irem, 1)) (kk : z_J X ce sl ws L (pc + 1) (z_i (x.tmod y) :: st)) : z_J X ce sl ws L pc (z_i y :: z_i x :: st) := by
  obtain ⟨p, l', e, R', s, m, args, below, meth, c, G', A, H0, Q, n⟩ := X
  obtain ⟨hx, hb, hml, hown, hts, hK, hA, rfl, rfl, rfl, rfl⟩ := C
  intro H locs ls hP hD hS hl
  refine lv_irem hx hb d (fun h => hy ((z_eqi hy1 z_n0).mp h)) ?_
  rw [z_ofdiv hx1 hy1, ← Int32.ofInt_mul, ← Int32.ofInt_sub, show x - x.tdiv y * y = x.tmod y by rw [Int.tmod_def, Int.mul_comm]]
  exact kk H locs ls hP hD hS hl
theorem z_iand (C : z_C X l G own cc nL R) (d : decode cc pc = .ok (.iand, 1)) (kk : z_J X ce sl ws L (pc + 1) (z_i (z_and x y) :: st)) : z_J X ce sl ws L pc (z_i y :: z_i x :: st) := by
  obtain ⟨p, l', e, R', s, m, args, below, meth, c, G', A, H0, Q, n⟩ := X
  obtain ⟨hx, hb, hml, hown, hts, hK, hA, rfl, rfl, rfl, rfl⟩ := C
  intro H locs ls hP hD hS hl
  refine lv_iand hx hb d ?_
  rw [← z_iof]
  exact kk H locs ls hP hD hS hl
theorem z_ior (C : z_C X l G own cc nL R) (d : decode cc pc = .ok (.ior, 1)) (kk : z_J X ce sl ws L (pc + 1) (z_i (z_or x y) :: st)) : z_J X ce sl ws L pc (z_i y :: z_i x :: st) := by
  obtain ⟨p, l', e, R', s, m, args, below, meth, c, G', A, H0, Q, n⟩ := X
  obtain ⟨hx, hb, hml, hown, hts, hK, hA, rfl, rfl, rfl, rfl⟩ := C
  intro H locs ls hP hD hS hl
  refine lv_ior hx hb d ?_
  rw [← z_iof]
  exact kk H locs ls hP hD hS hl
theorem z_ishl (C : z_C X l G own cc nL R) (d : decode cc pc = .ok (.ishl, 1)) (kk : z_J X ce sl ws L (pc + 1) (z_i (z_shl x y) :: st)) : z_J X ce sl ws L pc (z_i y :: z_i x :: st) := by
  obtain ⟨p, l', e, R', s, m, args, below, meth, c, G', A, H0, Q, n⟩ := X
  obtain ⟨hx, hb, hml, hown, hts, hK, hA, rfl, rfl, rfl, rfl⟩ := C
  intro H locs ls hP hD hS hl
  refine lv_ishl hx hb d ?_
  rw [← z_iof]
  exact kk H locs ls hP hD hS hl
theorem z_ishr (C : z_C X l G own cc nL R) (d : decode cc pc = .ok (.ishr, 1)) (kk : z_J X ce sl ws L (pc + 1) (z_i (z_shr x y) :: st)) : z_J X ce sl ws L pc (z_i y :: z_i x :: st) := by
  obtain ⟨p, l', e, R', s, m, args, below, meth, c, G', A, H0, Q, n⟩ := X
  obtain ⟨hx, hb, hml, hown, hts, hK, hA, rfl, rfl, rfl, rfl⟩ := C
  intro H locs ls hP hD hS hl
  refine lv_ishr hx hb d ?_
  rw [← z_iof]
  exact kk H locs ls hP hD hS hl
theorem z_iushr (C : z_C X l G own cc nL R) (d : decode cc pc = .ok (.iushr, 1)) (kk : z_J X ce sl ws L (pc + 1) (z_i (z_ushr x y) :: st)) : z_J X ce sl ws L pc (z_i y :: z_i x :: st) := by
  obtain ⟨p, l', e, R', s, m, args, below, meth, c, G', A, H0, Q, n⟩ := X
  obtain ⟨hx, hb, hml, hown, hts, hK, hA, rfl, rfl, rfl, rfl⟩ := C
  intro H locs ls hP hD hS hl
  refine lv_iushr hx hb d rfl ?_
  rw [← z_iof]
  exact kk H locs ls hP hD hS hl
theorem z_i2cR (C : z_C X l G own cc nL R) (d : decode cc pc = .ok (.i2c, 1)) (kk : z_J X ce sl ws L (pc + 1) (z_i (z_i2c x) :: st)) : z_J X ce sl ws L pc (z_i x :: st) := by
  obtain ⟨p, l', e, R', s, m, args, below, meth, c, G', A, H0, Q, n⟩ := X
  obtain ⟨hx, hb, hml, hown, hts, hK, hA, rfl, rfl, rfl, rfl⟩ := C
  intro H locs ls hP hD hS hl
  refine lv_i2c hx hb d rfl ?_
  rw [← z_iof]
  exact kk H locs ls hP hD hS hl
theorem z_i2lR (C : z_C X l G own cc nL R) (d : decode cc pc = .ok (.i2l, 1)) (kk : z_J X ce sl ws L (pc + 1) (.long (z_i2l x) :: st)) : z_J X ce sl ws L pc (z_i x :: st) := by
  obtain ⟨p, l', e, R', s, m, args, below, meth, c, G', A, H0, Q, n⟩ := X
  obtain ⟨hx, hb, hml, hown, hts, hK, hA, rfl, rfl, rfl, rfl⟩ := C
  intro H locs ls hP hD hS hl
  exact lv_i2l hx hb d rfl (kk H locs ls hP hD hS hl)
theorem z_l2iR (C : z_C X l G own cc nL R) (d : decode cc pc = .ok (.l2i, 1)) (kk : z_J X ce sl ws L (pc + 1) (z_i (z_l2i v) :: st)) : z_J X ce sl ws L pc (.long v :: st) := by
  obtain ⟨p, l', e, R', s, m, args, below, meth, c, G', A, H0, Q, n⟩ := X
  obtain ⟨hx, hb, hml, hown, hts, hK, hA, rfl, rfl, rfl, rfl⟩ := C
  intro H locs ls hP hD hS hl
  refine lv_l2i hx hb d rfl ?_
  rw [← z_iof]
  exact kk H locs ls hP hD hS hl
theorem z_lcmpR (C : z_C X l G own cc nL R) (d : decode cc pc = .ok (.lcmp, 1)) (kk : z_J X ce sl ws L (pc + 1) (z_i (z_lcmp u v) :: st)) : z_J X ce sl ws L pc (.long v :: .long u :: st) := by
  obtain ⟨p, l', e, R', s, m, args, below, meth, c, G', A, H0, Q, n⟩ := X
  obtain ⟨hx, hb, hml, hown, hts, hK, hA, rfl, rfl, rfl, rfl⟩ := C
  intro H locs ls hP hD hS hl
  refine W.lcmp hx hb d ?_
  rw [← z_iof]
  exact kk H locs ls hP hD hS hl
theorem z_ladd (C : z_C X l G own cc nL R) (d : decode cc pc = .ok (.ladd, 1)) (kk : z_J X ce sl ws L (pc + 1) (.long (u + v) :: st)) : z_J X ce sl ws L pc (.long v :: .long u :: st) := by
  obtain ⟨p, l', e, R', s, m, args, below, meth, c, G', A, H0, Q, n⟩ := X
  obtain ⟨hx, hb, hml, hown, hts, hK, hA, rfl, rfl, rfl, rfl⟩ := C
  intro H locs ls hP hD hS hl
  exact lv_ladd hx hb d (kk H locs ls hP hD hS hl)
theorem z_lmul (C : z_C X l G own cc nL R) (d : decode cc pc = .ok (.lmul, 1)) (kk : z_J X ce sl ws L (pc + 1) (.long (u * v) :: st)) : z_J X ce sl ws L pc (.long v :: .long u :: st) := by
  obtain ⟨p, l', e, R', s, m, args, below, meth, c, G', A, H0, Q, n⟩ := X
  obtain ⟨hx, hb, hml, hown, hts, hK, hA, rfl, rfl, rfl, rfl⟩ := C
  intro H locs ls hP hD hS hl
  exact lv_lmul hx hb d (kk H locs ls hP hD hS hl)
theorem z_land (C : z_C X l G own cc nL R) (d : decode cc pc = .ok (.land, 1)) (kk : z_J X ce sl ws L (pc + 1) (.long (u &&& v) :: st)) : z_J X ce sl ws L pc (.long v :: .long u :: st) := by
  obtain ⟨p, l', e, R', s, m, args, below, meth, c, G', A, H0, Q, n⟩ := X
  obtain ⟨hx, hb, hml, hown, hts, hK, hA, rfl, rfl, rfl, rfl⟩ := C
  intro H locs ls hP hD hS hl
  exact lv_land hx hb d (kk H locs ls hP hD hS hl)
theorem z_lor (C : z_C X l G own cc nL R) (d : decode cc pc = .ok (.lor, 1)) (kk : z_J X ce sl ws L (pc + 1) (.long (u ||| v) :: st)) : z_J X ce sl ws L pc (.long v :: .long u :: st) := by
  obtain ⟨p, l', e, R', s, m, args, below, meth, c, G', A, H0, Q, n⟩ := X
  obtain ⟨hx, hb, hml, hown, hts, hK, hA, rfl, rfl, rfl, rfl⟩ := C
  intro H locs ls hP hD hS hl
  exact lv_lor hx hb d (kk H locs ls hP hD hS hl)
theorem z_lxor (C : z_C X l G own cc nL R) (d : decode cc pc = .ok (.lxor, 1)) (kk : z_J X ce sl ws L (pc + 1) (.long (u ^^^ v) :: st)) : z_J X ce sl ws L pc (.long v :: .long u :: st) := by
  obtain ⟨p, l', e, R', s, m, args, below, meth, c, G', A, H0, Q, n⟩ := X
  obtain ⟨hx, hb, hml, hown, hts, hK, hA, rfl, rfl, rfl, rfl⟩ := C
  intro H locs ls hP hD hS hl
  exact lv_lxor hx hb d (kk H locs ls hP hD hS hl)
theorem z_ldivR (C : z_C X l G own cc nL R) (hy : v ≠ 0) (d : decode cc pc = .ok (.ldiv, 1)) (kk : z_J X ce sl ws L (pc + 1) (.long (u / v) :: st)) : z_J X ce sl ws L pc (.long v :: .long u :: st) := by
  obtain ⟨p, l', e, R', s, m, args, below, meth, c, G', A, H0, Q, n⟩ := X
  obtain ⟨hx, hb, hml, hown, hts, hK, hA, rfl, rfl, rfl, rfl⟩ := C
  intro H locs ls hP hD hS hl
  exact lv_ldiv hx hb d hy (kk H locs ls hP hD hS hl)
theorem z_lremR (C : z_C X l G own cc nL R) (hy : v ≠ 0) (d : decode cc pc = .ok (.lrem, 1)) (kk : z_J X ce sl ws L (pc + 1) (.long (z_lrem u v) :: st)) : z_J X ce sl ws L pc (.long v :: .long u :: st) := by
  obtain ⟨p, l', e, R', s, m, args, below, meth, c, G', A, H0, Q, n⟩ := X
  obtain ⟨hx, hb, hml, hown, hts, hK, hA, rfl, rfl, rfl, rfl⟩ := C
  intro H locs ls hP hD hS hl
  exact lv_lrem hx hb d hy (kk H locs ls hP hD hS hl)
theorem z_lshlR (C : z_C X l G own cc nL R) (d : decode cc pc = .ok (.lshl, 1)) (kk : z_J X ce sl ws L (pc + 1) (.long (z_lshl u y) :: st)) : z_J X ce sl ws L pc (z_i y :: .long u :: st) := by
  obtain ⟨p, l', e, R', s, m, args, below, meth, c, G', A, H0, Q, n⟩ := X
  obtain ⟨hx, hb, hml, hown, hts, hK, hA, rfl, rfl, rfl, rfl⟩ := C
  intro H locs ls hP hD hS hl
  exact lv_lshl hx hb d rfl (kk H locs ls hP hD hS hl)
theorem z_lshrR (C : z_C X l G own cc nL R) (d : decode cc pc = .ok (.lshr, 1)) (kk : z_J X ce sl ws L (pc + 1) (.long (z_lshr u y) :: st)) : z_J X ce sl ws L pc (z_i y :: .long u :: st) := by
  obtain ⟨p, l', e, R', s, m, args, below, meth, c, G', A, H0, Q, n⟩ := X
  obtain ⟨hx, hb, hml, hown, hts, hK, hA, rfl, rfl, rfl, rfl⟩ := C
  intro H locs ls hP hD hS hl
  exact lv_lshr hx hb d rfl (kk H locs ls hP hD hS hl)
theorem z_dup (C : z_C X l G own cc nL R) {va : Value} (hc : va.category = 1) (d : decode cc pc = .ok (.dup, 1)) (kk : z_J X ce sl ws L (pc + 1) (va :: va :: st)) : z_J X ce sl ws L pc (va :: st) := by
  obtain ⟨p, l', e, R', s, m, args, below, meth, c, G', A, H0, Q, n⟩ := X
  obtain ⟨hx, hb, hml, hown, hts, hK, hA, rfl, rfl, rfl, rfl⟩ := C
  intro H locs ls hP hD hS hl
  exact lv_dup hx hb d hc (kk H locs ls hP hD hS hl)
theorem z_dup2 (C : z_C X l G own cc nL R) {va vb : Value} (hc : va.category = 1) (hc2 : vb.category = 1) (d : decode cc pc = .ok (.dup2, 1)) (kk : z_J X ce sl ws L (pc + 1) (va :: vb :: va :: vb :: st)) : z_J X ce sl ws L pc (va :: vb :: st) := by
  obtain ⟨p, l', e, R', s, m, args, below, meth, c, G', A, H0, Q, n⟩ := X
  obtain ⟨hx, hb, hml, hown, hts, hK, hA, rfl, rfl, rfl, rfl⟩ := C
  intro H locs ls hP hD hS hl
  exact lv_dup2_11 hx hb d hc hc2 (kk H locs ls hP hD hS hl)
theorem z_pop (C : z_C X l G own cc nL R) {va : Value} (hc : va.category = 1) (d : decode cc pc = .ok (.pop, 1)) (kk : z_J X ce sl ws L (pc + 1) st) : z_J X ce sl ws L pc (va :: st) := by
  obtain ⟨p, l', e, R', s, m, args, below, meth, c, G', A, H0, Q, n⟩ := X
  obtain ⟨hx, hb, hml, hown, hts, hK, hA, rfl, rfl, rfl, rfl⟩ := C
  intro H locs ls hP hD hS hl
  exact lv_pop hx hb d hc (kk H locs ls hP hD hS hl)
theorem z_goto (C : z_C X l G own cc nL R) {off : Int} (d : decode cc pc = .ok (.goto off, 3)) (ht : (pc : Int) + off = (tgt : Int)) (kk : z_J X ce sl ws L tgt st) : z_J X ce sl ws L pc st := by
  obtain ⟨p, l', e, R', s, m, args, below, meth, c, G', A, H0, Q, n⟩ := X
  obtain ⟨hx, hb, hml, hown, hts, hK, hA, rfl, rfl, rfl, rfl⟩ := C
  intro H locs ls hP hD hS hl
  exact lv_goto hx hb d ht (kk H locs ls hP hD hS hl)
theorem z_icmp_eq (C : z_C X l G own cc nL R) (hx1 : z_n x) (hy1 : z_n y) {off : Int} (d : decode cc pc = .ok (.if_icmp .eq off, 3)) (ht : (pc : Int) + off = (tgt : Int)) (kt : x = y → z_J X ce sl ws L tgt st) (kf : ¬ (x = y) → z_J X ce sl ws L (pc + 3) st) : z_J X ce sl ws L pc (z_i y :: z_i x :: st) := by
  obtain ⟨p, l', e, R', s, m, args, below, meth, c, G', A, H0, Q, n⟩ := X
  obtain ⟨hx, hb, hml, hown, hts, hK, hA, rfl, rfl, rfl, rfl⟩ := C
  intro H locs ls hP hD hS hl
  have e1 := z_eqi hx1 hy1
  have e2 := z_lti hx1 hy1
  have e3 := z_lti hy1 hx1
  have e4 := z_lei hx1 hy1
  have e5 := z_lei hy1 hx1
  refine lv_icmp_eq hx hb d ht (fun h => kt (by first | exact e1.mp h | exact fun q => h (e1.mpr q) | exact e2.mp h | exact e3.mp h | exact e4.mp h | exact e5.mp h | (simp only [e1, e2, e3, e4, e5, ne_eq, ge_iff_le, gt_iff_lt, Int.not_lt, Int.not_le] at h ⊢; omega)) H locs ls hP hD hS hl) (fun h => kf (by first | exact fun q => h (e1.mpr q) | (exact fun q => h (fun z => q (e1.mp z))) | exact fun q => h (e2.mpr q) | exact fun q => h (e3.mpr q) | exact fun q => h (e4.mpr q) | exact fun q => h (e5.mpr q) | (simp only [e1, e2, e3, e4, e5, ne_eq, ge_iff_le, gt_iff_lt, Int.not_lt, Int.not_le] at h ⊢; omega)) H locs ls hP hD hS hl)
theorem z_if_eq (C : z_C X l G own cc nL R) (hx1 : z_n x) {off : Int} (d : decode cc pc = .ok (.ifCond .eq off, 3)) (ht : (pc : Int) + off = (tgt : Int)) (kt : x = 0 → z_J X ce sl ws L tgt st) (kf : ¬ (x = 0) → z_J X ce sl ws L (pc + 3) st) : z_J X ce sl ws L pc (z_i x :: st) := by
  obtain ⟨p, l', e, R', s, m, args, below, meth, c, G', A, H0, Q, n⟩ := X
  obtain ⟨hx, hb, hml, hown, hts, hK, hA, rfl, rfl, rfl, rfl⟩ := C
  intro H locs ls hP hD hS hl
  have e1 : Int32.ofInt x = 0 ↔ x = 0 := z_eqi hx1 z_n0
  have e2 : Int32.ofInt x < 0 ↔ x < 0 := z_lti hx1 z_n0
  have e3 : 0 < Int32.ofInt x ↔ 0 < x := z_lti z_n0 hx1
  have e4 : Int32.ofInt x ≤ 0 ↔ x ≤ 0 := z_lei hx1 z_n0
  have e5 : 0 ≤ Int32.ofInt x ↔ 0 ≤ x := z_lei z_n0 hx1
  refine lv_if_eq hx hb d ht (fun h => kt (by first | exact e1.mp h | exact fun q => h (e1.mpr q) | exact e2.mp h | exact e3.mp h | exact e4.mp h | exact e5.mp h | (simp only [e1, e2, e3, e4, e5, ne_eq, ge_iff_le, gt_iff_lt, Int.not_lt, Int.not_le] at h ⊢; omega)) H locs ls hP hD hS hl) (fun h => kf (by first | exact fun q => h (e1.mpr q) | (exact fun q => h (fun z => q (e1.mp z))) | exact fun q => h (e2.mpr q) | exact fun q => h (e3.mpr q) | exact fun q => h (e4.mpr q) | exact fun q => h (e5.mpr q) | (simp only [e1, e2, e3, e4, e5, ne_eq, ge_iff_le, gt_iff_lt, Int.not_lt, Int.not_le] at h ⊢; omega)) H locs ls hP hD hS hl)
theorem z_icmp_ne (C : z_C X l G own cc nL R) (hx1 : z_n x) (hy1 : z_n y) {off : Int} (d : decode cc pc = .ok (.if_icmp .ne off, 3)) (ht : (pc : Int) + off = (tgt : Int)) (kt : x ≠ y → z_J X ce sl ws L tgt st) (kf : ¬ (x ≠ y) → z_J X ce sl ws L (pc + 3) st) : z_J X ce sl ws L pc (z_i y :: z_i x :: st) := by
  obtain ⟨p, l', e, R', s, m, args, below, meth, c, G', A, H0, Q, n⟩ := X
  obtain ⟨hx, hb, hml, hown, hts, hK, hA, rfl, rfl, rfl, rfl⟩ := C
  intro H locs ls hP hD hS hl
  have e1 := z_eqi hx1 hy1
  have e2 := z_lti hx1 hy1
  have e3 := z_lti hy1 hx1
  have e4 := z_lei hx1 hy1
  have e5 := z_lei hy1 hx1
  refine lv_icmp_ne hx hb d ht (fun h => kt (by first | exact e1.mp h | exact fun q => h (e1.mpr q) | exact e2.mp h | exact e3.mp h | exact e4.mp h | exact e5.mp h | (simp only [e1, e2, e3, e4, e5, ne_eq, ge_iff_le, gt_iff_lt, Int.not_lt, Int.not_le] at h ⊢; omega)) H locs ls hP hD hS hl) (fun h => kf (by first | exact fun q => h (e1.mpr q) | (exact fun q => h (fun z => q (e1.mp z))) | exact fun q => h (e2.mpr q) | exact fun q => h (e3.mpr q) | exact fun q => h (e4.mpr q) | exact fun q => h (e5.mpr q) | (simp only [e1, e2, e3, e4, e5, ne_eq, ge_iff_le, gt_iff_lt, Int.not_lt, Int.not_le] at h ⊢; omega)) H locs ls hP hD hS hl)
theorem z_if_ne (C : z_C X l G own cc nL R) (hx1 : z_n x) {off : Int} (d : decode cc pc = .ok (.ifCond .ne off, 3)) (ht : (pc : Int) + off = (tgt : Int)) (kt : x ≠ 0 → z_J X ce sl ws L tgt st) (kf : ¬ (x ≠ 0) → z_J X ce sl ws L (pc + 3) st) : z_J X ce sl ws L pc (z_i x :: st) := by
  obtain ⟨p, l', e, R', s, m, args, below, meth, c, G', A, H0, Q, n⟩ := X
  obtain ⟨hx, hb, hml, hown, hts, hK, hA, rfl, rfl, rfl, rfl⟩ := C
  intro H locs ls hP hD hS hl
  have e1 : Int32.ofInt x = 0 ↔ x = 0 := z_eqi hx1 z_n0
  have e2 : Int32.ofInt x < 0 ↔ x < 0 := z_lti hx1 z_n0
  have e3 : 0 < Int32.ofInt x ↔ 0 < x := z_lti z_n0 hx1
  have e4 : Int32.ofInt x ≤ 0 ↔ x ≤ 0 := z_lei hx1 z_n0
  have e5 : 0 ≤ Int32.ofInt x ↔ 0 ≤ x := z_lei z_n0 hx1
  refine lv_if_ne hx hb d ht (fun h => kt (by first | exact e1.mp h | exact fun q => h (e1.mpr q) | exact e2.mp h | exact e3.mp h | exact e4.mp h | exact e5.mp h | (simp only [e1, e2, e3, e4, e5, ne_eq, ge_iff_le, gt_iff_lt, Int.not_lt, Int.not_le] at h ⊢; omega)) H locs ls hP hD hS hl) (fun h => kf (by first | exact fun q => h (e1.mpr q) | (exact fun q => h (fun z => q (e1.mp z))) | exact fun q => h (e2.mpr q) | exact fun q => h (e3.mpr q) | exact fun q => h (e4.mpr q) | exact fun q => h (e5.mpr q) | (simp only [e1, e2, e3, e4, e5, ne_eq, ge_iff_le, gt_iff_lt, Int.not_lt, Int.not_le] at h ⊢; omega)) H locs ls hP hD hS hl)
theorem z_icmp_lt (C : z_C X l G own cc nL R) (hx1 : z_n x) (hy1 : z_n y) {off : Int} (d : decode cc pc = .ok (.if_icmp .lt off, 3)) (ht : (pc : Int) + off = (tgt : Int)) (kt : x < y → z_J X ce sl ws L tgt st) (kf : ¬ (x < y) → z_J X ce sl ws L (pc + 3) st) : z_J X ce sl ws L pc (z_i y :: z_i x :: st) := by
  obtain ⟨p, l', e, R', s, m, args, below, meth, c, G', A, H0, Q, n⟩ := X
  obtain ⟨hx, hb, hml, hown, hts, hK, hA, rfl, rfl, rfl, rfl⟩ := C
  intro H locs ls hP hD hS hl
  have e1 := z_eqi hx1 hy1
  have e2 := z_lti hx1 hy1
  have e3 := z_lti hy1 hx1
  have e4 := z_lei hx1 hy1
  have e5 := z_lei hy1 hx1
  refine lv_icmp_lt hx hb d ht (fun h => kt (by first | exact e1.mp h | exact fun q => h (e1.mpr q) | exact e2.mp h | exact e3.mp h | exact e4.mp h | exact e5.mp h | (simp only [e1, e2, e3, e4, e5, ne_eq, ge_iff_le, gt_iff_lt, Int.not_lt, Int.not_le] at h ⊢; omega)) H locs ls hP hD hS hl) (fun h => kf (by first | exact fun q => h (e1.mpr q) | (exact fun q => h (fun z => q (e1.mp z))) | exact fun q => h (e2.mpr q) | exact fun q => h (e3.mpr q) | exact fun q => h (e4.mpr q) | exact fun q => h (e5.mpr q) | (simp only [e1, e2, e3, e4, e5, ne_eq, ge_iff_le, gt_iff_lt, Int.not_lt, Int.not_le] at h ⊢; omega)) H locs ls hP hD hS hl)
theorem z_if_lt (C : z_C X l G own cc nL R) (hx1 : z_n x) {off : Int} (d : decode cc pc = .ok (.ifCond .lt off, 3)) (ht : (pc : Int) + off = (tgt : Int)) (kt : x < 0 → z_J X ce sl ws L tgt st) (kf : ¬ (x < 0) → z_J X ce sl ws L (pc + 3) st) : z_J X ce sl ws L pc (z_i x :: st) := by
  obtain ⟨p, l', e, R', s, m, args, below, meth, c, G', A, H0, Q, n⟩ := X
  obtain ⟨hx, hb, hml, hown, hts, hK, hA, rfl, rfl, rfl, rfl⟩ := C
  intro H locs ls hP hD hS hl
  have e1 : Int32.ofInt x = 0 ↔ x = 0 := z_eqi hx1 z_n0
  have e2 : Int32.ofInt x < 0 ↔ x < 0 := z_lti hx1 z_n0
  have e3 : 0 < Int32.ofInt x ↔ 0 < x := z_lti z_n0 hx1
  have e4 : Int32.ofInt x ≤ 0 ↔ x ≤ 0 := z_lei hx1 z_n0
  have e5 : 0 ≤ Int32.ofInt x ↔ 0 ≤ x := z_lei z_n0 hx1
  refine lv_if_lt hx hb d ht (fun h => kt (by first | exact e1.mp h | exact fun q => h (e1.mpr q) | exact e2.mp h | exact e3.mp h | exact e4.mp h | exact e5.mp h | (simp only [e1, e2, e3, e4, e5, ne_eq, ge_iff_le, gt_iff_lt, Int.not_lt, Int.not_le] at h ⊢; omega)) H locs ls hP hD hS hl) (fun h => kf (by first | exact fun q => h (e1.mpr q) | (exact fun q => h (fun z => q (e1.mp z))) | exact fun q => h (e2.mpr q) | exact fun q => h (e3.mpr q) | exact fun q => h (e4.mpr q) | exact fun q => h (e5.mpr q) | (simp only [e1, e2, e3, e4, e5, ne_eq, ge_iff_le, gt_iff_lt, Int.not_lt, Int.not_le] at h ⊢; omega)) H locs ls hP hD hS hl)
theorem z_icmp_ge (C : z_C X l G own cc nL R) (hx1 : z_n x) (hy1 : z_n y) {off : Int} (d : decode cc pc = .ok (.if_icmp .ge off, 3)) (ht : (pc : Int) + off = (tgt : Int)) (kt : y ≤ x → z_J X ce sl ws L tgt st) (kf : ¬ (y ≤ x) → z_J X ce sl ws L (pc + 3) st) : z_J X ce sl ws L pc (z_i y :: z_i x :: st) := by
  obtain ⟨p, l', e, R', s, m, args, below, meth, c, G', A, H0, Q, n⟩ := X
  obtain ⟨hx, hb, hml, hown, hts, hK, hA, rfl, rfl, rfl, rfl⟩ := C
  intro H locs ls hP hD hS hl
  have e1 := z_eqi hx1 hy1
  have e2 := z_lti hx1 hy1
  have e3 := z_lti hy1 hx1
  have e4 := z_lei hx1 hy1
  have e5 := z_lei hy1 hx1
  refine lv_icmp_ge hx hb d ht (fun h => kt (by first | exact e1.mp h | exact fun q => h (e1.mpr q) | exact e2.mp h | exact e3.mp h | exact e4.mp h | exact e5.mp h | (simp only [e1, e2, e3, e4, e5, ne_eq, ge_iff_le, gt_iff_lt, Int.not_lt, Int.not_le] at h ⊢; omega)) H locs ls hP hD hS hl) (fun h => kf (by first | exact fun q => h (e1.mpr q) | (exact fun q => h (fun z => q (e1.mp z))) | exact fun q => h (e2.mpr q) | exact fun q => h (e3.mpr q) | exact fun q => h (e4.mpr q) | exact fun q => h (e5.mpr q) | (simp only [e1, e2, e3, e4, e5, ne_eq, ge_iff_le, gt_iff_lt, Int.not_lt, Int.not_le] at h ⊢; omega)) H locs ls hP hD hS hl)
theorem z_if_ge (C : z_C X l G own cc nL R) (hx1 : z_n x) {off : Int} (d : decode cc pc = .ok (.ifCond .ge off, 3)) (ht : (pc : Int) + off = (tgt : Int)) (kt : 0 ≤ x → z_J X ce sl ws L tgt st) (kf : ¬ (0 ≤ x) → z_J X ce sl ws L (pc + 3) st) : z_J X ce sl ws L pc (z_i x :: st) := by
  obtain ⟨p, l', e, R', s, m, args, below, meth, c, G', A, H0, Q, n⟩ := X
  obtain ⟨hx, hb, hml, hown, hts, hK, hA, rfl, rfl, rfl, rfl⟩ := C
  intro H locs ls hP hD hS hl
  have e1 : Int32.ofInt x = 0 ↔ x = 0 := z_eqi hx1 z_n0
  have e2 : Int32.ofInt x < 0 ↔ x < 0 := z_lti hx1 z_n0
  have e3 : 0 < Int32.ofInt x ↔ 0 < x := z_lti z_n0 hx1
  have e4 : Int32.ofInt x ≤ 0 ↔ x ≤ 0 := z_lei hx1 z_n0
  have e5 : 0 ≤ Int32.ofInt x ↔ 0 ≤ x := z_lei z_n0 hx1
  refine lv_if_ge hx hb d ht (fun h => kt (by first | exact e1.mp h | exact fun q => h (e1.mpr q) | exact e2.mp h | exact e3.mp h | exact e4.mp h | exact e5.mp h | (simp only [e1, e2, e3, e4, e5, ne_eq, ge_iff_le, gt_iff_lt, Int.not_lt, Int.not_le] at h ⊢; omega)) H locs ls hP hD hS hl) (fun h => kf (by first | exact fun q => h (e1.mpr q) | (exact fun q => h (fun z => q (e1.mp z))) | exact fun q => h (e2.mpr q) | exact fun q => h (e3.mpr q) | exact fun q => h (e4.mpr q) | exact fun q => h (e5.mpr q) | (simp only [e1, e2, e3, e4, e5, ne_eq, ge_iff_le, gt_iff_lt, Int.not_lt, Int.not_le] at h ⊢; omega)) H locs ls hP hD hS hl)
theorem z_icmp_gt (C : z_C X l G own cc nL R) (hx1 : z_n x) (hy1 : z_n y) {off : Int} (d : decode cc pc = .ok (.if_icmp .gt off, 3)) (ht : (pc : Int) + off = (tgt : Int)) (kt : y < x → z_J X ce sl ws L tgt st) (kf : ¬ (y < x) → z_J X ce sl ws L (pc + 3) st) : z_J X ce sl ws L pc (z_i y :: z_i x :: st) := by
  obtain ⟨p, l', e, R', s, m, args, below, meth, c, G', A, H0, Q, n⟩ := X
  obtain ⟨hx, hb, hml, hown, hts, hK, hA, rfl, rfl, rfl, rfl⟩ := C
  intro H locs ls hP hD hS hl
  have e1 := z_eqi hx1 hy1
  have e2 := z_lti hx1 hy1
  have e3 := z_lti hy1 hx1
  have e4 := z_lei hx1 hy1
  have e5 := z_lei hy1 hx1
  refine lv_icmp_gt hx hb d ht (fun h => kt (by first | exact e1.mp h | exact fun q => h (e1.mpr q) | exact e2.mp h | exact e3.mp h | exact e4.mp h | exact e5.mp h | (simp only [e1, e2, e3, e4, e5, ne_eq, ge_iff_le, gt_iff_lt, Int.not_lt, Int.not_le] at h ⊢; omega)) H locs ls hP hD hS hl) (fun h => kf (by first | exact fun q => h (e1.mpr q) | (exact fun q => h (fun z => q (e1.mp z))) | exact fun q => h (e2.mpr q) | exact fun q => h (e3.mpr q) | exact fun q => h (e4.mpr q) | exact fun q => h (e5.mpr q) | (simp only [e1, e2, e3, e4, e5, ne_eq, ge_iff_le, gt_iff_lt, Int.not_lt, Int.not_le] at h ⊢; omega)) H locs ls hP hD hS hl)
theorem z_if_gt (C : z_C X l G own cc nL R) (hx1 : z_n x) {off : Int} (d : decode cc pc = .ok (.ifCond .gt off, 3)) (ht : (pc : Int) + off = (tgt : Int)) (kt : 0 < x → z_J X ce sl ws L tgt st) (kf : ¬ (0 < x) → z_J X ce sl ws L (pc + 3) st) : z_J X ce sl ws L pc (z_i x :: st) := by
  obtain ⟨p, l', e, R', s, m, args, below, meth, c, G', A, H0, Q, n⟩ := X
  obtain ⟨hx, hb, hml, hown, hts, hK, hA, rfl, rfl, rfl, rfl⟩ := C
  intro H locs ls hP hD hS hl
  have e1 : Int32.ofInt x = 0 ↔ x = 0 := z_eqi hx1 z_n0
  have e2 : Int32.ofInt x < 0 ↔ x < 0 := z_lti hx1 z_n0
  have e3 : 0 < Int32.ofInt x ↔ 0 < x := z_lti z_n0 hx1
  have e4 : Int32.ofInt x ≤ 0 ↔ x ≤ 0 := z_lei hx1 z_n0
  have e5 : 0 ≤ Int32.ofInt x ↔ 0 ≤ x := z_lei z_n0 hx1
  refine lv_if_gt hx hb d ht (fun h => kt (by first | exact e1.mp h | exact fun q => h (e1.mpr q) | exact e2.mp h | exact e3.mp h | exact e4.mp h | exact e5.mp h | (simp only [e1, e2, e3, e4, e5, ne_eq, ge_iff_le, gt_iff_lt, Int.not_lt, Int.not_le] at h ⊢; omega)) H locs ls hP hD hS hl) (fun h => kf (by first | exact fun q => h (e1.mpr q) | (exact fun q => h (fun z => q (e1.mp z))) | exact fun q => h (e2.mpr q) | exact fun q => h (e3.mpr q) | exact fun q => h (e4.mpr q) | exact fun q => h (e5.mpr q) | (simp only [e1, e2, e3, e4, e5, ne_eq, ge_iff_le, gt_iff_lt, Int.not_lt, Int.not_le] at h ⊢; omega)) H locs ls hP hD hS hl)
theorem z_icmp_le (C : z_C X l G own cc nL R) (hx1 : z_n x) (hy1 : z_n y) {off : Int} (d : decode cc pc = .ok (.if_icmp .le off, 3)) (ht : (pc : Int) + off = (tgt : Int)) (kt : x ≤ y → z_J X ce sl ws L tgt st) (kf : ¬ (x ≤ y) → z_J X ce sl ws L (pc + 3) st) : z_J X ce sl ws L pc (z_i y :: z_i x :: st) := by
  obtain ⟨p, l', e, R', s, m, args, below, meth, c, G', A, H0, Q, n⟩ := X
  obtain ⟨hx, hb, hml, hown, hts, hK, hA, rfl, rfl, rfl, rfl⟩ := C
  intro H locs ls hP hD hS hl
  have e1 := z_eqi hx1 hy1
  have e2 := z_lti hx1 hy1
  have e3 := z_lti hy1 hx1
  have e4 := z_lei hx1 hy1
  have e5 := z_lei hy1 hx1
  refine lv_icmp_le hx hb d ht (fun h => kt (by first | exact e1.mp h | exact fun q => h (e1.mpr q) | exact e2.mp h | exact e3.mp h | exact e4.mp h | exact e5.mp h | (simp only [e1, e2, e3, e4, e5, ne_eq, ge_iff_le, gt_iff_lt, Int.not_lt, Int.not_le] at h ⊢; omega)) H locs ls hP hD hS hl) (fun h => kf (by first | exact fun q => h (e1.mpr q) | (exact fun q => h (fun z => q (e1.mp z))) | exact fun q => h (e2.mpr q) | exact fun q => h (e3.mpr q) | exact fun q => h (e4.mpr q) | exact fun q => h (e5.mpr q) | (simp only [e1, e2, e3, e4, e5, ne_eq, ge_iff_le, gt_iff_lt, Int.not_lt, Int.not_le] at h ⊢; omega)) H locs ls hP hD hS hl)
theorem z_if_le (C : z_C X l G own cc nL R) (hx1 : z_n x) {off : Int} (d : decode cc pc = .ok (.ifCond .le off, 3)) (ht : (pc : Int) + off = (tgt : Int)) (kt : x ≤ 0 → z_J X ce sl ws L tgt st) (kf : ¬ (x ≤ 0) → z_J X ce sl ws L (pc + 3) st) : z_J X ce sl ws L pc (z_i x :: st) := by
  obtain ⟨p, l', e, R', s, m, args, below, meth, c, G', A, H0, Q, n⟩ := X
  obtain ⟨hx, hb, hml, hown, hts, hK, hA, rfl, rfl, rfl, rfl⟩ := C
  intro H locs ls hP hD hS hl
  have e1 : Int32.ofInt x = 0 ↔ x = 0 := z_eqi hx1 z_n0
  have e2 : Int32.ofInt x < 0 ↔ x < 0 := z_lti hx1 z_n0
  have e3 : 0 < Int32.ofInt x ↔ 0 < x := z_lti z_n0 hx1
  have e4 : Int32.ofInt x ≤ 0 ↔ x ≤ 0 := z_lei hx1 z_n0
  have e5 : 0 ≤ Int32.ofInt x ↔ 0 ≤ x := z_lei z_n0 hx1
  refine lv_if_le hx hb d ht (fun h => kt (by first | exact e1.mp h | exact fun q => h (e1.mpr q) | exact e2.mp h | exact e3.mp h | exact e4.mp h | exact e5.mp h | (simp only [e1, e2, e3, e4, e5, ne_eq, ge_iff_le, gt_iff_lt, Int.not_lt, Int.not_le] at h ⊢; omega)) H locs ls hP hD hS hl) (fun h => kf (by first | exact fun q => h (e1.mpr q) | (exact fun q => h (fun z => q (e1.mp z))) | exact fun q => h (e2.mpr q) | exact fun q => h (e3.mpr q) | exact fun q => h (e4.mpr q) | exact fun q => h (e5.mpr q) | (simp only [e1, e2, e3, e4, e5, ne_eq, ge_iff_le, gt_iff_lt, Int.not_lt, Int.not_le] at h ⊢; omega)) H locs ls hP hD hS hl)
end
end
section
/-! rows: fields, arrays, switches, calls, ends -/
theorem z_e {x : Int} {n : Nat} (h : 0 ≤ x ∧ x < (n : Int)) (hx : z_n x) : (((Int32.ofInt x).toNatClampNeg : Nat) : Int) = x := by rw [z_clamp hx, Int.toNat_of_nonneg h.1]
theorem z_a_up {c : ClassId} {n : Nat} {f : Int → Int} {x y : Int} (h : 0 ≤ x ∧ x < (n : Int)) (hx : z_n x) : (.inl (c, n, .inl (upd (fun j : Nat => Int32.ofInt (f (j : Int))) (Int32.ofInt x).toNatClampNeg (Int32.ofInt y))) : va_E) = z_a c n (z_up f x y) := by
  unfold z_a
  congr 3
  congr 1
  funext j
  have e := z_e h hx
  simp only [upd, z_up]
  by_cases hj : j = (Int32.ofInt x).toNatClampNeg
  · rw [if_pos hj, if_pos (by omega)]
  · rw [if_neg hj, if_neg (by omega)]
theorem z_l_up {c : ClassId} {n : Nat} {f : Int → Int64} {x : Int} {v : Int64} (h : 0 ≤ x ∧ x < (n : Int)) (hx : z_n x) : (.inl (c, n, .inr (.inl (vp_updL (fun j : Nat => f (j : Int)) (Int32.ofInt x).toNatClampNeg v))) : va_E) = z_l c n (z_up f x v) := by
  unfold z_l
  congr 4
  congr 1
  funext j
  have e := z_e h hx
  simp only [vp_updL, z_up]
  by_cases hj : j = (Int32.ofInt x).toNatClampNeg
  · rw [if_pos hj, if_pos (by omega)]
  · rw [if_neg hj, if_neg (by omega)]
theorem z_nar_z {y : Int} (h : y = 0 ∨ y = 1) : vp_nar .boolean (Int32.ofInt y) = Int32.ofInt y := by
  rcases h with rfl | rfl <;> rfl
theorem z_nar_c {y : Int} (h : 0 ≤ y ∧ y ≤ 65535) : vp_nar .char (Int32.ofInt y) = Int32.ofInt y := by
  obtain ⟨k, rfl⟩ := Int.eq_ofNat_of_zero_le h.1
  have hk : k < 65536 := by omega
  rw [vp_nar_char, lg_i2c_mask]
  apply Int32.toBitVec_inj.mp
  rw [Int32.toBitVec_and, Int32.toBitVec_ofInt]
  apply BitVec.eq_of_toNat_eq
  rw [BitVec.toNat_and]
  have e : (BitVec.ofInt 32 (k : Int)).toNat = k := by
    rw [BitVec.toNat_ofInt]
    omega
  rw [e]
  show k &&& 65535 = k
  rw [show (65535 : Nat) = 2 ^ 16 - 1 from rfl, Nat.and_two_pow_sub_one_eq_mod]
  omega
/-- a field link, and all that is known of the field -/
def z_F (own : String) (idx ci k : Nat) (ft : FieldType) (fin : Bool) : Prop := ∃ (Cn : String) (T : u_T) (N : Nat) (ty : Nat → FieldType), vwCl[ci]? = some (Cn, T, N) ∧ (∀ w ∈ u_ws Cn T N, w ∈ z_W) ∧ (∀ k, k < N → parseFieldDescriptor (T k).2.2.1 = some (ty k)) ∧ (∀ a, a < N → ∀ b, b < N → a ≠ b → (T a).2.1 ≠ (T b).2.1) ∧ k < N ∧ Cond.fieldLink own idx (T k).1 (T k).2.1 (T k).2.2.1 ∈ z_W ∧ ty k = ft ∧ (T k).2.2.2 = fin ∧ (T k).1 = Cn
/-- a method that can be called on an object; one that is static -/
def z_V (y : MethodName) (cy : ByteArray) (ny : Nat) (ret : Option FieldType) (n : Nat) : Prop := Cond.code y cy ny ret ∈ z_W ∧ Cond.initialized y.cls ∈ z_W ∧ (y.cls ≠ "java/lang/invoke/MethodHandle" ∧ y.cls ≠ "java/lang/invoke/VarHandle") ∧ (parseMethodDescriptor y.desc).map (fun d => d.parameters.length) = some n ∧ Cond.instanceMethod y ∈ z_W ∧ Cond.selects y.cls y y ∈ z_W
def z_S (y : MethodName) (cy : ByteArray) (ny : Nat) (ret : Option FieldType) (n : Nat) : Prop := Cond.code y cy ny ret ∈ z_W ∧ Cond.initialized y.cls ∈ z_W ∧ (y.cls ≠ "java/lang/invoke/MethodHandle" ∧ y.cls ≠ "java/lang/invoke/VarHandle") ∧ (parseMethodDescriptor y.desc).map (fun d => d.parameters.length) = some n ∧ Cond.static y ∈ z_W
theorem z_pay {args : Array Value} {s : State} {y : MethodName} {cy : ByteArray} {ny : Nat} {ret : Option FieldType} (hts : ∀ w ∈ z_W, w.before args s = true) (h : Cond.code y cy ny ret ∈ z_W) : ∀ w ∈ (Cond.code y cy ny ret :: z_W), ∀ (a' : Array Value) (U : State), s.WarmedH U.vm → w.before a' U = true :=
  pay_in (big := z_W) hts fun w hw => by
    rcases List.mem_cons.mp hw with rfl | hw
    · exact ⟨h, good_of_word (z_W_good h)⟩
    · exact ⟨hw, good_of_word (z_W_good hw)⟩
theorem z_callB {R : Room} {s : State} {args : Array Value} {own : String} {idx : Nat} {y : MethodName} {cy : ByteArray} {ny : Nat} {ret : Option FieldType} {rm : Room} {n mc ms : Nat} (hts : ∀ w ∈ z_W, w.before args s = true) (h1 : Cond.code y cy ny ret ∈ z_W) (h2 : Cond.initialized y.cls ∈ z_W) (h3 : y.cls ≠ "java/lang/invoke/MethodHandle" ∧ y.cls ≠ "java/lang/invoke/VarHandle") (h4 : (parseMethodDescriptor y.desc).map (fun d => d.parameters.length) = some n) (h5 : Cond.methodLink own idx y ∈ z_W) (hR : rm.frames + 1 ≤ R.frames ∧ 8 + (ny + 11) + rm.locals ≤ R.locals) (hmc : rm.cells = mc) (hms : rm.slots = ms) :
    CallB R s args own idx y cy ny ret (Cond.code y cy ny ret :: z_W) rm mc ms n := by
  refine ⟨hmc, hms, hR.1, hR.2, z_pay hts h1, List.mem_cons_self, hts _ h1, hts _ h2, h3, fun sig h => ?_, hts _ h5⟩
  rw [h] at h4
  exact (Option.some.inj h4).symm
/-- behind a call -/
theorem z_go {p : Program} {l : Launch} {e : Env} {R : Room} {s : State} {m : MethodId} {args : Array Value} {below : List Frame} {meth : Method} {c : Code} {G : z_G} {A : Nat → Prop} {H0 H : Heap} {locs : List Loc} {ce sl mc ms pc : Nat} {Q : State → Prop} {ws wc : va_W} {post : Option Value → va_W → Prop} {ls : Array Slot} {st0 rest : List Value} {a0 : Array Value}
    (hP : va_P G.1 vwCl ws H) (hD : va_D A ws) (hS : va_S A H0 H locs) (hA : ∀ q, H0.size ≤ q → A q) (hr : va_Run p l e R s m args below meth c H locs ce sl mc ms (F0 m pc ls st0) rest (z_Qc G wc H.size post a0) (va_A wc H.size)) (is : List Nat) (hs : is.map (fun i => ws[i]?) = wc.map some) (hn : va_nd is = true)
    (hsp : ∀ v w, post v w → ∃ w1 wn, w = w1 ++ wn ∧ w1.map (fun q => q.1) = wc.map (fun q => q.1))
    (kk : ∀ (v : Option Value) (w1 wn : va_W) (H1 : Heap) (locs1 : List Loc), post v (w1 ++ wn) → w1.map (fun q => q.1) = wc.map (fun q => q.1) → va_P G.1 vwCl (z_put ws is w1 ++ wn) H1 → va_D A (z_put ws is w1 ++ wn) → va_S A H0 H1 locs1 → W p l e R s m args below meth c H1 locs1 (ce + mc) (sl + ms) Q (F0 m (pc + 3) ls (v.toList ++ rest))) : W p l e R s m args below meth c H locs ce sl Q (F0 m pc ls st0) := by
  intro T hT X
  obtain ⟨v, st₀, t, T', L, h0, X', hL, e1, e2, ⟨⟨v', w, hv, hp, hb, hd⟩, hz, hk⟩, st⟩ := hr T hT X
  cases hv
  rw [h0] at hz hk
  obtain ⟨w1, wn, rfl, hw⟩ := hsp v w hp
  have hF := va_free (wc := wc) hD hS hA is hs
  obtain ⟨j1, j2⟩ := z_join hP hD is hs hn hw hk hF hb hd
  obtain ⟨t2, a1, b1⟩ := kk v w1 wn T'.heap (locs ++ L) hp hw (by rw [e1]; exact j1) j2
    ⟨Nat.le_trans hS.1 (by rw [e1]; exact hz), fun q h1 h2 => by rw [e1, hk q (Nat.lt_of_lt_of_le h1 hS.1) (fun z => h2 (hF q z))]; exact hS.2.1 q h1 h2, fun q hq => by
      rcases List.mem_append.mp hq with h | h
      · exact hS.2.2 q h
      · exact hF _ (hL q h)⟩ T' rfl X'
  exact ⟨t2, st t2 a1, b1⟩
theorem z_blind {G : z_G} {vs : List Value} {wc : va_W} {sz : Nat} : FrameBlind (va_Pc vs (fun U => U.heap.size = sz ∧ va_P G.1 vwCl wc U.heap ∧ z_K G U ∧ va_D (fun _ => True) wc)) := fun _ U g mk q => ⟨q.1, q.2.1, q.2.2.1, z_K.same (s := U) (U := U.calling g mk _) rfl q.2.2.2.1, q.2.2.2.2⟩
section
variable {X : z_X} {l : Launch} {G : z_G} {own : String} {cc : ByteArray} {nL : Nat} {R : Room} {ce sl : Nat} {ws ws' : va_W} {L L' : List (Nat × Value)} {pc tgt : Nat} {st : List Value} {a b : Nat} {x y : Int} {u v : Int64}
theorem z_get (C : z_C X l G own cc nL R) {idx ci k : Nat} {ft : FieldType} {fin : Bool} (F : z_F own idx ci k ft fin) (d : decode cc pc = .ok (.getfield idx, 3)) (q : Nat) {fs : List Value} (he : ws[q]? = some (a, z_o ci fs)) {w : Value} (hv : fs[k]? = some w) (kk : z_J X ce sl ws L (pc + 3) (w :: st)) : z_J X ce sl ws L pc (.ref a :: st) := by
  obtain ⟨p, l', e, R', s, m, args, below, meth, c, G', A, H0, Q, n⟩ := X
  obtain ⟨hx, hb, hml, hown, hts, hK, hA, rfl, rfl, rfl, rfl⟩ := C
  obtain ⟨Cn, T, N, ty, hc, hin, hty, hnm, hk, hlk, hft, hfin, hcn⟩ := F
  intro H locs ls hP hD hS hl
  exact va_get hx hb hts hin hown hK.1 hP q he hc k hk (hts _ hlk) (fun _ h => h) hv d (kk H locs ls hP hD hS hl)
theorem z_puti (C : z_C X l G own cc nL R) {idx ci k : Nat} (F : z_F own idx ci k .int false) (d : decode cc pc = .ok (.putfield idx, 3)) (q : Nat) {fs : List Value} (he : ws[q]? = some (a, z_o ci fs)) {w : Value} (hv : fs[k]? = some w) (hw : ws.set q (a, z_o ci (fs.set k (z_i x))) = ws') (kk : z_J X ce sl ws' L (pc + 3) st) : z_J X ce sl ws L pc (z_i x :: .ref a :: st) := by
  obtain ⟨p, l', e, R', s, m, args, below, meth, c, G', A, H0, Q, n⟩ := X
  obtain ⟨hx, hb, hml, hown, hts, hK, hA, rfl, rfl, rfl, rfl⟩ := C
  obtain ⟨Cn, T, N, ty, hc, hin, hty, hnm, hk, hlk, hft, hfin, hcn⟩ := F
  intro H locs ls hP hD hS hl
  subst hw
  exact va_put hx hb hts hin ty hty hnm hown hK.1 hP hD hS q he hc k hk (hts _ hlk) (fun _ h => h) hfin ((hty k hk).trans (congrArg some hft)) rfl rfl (List.getElem?_eq_some_iff.mp hv).1 d (fun H locs hP hD hS => kk H locs ls hP hD hS hl)
theorem z_putl (C : z_C X l G own cc nL R) {idx ci k : Nat} (F : z_F own idx ci k .long false) (d : decode cc pc = .ok (.putfield idx, 3)) (q : Nat) {fs : List Value} (he : ws[q]? = some (a, z_o ci fs)) {w : Value} (hv : fs[k]? = some w) (hw : ws.set q (a, z_o ci (fs.set k (.long v))) = ws') (kk : z_J X ce sl ws' L (pc + 3) st) : z_J X ce sl ws L pc (.long v :: .ref a :: st) := by
  obtain ⟨p, l', e, R', s, m, args, below, meth, c, G', A, H0, Q, n⟩ := X
  obtain ⟨hx, hb, hml, hown, hts, hK, hA, rfl, rfl, rfl, rfl⟩ := C
  obtain ⟨Cn, T, N, ty, hc, hin, hty, hnm, hk, hlk, hft, hfin, hcn⟩ := F
  intro H locs ls hP hD hS hl
  subst hw
  exact va_put hx hb hts hin ty hty hnm hown hK.1 hP hD hS q he hc k hk (hts _ hlk) (fun _ h => h) hfin ((hty k hk).trans (congrArg some hft)) rfl rfl (List.getElem?_eq_some_iff.mp hv).1 d (fun H locs hP hD hS => kk H locs ls hP hD hS hl)
theorem z_iald (C : z_C X l G own cc nL R) (d : decode cc pc = .ok (.iaload, 1)) (q : Nat) {n : Nat} {f : Int → Int} (he : ws[q]? = some (a, z_a G.2.1 n f)) (hin : 0 ≤ x ∧ x < (n : Int)) (hx1 : z_n x) (kk : z_J X ce sl ws L (pc + 1) (z_i (f x) :: st)) : z_J X ce sl ws L pc (z_i x :: .ref a :: st) := by
  obtain ⟨p, l', e, R', s, m, args, below, meth, c, G', A, H0, Q, n⟩ := X
  obtain ⟨hx, hb, hml, hown, hts, hK, hA, rfl, rfl, rfl, rfl⟩ := C
  intro H locs ls hP hD hS hl
  refine va_iald hx hb hK.1 hP q 0 he rfl (z_idx hin hx1) d ?_
  simp only [z_e hin hx1]
  exact kk H locs ls hP hD hS hl
theorem z_cald (C : z_C X l G own cc nL R) (d : decode cc pc = .ok (.caload, 1)) (q : Nat) {n : Nat} {f : Int → Int} (he : ws[q]? = some (a, z_a G.2.2.2.1 n f)) (hin : 0 ≤ x ∧ x < (n : Int)) (hx1 : z_n x) (kk : z_J X ce sl ws L (pc + 1) (z_i (f x) :: st)) : z_J X ce sl ws L pc (z_i x :: .ref a :: st) := by
  obtain ⟨p, l', e, R', s, m, args, below, meth, c, G', A, H0, Q, n⟩ := X
  obtain ⟨hx, hb, hml, hown, hts, hK, hA, rfl, rfl, rfl, rfl⟩ := C
  intro H locs ls hP hD hS hl
  refine va_cald hx hb hK.1 hP q 2 he rfl (z_idx hin hx1) d ?_
  simp only [z_e hin hx1]
  exact kk H locs ls hP hD hS hl
theorem z_zald (C : z_C X l G own cc nL R) (d : decode cc pc = .ok (.baload, 1)) (q : Nat) {n : Nat} {f : Int → Int} (he : ws[q]? = some (a, z_a G.2.2.2.2 n f)) (hin : 0 ≤ x ∧ x < (n : Int)) (hx1 : z_n x) (kk : z_J X ce sl ws L (pc + 1) (z_i (f x) :: st)) : z_J X ce sl ws L pc (z_i x :: .ref a :: st) := by
  obtain ⟨p, l', e, R', s, m, args, below, meth, c, G', A, H0, Q, n⟩ := X
  obtain ⟨hx, hb, hml, hown, hts, hK, hA, rfl, rfl, rfl, rfl⟩ := C
  intro H locs ls hP hD hS hl
  refine va_zald hx hb hK.1 hP q 3 he rfl (z_idx hin hx1) d ?_
  simp only [z_e hin hx1]
  exact kk H locs ls hP hD hS hl
theorem z_lald (C : z_C X l G own cc nL R) (d : decode cc pc = .ok (.laload, 1)) (q : Nat) {n : Nat} {f : Int → Int64} (he : ws[q]? = some (a, z_l G.2.2.1 n f)) (hin : 0 ≤ x ∧ x < (n : Int)) (hx1 : z_n x) (kk : z_J X ce sl ws L (pc + 1) (.long (f x) :: st)) : z_J X ce sl ws L pc (z_i x :: .ref a :: st) := by
  obtain ⟨p, l', e, R', s, m, args, below, meth, c, G', A, H0, Q, n⟩ := X
  obtain ⟨hx, hb, hml, hown, hts, hK, hA, rfl, rfl, rfl, rfl⟩ := C
  intro H locs ls hP hD hS hl
  refine va_lald hx hb hK.1 hP q 1 he rfl (z_idx hin hx1) d ?_
  simp only [z_e hin hx1]
  exact kk H locs ls hP hD hS hl
theorem z_iast (C : z_C X l G own cc nL R) (d : decode cc pc = .ok (.iastore, 1)) (q : Nat) {n : Nat} {f : Int → Int} (he : ws[q]? = some (a, z_a G.2.1 n f)) (hin : 0 ≤ x ∧ x < (n : Int)) (hx1 : z_n x) (hw : ws.set q (a, z_a G.2.1 n (z_up f x y)) = ws') (kk : z_J X ce sl ws' L (pc + 1) st) : z_J X ce sl ws L pc (z_i y :: z_i x :: .ref a :: st) := by
  obtain ⟨p, l', e, R', s, m, args, below, meth, c, G', A, H0, Q, n⟩ := X
  obtain ⟨hx, hb, hml, hown, hts, hK, hA, rfl, rfl, rfl, rfl⟩ := C
  intro H locs ls hP hD hS hl
  subst hw
  refine va_iast hx hb hK.1 hP hD hS q 0 he rfl (z_idx hin hx1) d (fun H1 locs1 hP hD hS => ?_)
  rw [z_a_up hin hx1] at hP hD
  exact kk H1 locs1 ls hP hD hS hl
theorem z_zast (C : z_C X l G own cc nL R) (d : decode cc pc = .ok (.bastore, 1)) (q : Nat) {n : Nat} {f : Int → Int} (he : ws[q]? = some (a, z_a G.2.2.2.2 n f)) (hin : 0 ≤ x ∧ x < (n : Int)) (hx1 : z_n x) (hy1 : y = 0 ∨ y = 1) (hw : ws.set q (a, z_a G.2.2.2.2 n (z_up f x y)) = ws') (kk : z_J X ce sl ws' L (pc + 1) st) : z_J X ce sl ws L pc (z_i y :: z_i x :: .ref a :: st) := by
  obtain ⟨p, l', e, R', s, m, args, below, meth, c, G', A, H0, Q, n⟩ := X
  obtain ⟨hx, hb, hml, hown, hts, hK, hA, rfl, rfl, rfl, rfl⟩ := C
  intro H locs ls hP hD hS hl
  subst hw
  refine va_zast hx hb hK.1 hP hD hS q 3 he rfl (z_idx hin hx1) d (fun H1 locs1 hP hD hS => ?_)
  rw [z_nar_z hy1, z_a_up hin hx1] at hP hD
  exact kk H1 locs1 ls hP hD hS hl
theorem z_cast (C : z_C X l G own cc nL R) (d : decode cc pc = .ok (.castore, 1)) (q : Nat) {n : Nat} {f : Int → Int} (he : ws[q]? = some (a, z_a G.2.2.2.1 n f)) (hin : 0 ≤ x ∧ x < (n : Int)) (hx1 : z_n x) (hy1 : 0 ≤ y ∧ y ≤ 65535) (hw : ws.set q (a, z_a G.2.2.2.1 n (z_up f x y)) = ws') (kk : z_J X ce sl ws' L (pc + 1) st) : z_J X ce sl ws L pc (z_i y :: z_i x :: .ref a :: st) := by
  obtain ⟨p, l', e, R', s, m, args, below, meth, c, G', A, H0, Q, n⟩ := X
  obtain ⟨hx, hb, hml, hown, hts, hK, hA, rfl, rfl, rfl, rfl⟩ := C
  intro H locs ls hP hD hS hl
  subst hw
  refine va_cast hx hb hK.1 hP hD hS q 2 he rfl (z_idx hin hx1) d (fun H1 locs1 hP hD hS => ?_)
  rw [z_nar_c hy1, z_a_up hin hx1] at hP hD
  exact kk H1 locs1 ls hP hD hS hl
theorem z_last (C : z_C X l G own cc nL R) (d : decode cc pc = .ok (.lastore, 1)) (q : Nat) {n : Nat} {f : Int → Int64} (he : ws[q]? = some (a, z_l G.2.2.1 n f)) (hin : 0 ≤ x ∧ x < (n : Int)) (hx1 : z_n x) (hw : ws.set q (a, z_l G.2.2.1 n (z_up f x v)) = ws') (kk : z_J X ce sl ws' L (pc + 1) st) : z_J X ce sl ws L pc (.long v :: z_i x :: .ref a :: st) := by
  obtain ⟨p, l', e, R', s, m, args, below, meth, c, G', A, H0, Q, n⟩ := X
  obtain ⟨hx, hb, hml, hown, hts, hK, hA, rfl, rfl, rfl, rfl⟩ := C
  intro H locs ls hP hD hS hl
  subst hw
  refine va_last hx hb hK.1 hP hD hS q 1 he rfl (z_idx hin hx1) d (fun H1 locs1 hP hD hS => ?_)
  rw [z_l_up hin hx1] at hP hD
  exact kk H1 locs1 ls hP hD hS hl
theorem z_alen_i (C : z_C X l G own cc nL R) (d : decode cc pc = .ok (.arraylength, 1)) (q : Nat) {n : Nat} {f : Int → Int} (he : ws[q]? = some (a, z_a G.2.1 n f)) (hn : (n : Int) = x) (kk : z_J X ce sl ws L (pc + 1) (z_i x :: st)) : z_J X ce sl ws L pc (.ref a :: st) := by
  obtain ⟨p, l', e, R', s, m, args, below, meth, c, G', A, H0, Q, n⟩ := X
  obtain ⟨hx, hb, hml, hown, hts, hK, hA, rfl, rfl, rfl, rfl⟩ := C
  intro H locs ls hP hD hS hl
  exact va_alen hx hb hK.1 hP q 0 he (ty := .int) rfl (by rw [← hn]; exact Int32.ofInt_eq_ofNat.symm) d (kk H locs ls hP hD hS hl)
theorem z_alen_l (C : z_C X l G own cc nL R) (d : decode cc pc = .ok (.arraylength, 1)) (q : Nat) {n : Nat} {f : Int → Int64} (he : ws[q]? = some (a, z_l G.2.2.1 n f)) (hn : (n : Int) = x) (kk : z_J X ce sl ws L (pc + 1) (z_i x :: st)) : z_J X ce sl ws L pc (.ref a :: st) := by
  obtain ⟨p, l', e, R', s, m, args, below, meth, c, G', A, H0, Q, n⟩ := X
  obtain ⟨hx, hb, hml, hown, hts, hK, hA, rfl, rfl, rfl, rfl⟩ := C
  intro H locs ls hP hD hS hl
  exact va_alen hx hb hK.1 hP q 1 he (ty := .long) rfl (by rw [← hn]; exact Int32.ofInt_eq_ofNat.symm) d (kk H locs ls hP hD hS hl)
theorem z_tabIn (C : z_C X l G own cc nL R) (hx1 : z_n x) {dflt lo hi off : Int} {offs : Array Int} {len : Nat} (d : decode cc pc = .ok (.tableswitch dflt lo hi offs, len)) (k : Int) (e : x = k) (h1 : lo ≤ k ∧ k ≤ hi) (ho : offs[(k - lo).toNat]? = some off) (ht : (pc : Int) + off = (tgt : Int)) (kk : z_J X ce sl ws L tgt st) : z_J X ce sl ws L pc (z_i x :: st) := by
  obtain ⟨p, l', e', R', s, m, args, below, meth, c, G', A, H0, Q, n⟩ := X
  obtain ⟨hx, hb, hml, hown, hts, hK, hA, rfl, rfl, rfl, rfl⟩ := C
  intro H locs ls hP hD hS hl
  subst e
  exact lv_tableIn hx hb d (by rw [z_toInt hx1]; omega) (by rw [z_toInt hx1]; omega) (by rw [z_toInt hx1]; exact ho) ht (kk H locs ls hP hD hS hl)
theorem z_tabOut (C : z_C X l G own cc nL R) (hx1 : z_n x) {dflt lo hi : Int} {offs : Array Int} {len : Nat} (d : decode cc pc = .ok (.tableswitch dflt lo hi offs, len)) (h1 : x < lo ∨ hi < x) (ht : (pc : Int) + dflt = (tgt : Int)) (kk : z_J X ce sl ws L tgt st) : z_J X ce sl ws L pc (z_i x :: st) := by
  obtain ⟨p, l', e', R', s, m, args, below, meth, c, G', A, H0, Q, n⟩ := X
  obtain ⟨hx, hb, hml, hown, hts, hK, hA, rfl, rfl, rfl, rfl⟩ := C
  intro H locs ls hP hD hS hl
  exact lv_tableOut hx hb d (by rw [z_toInt hx1]; exact h1) ht (kk H locs ls hP hD hS hl)
theorem z_copyi (C : z_C X l G own cc nL R) {idx : Nat} (lk : Cond.methodLink own idx arraycopyName ∈ z_W) (hw1 : Cond.native arraycopyName ∈ z_W) (hw2 : Cond.static arraycopyName ∈ z_W) (hw3 : Cond.initialized "java/lang/System" ∈ z_W) (d : decode cc pc = .ok (.invokestatic idx, 3)) (q0 q1 : Nat) {a0 : Nat} {n0 n1 : Nat} {f g : Int → Int} {sp dp n : Int} (he0 : ws[q0]? = some (a0, z_a G.2.1 n0 f)) (he1 : ws[q1]? = some (a, z_a G.2.1 n1 g)) (hc : 0 ≤ sp ∧ 0 ≤ dp ∧ 0 ≤ n ∧ sp + n ≤ (n0 : Int) ∧ dp + n ≤ (n1 : Int)) (h1 : z_n sp) (h2 : z_n dp) (h3 : z_n n)
    (hR : 1 ≤ R.frames ∧ (st.map fun v => v.category).sum + (nativeFrameWords "java/lang/System" "arraycopy" 5 + 11) ≤ R.locals) (hw : ws.set q1 (a, z_a G.2.1 n1 (z_cpy f g sp dp n)) = ws') (kk : z_J X ce sl ws' L (pc + 3) st) : z_J X ce sl ws L pc (z_i n :: z_i dp :: .ref a :: z_i sp :: .ref a0 :: st) := by
  obtain ⟨p, l', e', R', s, m, args, below, meth, c, G', A, H0, Q, nn⟩ := X
  obtain ⟨hx, hb, hml, hown, hts, hK, hA, rfl, rfl, rfl, rfl⟩ := C
  intro H locs ls hP hD hS hl
  subst hw
  have neg : ∀ {z : Int}, z_n z → 0 ≤ z → ¬ Int32.ofInt z < 0 := fun hz h0 q => by
    have := (z_lti hz z_n0).mp q
    omega
  refine va_copyi hx hb (hml.trans hl.1.symm) hown (hts _ lk) (hts _ hw1) (hts _ hw2) (hts _ hw3) hK.1 hP hD hS q0 q1 0 0 he0 he1 (ty := .int) rfl rfl rfl (neg h1 hc.1) (neg h2 hc.2.1) (neg h3 hc.2.2.1) (by rw [z_clamp h1, z_clamp h3]; omega) (by rw [z_clamp h2, z_clamp h3]; omega) (fun _ _ => rfl) hR.1 hR.2 d (fun H1 locs1 hP hD hS => ?_)
  have e : (.inl (G'.2.1, n1, .inl (va_cpy (fun j : Nat => Int32.ofInt (f (j : Int))) (fun j : Nat => Int32.ofInt (g (j : Int))) (Int32.ofInt sp).toNatClampNeg (Int32.ofInt dp).toNatClampNeg (Int32.ofInt n).toNatClampNeg)) : va_E) = z_a G'.2.1 n1 (z_cpy f g sp dp n) := by
    unfold z_a
    congr 3
    congr 1
    funext k
    simp only [va_cpy, z_cpy, z_clamp h1, z_clamp h2, z_clamp h3]
    by_cases hk : dp ≤ (k : Int) ∧ (k : Int) < dp + n
    · rw [if_pos hk, if_pos (by omega)]
      congr 2
      omega
    · rw [if_neg hk, if_neg (by omega)]
  rw [e] at hP hD
  exact kk H1 locs1 ls hP hD hS hl
theorem z_copyl (C : z_C X l G own cc nL R) {idx : Nat} (lk : Cond.methodLink own idx arraycopyName ∈ z_W) (hw1 : Cond.native arraycopyName ∈ z_W) (hw2 : Cond.static arraycopyName ∈ z_W) (hw3 : Cond.initialized "java/lang/System" ∈ z_W) (d : decode cc pc = .ok (.invokestatic idx, 3)) (q0 q1 : Nat) {a0 : Nat} {n0 n1 : Nat} {f g : Int → Int64} {sp dp n : Int} (he0 : ws[q0]? = some (a0, z_l G.2.2.1 n0 f)) (he1 : ws[q1]? = some (a, z_l G.2.2.1 n1 g)) (hc : 0 ≤ sp ∧ 0 ≤ dp ∧ 0 ≤ n ∧ sp + n ≤ (n0 : Int) ∧ dp + n ≤ (n1 : Int)) (h1 : z_n sp) (h2 : z_n dp) (h3 : z_n n)
    (hR : 1 ≤ R.frames ∧ (st.map fun v => v.category).sum + (nativeFrameWords "java/lang/System" "arraycopy" 5 + 11) ≤ R.locals) (hw : ws.set q1 (a, z_l G.2.2.1 n1 (z_cpy f g sp dp n)) = ws') (kk : z_J X ce sl ws' L (pc + 3) st) : z_J X ce sl ws L pc (z_i n :: z_i dp :: .ref a :: z_i sp :: .ref a0 :: st) := by
  obtain ⟨p, l', e', R', s, m, args, below, meth, c, G', A, H0, Q, nn⟩ := X
  obtain ⟨hx, hb, hml, hown, hts, hK, hA, rfl, rfl, rfl, rfl⟩ := C
  intro H locs ls hP hD hS hl
  subst hw
  have neg : ∀ {z : Int}, z_n z → 0 ≤ z → ¬ Int32.ofInt z < 0 := fun hz h0 q => by
    have := (z_lti hz z_n0).mp q
    omega
  refine va_copyl hx hb (hml.trans hl.1.symm) hown (hts _ lk) (hts _ hw1) (hts _ hw2) (hts _ hw3) hK.1 hP hD hS q0 q1 1 1 he0 he1 (ty := .long) rfl rfl rfl (neg h1 hc.1) (neg h2 hc.2.1) (neg h3 hc.2.2.1) (by rw [z_clamp h1, z_clamp h3]; omega) (by rw [z_clamp h2, z_clamp h3]; omega) (fun _ _ => rfl) hR.1 hR.2 d (fun H1 locs1 hP hD hS => ?_)
  have e : (.inl (G'.2.2.1, n1, .inr (.inl (va_cpy (fun j : Nat => f (j : Int)) (fun j : Nat => g (j : Int)) (Int32.ofInt sp).toNatClampNeg (Int32.ofInt dp).toNatClampNeg (Int32.ofInt n).toNatClampNeg))) : va_E) = z_l G'.2.2.1 n1 (z_cpy f g sp dp n) := by
    unfold z_l
    congr 4
    congr 1
    funext k
    simp only [va_cpy, z_cpy, z_clamp h1, z_clamp h2, z_clamp h3]
    by_cases hk : dp ≤ (k : Int) ∧ (k : Int) < dp + n
    · rw [if_pos hk, if_pos (by omega)]
      congr 1
      omega
    · rw [if_neg hk, if_neg (by omega)]
  rw [e] at hP hD
  exact kk H1 locs1 ls hP hD hS hl
/-! ends -/
theorem z_iret (C : z_C X l G own cc nL R) {ym : MethodName} {post : Option Value → va_W → Prop} (E : z_E X ym (some .int) ce sl post) (d : decode cc pc = .ok (.ireturn, 1)) (h : post (some (z_i x)) ws) : z_J X ce sl ws L pc [z_i x] := by
  obtain ⟨p, l', e', R', s, m, args, below, meth, c, G', A, H0, Q, nn⟩ := X
  obtain ⟨hx, hb, hml, hown, hts, hK, hA, rfl, rfl, rfl, rfl⟩ := C
  obtain ⟨hr, hlk, hnm, rfl, wc, rfl, rfl⟩ := E
  intro H locs ls hP hD hS hl
  exact W.iret hx hb hr (fun t ht _ => ⟨⟨_, ws, rfl, h, by rw [ht]; exact hP, hD⟩, hS.F ht⟩) hS.2.2 d hlk
theorem z_zret (C : z_C X l G own cc nL R) {ym : MethodName} {post : Option Value → va_W → Prop} (E : z_E X ym (some .boolean) ce sl post) (hx1 : x = 0 ∨ x = 1) (d : decode cc pc = .ok (.ireturn, 1)) (h : post (some (z_i x)) ws) : z_J X ce sl ws L pc [z_i x] := by
  obtain ⟨p, l', e', R', s, m, args, below, meth, c, G', A, H0, Q, nn⟩ := X
  obtain ⟨hx, hb, hml, hown, hts, hK, hA, rfl, rfl, rfl, rfl⟩ := C
  obtain ⟨hr, hlk, hnm, rfl, wc, rfl, rfl⟩ := E
  intro H locs ls hP hD hS hl
  exact W.zret hx hb hr (by rcases hx1 with rfl | rfl <;> rfl) (fun t ht _ => ⟨⟨_, ws, rfl, h, by rw [ht]; exact hP, hD⟩, hS.F ht⟩) hS.2.2 d hlk
theorem z_lret (C : z_C X l G own cc nL R) {ym : MethodName} {post : Option Value → va_W → Prop} (E : z_E X ym (some .long) ce sl post) (d : decode cc pc = .ok (.lreturn, 1)) (h : post (some (.long v)) ws) : z_J X ce sl ws L pc [.long v] := by
  obtain ⟨p, l', e', R', s, m, args, below, meth, c, G', A, H0, Q, nn⟩ := X
  obtain ⟨hx, hb, hml, hown, hts, hK, hA, rfl, rfl, rfl, rfl⟩ := C
  obtain ⟨hr, hlk, hnm, rfl, wc, rfl, rfl⟩ := E
  intro H locs ls hP hD hS hl
  exact W.lret hx hb hr (fun t ht _ => ⟨⟨_, ws, rfl, h, by rw [ht]; exact hP, hD⟩, hS.F ht⟩) hS.2.2 d hlk
theorem z_vret (C : z_C X l G own cc nL R) {ym : MethodName} {post : Option Value → va_W → Prop} (E : z_E X ym none ce sl post) (d : decode cc pc = .ok (.return_, 1)) (h : post none ws) : z_J X ce sl ws L pc [] := by
  obtain ⟨p, l', e', R', s, m, args, below, meth, c, G', A, H0, Q, nn⟩ := X
  obtain ⟨hx, hb, hml, hown, hts, hK, hA, rfl, rfl, rfl, rfl⟩ := C
  obtain ⟨hr, hlk, hnm, rfl, wc, rfl, rfl⟩ := E
  intro H locs ls hP hD hS hl
  exact W.vret hx hb hr (fun t ht _ => ⟨⟨_, ws, rfl, h, by rw [ht]; exact hP, hD⟩, hS.F ht⟩) hS.2.2 d hlk
/-! calls -/
theorem z_callV (C : z_C X l G own cc nL R) {ym : MethodName} {cy : ByteArray} {ny n idx : Nat} {ret : Option FieldType} {rm : Room} {As : List Value} {wc w1 : va_W} {r : Option Value} {F : Prop} (M : z_M l G ym cy ny ret rm (.ref b :: As) wc 0 0 (fun v w => v = r ∧ w = w1 ∧ F)) (V : z_V ym cy ny ret n) (lk : Cond.methodLink own idx ym ∈ z_W) (d : decode cc pc = .ok (.invokevirtual idx, 3)) (is : List Nat) (hs : is.map (fun i => ws[i]?) = wc.map some) (hn : va_nd is = true) (hw : w1.map (fun q => q.1) = wc.map (fun q => q.1)) (hp : z_put ws is w1 = ws') (q : Nat) {ci : Nat} {fs : List Value} (hq : ws[q]? = some (b, z_o ci fs)) (hcn : (vwCl[ci]?).map (fun z => z.1) = some ym.cls) (hA1 : As.length = n) (rest : List Value) (hst : st = As.reverse ++ .ref b :: rest) (hW : (rest.map fun v => v.category).sum ≤ 8) (hR : rm.frames + 1 ≤ R.frames ∧ 8 + (ny + 11) + rm.locals ≤ R.locals) (hm0 : rm.cells = 0 ∧ rm.slots = 0) (hce : ce ≤ R.cells ∧ sl ≤ R.slots)
    (kk : F → z_J X ce sl ws' L (pc + 3) (r.toList ++ rest)) : z_J X ce sl ws L pc st := by
  obtain ⟨p, l', e', R', s, m, args, below, meth, c, G', A, H0, Q, nn⟩ := X
  obtain ⟨hx, hb, hml, hown, hts, hK, hA, rfl, rfl, rfl, rfl⟩ := C
  obtain ⟨v1, v2, v3, v4, v5, v6⟩ := V
  intro H locs ls hP hD hS hl
  subst hst
  subst hp
  have hPc : va_P G'.1 vwCl wc H := fun k z hz => by
    obtain ⟨i, -, hi⟩ := z_at hs k z hz
    exact hP i z hi
  have hDc : va_D A wc := hD.sub is hn hs
  obtain ⟨z, hz, hz1⟩ : ∃ z, vwCl[ci]? = some z ∧ z.1 = ym.cls := by
    cases hh : vwCl[ci]? with
    | none => rw [hh] at hcn; cases hcn
    | some z => rw [hh] at hcn; exact ⟨z, rfl, Option.some.inj hcn⟩
  have hrec := va_recv (s := s) hK.1 hP hz hq
  rw [hz1] at hrec
  have hrun := va_runV (H := H) (locs := locs) (cells := ce) (slots := sl) (below := below) (meth := meth) (p := p) (e := e') (As := As) (rest := rest) (b := b) (C := ym.cls) (cc := cc) (index := idx) (g := F0 m pc ls (As.reverse ++ .ref b :: rest)) ⟨hx, hb, hml, hown, hts⟩ (M H.size) ⟨z_callB (mc := 0) (ms := 0) hts v1 v2 v3 v4 lk hR hm0.1 hm0.2, hts _ v5, hts _ v6⟩ ⟨z_blind, hrec, fun U hU hW => ⟨rfl, by rw [hU], by rw [hU]; exact hPc, z_K.moved hW hK, hDc.weaken fun _ _ _ _ => trivial⟩⟩ rfl hA1 hl.1 rfl (lv_room hW) d ⟨hce.1, hce.2⟩
  refine z_go hP hD hS hA hrun is hs hn (fun v w h => ⟨w, [], by rw [List.append_nil], by rw [h.2.1]; exact hw⟩) (fun v w1' wn H1 locs1 hpo hw' hP hD hS => ?_)
  obtain ⟨rfl, e2, hF⟩ := hpo
  have hwn : wn = [] := by
    have h1 := congrArg List.length e2
    have h2 := congrArg List.length (hw'.trans hw.symm)
    simp only [List.length_append, List.length_map] at h1 h2
    exact List.length_eq_zero_iff.mp (by omega)
  subst hwn
  rw [List.append_nil] at e2 hP hD
  subst e2
  exact kk hF H1 locs1 ls hP hD hS hl
theorem z_callS (C : z_C X l G own cc nL R) {ym : MethodName} {cy : ByteArray} {ny n idx : Nat} {ret : Option FieldType} {rm : Room} {As : List Value} {wc w1 : va_W} {r : Option Value} {F : Prop} (M : z_M l G ym cy ny ret rm As wc 0 0 (fun v w => v = r ∧ w = w1 ∧ F)) (V : z_S ym cy ny ret n) (lk : Cond.methodLink own idx ym ∈ z_W) (d : decode cc pc = .ok (.invokestatic idx, 3)) (is : List Nat) (hs : is.map (fun i => ws[i]?) = wc.map some) (hn : va_nd is = true) (hw : w1.map (fun q => q.1) = wc.map (fun q => q.1)) (hp : z_put ws is w1 = ws') (hA1 : As.length = n) (rest : List Value) (hst : st = As.reverse ++ rest) (hW : (rest.map fun v => v.category).sum ≤ 8) (hR : rm.frames + 1 ≤ R.frames ∧ 8 + (ny + 11) + rm.locals ≤ R.locals) (hm0 : rm.cells = 0 ∧ rm.slots = 0) (hce : ce ≤ R.cells ∧ sl ≤ R.slots)
    (kk : F → z_J X ce sl ws' L (pc + 3) (r.toList ++ rest)) : z_J X ce sl ws L pc st := by
  obtain ⟨p, l', e', R', s, m, args, below, meth, c, G', A, H0, Q, nn⟩ := X
  obtain ⟨hx, hb, hml, hown, hts, hK, hA, rfl, rfl, rfl, rfl⟩ := C
  obtain ⟨v1, v2, v3, v4, v5⟩ := V
  intro H locs ls hP hD hS hl
  subst hst
  subst hp
  have hPc : va_P G'.1 vwCl wc H := fun k z hz => by
    obtain ⟨i, -, hi⟩ := z_at hs k z hz
    exact hP i z hi
  have hDc : va_D A wc := hD.sub is hn hs
  have hrun := va_runS (H := H) (locs := locs) (cells := ce) (slots := sl) (below := below) (meth := meth) (p := p) (e := e') (As := As) (rest := rest) (cc := cc) (index := idx) (g := F0 m pc ls (As.reverse ++ rest)) ⟨hx, hb, hml, hown, hts⟩ (M H.size) ⟨z_callB (mc := 0) (ms := 0) hts v1 v2 v3 v4 lk hR hm0.1 hm0.2, hts _ v5⟩ ⟨z_blind, fun U hU hW => ⟨rfl, by rw [hU], by rw [hU]; exact hPc, z_K.moved hW hK, hDc.weaken fun _ _ _ _ => trivial⟩⟩ rfl hA1 hl.1 rfl (lv_room hW) d ⟨hce.1, hce.2⟩
  refine z_go hP hD hS hA hrun is hs hn (fun v w h => ⟨w, [], by rw [List.append_nil], by rw [h.2.1]; exact hw⟩) (fun v w1' wn H1 locs1 hpo hw' hP hD hS => ?_)
  obtain ⟨rfl, e2, hF⟩ := hpo
  have hwn : wn = [] := by
    have h1 := congrArg List.length e2
    have h2 := congrArg List.length (hw'.trans hw.symm)
    simp only [List.length_append, List.length_map] at h1 h2
    exact List.length_eq_zero_iff.mp (by omega)
  subst hwn
  rw [List.append_nil] at e2 hP hD
  subst e2
  exact kk hF H1 locs1 ls hP hD hS hl
theorem z_callN (C : z_C X l G own cc nL R) {ym : MethodName} {cy : ByteArray} {ny n idx : Nat} {host : String} {ret : Option FieldType} {rm : Room} {As : List Value} {wc w1 : va_W} {r : Option Value} {F : Prop} (M : z_M l G ym cy ny ret rm As wc 0 0 (fun v w => v = r ∧ w = w1 ∧ F)) (V : z_S ym cy ny ret n) (lk : Cond.methodLinkNest own idx ym host ∈ z_nest) (d : decode cc pc = .ok (.invokestatic idx, 3)) (is : List Nat) (hs : is.map (fun i => ws[i]?) = wc.map some) (hn : va_nd is = true) (hw : w1.map (fun q => q.1) = wc.map (fun q => q.1)) (hp : z_put ws is w1 = ws') (hA1 : As.length = n) (rest : List Value) (hst : st = As.reverse ++ rest) (hW : (rest.map fun v => v.category).sum ≤ 8) (hR : rm.frames + 1 ≤ R.frames ∧ 8 + (ny + 11) + rm.locals ≤ R.locals) (hm0 : rm.cells = 0 ∧ rm.slots = 0) (hce : ce ≤ R.cells ∧ sl ≤ R.slots)
    (kk : F → z_J X ce sl ws' L (pc + 3) (r.toList ++ rest)) : z_J X ce sl ws L pc st := by
  obtain ⟨p, l', e', R', s, m, args, below, meth, c, G', A, H0, Q, nn⟩ := X
  obtain ⟨hx, hb, hml, hown, hts, hK, hA, rfl, rfl, rfl, rfl⟩ := C
  obtain ⟨v1, v2, v3, v4, v5⟩ := V
  intro H locs ls hP hD hS hl
  subst hst
  subst hp
  have hPc : va_P G'.1 vwCl wc H := fun k z hz => by
    obtain ⟨i, -, hi⟩ := z_at hs k z hz
    exact hP i z hi
  have hDc : va_D A wc := hD.sub is hn hs
  have hlk := va_Nw.use (A := args) rfl (hK.2 _ lk)
  have hsig : ∀ sig, parseMethodDescriptor ym.desc = some sig → n = sig.parameters.length := fun sig h => by
    rw [h] at v4
    exact (Option.some.inj v4).symm
  have hrun := va_runSN (H := H) (locs := locs) (cells := ce) (slots := sl) (below := below) (meth := meth) (p := p) (e := e') (As := As) (rest := rest) (cc := cc) (index := idx) (g := F0 m pc ls (As.reverse ++ rest)) (n := n) (mc := 0) (ms := 0) (bytes := cy) (maxL := ny) (ret := ret) (host := host) ⟨hx, hb, hml, hown, hts⟩ (M H.size) ⟨⟨⟨hm0.1, hm0.2, hR.1, hR.2, z_pay hts v1, List.mem_cons_self⟩, hts _ v1, hts _ v2, v3, hsig, hlk⟩, hts _ v5, trivial⟩ ⟨z_blind, fun U hU hW => ⟨rfl, by rw [hU], by rw [hU]; exact hPc, z_K.moved hW hK, hDc.weaken fun _ _ _ _ => trivial⟩⟩ rfl hA1 hl.1 rfl (lv_room hW) d ⟨hce.1, hce.2⟩
  refine z_go hP hD hS hA hrun is hs hn (fun v w h => ⟨w, [], by rw [List.append_nil], by rw [h.2.1]; exact hw⟩) (fun v w1' wn H1 locs1 hpo hw' hP hD hS => ?_)
  obtain ⟨rfl, e2, hF⟩ := hpo
  have hwn : wn = [] := by
    have h1 := congrArg List.length e2
    have h2 := congrArg List.length (hw'.trans hw.symm)
    simp only [List.length_append, List.length_map] at h1 h2
    exact List.length_eq_zero_iff.mp (by omega)
  subst hwn
  rw [List.append_nil] at e2 hP hD
  subst e2
  exact kk hF H1 locs1 ls hP hD hS hl
end
end
section
theorem z_inX0 : ∀ w ∈ u_ws RX0 TX0 6, w ∈ z_W := by
  intro w hw
  obtain ⟨k, hk, rfl⟩ := List.mem_map.mp hw
  have h := List.mem_range.mp hk
  rcases (show k = 0 ∨ k = 1 ∨ k = 2 ∨ k = 3 ∨ k = 4 ∨ k = 5 by omega) with rfl | rfl | rfl | rfl | rfl | rfl
  · exact z_mem 110 (by decide +kernel) rfl
  · exact z_mem 112 (by decide +kernel) rfl
  · exact z_mem 114 (by decide +kernel) rfl
  · exact z_mem 116 (by decide +kernel) rfl
  · exact z_mem 118 (by decide +kernel) rfl
  · exact z_mem 120 (by decide +kernel) rfl
theorem z_inX1 : ∀ w ∈ u_ws RX1 TX1 4, w ∈ z_W := by
  intro w hw
  obtain ⟨k, hk, rfl⟩ := List.mem_map.mp hw
  have h := List.mem_range.mp hk
  rcases (show k = 0 ∨ k = 1 ∨ k = 2 ∨ k = 3 by omega) with rfl | rfl | rfl | rfl
  · exact z_mem 187 (by decide +kernel) rfl
  · exact z_mem 189 (by decide +kernel) rfl
  · exact z_mem 191 (by decide +kernel) rfl
  · exact z_mem 193 (by decide +kernel) rfl
theorem z_inX2 : ∀ w ∈ u_ws RX2 TX2 5, w ∈ z_W := by
  intro w hw
  obtain ⟨k, hk, rfl⟩ := List.mem_map.mp hw
  have h := List.mem_range.mp hk
  rcases (show k = 0 ∨ k = 1 ∨ k = 2 ∨ k = 3 ∨ k = 4 by omega) with rfl | rfl | rfl | rfl | rfl
  · exact z_mem 165 (by decide +kernel) rfl
  · exact z_mem 167 (by decide +kernel) rfl
  · exact z_mem 169 (by decide +kernel) rfl
  · exact z_mem 171 (by decide +kernel) rfl
  · exact z_mem 173 (by decide +kernel) rfl
theorem z_inX3 : ∀ w ∈ u_ws RX3 TX3 3, w ∈ z_W := by
  intro w hw
  obtain ⟨k, hk, rfl⟩ := List.mem_map.mp hw
  have h := List.mem_range.mp hk
  rcases (show k = 0 ∨ k = 1 ∨ k = 2 by omega) with rfl | rfl | rfl
  · exact z_mem 81 (by decide +kernel) rfl
  · exact z_mem 83 (by decide +kernel) rfl
  · exact z_mem 85 (by decide +kernel) rfl
theorem z_inX4 : ∀ w ∈ u_ws RX4 TX4 4, w ∈ z_W := by
  intro w hw
  obtain ⟨k, hk, rfl⟩ := List.mem_map.mp hw
  have h := List.mem_range.mp hk
  rcases (show k = 0 ∨ k = 1 ∨ k = 2 ∨ k = 3 by omega) with rfl | rfl | rfl | rfl
  · exact z_mem 144 (by decide +kernel) rfl
  · exact z_mem 146 (by decide +kernel) rfl
  · exact z_mem 148 (by decide +kernel) rfl
  · exact z_mem 150 (by decide +kernel) rfl
theorem z_inX5 : ∀ w ∈ u_ws RX5 TX5 11, w ∈ z_W := by
  intro w hw
  obtain ⟨k, hk, rfl⟩ := List.mem_map.mp hw
  have h := List.mem_range.mp hk
  rcases (show k = 0 ∨ k = 1 ∨ k = 2 ∨ k = 3 ∨ k = 4 ∨ k = 5 ∨ k = 6 ∨ k = 7 ∨ k = 8 ∨ k = 9 ∨ k = 10 by omega) with rfl | rfl | rfl | rfl | rfl | rfl | rfl | rfl | rfl | rfl | rfl
  · exact z_mem 383 (by decide +kernel) rfl
  · exact z_mem 385 (by decide +kernel) rfl
  · exact z_mem 387 (by decide +kernel) rfl
  · exact z_mem 389 (by decide +kernel) rfl
  · exact z_mem 391 (by decide +kernel) rfl
  · exact z_mem 393 (by decide +kernel) rfl
  · exact z_mem 395 (by decide +kernel) rfl
  · exact z_mem 397 (by decide +kernel) rfl
  · exact z_mem 399 (by decide +kernel) rfl
  · exact z_mem 401 (by decide +kernel) rfl
  · exact z_mem 403 (by decide +kernel) rfl
theorem z_inX6 : ∀ w ∈ u_ws RX6 TX6 17, w ∈ z_W := by
  intro w hw
  obtain ⟨k, hk, rfl⟩ := List.mem_map.mp hw
  have h := List.mem_range.mp hk
  rcases (show k = 0 ∨ k = 1 ∨ k = 2 ∨ k = 3 ∨ k = 4 ∨ k = 5 ∨ k = 6 ∨ k = 7 ∨ k = 8 ∨ k = 9 ∨ k = 10 ∨ k = 11 ∨ k = 12 ∨ k = 13 ∨ k = 14 ∨ k = 15 ∨ k = 16 by omega) with rfl | rfl | rfl | rfl | rfl | rfl | rfl | rfl | rfl | rfl | rfl | rfl | rfl | rfl | rfl | rfl | rfl
  · exact z_mem 712 (by decide +kernel) rfl
  · exact z_mem 714 (by decide +kernel) rfl
  · exact z_mem 716 (by decide +kernel) rfl
  · exact z_mem 718 (by decide +kernel) rfl
  · exact z_mem 720 (by decide +kernel) rfl
  · exact z_mem 722 (by decide +kernel) rfl
  · exact z_mem 724 (by decide +kernel) rfl
  · exact z_mem 726 (by decide +kernel) rfl
  · exact z_mem 728 (by decide +kernel) rfl
  · exact z_mem 730 (by decide +kernel) rfl
  · exact z_mem 732 (by decide +kernel) rfl
  · exact z_mem 734 (by decide +kernel) rfl
  · exact z_mem 736 (by decide +kernel) rfl
  · exact z_mem 738 (by decide +kernel) rfl
  · exact z_mem 740 (by decide +kernel) rfl
  · exact z_mem 742 (by decide +kernel) rfl
  · exact z_mem 744 (by decide +kernel) rfl
theorem zf_X3_9 : z_F RX3 9 3 0 (.array .char) true := ⟨RX3, TX3, 3, tyX3, rfl, z_inX3, tyX3_ok, nmX3, by decide, z_mem 77 (by decide +kernel) rfl, rfl, rfl, rfl⟩
theorem zf_X3_15 : z_F RX3 15 3 1 .int false := ⟨RX3, TX3, 3, tyX3, rfl, z_inX3, tyX3_ok, nmX3, by decide, z_mem 78 (by decide +kernel) rfl, rfl, rfl, rfl⟩
theorem zf_X5_89 : z_F RX5 89 3 1 .int false := ⟨RX3, TX3, 3, tyX3, rfl, z_inX3, tyX3_ok, nmX3, by decide, z_mem 79 (by decide +kernel) rfl, rfl, rfl, rfl⟩
theorem zf_X3_19 : z_F RX3 19 3 2 .int false := ⟨RX3, TX3, 3, tyX3, rfl, z_inX3, tyX3_ok, nmX3, by decide, z_mem 80 (by decide +kernel) rfl, rfl, rfl, rfl⟩
theorem zf_X0_9 : z_F RX0 9 0 0 .int false := ⟨RX0, TX0, 6, tyX0, rfl, z_inX0, tyX0_ok, nmX0, by decide, z_mem 95 (by decide +kernel) rfl, rfl, rfl, rfl⟩
theorem zf_X5_223 : z_F RX5 223 0 0 .int false := ⟨RX0, TX0, 6, tyX0, rfl, z_inX0, tyX0_ok, nmX0, by decide, z_mem 96 (by decide +kernel) rfl, rfl, rfl, rfl⟩
theorem zf_X0_15 : z_F RX0 15 0 1 .int false := ⟨RX0, TX0, 6, tyX0, rfl, z_inX0, tyX0_ok, nmX0, by decide, z_mem 97 (by decide +kernel) rfl, rfl, rfl, rfl⟩
theorem zf_X0_18 : z_F RX0 18 0 2 .int false := ⟨RX0, TX0, 6, tyX0, rfl, z_inX0, tyX0_ok, nmX0, by decide, z_mem 98 (by decide +kernel) rfl, rfl, rfl, rfl⟩
theorem zf_X2_34 : z_F RX2 34 0 2 .int false := ⟨RX0, TX0, 6, tyX0, rfl, z_inX0, tyX0_ok, nmX0, by decide, z_mem 99 (by decide +kernel) rfl, rfl, rfl, rfl⟩
theorem zf_X4_38 : z_F RX4 38 0 2 .int false := ⟨RX0, TX0, 6, tyX0, rfl, z_inX0, tyX0_ok, nmX0, by decide, z_mem 100 (by decide +kernel) rfl, rfl, rfl, rfl⟩
theorem zf_X5_95 : z_F RX5 95 0 2 .int false := ⟨RX0, TX0, 6, tyX0, rfl, z_inX0, tyX0_ok, nmX0, by decide, z_mem 101 (by decide +kernel) rfl, rfl, rfl, rfl⟩
theorem zf_X3_75 : z_F RX3 75 0 2 .int false := ⟨RX0, TX0, 6, tyX0, rfl, z_inX0, tyX0_ok, nmX0, by decide, z_mem 102 (by decide +kernel) rfl, rfl, rfl, rfl⟩
theorem zf_X0_21 : z_F RX0 21 0 3 (.array .int) true := ⟨RX0, TX0, 6, tyX0, rfl, z_inX0, tyX0_ok, nmX0, by decide, z_mem 103 (by decide +kernel) rfl, rfl, rfl, rfl⟩
theorem zf_X3_66 : z_F RX3 66 0 3 (.array .int) true := ⟨RX0, TX0, 6, tyX0, rfl, z_inX0, tyX0_ok, nmX0, by decide, z_mem 104 (by decide +kernel) rfl, rfl, rfl, rfl⟩
theorem zf_X5_109 : z_F RX5 109 0 3 (.array .int) true := ⟨RX0, TX0, 6, tyX0, rfl, z_inX0, tyX0_ok, nmX0, by decide, z_mem 105 (by decide +kernel) rfl, rfl, rfl, rfl⟩
theorem zf_X4_95 : z_F RX4 95 0 3 (.array .int) true := ⟨RX0, TX0, 6, tyX0, rfl, z_inX0, tyX0_ok, nmX0, by decide, z_mem 106 (by decide +kernel) rfl, rfl, rfl, rfl⟩
theorem zf_X0_25 : z_F RX0 25 0 4 (.array .int) true := ⟨RX0, TX0, 6, tyX0, rfl, z_inX0, tyX0_ok, nmX0, by decide, z_mem 107 (by decide +kernel) rfl, rfl, rfl, rfl⟩
theorem zf_X4_92 : z_F RX4 92 0 4 (.array .int) true := ⟨RX0, TX0, 6, tyX0, rfl, z_inX0, tyX0_ok, nmX0, by decide, z_mem 108 (by decide +kernel) rfl, rfl, rfl, rfl⟩
theorem zf_X0_28 : z_F RX0 28 0 5 (.array .long) true := ⟨RX0, TX0, 6, tyX0, rfl, z_inX0, tyX0_ok, nmX0, by decide, z_mem 109 (by decide +kernel) rfl, rfl, rfl, rfl⟩
theorem zf_X4_9 : z_F RX4 9 4 0 (.array .int) true := ⟨RX4, TX4, 4, tyX4, rfl, z_inX4, tyX4_ok, nmX4, by decide, z_mem 131 (by decide +kernel) rfl, rfl, rfl, rfl⟩
theorem zf_X1_28 : z_F RX1 28 4 0 (.array .int) true := ⟨RX4, TX4, 4, tyX4, rfl, z_inX4, tyX4_ok, nmX4, by decide, z_mem 132 (by decide +kernel) rfl, rfl, rfl, rfl⟩
theorem zf_X3_62 : z_F RX3 62 4 0 (.array .int) true := ⟨RX4, TX4, 4, tyX4, rfl, z_inX4, tyX4_ok, nmX4, by decide, z_mem 133 (by decide +kernel) rfl, rfl, rfl, rfl⟩
theorem zf_X5_106 : z_F RX5 106 4 0 (.array .int) true := ⟨RX4, TX4, 4, tyX4, rfl, z_inX4, tyX4_ok, nmX4, by decide, z_mem 134 (by decide +kernel) rfl, rfl, rfl, rfl⟩
theorem zf_X4_15 : z_F RX4 15 4 1 (.array .int) true := ⟨RX4, TX4, 4, tyX4, rfl, z_inX4, tyX4_ok, nmX4, by decide, z_mem 135 (by decide +kernel) rfl, rfl, rfl, rfl⟩
theorem zf_X2_37 : z_F RX2 37 4 1 (.array .int) true := ⟨RX4, TX4, 4, tyX4, rfl, z_inX4, tyX4_ok, nmX4, by decide, z_mem 136 (by decide +kernel) rfl, rfl, rfl, rfl⟩
theorem zf_X1_39 : z_F RX1 39 4 1 (.array .int) true := ⟨RX4, TX4, 4, tyX4, rfl, z_inX4, tyX4_ok, nmX4, by decide, z_mem 137 (by decide +kernel) rfl, rfl, rfl, rfl⟩
theorem zf_X3_69 : z_F RX3 69 4 1 (.array .int) true := ⟨RX4, TX4, 4, tyX4, rfl, z_inX4, tyX4_ok, nmX4, by decide, z_mem 138 (by decide +kernel) rfl, rfl, rfl, rfl⟩
theorem zf_X5_112 : z_F RX5 112 4 1 (.array .int) true := ⟨RX4, TX4, 4, tyX4, rfl, z_inX4, tyX4_ok, nmX4, by decide, z_mem 139 (by decide +kernel) rfl, rfl, rfl, rfl⟩
theorem zf_X4_18 : z_F RX4 18 4 2 .int false := ⟨RX4, TX4, 4, tyX4, rfl, z_inX4, tyX4_ok, nmX4, by decide, z_mem 140 (by decide +kernel) rfl, rfl, rfl, rfl⟩
theorem zf_X1_40 : z_F RX1 40 4 2 .int false := ⟨RX4, TX4, 4, tyX4, rfl, z_inX4, tyX4_ok, nmX4, by decide, z_mem 141 (by decide +kernel) rfl, rfl, rfl, rfl⟩
theorem zf_X5_145 : z_F RX5 145 4 2 .int false := ⟨RX4, TX4, 4, tyX4, rfl, z_inX4, tyX4_ok, nmX4, by decide, z_mem 142 (by decide +kernel) rfl, rfl, rfl, rfl⟩
theorem zf_X4_22 : z_F RX4 22 4 3 .long false := ⟨RX4, TX4, 4, tyX4, rfl, z_inX4, tyX4_ok, nmX4, by decide, z_mem 143 (by decide +kernel) rfl, rfl, rfl, rfl⟩
theorem zf_X2_9 : z_F RX2 9 2 0 (.array .int) true := ⟨RX2, TX2, 5, tyX2, rfl, z_inX2, tyX2_ok, nmX2, by decide, z_mem 159 (by decide +kernel) rfl, rfl, rfl, rfl⟩
theorem zf_X2_15 : z_F RX2 15 2 1 (.array .int) true := ⟨RX2, TX2, 5, tyX2, rfl, z_inX2, tyX2_ok, nmX2, by decide, z_mem 160 (by decide +kernel) rfl, rfl, rfl, rfl⟩
theorem zf_X2_18 : z_F RX2 18 2 2 .int false := ⟨RX2, TX2, 5, tyX2, rfl, z_inX2, tyX2_ok, nmX2, by decide, z_mem 161 (by decide +kernel) rfl, rfl, rfl, rfl⟩
theorem zf_X2_22 : z_F RX2 22 2 3 .int false := ⟨RX2, TX2, 5, tyX2, rfl, z_inX2, tyX2_ok, nmX2, by decide, z_mem 162 (by decide +kernel) rfl, rfl, rfl, rfl⟩
theorem zf_X2_25 : z_F RX2 25 2 4 .int false := ⟨RX2, TX2, 5, tyX2, rfl, z_inX2, tyX2_ok, nmX2, by decide, z_mem 163 (by decide +kernel) rfl, rfl, rfl, rfl⟩
theorem zf_X5_222 : z_F RX5 222 2 4 .int false := ⟨RX2, TX2, 5, tyX2, rfl, z_inX2, tyX2_ok, nmX2, by decide, z_mem 164 (by decide +kernel) rfl, rfl, rfl, rfl⟩
theorem zf_X1_9 : z_F RX1 9 1 0 (.array .int) true := ⟨RX1, TX1, 4, tyX1, rfl, z_inX1, tyX1_ok, nmX1, by decide, z_mem 182 (by decide +kernel) rfl, rfl, rfl, rfl⟩
theorem zf_X1_15 : z_F RX1 15 1 1 (.array .int) true := ⟨RX1, TX1, 4, tyX1, rfl, z_inX1, tyX1_ok, nmX1, by decide, z_mem 183 (by decide +kernel) rfl, rfl, rfl, rfl⟩
theorem zf_X1_18 : z_F RX1 18 1 2 (.array .int) true := ⟨RX1, TX1, 4, tyX1, rfl, z_inX1, tyX1_ok, nmX1, by decide, z_mem 184 (by decide +kernel) rfl, rfl, rfl, rfl⟩
theorem zf_X1_21 : z_F RX1 21 1 3 .int false := ⟨RX1, TX1, 4, tyX1, rfl, z_inX1, tyX1_ok, nmX1, by decide, z_mem 185 (by decide +kernel) rfl, rfl, rfl, rfl⟩
theorem zf_X5_158 : z_F RX5 158 1 3 .int false := ⟨RX1, TX1, 4, tyX1, rfl, z_inX1, tyX1_ok, nmX1, by decide, z_mem 186 (by decide +kernel) rfl, rfl, rfl, rfl⟩
theorem zf_X5_14 : z_F RX5 14 5 0 (.object "PuddleStates$Text") true := ⟨RX5, TX5, 11, tyX5, rfl, z_inX5, tyX5_ok, nmX5, by decide, z_mem 372 (by decide +kernel) rfl, rfl, rfl, rfl⟩
theorem zf_X5_21 : z_F RX5 21 5 1 (.object "PuddleStates$Ground") true := ⟨RX5, TX5, 11, tyX5, rfl, z_inX5, tyX5_ok, nmX5, by decide, z_mem 373 (by decide +kernel) rfl, rfl, rfl, rfl⟩
theorem zf_X5_28 : z_F RX5 28 5 2 (.object "PuddleStates$Water") true := ⟨RX5, TX5, 11, tyX5, rfl, z_inX5, tyX5_ok, nmX5, by decide, z_mem 374 (by decide +kernel) rfl, rfl, rfl, rfl⟩
theorem zf_X5_32 : z_F RX5 32 5 3 (.object "PuddleStates$Ground") true := ⟨RX5, TX5, 11, tyX5, rfl, z_inX5, tyX5_ok, nmX5, by decide, z_mem 375 (by decide +kernel) rfl, rfl, rfl, rfl⟩
theorem zf_X5_35 : z_F RX5 35 5 4 (.object "PuddleStates$Water") true := ⟨RX5, TX5, 11, tyX5, rfl, z_inX5, tyX5_ok, nmX5, by decide, z_mem 376 (by decide +kernel) rfl, rfl, rfl, rfl⟩
theorem zf_X5_41 : z_F RX5 41 5 5 (.object "PuddleStates$States") true := ⟨RX5, TX5, 11, tyX5, rfl, z_inX5, tyX5_ok, nmX5, by decide, z_mem 377 (by decide +kernel) rfl, rfl, rfl, rfl⟩
theorem zf_X5_48 : z_F RX5 48 5 6 (.object "PuddleStates$Past") true := ⟨RX5, TX5, 11, tyX5, rfl, z_inX5, tyX5_ok, nmX5, by decide, z_mem 378 (by decide +kernel) rfl, rfl, rfl, rfl⟩
theorem zf_X5_52 : z_F RX5 52 5 7 (.object "PuddleStates$Past") true := ⟨RX5, TX5, 11, tyX5, rfl, z_inX5, tyX5_ok, nmX5, by decide, z_mem 379 (by decide +kernel) rfl, rfl, rfl, rfl⟩
theorem zf_X5_55 : z_F RX5 55 5 8 (.array .int) true := ⟨RX5, TX5, 11, tyX5, rfl, z_inX5, tyX5_ok, nmX5, by decide, z_mem 380 (by decide +kernel) rfl, rfl, rfl, rfl⟩
theorem zf_X5_59 : z_F RX5 59 5 9 (.array .int) true := ⟨RX5, TX5, 11, tyX5, rfl, z_inX5, tyX5_ok, nmX5, by decide, z_mem 381 (by decide +kernel) rfl, rfl, rfl, rfl⟩
theorem zf_X5_62 : z_F RX5 62 5 10 .int false := ⟨RX5, TX5, 11, tyX5, rfl, z_inX5, tyX5_ok, nmX5, by decide, z_mem 382 (by decide +kernel) rfl, rfl, rfl, rfl⟩
theorem zf_X6_7 : z_F RX6 7 6 0 (.array .int) true := ⟨RX6, TX6, 17, tyX6, rfl, z_inX6, tyX6_ok, nmX6, by decide, z_mem 695 (by decide +kernel) rfl, rfl, rfl, rfl⟩
theorem zf_X6_61 : z_F RX6 61 6 1 .int false := ⟨RX6, TX6, 17, tyX6, rfl, z_inX6, tyX6_ok, nmX6, by decide, z_mem 696 (by decide +kernel) rfl, rfl, rfl, rfl⟩
theorem zf_X6_13 : z_F RX6 13 6 2 (.array .int) true := ⟨RX6, TX6, 17, tyX6, rfl, z_inX6, tyX6_ok, nmX6, by decide, z_mem 697 (by decide +kernel) rfl, rfl, rfl, rfl⟩
theorem zf_X6_16 : z_F RX6 16 6 3 (.array .int) true := ⟨RX6, TX6, 17, tyX6, rfl, z_inX6, tyX6_ok, nmX6, by decide, z_mem 698 (by decide +kernel) rfl, rfl, rfl, rfl⟩
theorem zf_X6_19 : z_F RX6 19 6 4 (.array .int) true := ⟨RX6, TX6, 17, tyX6, rfl, z_inX6, tyX6_ok, nmX6, by decide, z_mem 699 (by decide +kernel) rfl, rfl, rfl, rfl⟩
theorem zf_X6_22 : z_F RX6 22 6 5 (.array .int) true := ⟨RX6, TX6, 17, tyX6, rfl, z_inX6, tyX6_ok, nmX6, by decide, z_mem 700 (by decide +kernel) rfl, rfl, rfl, rfl⟩
theorem zf_X6_25 : z_F RX6 25 6 6 (.array .int) true := ⟨RX6, TX6, 17, tyX6, rfl, z_inX6, tyX6_ok, nmX6, by decide, z_mem 701 (by decide +kernel) rfl, rfl, rfl, rfl⟩
theorem zf_X6_89 : z_F RX6 89 6 7 .int false := ⟨RX6, TX6, 17, tyX6, rfl, z_inX6, tyX6_ok, nmX6, by decide, z_mem 702 (by decide +kernel) rfl, rfl, rfl, rfl⟩
theorem zf_X6_28 : z_F RX6 28 6 8 (.array .int) true := ⟨RX6, TX6, 17, tyX6, rfl, z_inX6, tyX6_ok, nmX6, by decide, z_mem 703 (by decide +kernel) rfl, rfl, rfl, rfl⟩
theorem zf_X6_92 : z_F RX6 92 6 9 .int false := ⟨RX6, TX6, 17, tyX6, rfl, z_inX6, tyX6_ok, nmX6, by decide, z_mem 704 (by decide +kernel) rfl, rfl, rfl, rfl⟩
theorem zf_X6_31 : z_F RX6 31 6 10 (.array .int) true := ⟨RX6, TX6, 17, tyX6, rfl, z_inX6, tyX6_ok, nmX6, by decide, z_mem 705 (by decide +kernel) rfl, rfl, rfl, rfl⟩
theorem zf_X6_95 : z_F RX6 95 6 11 .int false := ⟨RX6, TX6, 17, tyX6, rfl, z_inX6, tyX6_ok, nmX6, by decide, z_mem 706 (by decide +kernel) rfl, rfl, rfl, rfl⟩
theorem zf_X6_65 : z_F RX6 65 6 12 .int false := ⟨RX6, TX6, 17, tyX6, rfl, z_inX6, tyX6_ok, nmX6, by decide, z_mem 707 (by decide +kernel) rfl, rfl, rfl, rfl⟩
theorem zf_X6_34 : z_F RX6 34 6 13 (.array .int) true := ⟨RX6, TX6, 17, tyX6, rfl, z_inX6, tyX6_ok, nmX6, by decide, z_mem 708 (by decide +kernel) rfl, rfl, rfl, rfl⟩
theorem zf_X6_37 : z_F RX6 37 6 14 (.array .int) true := ⟨RX6, TX6, 17, tyX6, rfl, z_inX6, tyX6_ok, nmX6, by decide, z_mem 709 (by decide +kernel) rfl, rfl, rfl, rfl⟩
theorem zf_X6_40 : z_F RX6 40 6 15 (.array .boolean) true := ⟨RX6, TX6, 17, tyX6, rfl, z_inX6, tyX6_ok, nmX6, by decide, z_mem 710 (by decide +kernel) rfl, rfl, rfl, rfl⟩
theorem zf_X6_44 : z_F RX6 44 6 16 (.array .boolean) true := ⟨RX6, TX6, 17, tyX6, rfl, z_inX6, tyX6_ok, nmX6, by decide, z_mem 711 (by decide +kernel) rfl, rfl, rfl, rfl⟩
theorem zl_L_9 : Cond.methodLink RL 9 yX5_init ∈ z_W := z_mem 65 (by decide +kernel) rfl
theorem zl_X5_68 : Cond.methodLink RX5 68 yJ0_length_8abf5 ∈ z_W := z_mem 197 (by decide +kernel) rfl
theorem zl_X5_74 : Cond.methodLink RX5 74 yJ0_charAt_5068e ∈ z_W := z_mem 207 (by decide +kernel) rfl
theorem zl_X5_78 : Cond.methodLink RX5 78 yX3_add ∈ z_W := z_mem 245 (by decide +kernel) rfl
theorem zl_X5_82 : Cond.methodLink RX5 82 yX5_layText ∈ z_W := z_mem 249 (by decide +kernel) rfl
theorem zl_X5_91 : Cond.methodLink RX5 91 yX3_readInto ∈ z_W := z_mem 253 (by decide +kernel) rfl
theorem zl_X3_22 : Cond.methodLink RX3 22 yX0_makeOpen ∈ z_W := z_mem 257 (by decide +kernel) rfl
theorem zl_X0_36 : Cond.methodLink RX0 36 yX0_shape ∈ z_W := z_mem 261 (by decide +kernel) rfl
theorem zl_X0_40 : Cond.methodLink RX0 40 yJ7_fill_53178 ∈ z_W := z_mem 268 (by decide +kernel) rfl
theorem zl_X3_27 : Cond.methodLink RX3 27 yX4_makeDry ∈ z_W := z_mem 271 (by decide +kernel) rfl
theorem zl_X4_26 : Cond.methodLink RX4 26 yJ7_fill_53178 ∈ z_W := z_mem 275 (by decide +kernel) rfl
theorem zl_X3_32 : Cond.methodLink RX3 32 yX3_nextLetter ∈ z_W := z_mem 276 (by decide +kernel) rfl
theorem zl_X3_81 : Cond.methodLink RX3 81 yX3_peek ∈ z_W := z_mem 280 (by decide +kernel) rfl
theorem zl_X3_36 : Cond.methodLink RX3 36 yX3_nextNumber ∈ z_W := z_mem 284 (by decide +kernel) rfl
theorem zl_X3_84 : Cond.methodLink RX3 84 yX3_nextFigure ∈ z_W := z_mem 288 (by decide +kernel) rfl
theorem zl_X3_39 : Cond.methodLink RX3 39 yX3_skip ∈ z_W := z_mem 293 (by decide +kernel) rfl
theorem zl_X3_43 : Cond.methodLink RX3 43 yX3_tellCell ∈ z_W := z_mem 297 (by decide +kernel) rfl
theorem zl_X3_55 : Cond.methodLink RX3 55 yX0_holds ∈ z_W := z_mem 300 (by decide +kernel) rfl
theorem zl_X3_47 : Cond.methodLink RX3 47 yX0_shape ∈ z_W := z_mem 304 (by decide +kernel) rfl
theorem zl_X3_51 : Cond.methodLink RX3 51 yX3_finish ∈ z_W := z_mem 305 (by decide +kernel) rfl
theorem zl_X3_72 : Cond.methodLink RX3 72 yX0_link ∈ z_W := z_mem 308 (by decide +kernel) rfl
theorem zl_X0_59 : Cond.methodLink RX0 59 yJ7_fill_d0a16 ∈ z_W := z_mem 312 (by decide +kernel) rfl
theorem zl_X0_62 : Cond.methodLink RX0 62 yX0_linkSide ∈ z_W := z_mem 315 (by decide +kernel) rfl
theorem zl_X0_46 : Cond.methodLink RX0 46 yX0_holds ∈ z_W := z_mem 319 (by decide +kernel) rfl
theorem zl_X0_66 : Cond.methodLink RX0 66 yX0_walkable ∈ z_W := z_mem 320 (by decide +kernel) rfl
theorem zl_X3_78 : Cond.methodLink RX3 78 yX0_takesRain ∈ z_W := z_mem 324 (by decide +kernel) rfl
theorem zl_X5_192 : Cond.methodLink RX5 192 yX0_copyFrom ∈ z_W := z_mem 328 (by decide +kernel) rfl
theorem zl_X5_164 : Cond.methodLink RX5 164 yX4_copyFrom ∈ z_W := z_mem 335 (by decide +kernel) rfl
theorem zl_X5_154 : Cond.methodLink RX5 154 yX4_flow ∈ z_W := z_mem 340 (by decide +kernel) rfl
theorem zl_X4_74 : Cond.methodLink RX4 74 yX4_wetBits ∈ z_W := z_mem 344 (by decide +kernel) rfl
theorem zl_X4_79 : Cond.methodLink RX4 79 yX4_flowFrom ∈ z_W := z_mem 349 (by decide +kernel) rfl
theorem zl_X4_82 : Cond.methodLink RX4 82 yX4_whereTo ∈ z_W := z_mem 353 (by decide +kernel) rfl
theorem zl_X4_71 : Cond.methodLink RX4 71 yX0_holds ∈ z_W := z_mem 357 (by decide +kernel) rfl
theorem zl_X4_64 : Cond.methodLink RX4 64 yX4_putDrop ∈ z_W := z_mem 359 (by decide +kernel) rfl
theorem zl_X4_43 : Cond.methodLink RX4 43 yX0_takesRain ∈ z_W := z_mem 363 (by decide +kernel) rfl
theorem zl_X4_88 : Cond.methodLink RX4 88 yX0_bitsBeside ∈ z_W := z_mem 364 (by decide +kernel) rfl
theorem zl_X5_86 : Cond.methodLink RX5 86 yX3_empty ∈ z_W := z_mem 368 (by decide +kernel) rfl
theorem zl_L_13 : Cond.methodLink RL 13 yX5_write ∈ z_W := z_mem 407 (by decide +kernel) rfl
theorem zl_L_18 : Cond.methodLink RL 18 yX5_wipe ∈ z_W := z_mem 411 (by decide +kernel) rfl
theorem zl_L_23 : Cond.methodLink RL 23 yX5_fault ∈ z_W := z_mem 415 (by decide +kernel) rfl
theorem zl_L_27 : Cond.methodLink RL 27 yX5_lay ∈ z_W := z_mem 419 (by decide +kernel) rfl
theorem zl_L_31 : Cond.methodLink RL 31 yX5_cell ∈ z_W := z_mem 423 (by decide +kernel) rfl
theorem zl_X5_98 : Cond.methodLink RX5 98 yX0_holds ∈ z_W := z_mem 427 (by decide +kernel) rfl
theorem zl_X5_102 : Cond.methodLink RX5 102 yX5_isFrom ∈ z_W := z_mem 428 (by decide +kernel) rfl
theorem zl_X5_115 : Cond.methodLink RX5 115 yX2_map ∈ z_W := z_mem 429 (by decide +kernel) rfl
theorem zl_X2_28 : Cond.methodLink RX2 28 yJ7_fill_53178 ∈ z_W := z_mem 433 (by decide +kernel) rfl
theorem zl_X2_42 : Cond.methodLink RX2 42 yX2_spread ∈ z_W := z_mem 434 (by decide +kernel) rfl
theorem zl_X2_46 : Cond.methodLink RX2 46 yX2_claim ∈ z_W := z_mem 438 (by decide +kernel) rfl
theorem zl_X2_50 : Cond.methodLink RX2 50 yX0_cellBeside ∈ z_W := z_mem 442 (by decide +kernel) rfl
theorem zl_X5_119 : Cond.methodLink RX5 119 yX2_stateOf ∈ z_W := z_mem 446 (by decide +kernel) rfl
theorem zl_X5_123 : Cond.methodLink RX5 123 yX2_sizeAt ∈ z_W := z_mem 450 (by decide +kernel) rfl
theorem zl_X2_54 : Cond.methodLink RX2 54 yX2_stateOf ∈ z_W := z_mem 454 (by decide +kernel) rfl
theorem zl_X5_126 : Cond.methodLink RX5 126 yX2_depthAt ∈ z_W := z_mem 455 (by decide +kernel) rfl
theorem zl_L_36 : Cond.methodLink RL 36 yX5_rain ∈ z_W := z_mem 462 (by decide +kernel) rfl
theorem zl_X5_130 : Cond.methodLink RX5 130 yX1_push ∈ z_W := z_mem 466 (by decide +kernel) rfl
theorem zl_X1_25 : Cond.methodLink RX1 25 yX1_dropOldest ∈ z_W := z_mem 470 (by decide +kernel) rfl
theorem zl_X5_134 : Cond.methodLink RX5 134 yX4_pour ∈ z_W := z_mem 475 (by decide +kernel) rfl
theorem zl_X4_53 : Cond.methodLink RX4 53 yX4_flow ∈ z_W := z_mem 482 (by decide +kernel) rfl
theorem zl_X5_138 : Cond.methodLink RX5 138 yX4_allDrops ∈ z_W := z_mem 483 (by decide +kernel) rfl
theorem zl_L_40 : Cond.methodLink RL 40 yX5_shine ∈ z_W := z_mem 487 (by decide +kernel) rfl
theorem zl_X5_142 : Cond.methodLink RX5 142 yX4_passHours ∈ z_W := z_mem 491 (by decide +kernel) rfl
theorem zl_X4_57 : Cond.methodLink RX4 57 yX4_passHour ∈ z_W := z_mem 495 (by decide +kernel) rfl
theorem zl_X4_60 : Cond.methodLink RX4 60 yX0_isKind ∈ z_W := z_mem 499 (by decide +kernel) rfl
theorem zl_L_44 : Cond.methodLink RL 44 yX5_boot ∈ z_W := z_mem 503 (by decide +kernel) rfl
theorem zl_X5_148 : Cond.methodLink RX5 148 yX4_stepInto ∈ z_W := z_mem 507 (by decide +kernel) rfl
theorem zl_X4_68 : Cond.methodLink RX4 68 yX0_cellBeside ∈ z_W := z_mem 511 (by decide +kernel) rfl
theorem zl_L_48 : Cond.methodLink RL 48 yX5_stone ∈ z_W := z_mem 512 (by decide +kernel) rfl
theorem zl_X5_151 : Cond.methodLink RX5 151 yX0_takesRain ∈ z_W := z_mem 516 (by decide +kernel) rfl
theorem zl_L_53 : Cond.methodLink RL 53 yX5_undo ∈ z_W := z_mem 517 (by decide +kernel) rfl
theorem zl_X5_161 : Cond.methodLink RX5 161 yX1_pop ∈ z_W := z_mem 521 (by decide +kernel) rfl
theorem zl_L_57 : Cond.methodLink RL 57 yX5_behind ∈ z_W := z_mem 525 (by decide +kernel) rfl
theorem zl_L_62 : Cond.methodLink RL 62 yX5_dry ∈ z_W := z_mem 529 (by decide +kernel) rfl
theorem zl_X5_167 : Cond.methodLink RX5 167 yX4_firstWet ∈ z_W := z_mem 533 (by decide +kernel) rfl
theorem zl_L_66 : Cond.methodLink RL 66 yX5_join ∈ z_W := z_mem 537 (by decide +kernel) rfl
theorem zl_X5_170 : Cond.methodLink RX5 170 yX5_areTwo ∈ z_W := z_mem 541 (by decide +kernel) rfl
theorem zl_X5_174 : Cond.methodLink RX5 174 yX5_apartBehindRain ∈ z_W := z_mem 545 (by decide +kernel) rfl
theorem zl_X5_178 : Cond.methodLink RX5 178 yX2_apart ∈ z_W := z_mem 549 (by decide +kernel) rfl
theorem zl_L_70 : Cond.methodLink RL 70 yX5_part ∈ z_W := z_mem 553 (by decide +kernel) rfl
theorem zl_L_74 : Cond.methodLink RL 74 yX5_way ∈ z_W := z_mem 557 (by decide +kernel) rfl
theorem zl_X5_181 : Cond.methodLink RX5 181 yX0_withBeside ∈ z_W := z_mem 561 (by decide +kernel) rfl
theorem zl_X5_185 : Cond.methodLink RX5 185 yX4_wetBits ∈ z_W := z_mem 565 (by decide +kernel) rfl
theorem zl_L_78 : Cond.methodLink RL 78 yX5_kerb ∈ z_W := z_mem 566 (by decide +kernel) rfl
theorem zl_X5_189 : Cond.methodLink RX5 189 yX5_mayBeKerb ∈ z_W := z_mem 570 (by decide +kernel) rfl
theorem zl_X5_194 : Cond.methodLink RX5 194 yX0_makeKerb ∈ z_W := z_mem 574 (by decide +kernel) rfl
theorem zl_X0_50 : Cond.methodLink RX0 50 yX0_link ∈ z_W := z_mem 578 (by decide +kernel) rfl
theorem zl_L_82 : Cond.methodLink RL 82 yX5_ring ∈ z_W := z_mem 579 (by decide +kernel) rfl
theorem zl_L_86 : Cond.methodLink RL 86 yX5_forget ∈ z_W := z_mem 583 (by decide +kernel) rfl
theorem zl_L_90 : Cond.methodLink RL 90 yX5_rains ∈ z_W := z_mem 587 (by decide +kernel) rfl
theorem zl_X5_199 : Cond.methodLink RX5 199 yX5_ringsHold ∈ z_W := z_mem 592 (by decide +kernel) rfl
theorem zl_L_94 : Cond.methodLink RL 94 yX5_sky ∈ z_W := z_mem 596 (by decide +kernel) rfl
theorem zl_X5_202 : Cond.methodLink RX5 202 yX4_wetCells ∈ z_W := z_mem 600 (by decide +kernel) rfl
theorem zl_X5_205 : Cond.methodLink RX5 205 yX5_lowestTerms ∈ z_W := z_mem 604 (by decide +kernel) rfl
theorem zl_X5_226 : Cond.methodLink RX5 226 yX5_commonDivisor ∈ z_W := z_mem 607 (by decide +kernel) rfl
theorem zl_L_98 : Cond.methodLink RL 98 yX5_sun ∈ z_W := z_mem 610 (by decide +kernel) rfl
theorem zl_X5_209 : Cond.methodLink RX5 209 yX5_wetBehindHours ∈ z_W := z_mem 614 (by decide +kernel) rfl
theorem zl_X5_213 : Cond.methodLink RX5 213 yJ6_bitCount_0f7a4 ∈ z_W := z_mem 618 (by decide +kernel) rfl
theorem zl_X5_216 : Cond.methodLink RX5 216 yX5_power ∈ z_W := z_mem 624 (by decide +kernel) rfl
theorem zl_L_103 : Cond.methodLink RL 103 yX5_year ∈ z_W := z_mem 627 (by decide +kernel) rfl
theorem zl_X5_219 : Cond.methodLink RX5 219 yX5_drawOf ∈ z_W := z_mem 631 (by decide +kernel) rfl
theorem zl_L_107 : Cond.methodLink RL 107 yX5_keep ∈ z_W := z_mem 638 (by decide +kernel) rfl
theorem zl_L_111 : Cond.methodLink RL 111 yX5_back ∈ z_W := z_mem 642 (by decide +kernel) rfl
theorem zl_L_115 : Cond.methodLink RL 115 yX5_count ∈ z_W := z_mem 646 (by decide +kernel) rfl
theorem zl_L_12 : Cond.methodLink RL 12 yX6_init ∈ z_W := z_mem 652 (by decide +kernel) rfl
theorem zl_X6_47 : Cond.methodLink RX6 47 yX6_begins ∈ z_W := z_mem 656 (by decide +kernel) rfl
theorem zl_X6_57 : Cond.methodLink RX6 57 yX6_in ∈ z_W := z_mem 660 (by decide +kernel) rfl
theorem zl_X6_50 : Cond.methodLink RX6 50 yX6_lays ∈ z_W := z_mem 663 (by decide +kernel) rfl
theorem zl_X6_86 : Cond.methodLink RX6 86 yX6_flows ∈ z_W := z_mem 667 (by decide +kernel) rfl
theorem zl_X6_53 : Cond.methodLink RX6 53 yX6_cells ∈ z_W := z_mem 671 (by decide +kernel) rfl
theorem zl_X6_112 : Cond.methodLink RX6 112 yX6_sends ∈ z_W := z_mem 675 (by decide +kernel) rfl
theorem zl_X6_101 : Cond.methodLink RX6 101 yX6_beside ∈ z_W := z_mem 679 (by decide +kernel) rfl
theorem zl_X6_98 : Cond.methodLink RX6 98 yX6_isCell ∈ z_W := z_mem 683 (by decide +kernel) rfl
theorem zl_X6_105 : Cond.methodLink RX6 105 yX6_level ∈ z_W := z_mem 687 (by decide +kernel) rfl
theorem zl_X6_108 : Cond.methodLink RX6 108 yX6_drops ∈ z_W := z_mem 691 (by decide +kernel) rfl
theorem zl_L_17 : Cond.methodLink RL 17 yX6_write ∈ z_W := z_mem 748 (by decide +kernel) rfl
theorem zl_L_22 : Cond.methodLink RL 22 yX6_wipe ∈ z_W := z_mem 752 (by decide +kernel) rfl
theorem zl_L_26 : Cond.methodLink RL 26 yX6_fault ∈ z_W := z_mem 756 (by decide +kernel) rfl
theorem zl_X6_83 : Cond.methodLink RX6 83 yX6_readsAll ∈ z_W := z_mem 760 (by decide +kernel) rfl
theorem zl_X6_80 : Cond.methodLink RX6 80 yX6_readsItem ∈ z_W := z_mem 764 (by decide +kernel) rfl
theorem zl_X6_76 : Cond.methodLink RX6 76 yX6_number ∈ z_W := z_mem 768 (by decide +kernel) rfl
theorem zl_X6_68 : Cond.methodLink RX6 68 yX6_letterAt ∈ z_W := z_mem 772 (by decide +kernel) rfl
theorem zl_X6_72 : Cond.methodLink RX6 72 yX6_isFigure ∈ z_W := z_mem 776 (by decide +kernel) rfl
theorem zl_L_30 : Cond.methodLink RL 30 yX6_lay ∈ z_W := z_mem 779 (by decide +kernel) rfl
theorem zl_L_35 : Cond.methodLink RL 35 yX6_cell ∈ z_W := z_mem 783 (by decide +kernel) rfl
theorem zl_X6_118 : Cond.methodLink RX6 118 yX6_laysStates ∈ z_W := z_mem 787 (by decide +kernel) rfl
theorem zl_X6_121 : Cond.methodLink RX6 121 yX6_sizeOf ∈ z_W := z_mem 791 (by decide +kernel) rfl
theorem zl_L_39 : Cond.methodLink RL 39 yX6_rain ∈ z_W := z_mem 795 (by decide +kernel) rfl
theorem zl_X6_124 : Cond.methodLink RX6 124 yX6_keeps ∈ z_W := z_mem 799 (by decide +kernel) rfl
theorem zl_X6_127 : Cond.methodLink RX6 127 yX6_pours ∈ z_W := z_mem 803 (by decide +kernel) rfl
theorem zl_X6_115 : Cond.methodLink RX6 115 yX6_isOpen ∈ z_W := z_mem 807 (by decide +kernel) rfl
theorem zl_X6_131 : Cond.methodLink RX6 131 yX6_all ∈ z_W := z_mem 811 (by decide +kernel) rfl
theorem zl_L_43 : Cond.methodLink RL 43 yX6_shine ∈ z_W := z_mem 815 (by decide +kernel) rfl
theorem zl_X6_134 : Cond.methodLink RX6 134 yX6_shines ∈ z_W := z_mem 819 (by decide +kernel) rfl
theorem zl_L_47 : Cond.methodLink RL 47 yX6_boot ∈ z_W := z_mem 823 (by decide +kernel) rfl
theorem zl_L_52 : Cond.methodLink RL 52 yX6_stone ∈ z_W := z_mem 827 (by decide +kernel) rfl
theorem zl_L_56 : Cond.methodLink RL 56 yX6_undo ∈ z_W := z_mem 831 (by decide +kernel) rfl
theorem zl_L_61 : Cond.methodLink RL 61 yX6_behind ∈ z_W := z_mem 835 (by decide +kernel) rfl
theorem zl_X6_137 : Cond.methodLink RX6 137 yX6_holds ∈ z_W := z_mem 839 (by decide +kernel) rfl
theorem zl_X6_140 : Cond.methodLink RX6 140 yX6_lets ∈ z_W := z_mem 843 (by decide +kernel) rfl
theorem zl_L_65 : Cond.methodLink RL 65 yX6_dry ∈ z_W := z_mem 847 (by decide +kernel) rfl
theorem zl_X6_143 : Cond.methodLink RX6 143 yX6_lowest ∈ z_W := z_mem 851 (by decide +kernel) rfl
theorem zl_L_69 : Cond.methodLink RL 69 yX6_join ∈ z_W := z_mem 855 (by decide +kernel) rfl
theorem zl_X6_146 : Cond.methodLink RX6 146 yX6_isOne ∈ z_W := z_mem 859 (by decide +kernel) rfl
theorem zl_L_73 : Cond.methodLink RL 73 yX6_part ∈ z_W := z_mem 863 (by decide +kernel) rfl
theorem zl_L_77 : Cond.methodLink RL 77 yX6_way ∈ z_W := z_mem 867 (by decide +kernel) rfl
theorem zl_L_81 : Cond.methodLink RL 81 yX6_kerb ∈ z_W := z_mem 871 (by decide +kernel) rfl
theorem zl_X6_150 : Cond.methodLink RX6 150 yX6_areApart ∈ z_W := z_mem 875 (by decide +kernel) rfl
theorem zl_L_85 : Cond.methodLink RL 85 yX6_ring ∈ z_W := z_mem 879 (by decide +kernel) rfl
theorem zl_L_89 : Cond.methodLink RL 89 yX6_forget ∈ z_W := z_mem 883 (by decide +kernel) rfl
theorem zl_L_93 : Cond.methodLink RL 93 yX6_rains ∈ z_W := z_mem 887 (by decide +kernel) rfl
theorem zl_L_97 : Cond.methodLink RL 97 yX6_sky ∈ z_W := z_mem 891 (by decide +kernel) rfl
theorem zl_X6_153 : Cond.methodLink RX6 153 yX6_wet ∈ z_W := z_mem 895 (by decide +kernel) rfl
theorem zl_X6_156 : Cond.methodLink RX6 156 yX6_common ∈ z_W := z_mem 899 (by decide +kernel) rfl
theorem zl_L_102 : Cond.methodLink RL 102 yX6_sun ∈ z_W := z_mem 902 (by decide +kernel) rfl
theorem zl_L_106 : Cond.methodLink RL 106 yX6_year ∈ z_W := z_mem 906 (by decide +kernel) rfl
theorem zl_X6_165 : Cond.methodLink RX6 165 yX6_manyStates ∈ z_W := z_mem 913 (by decide +kernel) rfl
theorem zl_L_110 : Cond.methodLink RL 110 yX6_keep ∈ z_W := z_mem 917 (by decide +kernel) rfl
theorem zl_L_114 : Cond.methodLink RL 114 yX6_back ∈ z_W := z_mem 921 (by decide +kernel) rfl
theorem zl_L_118 : Cond.methodLink RL 118 yX6_count ∈ z_W := z_mem 925 (by decide +kernel) rfl
theorem zn_X5_13 : Cond.methodLinkNest RX5 13 yX3_init RX5 ∈ z_nest := by simp [z_nest]
theorem zn_X5_20 : Cond.methodLinkNest RX5 20 yX0_init RX5 ∈ z_nest := by simp [z_nest]
theorem zn_X5_27 : Cond.methodLinkNest RX5 27 yX4_init RX5 ∈ z_nest := by simp [z_nest]
theorem zn_X5_40 : Cond.methodLinkNest RX5 40 yX2_init RX5 ∈ z_nest := by simp [z_nest]
theorem zn_X5_47 : Cond.methodLinkNest RX5 47 yX1_init RX5 ∈ z_nest := by simp [z_nest]
theorem zn_X0_32 : Cond.methodLinkNest RX0 32 yX5_isFrom RX5 ∈ z_nest := by simp [z_nest]
theorem zn_X3_58 : Cond.methodLinkNest RX3 58 yX5_isFrom RX5 ∈ z_nest := by simp [z_nest]
theorem zv_J0_length_8abf5 : z_V yJ0_length_8abf5 cJ0_length_8abf5 1 (some .int) 0 := ⟨z_mem 200 (by decide +kernel) rfl, z_mem 54 (by decide +kernel) rfl, ⟨by decide +kernel, by decide +kernel⟩, by decide +kernel, z_mem 198 (by decide +kernel) rfl, z_mem 199 (by decide +kernel) rfl⟩
theorem zv_J0_coder_7d493 : z_V yJ0_coder_7d493 cJ0_coder_7d493 1 (some .byte) 0 := ⟨z_mem 204 (by decide +kernel) rfl, z_mem 54 (by decide +kernel) rfl, ⟨by decide +kernel, by decide +kernel⟩, by decide +kernel, z_mem 202 (by decide +kernel) rfl, z_mem 203 (by decide +kernel) rfl⟩
theorem zv_J0_charAt_5068e : z_V yJ0_charAt_5068e cJ0_charAt_5068e 2 (some .char) 1 := ⟨z_mem 210 (by decide +kernel) rfl, z_mem 54 (by decide +kernel) rfl, ⟨by decide +kernel, by decide +kernel⟩, by decide +kernel, z_mem 208 (by decide +kernel) rfl, z_mem 209 (by decide +kernel) rfl⟩
theorem zv_J0_isLatin1_aae02 : z_V yJ0_isLatin1_aae02 cJ0_isLatin1_aae02 1 (some .boolean) 0 := ⟨z_mem 214 (by decide +kernel) rfl, z_mem 54 (by decide +kernel) rfl, ⟨by decide +kernel, by decide +kernel⟩, by decide +kernel, z_mem 212 (by decide +kernel) rfl, z_mem 213 (by decide +kernel) rfl⟩
theorem zs_J1_charAt_3b067 : z_S yJ1_charAt_3b067 cJ1_charAt_3b067 2 (some .char) 2 := ⟨z_mem 217 (by decide +kernel) rfl, z_mem 55 (by decide +kernel) rfl, ⟨by decide +kernel, by decide +kernel⟩, by decide +kernel, z_mem 216 (by decide +kernel) rfl⟩
theorem zs_J0_checkIndex_df160 : z_S yJ0_checkIndex_df160 cJ0_checkIndex_df160 2 none 2 := ⟨z_mem 220 (by decide +kernel) rfl, z_mem 54 (by decide +kernel) rfl, ⟨by decide +kernel, by decide +kernel⟩, by decide +kernel, z_mem 219 (by decide +kernel) rfl⟩
theorem zs_J3_checkIndex_8e157 : z_S yJ3_checkIndex_8e157 cJ3_checkIndex_8e157 3 (some .int) 3 := ⟨z_mem 225 (by decide +kernel) rfl, z_mem 56 (by decide +kernel) rfl, ⟨by decide +kernel, by decide +kernel⟩, by decide +kernel, z_mem 224 (by decide +kernel) rfl⟩
theorem zs_J2_charAt_3b067 : z_S yJ2_charAt_3b067 cJ2_charAt_3b067 2 (some .char) 2 := ⟨z_mem 228 (by decide +kernel) rfl, z_mem 57 (by decide +kernel) rfl, ⟨by decide +kernel, by decide +kernel⟩, by decide +kernel, z_mem 227 (by decide +kernel) rfl⟩
theorem zs_J2_checkIndex_2214a : z_S yJ2_checkIndex_2214a cJ2_checkIndex_2214a 2 none 2 := ⟨z_mem 231 (by decide +kernel) rfl, z_mem 57 (by decide +kernel) rfl, ⟨by decide +kernel, by decide +kernel⟩, by decide +kernel, z_mem 230 (by decide +kernel) rfl⟩
theorem zs_J2_length_9d52b : z_S yJ2_length_9d52b cJ2_length_9d52b 1 (some .int) 1 := ⟨z_mem 234 (by decide +kernel) rfl, z_mem 57 (by decide +kernel) rfl, ⟨by decide +kernel, by decide +kernel⟩, by decide +kernel, z_mem 233 (by decide +kernel) rfl⟩
theorem zs_J2_getChar_3b067 : z_S yJ2_getChar_3b067 cJ2_getChar_3b067 2 (some .char) 2 := ⟨z_mem 238 (by decide +kernel) rfl, z_mem 57 (by decide +kernel) rfl, ⟨by decide +kernel, by decide +kernel⟩, by decide +kernel, z_mem 237 (by decide +kernel) rfl⟩
theorem zv_X3_add : z_V yX3_add cX3_add 2 none 1 := ⟨z_mem 248 (by decide +kernel) rfl, z_mem 49 (by decide +kernel) rfl, ⟨by decide +kernel, by decide +kernel⟩, by decide +kernel, z_mem 246 (by decide +kernel) rfl, z_mem 247 (by decide +kernel) rfl⟩
theorem zv_X5_layText : z_V yX5_layText cX5_layText 1 (some .boolean) 0 := ⟨z_mem 252 (by decide +kernel) rfl, z_mem 48 (by decide +kernel) rfl, ⟨by decide +kernel, by decide +kernel⟩, by decide +kernel, z_mem 251 (by decide +kernel) rfl, z_mem 0 (by decide +kernel) rfl⟩
theorem zv_X3_readInto : z_V yX3_readInto cX3_readInto 11 (some .int) 2 := ⟨z_mem 256 (by decide +kernel) rfl, z_mem 49 (by decide +kernel) rfl, ⟨by decide +kernel, by decide +kernel⟩, by decide +kernel, z_mem 254 (by decide +kernel) rfl, z_mem 255 (by decide +kernel) rfl⟩
theorem zv_X0_makeOpen : z_V yX0_makeOpen cX0_makeOpen 1 none 0 := ⟨z_mem 260 (by decide +kernel) rfl, z_mem 50 (by decide +kernel) rfl, ⟨by decide +kernel, by decide +kernel⟩, by decide +kernel, z_mem 258 (by decide +kernel) rfl, z_mem 259 (by decide +kernel) rfl⟩
theorem zv_X0_shape : z_V yX0_shape cX0_shape 3 (some .boolean) 2 := ⟨z_mem 264 (by decide +kernel) rfl, z_mem 50 (by decide +kernel) rfl, ⟨by decide +kernel, by decide +kernel⟩, by decide +kernel, z_mem 262 (by decide +kernel) rfl, z_mem 263 (by decide +kernel) rfl⟩
theorem zs_X5_isFrom : z_S yX5_isFrom cX5_isFrom 3 (some .boolean) 3 := ⟨z_mem 267 (by decide +kernel) rfl, z_mem 48 (by decide +kernel) rfl, ⟨by decide +kernel, by decide +kernel⟩, by decide +kernel, z_mem 266 (by decide +kernel) rfl⟩
theorem zs_J7_fill_53178 : z_S yJ7_fill_53178 cJ7_fill_53178 4 none 2 := ⟨z_mem 270 (by decide +kernel) rfl, z_mem 58 (by decide +kernel) rfl, ⟨by decide +kernel, by decide +kernel⟩, by decide +kernel, z_mem 269 (by decide +kernel) rfl⟩
theorem zv_X4_makeDry : z_V yX4_makeDry cX4_makeDry 1 none 0 := ⟨z_mem 274 (by decide +kernel) rfl, z_mem 51 (by decide +kernel) rfl, ⟨by decide +kernel, by decide +kernel⟩, by decide +kernel, z_mem 272 (by decide +kernel) rfl, z_mem 273 (by decide +kernel) rfl⟩
theorem zv_X3_nextLetter : z_V yX3_nextLetter cX3_nextLetter 2 (some .int) 0 := ⟨z_mem 279 (by decide +kernel) rfl, z_mem 49 (by decide +kernel) rfl, ⟨by decide +kernel, by decide +kernel⟩, by decide +kernel, z_mem 278 (by decide +kernel) rfl, z_mem 1 (by decide +kernel) rfl⟩
theorem zv_X3_peek : z_V yX3_peek cX3_peek 1 (some .int) 0 := ⟨z_mem 283 (by decide +kernel) rfl, z_mem 49 (by decide +kernel) rfl, ⟨by decide +kernel, by decide +kernel⟩, by decide +kernel, z_mem 282 (by decide +kernel) rfl, z_mem 2 (by decide +kernel) rfl⟩
theorem zv_X3_nextNumber : z_V yX3_nextNumber cX3_nextNumber 3 (some .int) 0 := ⟨z_mem 287 (by decide +kernel) rfl, z_mem 49 (by decide +kernel) rfl, ⟨by decide +kernel, by decide +kernel⟩, by decide +kernel, z_mem 286 (by decide +kernel) rfl, z_mem 3 (by decide +kernel) rfl⟩
theorem zv_X3_nextFigure : z_V yX3_nextFigure cX3_nextFigure 2 (some .int) 0 := ⟨z_mem 291 (by decide +kernel) rfl, z_mem 49 (by decide +kernel) rfl, ⟨by decide +kernel, by decide +kernel⟩, by decide +kernel, z_mem 290 (by decide +kernel) rfl, z_mem 4 (by decide +kernel) rfl⟩
theorem zv_X3_skip : z_V yX3_skip cX3_skip 3 (some .boolean) 1 := ⟨z_mem 296 (by decide +kernel) rfl, z_mem 49 (by decide +kernel) rfl, ⟨by decide +kernel, by decide +kernel⟩, by decide +kernel, z_mem 295 (by decide +kernel) rfl, z_mem 5 (by decide +kernel) rfl⟩
theorem zs_X3_tellCell : z_S yX3_tellCell cX3_tellCell 5 (some .boolean) 5 := ⟨z_mem 299 (by decide +kernel) rfl, z_mem 49 (by decide +kernel) rfl, ⟨by decide +kernel, by decide +kernel⟩, by decide +kernel, z_mem 298 (by decide +kernel) rfl⟩
theorem zv_X0_holds : z_V yX0_holds cX0_holds 2 (some .boolean) 1 := ⟨z_mem 303 (by decide +kernel) rfl, z_mem 50 (by decide +kernel) rfl, ⟨by decide +kernel, by decide +kernel⟩, by decide +kernel, z_mem 301 (by decide +kernel) rfl, z_mem 302 (by decide +kernel) rfl⟩
theorem zs_X3_finish : z_S yX3_finish cX3_finish 3 none 2 := ⟨z_mem 307 (by decide +kernel) rfl, z_mem 49 (by decide +kernel) rfl, ⟨by decide +kernel, by decide +kernel⟩, by decide +kernel, z_mem 306 (by decide +kernel) rfl⟩
theorem zv_X0_link : z_V yX0_link cX0_link 4 none 0 := ⟨z_mem 311 (by decide +kernel) rfl, z_mem 50 (by decide +kernel) rfl, ⟨by decide +kernel, by decide +kernel⟩, by decide +kernel, z_mem 309 (by decide +kernel) rfl, z_mem 310 (by decide +kernel) rfl⟩
theorem zs_J7_fill_d0a16 : z_S yJ7_fill_d0a16 cJ7_fill_d0a16 5 none 2 := ⟨z_mem 314 (by decide +kernel) rfl, z_mem 58 (by decide +kernel) rfl, ⟨by decide +kernel, by decide +kernel⟩, by decide +kernel, z_mem 313 (by decide +kernel) rfl⟩
theorem zv_X0_linkSide : z_V yX0_linkSide cX0_linkSide 6 none 4 := ⟨z_mem 318 (by decide +kernel) rfl, z_mem 50 (by decide +kernel) rfl, ⟨by decide +kernel, by decide +kernel⟩, by decide +kernel, z_mem 317 (by decide +kernel) rfl, z_mem 6 (by decide +kernel) rfl⟩
theorem zv_X0_walkable : z_V yX0_walkable cX0_walkable 4 (some .int) 2 := ⟨z_mem 323 (by decide +kernel) rfl, z_mem 50 (by decide +kernel) rfl, ⟨by decide +kernel, by decide +kernel⟩, by decide +kernel, z_mem 322 (by decide +kernel) rfl, z_mem 7 (by decide +kernel) rfl⟩
theorem zv_X0_takesRain : z_V yX0_takesRain cX0_takesRain 2 (some .boolean) 1 := ⟨z_mem 327 (by decide +kernel) rfl, z_mem 50 (by decide +kernel) rfl, ⟨by decide +kernel, by decide +kernel⟩, by decide +kernel, z_mem 325 (by decide +kernel) rfl, z_mem 326 (by decide +kernel) rfl⟩
theorem zv_X0_copyFrom : z_V yX0_copyFrom cX0_copyFrom 2 none 1 := ⟨z_mem 331 (by decide +kernel) rfl, z_mem 50 (by decide +kernel) rfl, ⟨by decide +kernel, by decide +kernel⟩, by decide +kernel, z_mem 329 (by decide +kernel) rfl, z_mem 330 (by decide +kernel) rfl⟩
theorem zv_X4_copyFrom : z_V yX4_copyFrom cX4_copyFrom 2 none 1 := ⟨z_mem 338 (by decide +kernel) rfl, z_mem 51 (by decide +kernel) rfl, ⟨by decide +kernel, by decide +kernel⟩, by decide +kernel, z_mem 336 (by decide +kernel) rfl, z_mem 337 (by decide +kernel) rfl⟩
theorem zv_X4_flow : z_V yX4_flow cX4_flow 4 none 1 := ⟨z_mem 343 (by decide +kernel) rfl, z_mem 51 (by decide +kernel) rfl, ⟨by decide +kernel, by decide +kernel⟩, by decide +kernel, z_mem 341 (by decide +kernel) rfl, z_mem 342 (by decide +kernel) rfl⟩
theorem zv_X4_wetBits : z_V yX4_wetBits cX4_wetBits 5 (some .long) 1 := ⟨z_mem 347 (by decide +kernel) rfl, z_mem 51 (by decide +kernel) rfl, ⟨by decide +kernel, by decide +kernel⟩, by decide +kernel, z_mem 345 (by decide +kernel) rfl, z_mem 346 (by decide +kernel) rfl⟩
theorem zv_X4_flowFrom : z_V yX4_flowFrom cX4_flowFrom 4 none 2 := ⟨z_mem 352 (by decide +kernel) rfl, z_mem 51 (by decide +kernel) rfl, ⟨by decide +kernel, by decide +kernel⟩, by decide +kernel, z_mem 351 (by decide +kernel) rfl, z_mem 8 (by decide +kernel) rfl⟩
theorem zv_X4_whereTo : z_V yX4_whereTo cX4_whereTo 11 (some .int) 2 := ⟨z_mem 356 (by decide +kernel) rfl, z_mem 51 (by decide +kernel) rfl, ⟨by decide +kernel, by decide +kernel⟩, by decide +kernel, z_mem 355 (by decide +kernel) rfl, z_mem 9 (by decide +kernel) rfl⟩
theorem zv_X4_putDrop : z_V yX4_putDrop cX4_putDrop 3 none 2 := ⟨z_mem 362 (by decide +kernel) rfl, z_mem 51 (by decide +kernel) rfl, ⟨by decide +kernel, by decide +kernel⟩, by decide +kernel, z_mem 361 (by decide +kernel) rfl, z_mem 10 (by decide +kernel) rfl⟩
theorem zv_X0_bitsBeside : z_V yX0_bitsBeside cX0_bitsBeside 2 (some .long) 1 := ⟨z_mem 367 (by decide +kernel) rfl, z_mem 50 (by decide +kernel) rfl, ⟨by decide +kernel, by decide +kernel⟩, by decide +kernel, z_mem 365 (by decide +kernel) rfl, z_mem 366 (by decide +kernel) rfl⟩
theorem zv_X3_empty : z_V yX3_empty cX3_empty 1 none 0 := ⟨z_mem 371 (by decide +kernel) rfl, z_mem 49 (by decide +kernel) rfl, ⟨by decide +kernel, by decide +kernel⟩, by decide +kernel, z_mem 369 (by decide +kernel) rfl, z_mem 370 (by decide +kernel) rfl⟩
theorem zv_X5_write : z_V yX5_write cX5_write 2 (some .int) 1 := ⟨z_mem 410 (by decide +kernel) rfl, z_mem 48 (by decide +kernel) rfl, ⟨by decide +kernel, by decide +kernel⟩, by decide +kernel, z_mem 408 (by decide +kernel) rfl, z_mem 409 (by decide +kernel) rfl⟩
theorem zv_X5_wipe : z_V yX5_wipe cX5_wipe 2 (some .int) 0 := ⟨z_mem 414 (by decide +kernel) rfl, z_mem 48 (by decide +kernel) rfl, ⟨by decide +kernel, by decide +kernel⟩, by decide +kernel, z_mem 412 (by decide +kernel) rfl, z_mem 413 (by decide +kernel) rfl⟩
theorem zv_X5_fault : z_V yX5_fault cX5_fault 1 (some .int) 0 := ⟨z_mem 418 (by decide +kernel) rfl, z_mem 48 (by decide +kernel) rfl, ⟨by decide +kernel, by decide +kernel⟩, by decide +kernel, z_mem 416 (by decide +kernel) rfl, z_mem 417 (by decide +kernel) rfl⟩
theorem zv_X5_lay : z_V yX5_lay cX5_lay 1 (some .int) 0 := ⟨z_mem 422 (by decide +kernel) rfl, z_mem 48 (by decide +kernel) rfl, ⟨by decide +kernel, by decide +kernel⟩, by decide +kernel, z_mem 420 (by decide +kernel) rfl, z_mem 421 (by decide +kernel) rfl⟩
theorem zv_X5_cell : z_V yX5_cell cX5_cell 3 (some .int) 2 := ⟨z_mem 426 (by decide +kernel) rfl, z_mem 48 (by decide +kernel) rfl, ⟨by decide +kernel, by decide +kernel⟩, by decide +kernel, z_mem 424 (by decide +kernel) rfl, z_mem 425 (by decide +kernel) rfl⟩
theorem zv_X2_map : z_V yX2_map cX2_map 4 none 2 := ⟨z_mem 432 (by decide +kernel) rfl, z_mem 52 (by decide +kernel) rfl, ⟨by decide +kernel, by decide +kernel⟩, by decide +kernel, z_mem 430 (by decide +kernel) rfl, z_mem 431 (by decide +kernel) rfl⟩
theorem zv_X2_spread : z_V yX2_spread cX2_spread 7 none 3 := ⟨z_mem 437 (by decide +kernel) rfl, z_mem 52 (by decide +kernel) rfl, ⟨by decide +kernel, by decide +kernel⟩, by decide +kernel, z_mem 436 (by decide +kernel) rfl, z_mem 11 (by decide +kernel) rfl⟩
theorem zv_X2_claim : z_V yX2_claim cX2_claim 4 none 3 := ⟨z_mem 441 (by decide +kernel) rfl, z_mem 52 (by decide +kernel) rfl, ⟨by decide +kernel, by decide +kernel⟩, by decide +kernel, z_mem 440 (by decide +kernel) rfl, z_mem 12 (by decide +kernel) rfl⟩
theorem zv_X0_cellBeside : z_V yX0_cellBeside cX0_cellBeside 4 (some .int) 2 := ⟨z_mem 445 (by decide +kernel) rfl, z_mem 50 (by decide +kernel) rfl, ⟨by decide +kernel, by decide +kernel⟩, by decide +kernel, z_mem 443 (by decide +kernel) rfl, z_mem 444 (by decide +kernel) rfl⟩
theorem zv_X2_stateOf : z_V yX2_stateOf cX2_stateOf 2 (some .int) 1 := ⟨z_mem 449 (by decide +kernel) rfl, z_mem 52 (by decide +kernel) rfl, ⟨by decide +kernel, by decide +kernel⟩, by decide +kernel, z_mem 447 (by decide +kernel) rfl, z_mem 448 (by decide +kernel) rfl⟩
theorem zv_X2_sizeAt : z_V yX2_sizeAt cX2_sizeAt 5 (some .int) 1 := ⟨z_mem 453 (by decide +kernel) rfl, z_mem 52 (by decide +kernel) rfl, ⟨by decide +kernel, by decide +kernel⟩, by decide +kernel, z_mem 451 (by decide +kernel) rfl, z_mem 452 (by decide +kernel) rfl⟩
theorem zv_X2_depthAt : z_V yX2_depthAt cX2_depthAt 6 (some .int) 2 := ⟨z_mem 458 (by decide +kernel) rfl, z_mem 52 (by decide +kernel) rfl, ⟨by decide +kernel, by decide +kernel⟩, by decide +kernel, z_mem 456 (by decide +kernel) rfl, z_mem 457 (by decide +kernel) rfl⟩
theorem zv_X5_rain : z_V yX5_rain cX5_rain 2 (some .int) 1 := ⟨z_mem 465 (by decide +kernel) rfl, z_mem 48 (by decide +kernel) rfl, ⟨by decide +kernel, by decide +kernel⟩, by decide +kernel, z_mem 463 (by decide +kernel) rfl, z_mem 464 (by decide +kernel) rfl⟩
theorem zv_X1_push : z_V yX1_push cX1_push 2 none 1 := ⟨z_mem 469 (by decide +kernel) rfl, z_mem 53 (by decide +kernel) rfl, ⟨by decide +kernel, by decide +kernel⟩, by decide +kernel, z_mem 467 (by decide +kernel) rfl, z_mem 468 (by decide +kernel) rfl⟩
theorem zv_X1_dropOldest : z_V yX1_dropOldest cX1_dropOldest 1 none 0 := ⟨z_mem 473 (by decide +kernel) rfl, z_mem 53 (by decide +kernel) rfl, ⟨by decide +kernel, by decide +kernel⟩, by decide +kernel, z_mem 472 (by decide +kernel) rfl, z_mem 13 (by decide +kernel) rfl⟩
theorem zv_X4_pour : z_V yX4_pour cX4_pour 4 none 2 := ⟨z_mem 478 (by decide +kernel) rfl, z_mem 51 (by decide +kernel) rfl, ⟨by decide +kernel, by decide +kernel⟩, by decide +kernel, z_mem 476 (by decide +kernel) rfl, z_mem 477 (by decide +kernel) rfl⟩
theorem zv_X4_allDrops : z_V yX4_allDrops cX4_allDrops 4 (some .int) 1 := ⟨z_mem 486 (by decide +kernel) rfl, z_mem 51 (by decide +kernel) rfl, ⟨by decide +kernel, by decide +kernel⟩, by decide +kernel, z_mem 484 (by decide +kernel) rfl, z_mem 485 (by decide +kernel) rfl⟩
theorem zv_X5_shine : z_V yX5_shine cX5_shine 2 (some .int) 1 := ⟨z_mem 490 (by decide +kernel) rfl, z_mem 48 (by decide +kernel) rfl, ⟨by decide +kernel, by decide +kernel⟩, by decide +kernel, z_mem 488 (by decide +kernel) rfl, z_mem 489 (by decide +kernel) rfl⟩
theorem zv_X4_passHours : z_V yX4_passHours cX4_passHours 4 none 2 := ⟨z_mem 494 (by decide +kernel) rfl, z_mem 51 (by decide +kernel) rfl, ⟨by decide +kernel, by decide +kernel⟩, by decide +kernel, z_mem 492 (by decide +kernel) rfl, z_mem 493 (by decide +kernel) rfl⟩
theorem zv_X4_passHour : z_V yX4_passHour cX4_passHour 4 none 1 := ⟨z_mem 498 (by decide +kernel) rfl, z_mem 51 (by decide +kernel) rfl, ⟨by decide +kernel, by decide +kernel⟩, by decide +kernel, z_mem 497 (by decide +kernel) rfl, z_mem 14 (by decide +kernel) rfl⟩
theorem zv_X0_isKind : z_V yX0_isKind cX0_isKind 3 (some .boolean) 2 := ⟨z_mem 502 (by decide +kernel) rfl, z_mem 50 (by decide +kernel) rfl, ⟨by decide +kernel, by decide +kernel⟩, by decide +kernel, z_mem 500 (by decide +kernel) rfl, z_mem 501 (by decide +kernel) rfl⟩
theorem zv_X5_boot : z_V yX5_boot cX5_boot 2 (some .int) 1 := ⟨z_mem 506 (by decide +kernel) rfl, z_mem 48 (by decide +kernel) rfl, ⟨by decide +kernel, by decide +kernel⟩, by decide +kernel, z_mem 504 (by decide +kernel) rfl, z_mem 505 (by decide +kernel) rfl⟩
theorem zv_X4_stepInto : z_V yX4_stepInto cX4_stepInto 5 none 2 := ⟨z_mem 510 (by decide +kernel) rfl, z_mem 51 (by decide +kernel) rfl, ⟨by decide +kernel, by decide +kernel⟩, by decide +kernel, z_mem 508 (by decide +kernel) rfl, z_mem 509 (by decide +kernel) rfl⟩
theorem zv_X5_stone : z_V yX5_stone cX5_stone 4 (some .int) 2 := ⟨z_mem 515 (by decide +kernel) rfl, z_mem 48 (by decide +kernel) rfl, ⟨by decide +kernel, by decide +kernel⟩, by decide +kernel, z_mem 513 (by decide +kernel) rfl, z_mem 514 (by decide +kernel) rfl⟩
theorem zv_X5_undo : z_V yX5_undo cX5_undo 1 (some .int) 0 := ⟨z_mem 520 (by decide +kernel) rfl, z_mem 48 (by decide +kernel) rfl, ⟨by decide +kernel, by decide +kernel⟩, by decide +kernel, z_mem 518 (by decide +kernel) rfl, z_mem 519 (by decide +kernel) rfl⟩
theorem zv_X1_pop : z_V yX1_pop cX1_pop 2 none 1 := ⟨z_mem 524 (by decide +kernel) rfl, z_mem 53 (by decide +kernel) rfl, ⟨by decide +kernel, by decide +kernel⟩, by decide +kernel, z_mem 522 (by decide +kernel) rfl, z_mem 523 (by decide +kernel) rfl⟩
theorem zv_X5_behind : z_V yX5_behind cX5_behind 4 (some .int) 3 := ⟨z_mem 528 (by decide +kernel) rfl, z_mem 48 (by decide +kernel) rfl, ⟨by decide +kernel, by decide +kernel⟩, by decide +kernel, z_mem 526 (by decide +kernel) rfl, z_mem 527 (by decide +kernel) rfl⟩
theorem zv_X5_dry : z_V yX5_dry cX5_dry 5 (some .int) 1 := ⟨z_mem 532 (by decide +kernel) rfl, z_mem 48 (by decide +kernel) rfl, ⟨by decide +kernel, by decide +kernel⟩, by decide +kernel, z_mem 530 (by decide +kernel) rfl, z_mem 531 (by decide +kernel) rfl⟩
theorem zv_X4_firstWet : z_V yX4_firstWet cX4_firstWet 3 (some .int) 1 := ⟨z_mem 536 (by decide +kernel) rfl, z_mem 51 (by decide +kernel) rfl, ⟨by decide +kernel, by decide +kernel⟩, by decide +kernel, z_mem 534 (by decide +kernel) rfl, z_mem 535 (by decide +kernel) rfl⟩
theorem zv_X5_join : z_V yX5_join cX5_join 4 (some .int) 2 := ⟨z_mem 540 (by decide +kernel) rfl, z_mem 48 (by decide +kernel) rfl, ⟨by decide +kernel, by decide +kernel⟩, by decide +kernel, z_mem 538 (by decide +kernel) rfl, z_mem 539 (by decide +kernel) rfl⟩
theorem zv_X5_areTwo : z_V yX5_areTwo cX5_areTwo 3 (some .boolean) 2 := ⟨z_mem 544 (by decide +kernel) rfl, z_mem 48 (by decide +kernel) rfl, ⟨by decide +kernel, by decide +kernel⟩, by decide +kernel, z_mem 543 (by decide +kernel) rfl, z_mem 15 (by decide +kernel) rfl⟩
theorem zv_X5_apartBehindRain : z_V yX5_apartBehindRain cX5_apartBehindRain 5 (some .boolean) 4 := ⟨z_mem 548 (by decide +kernel) rfl, z_mem 48 (by decide +kernel) rfl, ⟨by decide +kernel, by decide +kernel⟩, by decide +kernel, z_mem 547 (by decide +kernel) rfl, z_mem 16 (by decide +kernel) rfl⟩
theorem zv_X2_apart : z_V yX2_apart cX2_apart 3 (some .boolean) 2 := ⟨z_mem 552 (by decide +kernel) rfl, z_mem 52 (by decide +kernel) rfl, ⟨by decide +kernel, by decide +kernel⟩, by decide +kernel, z_mem 550 (by decide +kernel) rfl, z_mem 551 (by decide +kernel) rfl⟩
theorem zv_X5_part : z_V yX5_part cX5_part 4 (some .int) 2 := ⟨z_mem 556 (by decide +kernel) rfl, z_mem 48 (by decide +kernel) rfl, ⟨by decide +kernel, by decide +kernel⟩, by decide +kernel, z_mem 554 (by decide +kernel) rfl, z_mem 555 (by decide +kernel) rfl⟩
theorem zv_X5_way : z_V yX5_way cX5_way 6 (some .int) 2 := ⟨z_mem 560 (by decide +kernel) rfl, z_mem 48 (by decide +kernel) rfl, ⟨by decide +kernel, by decide +kernel⟩, by decide +kernel, z_mem 558 (by decide +kernel) rfl, z_mem 559 (by decide +kernel) rfl⟩
theorem zv_X0_withBeside : z_V yX0_withBeside cX0_withBeside 6 (some .long) 1 := ⟨z_mem 564 (by decide +kernel) rfl, z_mem 50 (by decide +kernel) rfl, ⟨by decide +kernel, by decide +kernel⟩, by decide +kernel, z_mem 562 (by decide +kernel) rfl, z_mem 563 (by decide +kernel) rfl⟩
theorem zv_X5_kerb : z_V yX5_kerb cX5_kerb 5 (some .int) 3 := ⟨z_mem 569 (by decide +kernel) rfl, z_mem 48 (by decide +kernel) rfl, ⟨by decide +kernel, by decide +kernel⟩, by decide +kernel, z_mem 567 (by decide +kernel) rfl, z_mem 568 (by decide +kernel) rfl⟩
theorem zv_X5_mayBeKerb : z_V yX5_mayBeKerb cX5_mayBeKerb 4 (some .boolean) 3 := ⟨z_mem 573 (by decide +kernel) rfl, z_mem 48 (by decide +kernel) rfl, ⟨by decide +kernel, by decide +kernel⟩, by decide +kernel, z_mem 572 (by decide +kernel) rfl, z_mem 17 (by decide +kernel) rfl⟩
theorem zv_X0_makeKerb : z_V yX0_makeKerb cX0_makeKerb 2 none 1 := ⟨z_mem 577 (by decide +kernel) rfl, z_mem 50 (by decide +kernel) rfl, ⟨by decide +kernel, by decide +kernel⟩, by decide +kernel, z_mem 575 (by decide +kernel) rfl, z_mem 576 (by decide +kernel) rfl⟩
theorem zv_X5_ring : z_V yX5_ring cX5_ring 3 (some .int) 2 := ⟨z_mem 582 (by decide +kernel) rfl, z_mem 48 (by decide +kernel) rfl, ⟨by decide +kernel, by decide +kernel⟩, by decide +kernel, z_mem 580 (by decide +kernel) rfl, z_mem 581 (by decide +kernel) rfl⟩
theorem zv_X5_forget : z_V yX5_forget cX5_forget 2 (some .int) 0 := ⟨z_mem 586 (by decide +kernel) rfl, z_mem 48 (by decide +kernel) rfl, ⟨by decide +kernel, by decide +kernel⟩, by decide +kernel, z_mem 584 (by decide +kernel) rfl, z_mem 585 (by decide +kernel) rfl⟩
theorem zv_X5_rains : z_V yX5_rains cX5_rains 3 (some .int) 0 := ⟨z_mem 590 (by decide +kernel) rfl, z_mem 48 (by decide +kernel) rfl, ⟨by decide +kernel, by decide +kernel⟩, by decide +kernel, z_mem 588 (by decide +kernel) rfl, z_mem 589 (by decide +kernel) rfl⟩
theorem zv_X5_ringsHold : z_V yX5_ringsHold cX5_ringsHold 3 (some .boolean) 0 := ⟨z_mem 595 (by decide +kernel) rfl, z_mem 48 (by decide +kernel) rfl, ⟨by decide +kernel, by decide +kernel⟩, by decide +kernel, z_mem 594 (by decide +kernel) rfl, z_mem 18 (by decide +kernel) rfl⟩
theorem zv_X5_sky : z_V yX5_sky cX5_sky 3 (some .int) 2 := ⟨z_mem 599 (by decide +kernel) rfl, z_mem 48 (by decide +kernel) rfl, ⟨by decide +kernel, by decide +kernel⟩, by decide +kernel, z_mem 597 (by decide +kernel) rfl, z_mem 598 (by decide +kernel) rfl⟩
theorem zv_X4_wetCells : z_V yX4_wetCells cX4_wetCells 4 (some .int) 1 := ⟨z_mem 603 (by decide +kernel) rfl, z_mem 51 (by decide +kernel) rfl, ⟨by decide +kernel, by decide +kernel⟩, by decide +kernel, z_mem 601 (by decide +kernel) rfl, z_mem 602 (by decide +kernel) rfl⟩
theorem zs_X5_lowestTerms : z_S yX5_lowestTerms cX5_lowestTerms 5 (some .int) 3 := ⟨z_mem 606 (by decide +kernel) rfl, z_mem 48 (by decide +kernel) rfl, ⟨by decide +kernel, by decide +kernel⟩, by decide +kernel, z_mem 605 (by decide +kernel) rfl⟩
theorem zs_X5_commonDivisor : z_S yX5_commonDivisor cX5_commonDivisor 4 (some .int) 2 := ⟨z_mem 609 (by decide +kernel) rfl, z_mem 48 (by decide +kernel) rfl, ⟨by decide +kernel, by decide +kernel⟩, by decide +kernel, z_mem 608 (by decide +kernel) rfl⟩
theorem zv_X5_sun : z_V yX5_sun cX5_sun 9 (some .int) 4 := ⟨z_mem 613 (by decide +kernel) rfl, z_mem 48 (by decide +kernel) rfl, ⟨by decide +kernel, by decide +kernel⟩, by decide +kernel, z_mem 611 (by decide +kernel) rfl, z_mem 612 (by decide +kernel) rfl⟩
theorem zv_X5_wetBehindHours : z_V yX5_wetBehindHours cX5_wetBehindHours 5 (some .int) 2 := ⟨z_mem 617 (by decide +kernel) rfl, z_mem 48 (by decide +kernel) rfl, ⟨by decide +kernel, by decide +kernel⟩, by decide +kernel, z_mem 616 (by decide +kernel) rfl, z_mem 19 (by decide +kernel) rfl⟩
theorem zs_J6_bitCount_0f7a4 : z_S yJ6_bitCount_0f7a4 cJ6_bitCount_0f7a4 1 (some .int) 1 := ⟨z_mem 620 (by decide +kernel) rfl, z_mem 62 (by decide +kernel) rfl, ⟨by decide +kernel, by decide +kernel⟩, by decide +kernel, z_mem 619 (by decide +kernel) rfl⟩
theorem zs_X5_power : z_S yX5_power cX5_power 4 (some .int) 2 := ⟨z_mem 626 (by decide +kernel) rfl, z_mem 48 (by decide +kernel) rfl, ⟨by decide +kernel, by decide +kernel⟩, by decide +kernel, z_mem 625 (by decide +kernel) rfl⟩
theorem zv_X5_year : z_V yX5_year cX5_year 6 (some .int) 3 := ⟨z_mem 630 (by decide +kernel) rfl, z_mem 48 (by decide +kernel) rfl, ⟨by decide +kernel, by decide +kernel⟩, by decide +kernel, z_mem 628 (by decide +kernel) rfl, z_mem 629 (by decide +kernel) rfl⟩
theorem zs_X5_drawOf : z_S yX5_drawOf cX5_drawOf 4 (some .int) 2 := ⟨z_mem 633 (by decide +kernel) rfl, z_mem 48 (by decide +kernel) rfl, ⟨by decide +kernel, by decide +kernel⟩, by decide +kernel, z_mem 632 (by decide +kernel) rfl⟩
theorem zv_X5_keep : z_V yX5_keep cX5_keep 1 (some .int) 0 := ⟨z_mem 641 (by decide +kernel) rfl, z_mem 48 (by decide +kernel) rfl, ⟨by decide +kernel, by decide +kernel⟩, by decide +kernel, z_mem 639 (by decide +kernel) rfl, z_mem 640 (by decide +kernel) rfl⟩
theorem zv_X5_back : z_V yX5_back cX5_back 1 (some .int) 0 := ⟨z_mem 645 (by decide +kernel) rfl, z_mem 48 (by decide +kernel) rfl, ⟨by decide +kernel, by decide +kernel⟩, by decide +kernel, z_mem 643 (by decide +kernel) rfl, z_mem 644 (by decide +kernel) rfl⟩
theorem zv_X5_count : z_V yX5_count cX5_count 2 (some .int) 1 := ⟨z_mem 649 (by decide +kernel) rfl, z_mem 48 (by decide +kernel) rfl, ⟨by decide +kernel, by decide +kernel⟩, by decide +kernel, z_mem 647 (by decide +kernel) rfl, z_mem 648 (by decide +kernel) rfl⟩
theorem zv_X6_begins : z_V yX6_begins cX6_begins 2 none 0 := ⟨z_mem 659 (by decide +kernel) rfl, z_mem 60 (by decide +kernel) rfl, ⟨by decide +kernel, by decide +kernel⟩, by decide +kernel, z_mem 658 (by decide +kernel) rfl, z_mem 20 (by decide +kernel) rfl⟩
theorem zs_X6_in : z_S yX6_in cX6_in 3 (some .boolean) 3 := ⟨z_mem 662 (by decide +kernel) rfl, z_mem 60 (by decide +kernel) rfl, ⟨by decide +kernel, by decide +kernel⟩, by decide +kernel, z_mem 661 (by decide +kernel) rfl⟩
theorem zv_X6_lays : z_V yX6_lays cX6_lays 2 none 0 := ⟨z_mem 666 (by decide +kernel) rfl, z_mem 60 (by decide +kernel) rfl, ⟨by decide +kernel, by decide +kernel⟩, by decide +kernel, z_mem 665 (by decide +kernel) rfl, z_mem 21 (by decide +kernel) rfl⟩
theorem zv_X6_flows : z_V yX6_flows cX6_flows 4 none 0 := ⟨z_mem 670 (by decide +kernel) rfl, z_mem 60 (by decide +kernel) rfl, ⟨by decide +kernel, by decide +kernel⟩, by decide +kernel, z_mem 669 (by decide +kernel) rfl, z_mem 22 (by decide +kernel) rfl⟩
theorem zv_X6_cells : z_V yX6_cells cX6_cells 1 (some .int) 0 := ⟨z_mem 674 (by decide +kernel) rfl, z_mem 60 (by decide +kernel) rfl, ⟨by decide +kernel, by decide +kernel⟩, by decide +kernel, z_mem 673 (by decide +kernel) rfl, z_mem 23 (by decide +kernel) rfl⟩
theorem zv_X6_sends : z_V yX6_sends cX6_sends 7 (some .boolean) 1 := ⟨z_mem 678 (by decide +kernel) rfl, z_mem 60 (by decide +kernel) rfl, ⟨by decide +kernel, by decide +kernel⟩, by decide +kernel, z_mem 677 (by decide +kernel) rfl, z_mem 24 (by decide +kernel) rfl⟩
theorem zv_X6_beside : z_V yX6_beside cX6_beside 6 (some .int) 2 := ⟨z_mem 682 (by decide +kernel) rfl, z_mem 60 (by decide +kernel) rfl, ⟨by decide +kernel, by decide +kernel⟩, by decide +kernel, z_mem 681 (by decide +kernel) rfl, z_mem 25 (by decide +kernel) rfl⟩
theorem zv_X6_isCell : z_V yX6_isCell cX6_isCell 2 (some .boolean) 1 := ⟨z_mem 686 (by decide +kernel) rfl, z_mem 60 (by decide +kernel) rfl, ⟨by decide +kernel, by decide +kernel⟩, by decide +kernel, z_mem 685 (by decide +kernel) rfl, z_mem 26 (by decide +kernel) rfl⟩
theorem zv_X6_level : z_V yX6_level cX6_level 2 (some .int) 1 := ⟨z_mem 690 (by decide +kernel) rfl, z_mem 60 (by decide +kernel) rfl, ⟨by decide +kernel, by decide +kernel⟩, by decide +kernel, z_mem 689 (by decide +kernel) rfl, z_mem 27 (by decide +kernel) rfl⟩
theorem zv_X6_drops : z_V yX6_drops cX6_drops 3 none 2 := ⟨z_mem 694 (by decide +kernel) rfl, z_mem 60 (by decide +kernel) rfl, ⟨by decide +kernel, by decide +kernel⟩, by decide +kernel, z_mem 693 (by decide +kernel) rfl, z_mem 28 (by decide +kernel) rfl⟩
theorem zv_X6_write : z_V yX6_write cX6_write 2 (some .int) 1 := ⟨z_mem 751 (by decide +kernel) rfl, z_mem 60 (by decide +kernel) rfl, ⟨by decide +kernel, by decide +kernel⟩, by decide +kernel, z_mem 749 (by decide +kernel) rfl, z_mem 750 (by decide +kernel) rfl⟩
theorem zv_X6_wipe : z_V yX6_wipe cX6_wipe 2 (some .int) 0 := ⟨z_mem 755 (by decide +kernel) rfl, z_mem 60 (by decide +kernel) rfl, ⟨by decide +kernel, by decide +kernel⟩, by decide +kernel, z_mem 753 (by decide +kernel) rfl, z_mem 754 (by decide +kernel) rfl⟩
theorem zv_X6_fault : z_V yX6_fault cX6_fault 1 (some .int) 0 := ⟨z_mem 759 (by decide +kernel) rfl, z_mem 60 (by decide +kernel) rfl, ⟨by decide +kernel, by decide +kernel⟩, by decide +kernel, z_mem 757 (by decide +kernel) rfl, z_mem 758 (by decide +kernel) rfl⟩
theorem zv_X6_readsAll : z_V yX6_readsAll cX6_readsAll 2 (some .int) 0 := ⟨z_mem 763 (by decide +kernel) rfl, z_mem 60 (by decide +kernel) rfl, ⟨by decide +kernel, by decide +kernel⟩, by decide +kernel, z_mem 762 (by decide +kernel) rfl, z_mem 29 (by decide +kernel) rfl⟩
theorem zv_X6_readsItem : z_V yX6_readsItem cX6_readsItem 4 (some .boolean) 1 := ⟨z_mem 767 (by decide +kernel) rfl, z_mem 60 (by decide +kernel) rfl, ⟨by decide +kernel, by decide +kernel⟩, by decide +kernel, z_mem 766 (by decide +kernel) rfl, z_mem 30 (by decide +kernel) rfl⟩
theorem zv_X6_number : z_V yX6_number cX6_number 6 (some .int) 3 := ⟨z_mem 771 (by decide +kernel) rfl, z_mem 60 (by decide +kernel) rfl, ⟨by decide +kernel, by decide +kernel⟩, by decide +kernel, z_mem 770 (by decide +kernel) rfl, z_mem 31 (by decide +kernel) rfl⟩
theorem zv_X6_letterAt : z_V yX6_letterAt cX6_letterAt 2 (some .int) 1 := ⟨z_mem 775 (by decide +kernel) rfl, z_mem 60 (by decide +kernel) rfl, ⟨by decide +kernel, by decide +kernel⟩, by decide +kernel, z_mem 774 (by decide +kernel) rfl, z_mem 32 (by decide +kernel) rfl⟩
theorem zs_X6_isFigure : z_S yX6_isFigure cX6_isFigure 1 (some .boolean) 1 := ⟨z_mem 778 (by decide +kernel) rfl, z_mem 60 (by decide +kernel) rfl, ⟨by decide +kernel, by decide +kernel⟩, by decide +kernel, z_mem 777 (by decide +kernel) rfl⟩
theorem zv_X6_lay : z_V yX6_lay cX6_lay 1 (some .int) 0 := ⟨z_mem 782 (by decide +kernel) rfl, z_mem 60 (by decide +kernel) rfl, ⟨by decide +kernel, by decide +kernel⟩, by decide +kernel, z_mem 780 (by decide +kernel) rfl, z_mem 781 (by decide +kernel) rfl⟩
theorem zv_X6_cell : z_V yX6_cell cX6_cell 5 (some .int) 2 := ⟨z_mem 786 (by decide +kernel) rfl, z_mem 60 (by decide +kernel) rfl, ⟨by decide +kernel, by decide +kernel⟩, by decide +kernel, z_mem 784 (by decide +kernel) rfl, z_mem 785 (by decide +kernel) rfl⟩
theorem zv_X6_laysStates : z_V yX6_laysStates cX6_laysStates 5 none 0 := ⟨z_mem 790 (by decide +kernel) rfl, z_mem 60 (by decide +kernel) rfl, ⟨by decide +kernel, by decide +kernel⟩, by decide +kernel, z_mem 789 (by decide +kernel) rfl, z_mem 33 (by decide +kernel) rfl⟩
theorem zv_X6_sizeOf : z_V yX6_sizeOf cX6_sizeOf 4 (some .int) 1 := ⟨z_mem 794 (by decide +kernel) rfl, z_mem 60 (by decide +kernel) rfl, ⟨by decide +kernel, by decide +kernel⟩, by decide +kernel, z_mem 793 (by decide +kernel) rfl, z_mem 34 (by decide +kernel) rfl⟩
theorem zv_X6_rain : z_V yX6_rain cX6_rain 2 (some .int) 1 := ⟨z_mem 798 (by decide +kernel) rfl, z_mem 60 (by decide +kernel) rfl, ⟨by decide +kernel, by decide +kernel⟩, by decide +kernel, z_mem 796 (by decide +kernel) rfl, z_mem 797 (by decide +kernel) rfl⟩
theorem zv_X6_keeps : z_V yX6_keeps cX6_keeps 2 none 0 := ⟨z_mem 802 (by decide +kernel) rfl, z_mem 60 (by decide +kernel) rfl, ⟨by decide +kernel, by decide +kernel⟩, by decide +kernel, z_mem 801 (by decide +kernel) rfl, z_mem 35 (by decide +kernel) rfl⟩
theorem zv_X6_pours : z_V yX6_pours cX6_pours 3 none 1 := ⟨z_mem 806 (by decide +kernel) rfl, z_mem 60 (by decide +kernel) rfl, ⟨by decide +kernel, by decide +kernel⟩, by decide +kernel, z_mem 805 (by decide +kernel) rfl, z_mem 36 (by decide +kernel) rfl⟩
theorem zv_X6_isOpen : z_V yX6_isOpen cX6_isOpen 2 (some .boolean) 1 := ⟨z_mem 810 (by decide +kernel) rfl, z_mem 60 (by decide +kernel) rfl, ⟨by decide +kernel, by decide +kernel⟩, by decide +kernel, z_mem 809 (by decide +kernel) rfl, z_mem 37 (by decide +kernel) rfl⟩
theorem zv_X6_all : z_V yX6_all cX6_all 3 (some .int) 0 := ⟨z_mem 814 (by decide +kernel) rfl, z_mem 60 (by decide +kernel) rfl, ⟨by decide +kernel, by decide +kernel⟩, by decide +kernel, z_mem 813 (by decide +kernel) rfl, z_mem 38 (by decide +kernel) rfl⟩
theorem zv_X6_shine : z_V yX6_shine cX6_shine 3 (some .int) 1 := ⟨z_mem 818 (by decide +kernel) rfl, z_mem 60 (by decide +kernel) rfl, ⟨by decide +kernel, by decide +kernel⟩, by decide +kernel, z_mem 816 (by decide +kernel) rfl, z_mem 817 (by decide +kernel) rfl⟩
theorem zv_X6_shines : z_V yX6_shines cX6_shines 3 none 0 := ⟨z_mem 822 (by decide +kernel) rfl, z_mem 60 (by decide +kernel) rfl, ⟨by decide +kernel, by decide +kernel⟩, by decide +kernel, z_mem 821 (by decide +kernel) rfl, z_mem 39 (by decide +kernel) rfl⟩
theorem zv_X6_boot : z_V yX6_boot cX6_boot 4 (some .int) 1 := ⟨z_mem 826 (by decide +kernel) rfl, z_mem 60 (by decide +kernel) rfl, ⟨by decide +kernel, by decide +kernel⟩, by decide +kernel, z_mem 824 (by decide +kernel) rfl, z_mem 825 (by decide +kernel) rfl⟩
theorem zv_X6_stone : z_V yX6_stone cX6_stone 3 (some .int) 2 := ⟨z_mem 830 (by decide +kernel) rfl, z_mem 60 (by decide +kernel) rfl, ⟨by decide +kernel, by decide +kernel⟩, by decide +kernel, z_mem 828 (by decide +kernel) rfl, z_mem 829 (by decide +kernel) rfl⟩
theorem zv_X6_undo : z_V yX6_undo cX6_undo 2 (some .int) 0 := ⟨z_mem 834 (by decide +kernel) rfl, z_mem 60 (by decide +kernel) rfl, ⟨by decide +kernel, by decide +kernel⟩, by decide +kernel, z_mem 832 (by decide +kernel) rfl, z_mem 833 (by decide +kernel) rfl⟩
theorem zv_X6_behind : z_V yX6_behind cX6_behind 5 (some .int) 3 := ⟨z_mem 838 (by decide +kernel) rfl, z_mem 60 (by decide +kernel) rfl, ⟨by decide +kernel, by decide +kernel⟩, by decide +kernel, z_mem 836 (by decide +kernel) rfl, z_mem 837 (by decide +kernel) rfl⟩
theorem zv_X6_holds : z_V yX6_holds cX6_holds 2 none 0 := ⟨z_mem 842 (by decide +kernel) rfl, z_mem 60 (by decide +kernel) rfl, ⟨by decide +kernel, by decide +kernel⟩, by decide +kernel, z_mem 841 (by decide +kernel) rfl, z_mem 40 (by decide +kernel) rfl⟩
theorem zv_X6_lets : z_V yX6_lets cX6_lets 2 none 0 := ⟨z_mem 846 (by decide +kernel) rfl, z_mem 60 (by decide +kernel) rfl, ⟨by decide +kernel, by decide +kernel⟩, by decide +kernel, z_mem 845 (by decide +kernel) rfl, z_mem 41 (by decide +kernel) rfl⟩
theorem zv_X6_dry : z_V yX6_dry cX6_dry 6 (some .int) 1 := ⟨z_mem 850 (by decide +kernel) rfl, z_mem 60 (by decide +kernel) rfl, ⟨by decide +kernel, by decide +kernel⟩, by decide +kernel, z_mem 848 (by decide +kernel) rfl, z_mem 849 (by decide +kernel) rfl⟩
theorem zv_X6_lowest : z_V yX6_lowest cX6_lowest 3 (some .int) 0 := ⟨z_mem 854 (by decide +kernel) rfl, z_mem 60 (by decide +kernel) rfl, ⟨by decide +kernel, by decide +kernel⟩, by decide +kernel, z_mem 853 (by decide +kernel) rfl, z_mem 42 (by decide +kernel) rfl⟩
theorem zv_X6_join : z_V yX6_join cX6_join 5 (some .int) 2 := ⟨z_mem 858 (by decide +kernel) rfl, z_mem 60 (by decide +kernel) rfl, ⟨by decide +kernel, by decide +kernel⟩, by decide +kernel, z_mem 856 (by decide +kernel) rfl, z_mem 857 (by decide +kernel) rfl⟩
theorem zv_X6_isOne : z_V yX6_isOne cX6_isOne 3 (some .boolean) 2 := ⟨z_mem 862 (by decide +kernel) rfl, z_mem 60 (by decide +kernel) rfl, ⟨by decide +kernel, by decide +kernel⟩, by decide +kernel, z_mem 861 (by decide +kernel) rfl, z_mem 43 (by decide +kernel) rfl⟩
theorem zv_X6_part : z_V yX6_part cX6_part 5 (some .int) 2 := ⟨z_mem 866 (by decide +kernel) rfl, z_mem 60 (by decide +kernel) rfl, ⟨by decide +kernel, by decide +kernel⟩, by decide +kernel, z_mem 864 (by decide +kernel) rfl, z_mem 865 (by decide +kernel) rfl⟩
theorem zv_X6_way : z_V yX6_way cX6_way 8 (some .int) 2 := ⟨z_mem 870 (by decide +kernel) rfl, z_mem 60 (by decide +kernel) rfl, ⟨by decide +kernel, by decide +kernel⟩, by decide +kernel, z_mem 868 (by decide +kernel) rfl, z_mem 869 (by decide +kernel) rfl⟩
theorem zv_X6_kerb : z_V yX6_kerb cX6_kerb 7 (some .int) 3 := ⟨z_mem 874 (by decide +kernel) rfl, z_mem 60 (by decide +kernel) rfl, ⟨by decide +kernel, by decide +kernel⟩, by decide +kernel, z_mem 872 (by decide +kernel) rfl, z_mem 873 (by decide +kernel) rfl⟩
theorem zv_X6_areApart : z_V yX6_areApart cX6_areApart 5 (some .boolean) 3 := ⟨z_mem 878 (by decide +kernel) rfl, z_mem 60 (by decide +kernel) rfl, ⟨by decide +kernel, by decide +kernel⟩, by decide +kernel, z_mem 877 (by decide +kernel) rfl, z_mem 44 (by decide +kernel) rfl⟩
theorem zv_X6_ring : z_V yX6_ring cX6_ring 3 (some .int) 2 := ⟨z_mem 882 (by decide +kernel) rfl, z_mem 60 (by decide +kernel) rfl, ⟨by decide +kernel, by decide +kernel⟩, by decide +kernel, z_mem 880 (by decide +kernel) rfl, z_mem 881 (by decide +kernel) rfl⟩
theorem zv_X6_forget : z_V yX6_forget cX6_forget 2 (some .int) 0 := ⟨z_mem 886 (by decide +kernel) rfl, z_mem 60 (by decide +kernel) rfl, ⟨by decide +kernel, by decide +kernel⟩, by decide +kernel, z_mem 884 (by decide +kernel) rfl, z_mem 885 (by decide +kernel) rfl⟩
theorem zv_X6_rains : z_V yX6_rains cX6_rains 5 (some .int) 0 := ⟨z_mem 890 (by decide +kernel) rfl, z_mem 60 (by decide +kernel) rfl, ⟨by decide +kernel, by decide +kernel⟩, by decide +kernel, z_mem 888 (by decide +kernel) rfl, z_mem 889 (by decide +kernel) rfl⟩
theorem zv_X6_sky : z_V yX6_sky cX6_sky 6 (some .int) 2 := ⟨z_mem 894 (by decide +kernel) rfl, z_mem 60 (by decide +kernel) rfl, ⟨by decide +kernel, by decide +kernel⟩, by decide +kernel, z_mem 892 (by decide +kernel) rfl, z_mem 893 (by decide +kernel) rfl⟩
theorem zv_X6_wet : z_V yX6_wet cX6_wet 3 (some .int) 0 := ⟨z_mem 898 (by decide +kernel) rfl, z_mem 60 (by decide +kernel) rfl, ⟨by decide +kernel, by decide +kernel⟩, by decide +kernel, z_mem 897 (by decide +kernel) rfl, z_mem 45 (by decide +kernel) rfl⟩
theorem zs_X6_common : z_S yX6_common cX6_common 5 (some .int) 2 := ⟨z_mem 901 (by decide +kernel) rfl, z_mem 60 (by decide +kernel) rfl, ⟨by decide +kernel, by decide +kernel⟩, by decide +kernel, z_mem 900 (by decide +kernel) rfl⟩
theorem zv_X6_sun : z_V yX6_sun cX6_sun 11 (some .int) 4 := ⟨z_mem 905 (by decide +kernel) rfl, z_mem 60 (by decide +kernel) rfl, ⟨by decide +kernel, by decide +kernel⟩, by decide +kernel, z_mem 903 (by decide +kernel) rfl, z_mem 904 (by decide +kernel) rfl⟩
theorem zv_X6_year : z_V yX6_year cX6_year 9 (some .int) 3 := ⟨z_mem 909 (by decide +kernel) rfl, z_mem 60 (by decide +kernel) rfl, ⟨by decide +kernel, by decide +kernel⟩, by decide +kernel, z_mem 907 (by decide +kernel) rfl, z_mem 908 (by decide +kernel) rfl⟩
theorem zv_X6_manyStates : z_V yX6_manyStates cX6_manyStates 3 (some .int) 0 := ⟨z_mem 916 (by decide +kernel) rfl, z_mem 60 (by decide +kernel) rfl, ⟨by decide +kernel, by decide +kernel⟩, by decide +kernel, z_mem 915 (by decide +kernel) rfl, z_mem 46 (by decide +kernel) rfl⟩
theorem zv_X6_keep : z_V yX6_keep cX6_keep 2 (some .int) 0 := ⟨z_mem 920 (by decide +kernel) rfl, z_mem 60 (by decide +kernel) rfl, ⟨by decide +kernel, by decide +kernel⟩, by decide +kernel, z_mem 918 (by decide +kernel) rfl, z_mem 919 (by decide +kernel) rfl⟩
theorem zv_X6_back : z_V yX6_back cX6_back 2 (some .int) 0 := ⟨z_mem 924 (by decide +kernel) rfl, z_mem 60 (by decide +kernel) rfl, ⟨by decide +kernel, by decide +kernel⟩, by decide +kernel, z_mem 922 (by decide +kernel) rfl, z_mem 923 (by decide +kernel) rfl⟩
theorem zv_X6_count : z_V yX6_count cX6_count 2 (some .int) 1 := ⟨z_mem 928 (by decide +kernel) rfl, z_mem 60 (by decide +kernel) rfl, ⟨by decide +kernel, by decide +kernel⟩, by decide +kernel, z_mem 926 (by decide +kernel) rfl, z_mem 927 (by decide +kernel) rfl⟩
theorem zc_X4_78 : Cond.constant RX4 78 (Int32.ofInt 1000000) ∈ z_W := z_mem 348 (by decide +kernel) rfl
theorem zc_X5_198 : Cond.constant RX5 198 (Int32.ofInt 2147483647) ∈ z_W := z_mem 591 (by decide +kernel) rfl
theorem zc_J6_265 : Cond.constant RJ6 265 (Int32.ofInt 1431655765) ∈ z_W := z_mem 621 (by decide +kernel) rfl
theorem zc_J6_266 : Cond.constant RJ6 266 (Int32.ofInt 858993459) ∈ z_W := z_mem 622 (by decide +kernel) rfl
theorem zc_J6_267 : Cond.constant RJ6 267 (Int32.ofInt 252645135) ∈ z_W := z_mem 623 (by decide +kernel) rfl
theorem zc_X4_86 : Cond.constantLong RX4 86 (-1 : Int64) ∈ z_W := z_mem 358 (by decide +kernel) rfl
theorem zc_X5_229 : Cond.constantLong RX5 229 (7919 : Int64) ∈ z_W := z_mem 634 (by decide +kernel) rfl
theorem zc_X5_231 : Cond.constantLong RX5 231 (6151 : Int64) ∈ z_W := z_mem 635 (by decide +kernel) rfl
theorem zc_X5_233 : Cond.constantLong RX5 233 (65521 : Int64) ∈ z_W := z_mem 636 (by decide +kernel) rfl
theorem zc_X5_235 : Cond.constantLong RX5 235 (8 : Int64) ∈ z_W := z_mem 637 (by decide +kernel) rfl
theorem zc_X6_159 : Cond.constantLong RX6 159 (7919 : Int64) ∈ z_W := z_mem 910 (by decide +kernel) rfl
theorem zc_X6_161 : Cond.constantLong RX6 161 (6151 : Int64) ∈ z_W := z_mem 911 (by decide +kernel) rfl
theorem zc_X6_163 : Cond.constantLong RX6 163 (65521 : Int64) ∈ z_W := z_mem 912 (by decide +kernel) rfl
theorem zl_X2_58 : Cond.methodLink RX2 58 Lib.Math.max.name ∈ z_W := z_mem 459 (by decide +kernel) rfl
theorem zl_X4_47 : Cond.methodLink RX4 47 Lib.Math.min.name ∈ z_W := z_mem 479 (by decide +kernel) rfl
theorem z_wmin1 : Cond.static Lib.Math.min.name ∈ z_W := z_mem 480 (by decide +kernel) rfl
theorem z_wmin2 : Cond.initialized "java/lang/Math" ∈ z_W := z_mem 61 (by decide +kernel) rfl
theorem z_wmin3 : Cond.code Lib.Math.min.name Lib.Math.min.code 2 (some .int) ∈ z_W := z_mem 481 (by decide +kernel) rfl
theorem z_wmax1 : Cond.static Lib.Math.max.name ∈ z_W := z_mem 460 (by decide +kernel) rfl
theorem z_wmax2 : Cond.initialized "java/lang/Math" ∈ z_W := z_mem 61 (by decide +kernel) rfl
theorem z_wmax3 : Cond.code Lib.Math.max.name Lib.Math.max.code 2 (some .int) ∈ z_W := z_mem 461 (by decide +kernel) rfl
theorem zl_X0_53 : Cond.methodLink RX0 53 arraycopyName ∈ z_W := z_mem 332 (by decide +kernel) rfl
theorem zl_X4_32 : Cond.methodLink RX4 32 arraycopyName ∈ z_W := z_mem 339 (by decide +kernel) rfl
theorem zl_X1_33 : Cond.methodLink RX1 33 arraycopyName ∈ z_W := z_mem 474 (by decide +kernel) rfl
theorem z_ac1 : Cond.native arraycopyName ∈ z_W := z_mem 334 (by decide +kernel) rfl
theorem z_ac2 : Cond.static arraycopyName ∈ z_W := z_mem 333 (by decide +kernel) rfl
theorem z_ac3 : Cond.initialized "java/lang/System" ∈ z_W := z_mem 59 (by decide +kernel) rfl
def w_X0 (G : z_G) (o a_kind a_beside a_besideBits : Nat) (v_rows : Int) (v_columns : Int) (v_cells : Int) (v_kind : Int → Int) (v_beside : Int → Int) (v_besideBits : Int → Int64) : va_W := [(o, z_o 0 [z_i v_rows, z_i v_columns, z_i v_cells, .ref a_kind, .ref a_beside, .ref a_besideBits]), (a_kind, z_a G.2.1 36 v_kind), (a_beside, z_a G.2.1 144 v_beside), (a_besideBits, z_l G.2.2.1 36 v_besideBits)]
def w_X1 (G : z_G) (o a_heights a_drops a_hours : Nat) (v_heights : Int → Int) (v_drops : Int → Int) (v_hours : Int → Int) (v_many : Int) : va_W := [(o, z_o 1 [.ref a_heights, .ref a_drops, .ref a_hours, z_i v_many]), (a_heights, z_a G.2.1 288 v_heights), (a_drops, z_a G.2.1 288 v_drops), (a_hours, z_a G.2.1 8 v_hours)]
def w_X2 (G : z_G) (o a_state a_waiting : Nat) (v_state : Int → Int) (v_waiting : Int → Int) (v_waits : Int) (v_cells : Int) (v_many : Int) : va_W := [(o, z_o 2 [.ref a_state, .ref a_waiting, z_i v_waits, z_i v_cells, z_i v_many]), (a_state, z_a G.2.1 36 v_state), (a_waiting, z_a G.2.1 36 v_waiting)]
def w_X3 (G : z_G) (o a_letters : Nat) (v_letters : Int → Int) (v_length : Int) (v_at : Int) : va_W := [(o, z_o 3 [.ref a_letters, z_i v_length, z_i v_at]), (a_letters, z_a G.2.2.2.1 200 v_letters)]
def w_X4 (G : z_G) (o a_height a_drops : Nat) (v_height : Int → Int) (v_drops : Int → Int) (v_hours : Int) (v_restless : Int64) : va_W := [(o, z_o 4 [.ref a_height, .ref a_drops, z_i v_hours, .long v_restless]), (a_height, z_a G.2.1 36 v_height), (a_drops, z_a G.2.1 36 v_drops)]
def w_X5 (G : z_G) (o a_text a_ground a_now a_otherGround a_later a_states a_undone a_kept a_ringCell a_ringDrops : Nat) (v_ringCell : Int → Int) (v_ringDrops : Int → Int) (v_rings : Int) : va_W := [(o, z_o 5 [.ref a_text, .ref a_ground, .ref a_now, .ref a_otherGround, .ref a_later, .ref a_states, .ref a_undone, .ref a_kept, .ref a_ringCell, .ref a_ringDrops, z_i v_rings]), (a_ringCell, z_a G.2.1 6 v_ringCell), (a_ringDrops, z_a G.2.1 6 v_ringDrops)]
def w_X6 (G : z_G) (o a_text a_told a_draft a_begun a_s a_past a_images a_rings a_states a_held a_here a_there : Nat) (v_text : Int → Int) (v_typed : Int) (v_told : Int → Int) (v_draft : Int → Int) (v_begun : Int → Int) (v_s : Int → Int) (v_past : Int → Int) (v_known : Int) (v_images : Int → Int) (v_kept : Int) (v_rings : Int → Int) (v_rung : Int) (v_at : Int) (v_states : Int → Int) (v_held : Int → Int) (v_here : Int → Int) (v_there : Int → Int) : va_W := [(o, z_o 6 [.ref a_text, z_i v_typed, .ref a_told, .ref a_draft, .ref a_begun, .ref a_s, .ref a_past, z_i v_known, .ref a_images, z_i v_kept, .ref a_rings, z_i v_rung, z_i v_at, .ref a_states, .ref a_held, .ref a_here, .ref a_there]), (a_text, z_a G.2.1 200 v_text), (a_told, z_a G.2.1 39 v_told), (a_draft, z_a G.2.1 39 v_draft), (a_begun, z_a G.2.1 73 v_begun), (a_s, z_a G.2.1 73 v_s), (a_past, z_a G.2.1 584 v_past), (a_images, z_a G.2.1 146 v_images), (a_rings, z_a G.2.1 6 v_rings), (a_states, z_a G.2.1 36 v_states), (a_held, z_a G.2.1 73 v_held), (a_here, z_a G.2.2.2.2 36 v_here), (a_there, z_a G.2.2.2.2 36 v_there)]
def w_I (G : z_G) (o n : Nat) (f : Int → Int) : va_W := [(o, z_a G.2.1 n f)]
def w_J (G : z_G) (o n : Nat) (f : Int → Int64) : va_W := [(o, z_l G.2.2.1 n f)]
end
section
def z_b7 {α0 α1 α2 α3 α4 α5 α6 δ : Type} (x : Option (α0 × α1 × α2 × α3 × α4 × α5 × α6)) (f : α0 → α1 → α2 → α3 → α4 → α5 → α6 → Option δ) : Option δ := match x with
  | none => none
  | some (a0, a1, a2, a3, a4, a5, a6) => f a0 a1 a2 a3 a4 a5 a6
theorem z_b7s {α0 α1 α2 α3 α4 α5 α6 δ : Type} {x : Option (α0 × α1 × α2 × α3 × α4 × α5 × α6)} {f : α0 → α1 → α2 → α3 → α4 → α5 → α6 → Option δ} {r : δ} (h : z_b7 x f = some r) : ∃ a0 a1 a2 a3 a4 a5 a6, x = some (a0, a1, a2, a3, a4, a5, a6) ∧ f a0 a1 a2 a3 a4 a5 a6 = some r := by
  cases x with
  | none => cases h
  | some a => exact ⟨a.1, a.2.1, a.2.2.1, a.2.2.2.1, a.2.2.2.2.1, a.2.2.2.2.2.1, a.2.2.2.2.2.2, rfl, h⟩
def z_b8 {α0 α1 α2 α3 α4 α5 α6 α7 δ : Type} (x : Option (α0 × α1 × α2 × α3 × α4 × α5 × α6 × α7)) (f : α0 → α1 → α2 → α3 → α4 → α5 → α6 → α7 → Option δ) : Option δ := match x with
  | none => none
  | some (a0, a1, a2, a3, a4, a5, a6, a7) => f a0 a1 a2 a3 a4 a5 a6 a7
theorem z_b8s {α0 α1 α2 α3 α4 α5 α6 α7 δ : Type} {x : Option (α0 × α1 × α2 × α3 × α4 × α5 × α6 × α7)} {f : α0 → α1 → α2 → α3 → α4 → α5 → α6 → α7 → Option δ} {r : δ} (h : z_b8 x f = some r) : ∃ a0 a1 a2 a3 a4 a5 a6 a7, x = some (a0, a1, a2, a3, a4, a5, a6, a7) ∧ f a0 a1 a2 a3 a4 a5 a6 a7 = some r := by
  cases x with
  | none => cases h
  | some a => exact ⟨a.1, a.2.1, a.2.2.1, a.2.2.2.1, a.2.2.2.2.1, a.2.2.2.2.2.1, a.2.2.2.2.2.2.1, a.2.2.2.2.2.2.2, rfl, h⟩
def z_b9 {α0 α1 α2 α3 α4 α5 α6 α7 α8 δ : Type} (x : Option (α0 × α1 × α2 × α3 × α4 × α5 × α6 × α7 × α8)) (f : α0 → α1 → α2 → α3 → α4 → α5 → α6 → α7 → α8 → Option δ) : Option δ := match x with
  | none => none
  | some (a0, a1, a2, a3, a4, a5, a6, a7, a8) => f a0 a1 a2 a3 a4 a5 a6 a7 a8
theorem z_b9s {α0 α1 α2 α3 α4 α5 α6 α7 α8 δ : Type} {x : Option (α0 × α1 × α2 × α3 × α4 × α5 × α6 × α7 × α8)} {f : α0 → α1 → α2 → α3 → α4 → α5 → α6 → α7 → α8 → Option δ} {r : δ} (h : z_b9 x f = some r) : ∃ a0 a1 a2 a3 a4 a5 a6 a7 a8, x = some (a0, a1, a2, a3, a4, a5, a6, a7, a8) ∧ f a0 a1 a2 a3 a4 a5 a6 a7 a8 = some r := by
  cases x with
  | none => cases h
  | some a => exact ⟨a.1, a.2.1, a.2.2.1, a.2.2.2.1, a.2.2.2.2.1, a.2.2.2.2.2.1, a.2.2.2.2.2.2.1, a.2.2.2.2.2.2.2.1, a.2.2.2.2.2.2.2.2, rfl, h⟩
def z_b10 {α0 α1 α2 α3 α4 α5 α6 α7 α8 α9 δ : Type} (x : Option (α0 × α1 × α2 × α3 × α4 × α5 × α6 × α7 × α8 × α9)) (f : α0 → α1 → α2 → α3 → α4 → α5 → α6 → α7 → α8 → α9 → Option δ) : Option δ := match x with
  | none => none
  | some (a0, a1, a2, a3, a4, a5, a6, a7, a8, a9) => f a0 a1 a2 a3 a4 a5 a6 a7 a8 a9
theorem z_b10s {α0 α1 α2 α3 α4 α5 α6 α7 α8 α9 δ : Type} {x : Option (α0 × α1 × α2 × α3 × α4 × α5 × α6 × α7 × α8 × α9)} {f : α0 → α1 → α2 → α3 → α4 → α5 → α6 → α7 → α8 → α9 → Option δ} {r : δ} (h : z_b10 x f = some r) : ∃ a0 a1 a2 a3 a4 a5 a6 a7 a8 a9, x = some (a0, a1, a2, a3, a4, a5, a6, a7, a8, a9) ∧ f a0 a1 a2 a3 a4 a5 a6 a7 a8 a9 = some r := by
  cases x with
  | none => cases h
  | some a => exact ⟨a.1, a.2.1, a.2.2.1, a.2.2.2.1, a.2.2.2.2.1, a.2.2.2.2.2.1, a.2.2.2.2.2.2.1, a.2.2.2.2.2.2.2.1, a.2.2.2.2.2.2.2.2.1, a.2.2.2.2.2.2.2.2.2, rfl, h⟩
def z_b11 {α0 α1 α2 α3 α4 α5 α6 α7 α8 α9 α10 δ : Type} (x : Option (α0 × α1 × α2 × α3 × α4 × α5 × α6 × α7 × α8 × α9 × α10)) (f : α0 → α1 → α2 → α3 → α4 → α5 → α6 → α7 → α8 → α9 → α10 → Option δ) : Option δ := match x with
  | none => none
  | some (a0, a1, a2, a3, a4, a5, a6, a7, a8, a9, a10) => f a0 a1 a2 a3 a4 a5 a6 a7 a8 a9 a10
theorem z_b11s {α0 α1 α2 α3 α4 α5 α6 α7 α8 α9 α10 δ : Type} {x : Option (α0 × α1 × α2 × α3 × α4 × α5 × α6 × α7 × α8 × α9 × α10)} {f : α0 → α1 → α2 → α3 → α4 → α5 → α6 → α7 → α8 → α9 → α10 → Option δ} {r : δ} (h : z_b11 x f = some r) : ∃ a0 a1 a2 a3 a4 a5 a6 a7 a8 a9 a10, x = some (a0, a1, a2, a3, a4, a5, a6, a7, a8, a9, a10) ∧ f a0 a1 a2 a3 a4 a5 a6 a7 a8 a9 a10 = some r := by
  cases x with
  | none => cases h
  | some a => exact ⟨a.1, a.2.1, a.2.2.1, a.2.2.2.1, a.2.2.2.2.1, a.2.2.2.2.2.1, a.2.2.2.2.2.2.1, a.2.2.2.2.2.2.2.1, a.2.2.2.2.2.2.2.2.1, a.2.2.2.2.2.2.2.2.2.1, a.2.2.2.2.2.2.2.2.2.2, rfl, h⟩
def z_b12 {α0 α1 α2 α3 α4 α5 α6 α7 α8 α9 α10 α11 δ : Type} (x : Option (α0 × α1 × α2 × α3 × α4 × α5 × α6 × α7 × α8 × α9 × α10 × α11)) (f : α0 → α1 → α2 → α3 → α4 → α5 → α6 → α7 → α8 → α9 → α10 → α11 → Option δ) : Option δ := match x with
  | none => none
  | some (a0, a1, a2, a3, a4, a5, a6, a7, a8, a9, a10, a11) => f a0 a1 a2 a3 a4 a5 a6 a7 a8 a9 a10 a11
theorem z_b12s {α0 α1 α2 α3 α4 α5 α6 α7 α8 α9 α10 α11 δ : Type} {x : Option (α0 × α1 × α2 × α3 × α4 × α5 × α6 × α7 × α8 × α9 × α10 × α11)} {f : α0 → α1 → α2 → α3 → α4 → α5 → α6 → α7 → α8 → α9 → α10 → α11 → Option δ} {r : δ} (h : z_b12 x f = some r) : ∃ a0 a1 a2 a3 a4 a5 a6 a7 a8 a9 a10 a11, x = some (a0, a1, a2, a3, a4, a5, a6, a7, a8, a9, a10, a11) ∧ f a0 a1 a2 a3 a4 a5 a6 a7 a8 a9 a10 a11 = some r := by
  cases x with
  | none => cases h
  | some a => exact ⟨a.1, a.2.1, a.2.2.1, a.2.2.2.1, a.2.2.2.2.1, a.2.2.2.2.2.1, a.2.2.2.2.2.2.1, a.2.2.2.2.2.2.2.1, a.2.2.2.2.2.2.2.2.1, a.2.2.2.2.2.2.2.2.2.1, a.2.2.2.2.2.2.2.2.2.2.1, a.2.2.2.2.2.2.2.2.2.2.2, rfl, h⟩
def z_b13 {α0 α1 α2 α3 α4 α5 α6 α7 α8 α9 α10 α11 α12 δ : Type} (x : Option (α0 × α1 × α2 × α3 × α4 × α5 × α6 × α7 × α8 × α9 × α10 × α11 × α12)) (f : α0 → α1 → α2 → α3 → α4 → α5 → α6 → α7 → α8 → α9 → α10 → α11 → α12 → Option δ) : Option δ := match x with
  | none => none
  | some (a0, a1, a2, a3, a4, a5, a6, a7, a8, a9, a10, a11, a12) => f a0 a1 a2 a3 a4 a5 a6 a7 a8 a9 a10 a11 a12
theorem z_b13s {α0 α1 α2 α3 α4 α5 α6 α7 α8 α9 α10 α11 α12 δ : Type} {x : Option (α0 × α1 × α2 × α3 × α4 × α5 × α6 × α7 × α8 × α9 × α10 × α11 × α12)} {f : α0 → α1 → α2 → α3 → α4 → α5 → α6 → α7 → α8 → α9 → α10 → α11 → α12 → Option δ} {r : δ} (h : z_b13 x f = some r) : ∃ a0 a1 a2 a3 a4 a5 a6 a7 a8 a9 a10 a11 a12, x = some (a0, a1, a2, a3, a4, a5, a6, a7, a8, a9, a10, a11, a12) ∧ f a0 a1 a2 a3 a4 a5 a6 a7 a8 a9 a10 a11 a12 = some r := by
  cases x with
  | none => cases h
  | some a => exact ⟨a.1, a.2.1, a.2.2.1, a.2.2.2.1, a.2.2.2.2.1, a.2.2.2.2.2.1, a.2.2.2.2.2.2.1, a.2.2.2.2.2.2.2.1, a.2.2.2.2.2.2.2.2.1, a.2.2.2.2.2.2.2.2.2.1, a.2.2.2.2.2.2.2.2.2.2.1, a.2.2.2.2.2.2.2.2.2.2.2.1, a.2.2.2.2.2.2.2.2.2.2.2.2, rfl, h⟩
def z_b14 {α0 α1 α2 α3 α4 α5 α6 α7 α8 α9 α10 α11 α12 α13 δ : Type} (x : Option (α0 × α1 × α2 × α3 × α4 × α5 × α6 × α7 × α8 × α9 × α10 × α11 × α12 × α13)) (f : α0 → α1 → α2 → α3 → α4 → α5 → α6 → α7 → α8 → α9 → α10 → α11 → α12 → α13 → Option δ) : Option δ := match x with
  | none => none
  | some (a0, a1, a2, a3, a4, a5, a6, a7, a8, a9, a10, a11, a12, a13) => f a0 a1 a2 a3 a4 a5 a6 a7 a8 a9 a10 a11 a12 a13
theorem z_b14s {α0 α1 α2 α3 α4 α5 α6 α7 α8 α9 α10 α11 α12 α13 δ : Type} {x : Option (α0 × α1 × α2 × α3 × α4 × α5 × α6 × α7 × α8 × α9 × α10 × α11 × α12 × α13)} {f : α0 → α1 → α2 → α3 → α4 → α5 → α6 → α7 → α8 → α9 → α10 → α11 → α12 → α13 → Option δ} {r : δ} (h : z_b14 x f = some r) : ∃ a0 a1 a2 a3 a4 a5 a6 a7 a8 a9 a10 a11 a12 a13, x = some (a0, a1, a2, a3, a4, a5, a6, a7, a8, a9, a10, a11, a12, a13) ∧ f a0 a1 a2 a3 a4 a5 a6 a7 a8 a9 a10 a11 a12 a13 = some r := by
  cases x with
  | none => cases h
  | some a => exact ⟨a.1, a.2.1, a.2.2.1, a.2.2.2.1, a.2.2.2.2.1, a.2.2.2.2.2.1, a.2.2.2.2.2.2.1, a.2.2.2.2.2.2.2.1, a.2.2.2.2.2.2.2.2.1, a.2.2.2.2.2.2.2.2.2.1, a.2.2.2.2.2.2.2.2.2.2.1, a.2.2.2.2.2.2.2.2.2.2.2.1, a.2.2.2.2.2.2.2.2.2.2.2.2.1, a.2.2.2.2.2.2.2.2.2.2.2.2.2, rfl, h⟩
def z_b15 {α0 α1 α2 α3 α4 α5 α6 α7 α8 α9 α10 α11 α12 α13 α14 δ : Type} (x : Option (α0 × α1 × α2 × α3 × α4 × α5 × α6 × α7 × α8 × α9 × α10 × α11 × α12 × α13 × α14)) (f : α0 → α1 → α2 → α3 → α4 → α5 → α6 → α7 → α8 → α9 → α10 → α11 → α12 → α13 → α14 → Option δ) : Option δ := match x with
  | none => none
  | some (a0, a1, a2, a3, a4, a5, a6, a7, a8, a9, a10, a11, a12, a13, a14) => f a0 a1 a2 a3 a4 a5 a6 a7 a8 a9 a10 a11 a12 a13 a14
theorem z_b15s {α0 α1 α2 α3 α4 α5 α6 α7 α8 α9 α10 α11 α12 α13 α14 δ : Type} {x : Option (α0 × α1 × α2 × α3 × α4 × α5 × α6 × α7 × α8 × α9 × α10 × α11 × α12 × α13 × α14)} {f : α0 → α1 → α2 → α3 → α4 → α5 → α6 → α7 → α8 → α9 → α10 → α11 → α12 → α13 → α14 → Option δ} {r : δ} (h : z_b15 x f = some r) : ∃ a0 a1 a2 a3 a4 a5 a6 a7 a8 a9 a10 a11 a12 a13 a14, x = some (a0, a1, a2, a3, a4, a5, a6, a7, a8, a9, a10, a11, a12, a13, a14) ∧ f a0 a1 a2 a3 a4 a5 a6 a7 a8 a9 a10 a11 a12 a13 a14 = some r := by
  cases x with
  | none => cases h
  | some a => exact ⟨a.1, a.2.1, a.2.2.1, a.2.2.2.1, a.2.2.2.2.1, a.2.2.2.2.2.1, a.2.2.2.2.2.2.1, a.2.2.2.2.2.2.2.1, a.2.2.2.2.2.2.2.2.1, a.2.2.2.2.2.2.2.2.2.1, a.2.2.2.2.2.2.2.2.2.2.1, a.2.2.2.2.2.2.2.2.2.2.2.1, a.2.2.2.2.2.2.2.2.2.2.2.2.1, a.2.2.2.2.2.2.2.2.2.2.2.2.2.1, a.2.2.2.2.2.2.2.2.2.2.2.2.2.2, rfl, h⟩
def z_b16 {α0 α1 α2 α3 α4 α5 α6 α7 α8 α9 α10 α11 α12 α13 α14 α15 δ : Type} (x : Option (α0 × α1 × α2 × α3 × α4 × α5 × α6 × α7 × α8 × α9 × α10 × α11 × α12 × α13 × α14 × α15)) (f : α0 → α1 → α2 → α3 → α4 → α5 → α6 → α7 → α8 → α9 → α10 → α11 → α12 → α13 → α14 → α15 → Option δ) : Option δ := match x with
  | none => none
  | some (a0, a1, a2, a3, a4, a5, a6, a7, a8, a9, a10, a11, a12, a13, a14, a15) => f a0 a1 a2 a3 a4 a5 a6 a7 a8 a9 a10 a11 a12 a13 a14 a15
theorem z_b16s {α0 α1 α2 α3 α4 α5 α6 α7 α8 α9 α10 α11 α12 α13 α14 α15 δ : Type} {x : Option (α0 × α1 × α2 × α3 × α4 × α5 × α6 × α7 × α8 × α9 × α10 × α11 × α12 × α13 × α14 × α15)} {f : α0 → α1 → α2 → α3 → α4 → α5 → α6 → α7 → α8 → α9 → α10 → α11 → α12 → α13 → α14 → α15 → Option δ} {r : δ} (h : z_b16 x f = some r) : ∃ a0 a1 a2 a3 a4 a5 a6 a7 a8 a9 a10 a11 a12 a13 a14 a15, x = some (a0, a1, a2, a3, a4, a5, a6, a7, a8, a9, a10, a11, a12, a13, a14, a15) ∧ f a0 a1 a2 a3 a4 a5 a6 a7 a8 a9 a10 a11 a12 a13 a14 a15 = some r := by
  cases x with
  | none => cases h
  | some a => exact ⟨a.1, a.2.1, a.2.2.1, a.2.2.2.1, a.2.2.2.2.1, a.2.2.2.2.2.1, a.2.2.2.2.2.2.1, a.2.2.2.2.2.2.2.1, a.2.2.2.2.2.2.2.2.1, a.2.2.2.2.2.2.2.2.2.1, a.2.2.2.2.2.2.2.2.2.2.1, a.2.2.2.2.2.2.2.2.2.2.2.1, a.2.2.2.2.2.2.2.2.2.2.2.2.1, a.2.2.2.2.2.2.2.2.2.2.2.2.2.1, a.2.2.2.2.2.2.2.2.2.2.2.2.2.2.1, a.2.2.2.2.2.2.2.2.2.2.2.2.2.2.2, rfl, h⟩
def z_b17 {α0 α1 α2 α3 α4 α5 α6 α7 α8 α9 α10 α11 α12 α13 α14 α15 α16 δ : Type} (x : Option (α0 × α1 × α2 × α3 × α4 × α5 × α6 × α7 × α8 × α9 × α10 × α11 × α12 × α13 × α14 × α15 × α16)) (f : α0 → α1 → α2 → α3 → α4 → α5 → α6 → α7 → α8 → α9 → α10 → α11 → α12 → α13 → α14 → α15 → α16 → Option δ) : Option δ := match x with
  | none => none
  | some (a0, a1, a2, a3, a4, a5, a6, a7, a8, a9, a10, a11, a12, a13, a14, a15, a16) => f a0 a1 a2 a3 a4 a5 a6 a7 a8 a9 a10 a11 a12 a13 a14 a15 a16
theorem z_b17s {α0 α1 α2 α3 α4 α5 α6 α7 α8 α9 α10 α11 α12 α13 α14 α15 α16 δ : Type} {x : Option (α0 × α1 × α2 × α3 × α4 × α5 × α6 × α7 × α8 × α9 × α10 × α11 × α12 × α13 × α14 × α15 × α16)} {f : α0 → α1 → α2 → α3 → α4 → α5 → α6 → α7 → α8 → α9 → α10 → α11 → α12 → α13 → α14 → α15 → α16 → Option δ} {r : δ} (h : z_b17 x f = some r) : ∃ a0 a1 a2 a3 a4 a5 a6 a7 a8 a9 a10 a11 a12 a13 a14 a15 a16, x = some (a0, a1, a2, a3, a4, a5, a6, a7, a8, a9, a10, a11, a12, a13, a14, a15, a16) ∧ f a0 a1 a2 a3 a4 a5 a6 a7 a8 a9 a10 a11 a12 a13 a14 a15 a16 = some r := by
  cases x with
  | none => cases h
  | some a => exact ⟨a.1, a.2.1, a.2.2.1, a.2.2.2.1, a.2.2.2.2.1, a.2.2.2.2.2.1, a.2.2.2.2.2.2.1, a.2.2.2.2.2.2.2.1, a.2.2.2.2.2.2.2.2.1, a.2.2.2.2.2.2.2.2.2.1, a.2.2.2.2.2.2.2.2.2.2.1, a.2.2.2.2.2.2.2.2.2.2.2.1, a.2.2.2.2.2.2.2.2.2.2.2.2.1, a.2.2.2.2.2.2.2.2.2.2.2.2.2.1, a.2.2.2.2.2.2.2.2.2.2.2.2.2.2.1, a.2.2.2.2.2.2.2.2.2.2.2.2.2.2.2.1, a.2.2.2.2.2.2.2.2.2.2.2.2.2.2.2.2, rfl, h⟩
def z_b18 {α0 α1 α2 α3 α4 α5 α6 α7 α8 α9 α10 α11 α12 α13 α14 α15 α16 α17 δ : Type} (x : Option (α0 × α1 × α2 × α3 × α4 × α5 × α6 × α7 × α8 × α9 × α10 × α11 × α12 × α13 × α14 × α15 × α16 × α17)) (f : α0 → α1 → α2 → α3 → α4 → α5 → α6 → α7 → α8 → α9 → α10 → α11 → α12 → α13 → α14 → α15 → α16 → α17 → Option δ) : Option δ := match x with
  | none => none
  | some (a0, a1, a2, a3, a4, a5, a6, a7, a8, a9, a10, a11, a12, a13, a14, a15, a16, a17) => f a0 a1 a2 a3 a4 a5 a6 a7 a8 a9 a10 a11 a12 a13 a14 a15 a16 a17
theorem z_b18s {α0 α1 α2 α3 α4 α5 α6 α7 α8 α9 α10 α11 α12 α13 α14 α15 α16 α17 δ : Type} {x : Option (α0 × α1 × α2 × α3 × α4 × α5 × α6 × α7 × α8 × α9 × α10 × α11 × α12 × α13 × α14 × α15 × α16 × α17)} {f : α0 → α1 → α2 → α3 → α4 → α5 → α6 → α7 → α8 → α9 → α10 → α11 → α12 → α13 → α14 → α15 → α16 → α17 → Option δ} {r : δ} (h : z_b18 x f = some r) : ∃ a0 a1 a2 a3 a4 a5 a6 a7 a8 a9 a10 a11 a12 a13 a14 a15 a16 a17, x = some (a0, a1, a2, a3, a4, a5, a6, a7, a8, a9, a10, a11, a12, a13, a14, a15, a16, a17) ∧ f a0 a1 a2 a3 a4 a5 a6 a7 a8 a9 a10 a11 a12 a13 a14 a15 a16 a17 = some r := by
  cases x with
  | none => cases h
  | some a => exact ⟨a.1, a.2.1, a.2.2.1, a.2.2.2.1, a.2.2.2.2.1, a.2.2.2.2.2.1, a.2.2.2.2.2.2.1, a.2.2.2.2.2.2.2.1, a.2.2.2.2.2.2.2.2.1, a.2.2.2.2.2.2.2.2.2.1, a.2.2.2.2.2.2.2.2.2.2.1, a.2.2.2.2.2.2.2.2.2.2.2.1, a.2.2.2.2.2.2.2.2.2.2.2.2.1, a.2.2.2.2.2.2.2.2.2.2.2.2.2.1, a.2.2.2.2.2.2.2.2.2.2.2.2.2.2.1, a.2.2.2.2.2.2.2.2.2.2.2.2.2.2.2.1, a.2.2.2.2.2.2.2.2.2.2.2.2.2.2.2.2.1, a.2.2.2.2.2.2.2.2.2.2.2.2.2.2.2.2.2, rfl, h⟩
def z_b19 {α0 α1 α2 α3 α4 α5 α6 α7 α8 α9 α10 α11 α12 α13 α14 α15 α16 α17 α18 δ : Type} (x : Option (α0 × α1 × α2 × α3 × α4 × α5 × α6 × α7 × α8 × α9 × α10 × α11 × α12 × α13 × α14 × α15 × α16 × α17 × α18)) (f : α0 → α1 → α2 → α3 → α4 → α5 → α6 → α7 → α8 → α9 → α10 → α11 → α12 → α13 → α14 → α15 → α16 → α17 → α18 → Option δ) : Option δ := match x with
  | none => none
  | some (a0, a1, a2, a3, a4, a5, a6, a7, a8, a9, a10, a11, a12, a13, a14, a15, a16, a17, a18) => f a0 a1 a2 a3 a4 a5 a6 a7 a8 a9 a10 a11 a12 a13 a14 a15 a16 a17 a18
theorem z_b19s {α0 α1 α2 α3 α4 α5 α6 α7 α8 α9 α10 α11 α12 α13 α14 α15 α16 α17 α18 δ : Type} {x : Option (α0 × α1 × α2 × α3 × α4 × α5 × α6 × α7 × α8 × α9 × α10 × α11 × α12 × α13 × α14 × α15 × α16 × α17 × α18)} {f : α0 → α1 → α2 → α3 → α4 → α5 → α6 → α7 → α8 → α9 → α10 → α11 → α12 → α13 → α14 → α15 → α16 → α17 → α18 → Option δ} {r : δ} (h : z_b19 x f = some r) : ∃ a0 a1 a2 a3 a4 a5 a6 a7 a8 a9 a10 a11 a12 a13 a14 a15 a16 a17 a18, x = some (a0, a1, a2, a3, a4, a5, a6, a7, a8, a9, a10, a11, a12, a13, a14, a15, a16, a17, a18) ∧ f a0 a1 a2 a3 a4 a5 a6 a7 a8 a9 a10 a11 a12 a13 a14 a15 a16 a17 a18 = some r := by
  cases x with
  | none => cases h
  | some a => exact ⟨a.1, a.2.1, a.2.2.1, a.2.2.2.1, a.2.2.2.2.1, a.2.2.2.2.2.1, a.2.2.2.2.2.2.1, a.2.2.2.2.2.2.2.1, a.2.2.2.2.2.2.2.2.1, a.2.2.2.2.2.2.2.2.2.1, a.2.2.2.2.2.2.2.2.2.2.1, a.2.2.2.2.2.2.2.2.2.2.2.1, a.2.2.2.2.2.2.2.2.2.2.2.2.1, a.2.2.2.2.2.2.2.2.2.2.2.2.2.1, a.2.2.2.2.2.2.2.2.2.2.2.2.2.2.1, a.2.2.2.2.2.2.2.2.2.2.2.2.2.2.2.1, a.2.2.2.2.2.2.2.2.2.2.2.2.2.2.2.2.1, a.2.2.2.2.2.2.2.2.2.2.2.2.2.2.2.2.2.1, a.2.2.2.2.2.2.2.2.2.2.2.2.2.2.2.2.2.2, rfl, h⟩
def z_b20 {α0 α1 α2 α3 α4 α5 α6 α7 α8 α9 α10 α11 α12 α13 α14 α15 α16 α17 α18 α19 δ : Type} (x : Option (α0 × α1 × α2 × α3 × α4 × α5 × α6 × α7 × α8 × α9 × α10 × α11 × α12 × α13 × α14 × α15 × α16 × α17 × α18 × α19)) (f : α0 → α1 → α2 → α3 → α4 → α5 → α6 → α7 → α8 → α9 → α10 → α11 → α12 → α13 → α14 → α15 → α16 → α17 → α18 → α19 → Option δ) : Option δ := match x with
  | none => none
  | some (a0, a1, a2, a3, a4, a5, a6, a7, a8, a9, a10, a11, a12, a13, a14, a15, a16, a17, a18, a19) => f a0 a1 a2 a3 a4 a5 a6 a7 a8 a9 a10 a11 a12 a13 a14 a15 a16 a17 a18 a19
theorem z_b20s {α0 α1 α2 α3 α4 α5 α6 α7 α8 α9 α10 α11 α12 α13 α14 α15 α16 α17 α18 α19 δ : Type} {x : Option (α0 × α1 × α2 × α3 × α4 × α5 × α6 × α7 × α8 × α9 × α10 × α11 × α12 × α13 × α14 × α15 × α16 × α17 × α18 × α19)} {f : α0 → α1 → α2 → α3 → α4 → α5 → α6 → α7 → α8 → α9 → α10 → α11 → α12 → α13 → α14 → α15 → α16 → α17 → α18 → α19 → Option δ} {r : δ} (h : z_b20 x f = some r) : ∃ a0 a1 a2 a3 a4 a5 a6 a7 a8 a9 a10 a11 a12 a13 a14 a15 a16 a17 a18 a19, x = some (a0, a1, a2, a3, a4, a5, a6, a7, a8, a9, a10, a11, a12, a13, a14, a15, a16, a17, a18, a19) ∧ f a0 a1 a2 a3 a4 a5 a6 a7 a8 a9 a10 a11 a12 a13 a14 a15 a16 a17 a18 a19 = some r := by
  cases x with
  | none => cases h
  | some a => exact ⟨a.1, a.2.1, a.2.2.1, a.2.2.2.1, a.2.2.2.2.1, a.2.2.2.2.2.1, a.2.2.2.2.2.2.1, a.2.2.2.2.2.2.2.1, a.2.2.2.2.2.2.2.2.1, a.2.2.2.2.2.2.2.2.2.1, a.2.2.2.2.2.2.2.2.2.2.1, a.2.2.2.2.2.2.2.2.2.2.2.1, a.2.2.2.2.2.2.2.2.2.2.2.2.1, a.2.2.2.2.2.2.2.2.2.2.2.2.2.1, a.2.2.2.2.2.2.2.2.2.2.2.2.2.2.1, a.2.2.2.2.2.2.2.2.2.2.2.2.2.2.2.1, a.2.2.2.2.2.2.2.2.2.2.2.2.2.2.2.2.1, a.2.2.2.2.2.2.2.2.2.2.2.2.2.2.2.2.2.1, a.2.2.2.2.2.2.2.2.2.2.2.2.2.2.2.2.2.2.1, a.2.2.2.2.2.2.2.2.2.2.2.2.2.2.2.2.2.2.2, rfl, h⟩
def z_b21 {α0 α1 α2 α3 α4 α5 α6 α7 α8 α9 α10 α11 α12 α13 α14 α15 α16 α17 α18 α19 α20 δ : Type} (x : Option (α0 × α1 × α2 × α3 × α4 × α5 × α6 × α7 × α8 × α9 × α10 × α11 × α12 × α13 × α14 × α15 × α16 × α17 × α18 × α19 × α20)) (f : α0 → α1 → α2 → α3 → α4 → α5 → α6 → α7 → α8 → α9 → α10 → α11 → α12 → α13 → α14 → α15 → α16 → α17 → α18 → α19 → α20 → Option δ) : Option δ := match x with
  | none => none
  | some (a0, a1, a2, a3, a4, a5, a6, a7, a8, a9, a10, a11, a12, a13, a14, a15, a16, a17, a18, a19, a20) => f a0 a1 a2 a3 a4 a5 a6 a7 a8 a9 a10 a11 a12 a13 a14 a15 a16 a17 a18 a19 a20
theorem z_b21s {α0 α1 α2 α3 α4 α5 α6 α7 α8 α9 α10 α11 α12 α13 α14 α15 α16 α17 α18 α19 α20 δ : Type} {x : Option (α0 × α1 × α2 × α3 × α4 × α5 × α6 × α7 × α8 × α9 × α10 × α11 × α12 × α13 × α14 × α15 × α16 × α17 × α18 × α19 × α20)} {f : α0 → α1 → α2 → α3 → α4 → α5 → α6 → α7 → α8 → α9 → α10 → α11 → α12 → α13 → α14 → α15 → α16 → α17 → α18 → α19 → α20 → Option δ} {r : δ} (h : z_b21 x f = some r) : ∃ a0 a1 a2 a3 a4 a5 a6 a7 a8 a9 a10 a11 a12 a13 a14 a15 a16 a17 a18 a19 a20, x = some (a0, a1, a2, a3, a4, a5, a6, a7, a8, a9, a10, a11, a12, a13, a14, a15, a16, a17, a18, a19, a20) ∧ f a0 a1 a2 a3 a4 a5 a6 a7 a8 a9 a10 a11 a12 a13 a14 a15 a16 a17 a18 a19 a20 = some r := by
  cases x with
  | none => cases h
  | some a => exact ⟨a.1, a.2.1, a.2.2.1, a.2.2.2.1, a.2.2.2.2.1, a.2.2.2.2.2.1, a.2.2.2.2.2.2.1, a.2.2.2.2.2.2.2.1, a.2.2.2.2.2.2.2.2.1, a.2.2.2.2.2.2.2.2.2.1, a.2.2.2.2.2.2.2.2.2.2.1, a.2.2.2.2.2.2.2.2.2.2.2.1, a.2.2.2.2.2.2.2.2.2.2.2.2.1, a.2.2.2.2.2.2.2.2.2.2.2.2.2.1, a.2.2.2.2.2.2.2.2.2.2.2.2.2.2.1, a.2.2.2.2.2.2.2.2.2.2.2.2.2.2.2.1, a.2.2.2.2.2.2.2.2.2.2.2.2.2.2.2.2.1, a.2.2.2.2.2.2.2.2.2.2.2.2.2.2.2.2.2.1, a.2.2.2.2.2.2.2.2.2.2.2.2.2.2.2.2.2.2.1, a.2.2.2.2.2.2.2.2.2.2.2.2.2.2.2.2.2.2.2.1, a.2.2.2.2.2.2.2.2.2.2.2.2.2.2.2.2.2.2.2.2, rfl, h⟩
def z_b22 {α0 α1 α2 α3 α4 α5 α6 α7 α8 α9 α10 α11 α12 α13 α14 α15 α16 α17 α18 α19 α20 α21 δ : Type} (x : Option (α0 × α1 × α2 × α3 × α4 × α5 × α6 × α7 × α8 × α9 × α10 × α11 × α12 × α13 × α14 × α15 × α16 × α17 × α18 × α19 × α20 × α21)) (f : α0 → α1 → α2 → α3 → α4 → α5 → α6 → α7 → α8 → α9 → α10 → α11 → α12 → α13 → α14 → α15 → α16 → α17 → α18 → α19 → α20 → α21 → Option δ) : Option δ := match x with
  | none => none
  | some (a0, a1, a2, a3, a4, a5, a6, a7, a8, a9, a10, a11, a12, a13, a14, a15, a16, a17, a18, a19, a20, a21) => f a0 a1 a2 a3 a4 a5 a6 a7 a8 a9 a10 a11 a12 a13 a14 a15 a16 a17 a18 a19 a20 a21
theorem z_b22s {α0 α1 α2 α3 α4 α5 α6 α7 α8 α9 α10 α11 α12 α13 α14 α15 α16 α17 α18 α19 α20 α21 δ : Type} {x : Option (α0 × α1 × α2 × α3 × α4 × α5 × α6 × α7 × α8 × α9 × α10 × α11 × α12 × α13 × α14 × α15 × α16 × α17 × α18 × α19 × α20 × α21)} {f : α0 → α1 → α2 → α3 → α4 → α5 → α6 → α7 → α8 → α9 → α10 → α11 → α12 → α13 → α14 → α15 → α16 → α17 → α18 → α19 → α20 → α21 → Option δ} {r : δ} (h : z_b22 x f = some r) : ∃ a0 a1 a2 a3 a4 a5 a6 a7 a8 a9 a10 a11 a12 a13 a14 a15 a16 a17 a18 a19 a20 a21, x = some (a0, a1, a2, a3, a4, a5, a6, a7, a8, a9, a10, a11, a12, a13, a14, a15, a16, a17, a18, a19, a20, a21) ∧ f a0 a1 a2 a3 a4 a5 a6 a7 a8 a9 a10 a11 a12 a13 a14 a15 a16 a17 a18 a19 a20 a21 = some r := by
  cases x with
  | none => cases h
  | some a => exact ⟨a.1, a.2.1, a.2.2.1, a.2.2.2.1, a.2.2.2.2.1, a.2.2.2.2.2.1, a.2.2.2.2.2.2.1, a.2.2.2.2.2.2.2.1, a.2.2.2.2.2.2.2.2.1, a.2.2.2.2.2.2.2.2.2.1, a.2.2.2.2.2.2.2.2.2.2.1, a.2.2.2.2.2.2.2.2.2.2.2.1, a.2.2.2.2.2.2.2.2.2.2.2.2.1, a.2.2.2.2.2.2.2.2.2.2.2.2.2.1, a.2.2.2.2.2.2.2.2.2.2.2.2.2.2.1, a.2.2.2.2.2.2.2.2.2.2.2.2.2.2.2.1, a.2.2.2.2.2.2.2.2.2.2.2.2.2.2.2.2.1, a.2.2.2.2.2.2.2.2.2.2.2.2.2.2.2.2.2.1, a.2.2.2.2.2.2.2.2.2.2.2.2.2.2.2.2.2.2.1, a.2.2.2.2.2.2.2.2.2.2.2.2.2.2.2.2.2.2.2.1, a.2.2.2.2.2.2.2.2.2.2.2.2.2.2.2.2.2.2.2.2.1, a.2.2.2.2.2.2.2.2.2.2.2.2.2.2.2.2.2.2.2.2.2, rfl, h⟩
def z_b23 {α0 α1 α2 α3 α4 α5 α6 α7 α8 α9 α10 α11 α12 α13 α14 α15 α16 α17 α18 α19 α20 α21 α22 δ : Type} (x : Option (α0 × α1 × α2 × α3 × α4 × α5 × α6 × α7 × α8 × α9 × α10 × α11 × α12 × α13 × α14 × α15 × α16 × α17 × α18 × α19 × α20 × α21 × α22)) (f : α0 → α1 → α2 → α3 → α4 → α5 → α6 → α7 → α8 → α9 → α10 → α11 → α12 → α13 → α14 → α15 → α16 → α17 → α18 → α19 → α20 → α21 → α22 → Option δ) : Option δ := match x with
  | none => none
  | some (a0, a1, a2, a3, a4, a5, a6, a7, a8, a9, a10, a11, a12, a13, a14, a15, a16, a17, a18, a19, a20, a21, a22) => f a0 a1 a2 a3 a4 a5 a6 a7 a8 a9 a10 a11 a12 a13 a14 a15 a16 a17 a18 a19 a20 a21 a22
theorem z_b23s {α0 α1 α2 α3 α4 α5 α6 α7 α8 α9 α10 α11 α12 α13 α14 α15 α16 α17 α18 α19 α20 α21 α22 δ : Type} {x : Option (α0 × α1 × α2 × α3 × α4 × α5 × α6 × α7 × α8 × α9 × α10 × α11 × α12 × α13 × α14 × α15 × α16 × α17 × α18 × α19 × α20 × α21 × α22)} {f : α0 → α1 → α2 → α3 → α4 → α5 → α6 → α7 → α8 → α9 → α10 → α11 → α12 → α13 → α14 → α15 → α16 → α17 → α18 → α19 → α20 → α21 → α22 → Option δ} {r : δ} (h : z_b23 x f = some r) : ∃ a0 a1 a2 a3 a4 a5 a6 a7 a8 a9 a10 a11 a12 a13 a14 a15 a16 a17 a18 a19 a20 a21 a22, x = some (a0, a1, a2, a3, a4, a5, a6, a7, a8, a9, a10, a11, a12, a13, a14, a15, a16, a17, a18, a19, a20, a21, a22) ∧ f a0 a1 a2 a3 a4 a5 a6 a7 a8 a9 a10 a11 a12 a13 a14 a15 a16 a17 a18 a19 a20 a21 a22 = some r := by
  cases x with
  | none => cases h
  | some a => exact ⟨a.1, a.2.1, a.2.2.1, a.2.2.2.1, a.2.2.2.2.1, a.2.2.2.2.2.1, a.2.2.2.2.2.2.1, a.2.2.2.2.2.2.2.1, a.2.2.2.2.2.2.2.2.1, a.2.2.2.2.2.2.2.2.2.1, a.2.2.2.2.2.2.2.2.2.2.1, a.2.2.2.2.2.2.2.2.2.2.2.1, a.2.2.2.2.2.2.2.2.2.2.2.2.1, a.2.2.2.2.2.2.2.2.2.2.2.2.2.1, a.2.2.2.2.2.2.2.2.2.2.2.2.2.2.1, a.2.2.2.2.2.2.2.2.2.2.2.2.2.2.2.1, a.2.2.2.2.2.2.2.2.2.2.2.2.2.2.2.2.1, a.2.2.2.2.2.2.2.2.2.2.2.2.2.2.2.2.2.1, a.2.2.2.2.2.2.2.2.2.2.2.2.2.2.2.2.2.2.1, a.2.2.2.2.2.2.2.2.2.2.2.2.2.2.2.2.2.2.2.1, a.2.2.2.2.2.2.2.2.2.2.2.2.2.2.2.2.2.2.2.2.1, a.2.2.2.2.2.2.2.2.2.2.2.2.2.2.2.2.2.2.2.2.2.1, a.2.2.2.2.2.2.2.2.2.2.2.2.2.2.2.2.2.2.2.2.2.2, rfl, h⟩
def z_b24 {α0 α1 α2 α3 α4 α5 α6 α7 α8 α9 α10 α11 α12 α13 α14 α15 α16 α17 α18 α19 α20 α21 α22 α23 δ : Type} (x : Option (α0 × α1 × α2 × α3 × α4 × α5 × α6 × α7 × α8 × α9 × α10 × α11 × α12 × α13 × α14 × α15 × α16 × α17 × α18 × α19 × α20 × α21 × α22 × α23)) (f : α0 → α1 → α2 → α3 → α4 → α5 → α6 → α7 → α8 → α9 → α10 → α11 → α12 → α13 → α14 → α15 → α16 → α17 → α18 → α19 → α20 → α21 → α22 → α23 → Option δ) : Option δ := match x with
  | none => none
  | some (a0, a1, a2, a3, a4, a5, a6, a7, a8, a9, a10, a11, a12, a13, a14, a15, a16, a17, a18, a19, a20, a21, a22, a23) => f a0 a1 a2 a3 a4 a5 a6 a7 a8 a9 a10 a11 a12 a13 a14 a15 a16 a17 a18 a19 a20 a21 a22 a23
theorem z_b24s {α0 α1 α2 α3 α4 α5 α6 α7 α8 α9 α10 α11 α12 α13 α14 α15 α16 α17 α18 α19 α20 α21 α22 α23 δ : Type} {x : Option (α0 × α1 × α2 × α3 × α4 × α5 × α6 × α7 × α8 × α9 × α10 × α11 × α12 × α13 × α14 × α15 × α16 × α17 × α18 × α19 × α20 × α21 × α22 × α23)} {f : α0 → α1 → α2 → α3 → α4 → α5 → α6 → α7 → α8 → α9 → α10 → α11 → α12 → α13 → α14 → α15 → α16 → α17 → α18 → α19 → α20 → α21 → α22 → α23 → Option δ} {r : δ} (h : z_b24 x f = some r) : ∃ a0 a1 a2 a3 a4 a5 a6 a7 a8 a9 a10 a11 a12 a13 a14 a15 a16 a17 a18 a19 a20 a21 a22 a23, x = some (a0, a1, a2, a3, a4, a5, a6, a7, a8, a9, a10, a11, a12, a13, a14, a15, a16, a17, a18, a19, a20, a21, a22, a23) ∧ f a0 a1 a2 a3 a4 a5 a6 a7 a8 a9 a10 a11 a12 a13 a14 a15 a16 a17 a18 a19 a20 a21 a22 a23 = some r := by
  cases x with
  | none => cases h
  | some a => exact ⟨a.1, a.2.1, a.2.2.1, a.2.2.2.1, a.2.2.2.2.1, a.2.2.2.2.2.1, a.2.2.2.2.2.2.1, a.2.2.2.2.2.2.2.1, a.2.2.2.2.2.2.2.2.1, a.2.2.2.2.2.2.2.2.2.1, a.2.2.2.2.2.2.2.2.2.2.1, a.2.2.2.2.2.2.2.2.2.2.2.1, a.2.2.2.2.2.2.2.2.2.2.2.2.1, a.2.2.2.2.2.2.2.2.2.2.2.2.2.1, a.2.2.2.2.2.2.2.2.2.2.2.2.2.2.1, a.2.2.2.2.2.2.2.2.2.2.2.2.2.2.2.1, a.2.2.2.2.2.2.2.2.2.2.2.2.2.2.2.2.1, a.2.2.2.2.2.2.2.2.2.2.2.2.2.2.2.2.2.1, a.2.2.2.2.2.2.2.2.2.2.2.2.2.2.2.2.2.2.1, a.2.2.2.2.2.2.2.2.2.2.2.2.2.2.2.2.2.2.2.1, a.2.2.2.2.2.2.2.2.2.2.2.2.2.2.2.2.2.2.2.2.1, a.2.2.2.2.2.2.2.2.2.2.2.2.2.2.2.2.2.2.2.2.2.1, a.2.2.2.2.2.2.2.2.2.2.2.2.2.2.2.2.2.2.2.2.2.2.1, a.2.2.2.2.2.2.2.2.2.2.2.2.2.2.2.2.2.2.2.2.2.2.2, rfl, h⟩
def z_min (x y : Int) : Int := if y < x then y else x
def z_max (x y : Int) : Int := if x < y then y else x
theorem z_n_min {x y : Int} (hx : z_n x) (hy : z_n y) : z_n (z_min x y) := by
  unfold z_min
  split
  · exact hy
  · exact hx
theorem z_n_max {x y : Int} (hx : z_n x) (hy : z_n y) : z_n (z_max x y) := by
  unfold z_max
  split
  · exact hy
  · exact hx
theorem z_mmin {X : z_X} {l : Launch} {G : z_G} {own : String} {cc : ByteArray} {nL : Nat} {R : Room} {ce sl : Nat} {ws : va_W} {L : List (Nat × Value)} {pc : Nat} {st : List Value} {x y : Int} {idx : Nat} (C : z_C X l G own cc nL R) (hx1 : z_n x) (hy1 : z_n y) (lk : Cond.methodLink own idx Lib.Math.min.name ∈ z_W) (d : decode cc pc = .ok (.invokestatic idx, 3)) (hR : 1 ≤ R.frames ∧ (st.map fun v => v.category).sum + 13 ≤ R.locals) (hce : ce ≤ R.cells ∧ sl ≤ R.slots) (kk : z_J X ce sl ws L (pc + 3) (z_i (z_min x y) :: st)) : z_J X ce sl ws L pc (z_i y :: z_i x :: st) := by
  obtain ⟨p, l', e, R', s, m, args, below, meth, c, G', A, H0, Q, n⟩ := X
  obtain ⟨hx, hb, hml, hown, hts, hK, hA, rfl, rfl, rfl, rfl⟩ := C
  intro H locs ls hP hD hS hl
  refine va_mmin hx hb (hml.trans hl.1.symm) hown (hts _ lk) (hts _ z_wmin1) (hts _ z_wmin2) (hts _ z_wmin3) hR.1 hR.2 hce.1 hce.2 d ?_
  have e : (if Int32.ofInt y < Int32.ofInt x then Int32.ofInt y else Int32.ofInt x) = Int32.ofInt (z_min x y) := by
    unfold z_min
    by_cases h : y < x
    · rw [if_pos h, if_pos ((z_lti hy1 hx1).mpr h)]
    · rw [if_neg h, if_neg (fun q => h ((z_lti hy1 hx1).mp q))]
  rw [e]
  exact kk H locs ls hP hD hS hl
theorem z_mmax {X : z_X} {l : Launch} {G : z_G} {own : String} {cc : ByteArray} {nL : Nat} {R : Room} {ce sl : Nat} {ws : va_W} {L : List (Nat × Value)} {pc : Nat} {st : List Value} {x y : Int} {idx : Nat} (C : z_C X l G own cc nL R) (hx1 : z_n x) (hy1 : z_n y) (lk : Cond.methodLink own idx Lib.Math.max.name ∈ z_W) (d : decode cc pc = .ok (.invokestatic idx, 3)) (hR : 1 ≤ R.frames ∧ (st.map fun v => v.category).sum + 13 ≤ R.locals) (hce : ce ≤ R.cells ∧ sl ≤ R.slots) (kk : z_J X ce sl ws L (pc + 3) (z_i (z_max x y) :: st)) : z_J X ce sl ws L pc (z_i y :: z_i x :: st) := by
  obtain ⟨p, l', e, R', s, m, args, below, meth, c, G', A, H0, Q, n⟩ := X
  obtain ⟨hx, hb, hml, hown, hts, hK, hA, rfl, rfl, rfl, rfl⟩ := C
  intro H locs ls hP hD hS hl
  refine va_mmax hx hb (hml.trans hl.1.symm) hown (hts _ lk) (hts _ z_wmax1) (hts _ z_wmax2) (hts _ z_wmax3) hR.1 hR.2 hce.1 hce.2 d ?_
  have e : (if Int32.ofInt x < Int32.ofInt y then Int32.ofInt y else Int32.ofInt x) = Int32.ofInt (z_max x y) := by
    unfold z_max
    by_cases h : x < y
    · rw [if_pos h, if_pos ((z_lti hx1 hy1).mpr h)]
    · rw [if_neg h, if_neg (fun q => h ((z_lti hx1 hy1).mp q))]
  rw [e]
  exact kk H locs ls hP hD hS hl
theorem z_pos {α : Type} {p : Prop} [Decidable p] {a b c : α} (hp : p) (h : (if p then a else b) = c) : a = c := by rw [if_pos hp] at h; exact h
theorem z_neg {α : Type} {p : Prop} [Decidable p] {a b c : α} (hp : ¬ p) (h : (if p then a else b) = c) : b = c := by rw [if_neg hp] at h; exact h
theorem z_k (x : Int) (h : (decide (-2147483648 ≤ x) && decide (x ≤ 2147483647)) = true) : z_n x := by
  simp only [Bool.and_eq_true, decide_eq_true_eq] at h
  exact h
theorem z_n01 {x : Int} (h : x = 0 ∨ x = 1) : z_n x := by
  rcases h with rfl | rfl
  · exact z_k 0 rfl
  · exact z_k 1 rfl
theorem z_n_and (a b : Int) : z_n (z_and a b) := z_of _
theorem z_n_or (a b : Int) : z_n (z_or a b) := z_of _
theorem z_n_shl (a b : Int) : z_n (z_shl a b) := z_of _
theorem z_n_shr (a b : Int) : z_n (z_shr a b) := z_of _
theorem z_n_ushr (a b : Int) : z_n (z_ushr a b) := z_of _
theorem z_n_i2c (a : Int) : z_n (z_i2c a) := z_of _
theorem z_n_l2i (a : Int64) : z_n (z_l2i a) := z_of _
theorem z_n_lcmp (a b : Int64) : z_n (z_lcmp a b) := z_of _
section
variable {X : z_X} {l : Launch} {G : z_G} {own : String} {cc : ByteArray} {nL : Nat} {R : Room} {ce sl : Nat} {ws ws' : va_W} {L L' : List (Nat × Value)} {pc tgt : Nat} {st : List Value} {a b : Nat} {x y : Int} {u v : Int64}
theorem z_callVi (C : z_C X l G own cc nL R) {ym : MethodName} {cy : ByteArray} {ny n idx : Nat} {ret : Option FieldType} {rm : Room} {As : List Value} {wc w1 : va_W} {rv : Value} {F : Prop} (M : z_M l G ym cy ny ret rm (.ref b :: As) wc 0 0 (fun v w => v = some rv ∧ w = w1 ∧ F)) (V : z_V ym cy ny ret n) (lk : Cond.methodLink own idx ym ∈ z_W) (d : decode cc pc = .ok (.invokevirtual idx, 3)) (is : List Nat) (hs : is.map (fun i => ws[i]?) = wc.map some) (hn : va_nd is = true) (hw : w1.map (fun q => q.1) = wc.map (fun q => q.1)) (hp : z_put ws is w1 = ws') (q : Nat) {ci : Nat} {fs : List Value} (hq : ws[q]? = some (b, z_o ci fs)) (hcn : (vwCl[ci]?).map (fun z => z.1) = some ym.cls) (hA1 : As.length = n) (rest : List Value) (hst : st = As.reverse ++ .ref b :: rest) (hW : (rest.map fun v => v.category).sum ≤ 8) (hR : rm.frames + 1 ≤ R.frames ∧ 8 + (ny + 11) + rm.locals ≤ R.locals) (hm0 : rm.cells = 0 ∧ rm.slots = 0) (hce : ce ≤ R.cells ∧ sl ≤ R.slots)
    (kk : F → z_J X ce sl ws' L (pc + 3) (rv :: rest)) : z_J X ce sl ws L pc st := z_callV C M V lk d is hs hn hw hp q hq hcn hA1 rest hst hW hR hm0 hce kk
theorem z_callVv (C : z_C X l G own cc nL R) {ym : MethodName} {cy : ByteArray} {ny n idx : Nat} {ret : Option FieldType} {rm : Room} {As : List Value} {wc w1 : va_W} {F : Prop} (M : z_M l G ym cy ny ret rm (.ref b :: As) wc 0 0 (fun v w => v = none ∧ w = w1 ∧ F)) (V : z_V ym cy ny ret n) (lk : Cond.methodLink own idx ym ∈ z_W) (d : decode cc pc = .ok (.invokevirtual idx, 3)) (is : List Nat) (hs : is.map (fun i => ws[i]?) = wc.map some) (hn : va_nd is = true) (hw : w1.map (fun q => q.1) = wc.map (fun q => q.1)) (hp : z_put ws is w1 = ws') (q : Nat) {ci : Nat} {fs : List Value} (hq : ws[q]? = some (b, z_o ci fs)) (hcn : (vwCl[ci]?).map (fun z => z.1) = some ym.cls) (hA1 : As.length = n) (rest : List Value) (hst : st = As.reverse ++ .ref b :: rest) (hW : (rest.map fun v => v.category).sum ≤ 8) (hR : rm.frames + 1 ≤ R.frames ∧ 8 + (ny + 11) + rm.locals ≤ R.locals) (hm0 : rm.cells = 0 ∧ rm.slots = 0) (hce : ce ≤ R.cells ∧ sl ≤ R.slots)
    (kk : F → z_J X ce sl ws' L (pc + 3) rest) : z_J X ce sl ws L pc st := z_callV C M V lk d is hs hn hw hp q hq hcn hA1 rest hst hW hR hm0 hce kk
theorem z_callSi (C : z_C X l G own cc nL R) {ym : MethodName} {cy : ByteArray} {ny n idx : Nat} {ret : Option FieldType} {rm : Room} {As : List Value} {wc w1 : va_W} {rv : Value} {F : Prop} (M : z_M l G ym cy ny ret rm As wc 0 0 (fun v w => v = some rv ∧ w = w1 ∧ F)) (V : z_S ym cy ny ret n) (lk : Cond.methodLink own idx ym ∈ z_W) (d : decode cc pc = .ok (.invokestatic idx, 3)) (is : List Nat) (hs : is.map (fun i => ws[i]?) = wc.map some) (hn : va_nd is = true) (hw : w1.map (fun q => q.1) = wc.map (fun q => q.1)) (hp : z_put ws is w1 = ws') (hA1 : As.length = n) (rest : List Value) (hst : st = As.reverse ++ rest) (hW : (rest.map fun v => v.category).sum ≤ 8) (hR : rm.frames + 1 ≤ R.frames ∧ 8 + (ny + 11) + rm.locals ≤ R.locals) (hm0 : rm.cells = 0 ∧ rm.slots = 0) (hce : ce ≤ R.cells ∧ sl ≤ R.slots)
    (kk : F → z_J X ce sl ws' L (pc + 3) (rv :: rest)) : z_J X ce sl ws L pc st := z_callS C M V lk d is hs hn hw hp hA1 rest hst hW hR hm0 hce kk
theorem z_callSv (C : z_C X l G own cc nL R) {ym : MethodName} {cy : ByteArray} {ny n idx : Nat} {ret : Option FieldType} {rm : Room} {As : List Value} {wc w1 : va_W} {F : Prop} (M : z_M l G ym cy ny ret rm As wc 0 0 (fun v w => v = none ∧ w = w1 ∧ F)) (V : z_S ym cy ny ret n) (lk : Cond.methodLink own idx ym ∈ z_W) (d : decode cc pc = .ok (.invokestatic idx, 3)) (is : List Nat) (hs : is.map (fun i => ws[i]?) = wc.map some) (hn : va_nd is = true) (hw : w1.map (fun q => q.1) = wc.map (fun q => q.1)) (hp : z_put ws is w1 = ws') (hA1 : As.length = n) (rest : List Value) (hst : st = As.reverse ++ rest) (hW : (rest.map fun v => v.category).sum ≤ 8) (hR : rm.frames + 1 ≤ R.frames ∧ 8 + (ny + 11) + rm.locals ≤ R.locals) (hm0 : rm.cells = 0 ∧ rm.slots = 0) (hce : ce ≤ R.cells ∧ sl ≤ R.slots)
    (kk : F → z_J X ce sl ws' L (pc + 3) rest) : z_J X ce sl ws L pc st := z_callS C M V lk d is hs hn hw hp hA1 rest hst hW hR hm0 hce kk
theorem z_callNi (C : z_C X l G own cc nL R) {ym : MethodName} {cy : ByteArray} {ny n idx : Nat} {host : String} {ret : Option FieldType} {rm : Room} {As : List Value} {wc w1 : va_W} {rv : Value} {F : Prop} (M : z_M l G ym cy ny ret rm As wc 0 0 (fun v w => v = some rv ∧ w = w1 ∧ F)) (V : z_S ym cy ny ret n) (lk : Cond.methodLinkNest own idx ym host ∈ z_nest) (d : decode cc pc = .ok (.invokestatic idx, 3)) (is : List Nat) (hs : is.map (fun i => ws[i]?) = wc.map some) (hn : va_nd is = true) (hw : w1.map (fun q => q.1) = wc.map (fun q => q.1)) (hp : z_put ws is w1 = ws') (hA1 : As.length = n) (rest : List Value) (hst : st = As.reverse ++ rest) (hW : (rest.map fun v => v.category).sum ≤ 8) (hR : rm.frames + 1 ≤ R.frames ∧ 8 + (ny + 11) + rm.locals ≤ R.locals) (hm0 : rm.cells = 0 ∧ rm.slots = 0) (hce : ce ≤ R.cells ∧ sl ≤ R.slots)
    (kk : F → z_J X ce sl ws' L (pc + 3) (rv :: rest)) : z_J X ce sl ws L pc st := z_callN C M V lk d is hs hn hw hp hA1 rest hst hW hR hm0 hce kk
theorem z_callNv (C : z_C X l G own cc nL R) {ym : MethodName} {cy : ByteArray} {ny n idx : Nat} {host : String} {ret : Option FieldType} {rm : Room} {As : List Value} {wc w1 : va_W} {F : Prop} (M : z_M l G ym cy ny ret rm As wc 0 0 (fun v w => v = none ∧ w = w1 ∧ F)) (V : z_S ym cy ny ret n) (lk : Cond.methodLinkNest own idx ym host ∈ z_nest) (d : decode cc pc = .ok (.invokestatic idx, 3)) (is : List Nat) (hs : is.map (fun i => ws[i]?) = wc.map some) (hn : va_nd is = true) (hw : w1.map (fun q => q.1) = wc.map (fun q => q.1)) (hp : z_put ws is w1 = ws') (hA1 : As.length = n) (rest : List Value) (hst : st = As.reverse ++ rest) (hW : (rest.map fun v => v.category).sum ≤ 8) (hR : rm.frames + 1 ≤ R.frames ∧ 8 + (ny + 11) + rm.locals ≤ R.locals) (hm0 : rm.cells = 0 ∧ rm.slots = 0) (hce : ce ≤ R.cells ∧ sl ≤ R.slots)
    (kk : F → z_J X ce sl ws' L (pc + 3) rest) : z_J X ce sl ws L pc st := z_callN C M V lk d is hs hn hw hp hA1 rest hst hW hR hm0 hce kk
end
theorem z_rng (ws : va_W) : (List.range' 0 ws.length).map (fun i => ws[i]?) = ws.map some := by
  apply List.ext_getElem?
  intro k
  rw [List.getElem?_map, List.getElem?_map]
  by_cases h : k < ws.length
  · rw [List.getElem?_eq_getElem (by simpa using h), List.getElem?_eq_getElem h]
    simp
  · rw [List.getElem?_eq_none (by simpa using h), List.getElem?_eq_none (by omega)]
    rfl
theorem z_ndr : ∀ (n s : Nat), va_nd (List.range' s n) = true
  | 0, _ => rfl
  | n + 1, s => by
    rw [List.range'_succ]
    simp only [va_nd, Bool.and_eq_true, decide_eq_true_eq]
    refine ⟨fun h => ?_, z_ndr n (s + 1)⟩
    have := List.mem_range'_1.mp h
    omega
theorem z_putr : ∀ (w1 pre rest : va_W), w1.length = rest.length → z_put (pre ++ rest) (List.range' pre.length rest.length) w1 = pre ++ w1
  | [], pre, rest, h => by
    have : rest = [] := List.length_eq_zero_iff.mp h.symm
    subst this
    rfl
  | x :: w1, pre, [], h => by cases h
  | x :: w1, pre, r :: rest, h => by
    have e : (pre ++ r :: rest).set pre.length x = (pre ++ [x]) ++ rest := by
      rw [List.set_append_right _ _ (Nat.le_refl _), Nat.sub_self, List.set_cons_zero]
      simp
    have e2 : List.range' pre.length (r :: rest).length = pre.length :: List.range' (pre ++ [x]).length rest.length := by
      rw [List.length_cons, List.range'_succ, List.length_append]
      rfl
    rw [e2]
    show z_put ((pre ++ r :: rest).set pre.length x) _ w1 = _
    rw [e, z_putr w1 (pre ++ [x]) rest (by simpa using h)]
    simp
theorem z_puta {ws w1 : va_W} (hw : w1.map (fun q => q.1) = ws.map (fun q => q.1)) : z_put ws (List.range' 0 ws.length) w1 = w1 := by
  have hl : w1.length = ws.length := by have := congrArg List.length hw; simpa using this
  exact z_putr w1 [] ws hl
section
variable {X : z_X} {l : Launch} {G : z_G} {own : String} {cc : ByteArray} {nL : Nat} {R : Room} {ce sl : Nat} {ws ws' : va_W} {L L' : List (Nat × Value)} {pc tgt : Nat} {st : List Value} {a b : Nat} {x y : Int} {u v : Int64}
theorem z_callVid (C : z_C X l G own cc nL R) {ym : MethodName} {cy : ByteArray} {ny n idx : Nat} {ret : Option FieldType} {rm : Room} {As : List Value} {w1 : va_W} {rv : Value} {F : Prop} (M : z_M l G ym cy ny ret rm (.ref b :: As) ws 0 0 (fun v w => v = some rv ∧ w = w1 ∧ F)) (V : z_V ym cy ny ret n) (lk : Cond.methodLink own idx ym ∈ z_W) (d : decode cc pc = .ok (.invokevirtual idx, 3)) (hw : w1.map (fun q => q.1) = ws.map (fun q => q.1)) (q : Nat) {ci : Nat} {fs : List Value} (hq : ws[q]? = some (b, z_o ci fs)) (hcn : (vwCl[ci]?).map (fun z => z.1) = some ym.cls) (hA1 : As.length = n) (rest : List Value) (hst : st = As.reverse ++ .ref b :: rest) (hW : (rest.map fun v => v.category).sum ≤ 8) (hR : rm.frames + 1 ≤ R.frames ∧ 8 + (ny + 11) + rm.locals ≤ R.locals) (hm0 : rm.cells = 0 ∧ rm.slots = 0) (hce : ce ≤ R.cells ∧ sl ≤ R.slots)
    (kk : F → z_J X ce sl w1 L (pc + 3) (rv :: rest)) : z_J X ce sl ws L pc st := z_callV C M V lk d (List.range' 0 ws.length) (z_rng ws) (z_ndr _ _) hw (z_puta hw) q hq hcn hA1 rest hst hW hR hm0 hce kk
theorem z_callVvd (C : z_C X l G own cc nL R) {ym : MethodName} {cy : ByteArray} {ny n idx : Nat} {ret : Option FieldType} {rm : Room} {As : List Value} {w1 : va_W} {F : Prop} (M : z_M l G ym cy ny ret rm (.ref b :: As) ws 0 0 (fun v w => v = none ∧ w = w1 ∧ F)) (V : z_V ym cy ny ret n) (lk : Cond.methodLink own idx ym ∈ z_W) (d : decode cc pc = .ok (.invokevirtual idx, 3)) (hw : w1.map (fun q => q.1) = ws.map (fun q => q.1)) (q : Nat) {ci : Nat} {fs : List Value} (hq : ws[q]? = some (b, z_o ci fs)) (hcn : (vwCl[ci]?).map (fun z => z.1) = some ym.cls) (hA1 : As.length = n) (rest : List Value) (hst : st = As.reverse ++ .ref b :: rest) (hW : (rest.map fun v => v.category).sum ≤ 8) (hR : rm.frames + 1 ≤ R.frames ∧ 8 + (ny + 11) + rm.locals ≤ R.locals) (hm0 : rm.cells = 0 ∧ rm.slots = 0) (hce : ce ≤ R.cells ∧ sl ≤ R.slots)
    (kk : F → z_J X ce sl w1 L (pc + 3) rest) : z_J X ce sl ws L pc st := z_callV C M V lk d (List.range' 0 ws.length) (z_rng ws) (z_ndr _ _) hw (z_puta hw) q hq hcn hA1 rest hst hW hR hm0 hce kk
theorem z_callSid (C : z_C X l G own cc nL R) {ym : MethodName} {cy : ByteArray} {ny n idx : Nat} {ret : Option FieldType} {rm : Room} {As : List Value} {w1 : va_W} {rv : Value} {F : Prop} (M : z_M l G ym cy ny ret rm As ws 0 0 (fun v w => v = some rv ∧ w = w1 ∧ F)) (V : z_S ym cy ny ret n) (lk : Cond.methodLink own idx ym ∈ z_W) (d : decode cc pc = .ok (.invokestatic idx, 3)) (hw : w1.map (fun q => q.1) = ws.map (fun q => q.1)) (hA1 : As.length = n) (rest : List Value) (hst : st = As.reverse ++ rest) (hW : (rest.map fun v => v.category).sum ≤ 8) (hR : rm.frames + 1 ≤ R.frames ∧ 8 + (ny + 11) + rm.locals ≤ R.locals) (hm0 : rm.cells = 0 ∧ rm.slots = 0) (hce : ce ≤ R.cells ∧ sl ≤ R.slots)
    (kk : F → z_J X ce sl w1 L (pc + 3) (rv :: rest)) : z_J X ce sl ws L pc st := z_callS C M V lk d (List.range' 0 ws.length) (z_rng ws) (z_ndr _ _) hw (z_puta hw) hA1 rest hst hW hR hm0 hce kk
theorem z_callSvd (C : z_C X l G own cc nL R) {ym : MethodName} {cy : ByteArray} {ny n idx : Nat} {ret : Option FieldType} {rm : Room} {As : List Value} {w1 : va_W} {F : Prop} (M : z_M l G ym cy ny ret rm As ws 0 0 (fun v w => v = none ∧ w = w1 ∧ F)) (V : z_S ym cy ny ret n) (lk : Cond.methodLink own idx ym ∈ z_W) (d : decode cc pc = .ok (.invokestatic idx, 3)) (hw : w1.map (fun q => q.1) = ws.map (fun q => q.1)) (hA1 : As.length = n) (rest : List Value) (hst : st = As.reverse ++ rest) (hW : (rest.map fun v => v.category).sum ≤ 8) (hR : rm.frames + 1 ≤ R.frames ∧ 8 + (ny + 11) + rm.locals ≤ R.locals) (hm0 : rm.cells = 0 ∧ rm.slots = 0) (hce : ce ≤ R.cells ∧ sl ≤ R.slots)
    (kk : F → z_J X ce sl w1 L (pc + 3) rest) : z_J X ce sl ws L pc st := z_callS C M V lk d (List.range' 0 ws.length) (z_rng ws) (z_ndr _ _) hw (z_puta hw) hA1 rest hst hW hR hm0 hce kk
end
end
section
def m_X3_add (N : Nat) (t_letters : (Int → Int)) (t_length : Int) (x1 : Int) : Option ((Int → Int) × Int) := if t_length < 0 then (some (t_letters, t_length)) else (if 200 ≤ t_length then (some (t_letters, t_length)) else (z_chk (0 ≤ t_length ∧ t_length < 200) (z_chk (0 ≤ x1 ∧ x1 ≤ 65535) (z_chk (z_n (t_length + 1)) (some ((z_up t_letters t_length x1), (t_length + 1)))))))
def m_X5_isFrom (N : Nat) (x0 : Int) (x1 : Int) (x2 : Int) : Option (Int) := if x0 < x1 then (some (0)) else (if x2 < x0 then (some (0)) else (some (1)))
def m_X0_shape (N : Nat) (t_rows : Int) (t_columns : Int) (t_cells : Int) (x1 : Int) (x2 : Int) : Option (Int × Int × Int × Int) := z_b1 (m_X5_isFrom N x1 2 6) (fun (r1 : Int) => if r1 = 0 then (some (0, t_rows, t_columns, t_cells)) else (z_b1 (m_X5_isFrom N x2 2 6) (fun (r4 : Int) => if r4 ≠ 0 then (z_chk (z_n (x1 * x2)) (some (1, x1, x2, (x1 * x2)))) else (some (0, t_rows, t_columns, t_cells)))))
def m_J7_fill_53178_l1 (N : Nat) (i3_1 : Int) (a_n : Nat) (x1 : Int) : Nat → Int → (Int → Int) → Option ((Int → Int))
  | 0, _, _ => none
  | n1 + 1, v2_1, a_f_1 => if i3_1 ≤ v2_1 then (some (a_f_1)) else (z_chk (0 ≤ v2_1 ∧ v2_1 < (a_n : Int)) (z_chk (z_n (v2_1 + 1)) (m_J7_fill_53178_l1 N i3_1 a_n x1 n1 (v2_1 + 1) (z_up a_f_1 v2_1 x1))))
def m_J7_fill_53178 (N : Nat) (a_n : Nat) (a_f : (Int → Int)) (x1 : Int) : Option ((Int → Int)) := z_b1 (m_J7_fill_53178_l1 N (a_n : Int) a_n x1 N 0 a_f) (fun (o_a_f_1 : (Int → Int)) => some (o_a_f_1))
def m_X0_makeOpen (N : Nat) (t_rows : Int) (t_columns : Int) (t_cells : Int) (t_kind : (Int → Int)) : Option (Int × Int × Int × (Int → Int)) := z_b4 (m_X0_shape N t_rows t_columns t_cells 4 5) (fun (r1 : Int) (t_rows_2 : Int) (t_columns_3 : Int) (t_cells_4 : Int) => z_b1 (m_J7_fill_53178 N 36 t_kind 0) (fun (t_kind_6 : (Int → Int)) => some (t_rows_2, t_columns_3, t_cells_4, t_kind_6)))
def m_X4_makeDry (N : Nat) (t_height : (Int → Int)) (t_drops : (Int → Int)) (t_hours : Int) : Option ((Int → Int) × (Int → Int) × Int) := z_b1 (m_J7_fill_53178 N 36 t_height 5) (fun (t_height_1 : (Int → Int)) => z_b1 (m_J7_fill_53178 N 36 t_drops 0) (fun (t_drops_3 : (Int → Int)) => some (t_height_1, t_drops_3, 0)))
def m_X3_peek (N : Nat) (t_letters : (Int → Int)) (t_length : Int) (t_at : Int) : Option (Int) := if t_at < 0 then (some ((-4))) else (if t_length ≤ t_at then (some ((-4))) else (if 200 ≤ t_at then (some ((-4))) else (z_chk (0 ≤ t_at ∧ t_at < 200) (some ((t_letters t_at))))))
def m_X3_nextLetter (N : Nat) (t_letters : (Int → Int)) (t_length : Int) (t_at : Int) : Option (Int × Int) := z_b1 (m_X3_peek N t_letters t_length t_at) (fun (r1 : Int) => z_chk (z_n (t_at + 1)) (some (r1, (t_at + 1))))
def m_X3_nextFigure (N : Nat) (t_letters : (Int → Int)) (t_length : Int) (t_at : Int) : Option (Int × Int) := z_b1 (m_X3_peek N t_letters t_length t_at) (fun (r1 : Int) => z_b1 (m_X5_isFrom N r1 48 57) (fun (r3 : Int) => if r3 ≠ 0 then (z_chk (z_n (t_at + 1)) (z_chk (z_n (r1 - 48)) (some ((r1 - 48), (t_at + 1))))) else (some ((-4), t_at))))
def m_X3_nextNumber (N : Nat) (t_letters : (Int → Int)) (t_length : Int) (t_at : Int) : Option (Int × Int) := z_b2 (m_X3_nextFigure N t_letters t_length t_at) (fun (r1 : Int) (t_at_2 : Int) => z_b2 (if 0 ≤ r1 then (z_b2 (m_X3_nextFigure N t_letters t_length t_at_2) (fun (r5 : Int) (t_at_6 : Int) => some (r5, t_at_6))) else (some ((-4), t_at_2))) (fun (s8 : Int) (t_at_9 : Int) => if 0 ≤ s8 then (z_chk (z_n (r1 * 10)) (z_chk (z_n ((r1 * 10) + s8)) (some (((r1 * 10) + s8), t_at_9)))) else (some (r1, t_at_9))))
def m_X3_skip (N : Nat) (t_letters : (Int → Int)) (t_length : Int) (t_at : Int) (x1 : Int) : Option (Int × Int) := z_b1 (m_X3_peek N t_letters t_length t_at) (fun (r1 : Int) => z_b1 (if r1 ≠ x1 then (some (0)) else (some (1))) (fun (s4 : Int) => if s4 = 0 then (some (s4, t_at)) else (z_chk (z_n (t_at + 1)) (some (s4, (t_at + 1))))))
def m_X0_holds (N : Nat) (t_cells : Int) (x1 : Int) : Option (Int) := if x1 < 0 then (some (0)) else (if t_cells ≤ x1 then (some (0)) else (if 36 ≤ x1 then (some (0)) else (some (1))))
def m_X3_tellCell (N : Nat) (g_cells : Int) (g_kind : (Int → Int)) (w_height : (Int → Int)) (w_drops : (Int → Int)) (x2 : Int) (x3 : Int) (x4 : Int) : Option (Int × (Int → Int) × (Int → Int) × (Int → Int)) := z_b1 (m_X0_holds N g_cells x3) (fun (r1 : Int) => if r1 ≠ 0 then (if x2 ≠ 104 then (if x2 ≠ 107 then (if x2 ≠ 119 then (some (0, g_kind, w_height, w_drops)) else (z_b1 (m_X5_isFrom N x4 0 20) (fun (r7 : Int) => if r7 = 0 then (some (0, g_kind, w_height, w_drops)) else (z_chk (0 ≤ x3 ∧ x3 < 36) (some (1, g_kind, w_height, (z_up w_drops x3 x4))))))) else (z_b1 (m_X5_isFrom N x4 0 4) (fun (r11 : Int) => if r11 = 0 then (if x2 ≠ 119 then (some (0, g_kind, w_height, w_drops)) else (z_b1 (m_X5_isFrom N x4 0 20) (fun (r15 : Int) => if r15 = 0 then (some (0, g_kind, w_height, w_drops)) else (z_chk (0 ≤ x3 ∧ x3 < 36) (some (1, g_kind, w_height, (z_up w_drops x3 x4))))))) else (z_chk (0 ≤ x3 ∧ x3 < 36) (some (1, (z_up g_kind x3 x4), w_height, w_drops)))))) else (z_b1 (m_X5_isFrom N x4 0 20) (fun (r20 : Int) => if r20 = 0 then (if x2 ≠ 107 then (if x2 ≠ 119 then (some (0, g_kind, w_height, w_drops)) else (z_b1 (m_X5_isFrom N x4 0 20) (fun (r25 : Int) => if r25 = 0 then (some (0, g_kind, w_height, w_drops)) else (z_chk (0 ≤ x3 ∧ x3 < 36) (some (1, g_kind, w_height, (z_up w_drops x3 x4))))))) else (z_b1 (m_X5_isFrom N x4 0 4) (fun (r29 : Int) => if r29 = 0 then (if x2 ≠ 119 then (some (0, g_kind, w_height, w_drops)) else (z_b1 (m_X5_isFrom N x4 0 20) (fun (r33 : Int) => if r33 = 0 then (some (0, g_kind, w_height, w_drops)) else (z_chk (0 ≤ x3 ∧ x3 < 36) (some (1, g_kind, w_height, (z_up w_drops x3 x4))))))) else (z_chk (0 ≤ x3 ∧ x3 < 36) (some (1, (z_up g_kind x3 x4), w_height, w_drops)))))) else (z_chk (0 ≤ x3 ∧ x3 < 36) (some (1, g_kind, (z_up w_height x3 x4), w_drops)))))) else (some (0, g_kind, w_height, w_drops)))
def m_J7_fill_d0a16_l1 (N : Nat) (i4_1 : Int) (a_n : Nat) (x1 : Int64) : Nat → Int → (Int → Int64) → Option ((Int → Int64))
  | 0, _, _ => none
  | n1 + 1, v3_1, a_f_1 => if i4_1 ≤ v3_1 then (some (a_f_1)) else (z_chk (0 ≤ v3_1 ∧ v3_1 < (a_n : Int)) (z_chk (z_n (v3_1 + 1)) (m_J7_fill_d0a16_l1 N i4_1 a_n x1 n1 (v3_1 + 1) (z_up a_f_1 v3_1 x1))))
def m_J7_fill_d0a16 (N : Nat) (a_n : Nat) (a_f : (Int → Int64)) (x1 : Int64) : Option ((Int → Int64)) := z_b1 (m_J7_fill_d0a16_l1 N (a_n : Int) a_n x1 N 0 a_f) (fun (o_a_f_1 : (Int → Int64)) => some (o_a_f_1))
def m_X0_walkable (N : Nat) (t_rows : Int) (t_columns : Int) (t_cells : Int) (t_kind : (Int → Int)) (x1 : Int) (x2 : Int) : Option (Int) := if x1 < 0 then (some ((-4))) else (if t_rows ≤ x1 then (some ((-4))) else (if x2 < 0 then (some ((-4))) else (if x2 < t_columns then (z_chk (z_n (x1 * t_columns)) (z_chk (z_n ((x1 * t_columns) + x2)) (z_b1 (m_X0_holds N t_cells ((x1 * t_columns) + x2)) (fun (r7 : Int) => if r7 = 0 then (some ((-4))) else (z_chk (0 ≤ ((x1 * t_columns) + x2) ∧ ((x1 * t_columns) + x2) < 36) (if (t_kind ((x1 * t_columns) + x2)) = 3 then (some ((-4))) else (some (((x1 * t_columns) + x2))))))))) else (some ((-4))))))
def m_X0_linkSide (N : Nat) (t_rows : Int) (t_columns : Int) (t_cells : Int) (t_kind : (Int → Int)) (t_beside : (Int → Int)) (t_besideBits : (Int → Int64)) (x1 : Int) (x2 : Int) (x3 : Int) (x4 : Int) : Option ((Int → Int) × (Int → Int64)) := z_chk (z_n (x1 * 4)) (z_chk (z_n ((x1 * 4) + x2)) (z_b1 (m_X0_holds N t_cells x1) (fun (r3 : Int) => if r3 = 0 then (some (t_beside, t_besideBits)) else (if ((x1 * 4) + x2) < 0 then (some (t_beside, t_besideBits)) else (if ((x1 * 4) + x2) < 144 then (z_b1 (m_X0_walkable N t_rows t_columns t_cells t_kind x3 x4) (fun (r8 : Int) => z_chk (0 ≤ ((x1 * 4) + x2) ∧ ((x1 * 4) + x2) < 144) (z_chk (0 ≤ ((x1 * 4) + x2) ∧ ((x1 * 4) + x2) < 144) (if ((z_up t_beside ((x1 * 4) + x2) r8) ((x1 * 4) + x2)) = (-4) then (some ((z_up t_beside ((x1 * 4) + x2) r8), t_besideBits)) else (z_chk (0 ≤ x1 ∧ x1 < 36) (z_chk (0 ≤ ((x1 * 4) + x2) ∧ ((x1 * 4) + x2) < 144) (z_chk (0 ≤ x1 ∧ x1 < 36) (some ((z_up t_beside ((x1 * 4) + x2) r8), (z_up t_besideBits x1 ((t_besideBits x1) ||| (z_lshl (1 : Int64) ((z_up t_beside ((x1 * 4) + x2) r8) ((x1 * 4) + x2)))))))))))))) else (some (t_beside, t_besideBits)))))))
def m_X0_link_l2 (N : Nat) (t_columns : Int) (v1_1 : Int) (t_rows : Int) (t_cells : Int) (t_kind : (Int → Int)) : Nat → Int → (Int → Int) → (Int → Int64) → Option ((Int → Int) × (Int → Int64))
  | 0, _, _, _ => none
  | n2 + 1, v2_2, t_beside_2, t_besideBits_2 => if t_columns ≤ v2_2 then (some (t_beside_2, t_besideBits_2)) else (if 6 ≤ v2_2 then (some (t_beside_2, t_besideBits_2)) else (z_chk (z_n (v1_1 * t_columns)) (z_chk (z_n ((v1_1 * t_columns) + v2_2)) (z_chk (z_n (v1_1 - 1)) (z_b2 (m_X0_linkSide N t_rows t_columns t_cells t_kind t_beside_2 t_besideBits_2 ((v1_1 * t_columns) + v2_2) 0 (v1_1 - 1) v2_2) (fun (t_beside_10 : (Int → Int)) (t_besideBits_11 : (Int → Int64)) => z_chk (z_n (v1_1 + 1)) (z_b2 (m_X0_linkSide N t_rows t_columns t_cells t_kind t_beside_10 t_besideBits_11 ((v1_1 * t_columns) + v2_2) 1 (v1_1 + 1) v2_2) (fun (t_beside_14 : (Int → Int)) (t_besideBits_15 : (Int → Int64)) => z_chk (z_n (v2_2 + 1)) (z_b2 (m_X0_linkSide N t_rows t_columns t_cells t_kind t_beside_14 t_besideBits_15 ((v1_1 * t_columns) + v2_2) 2 v1_1 (v2_2 + 1)) (fun (t_beside_18 : (Int → Int)) (t_besideBits_19 : (Int → Int64)) => z_chk (z_n (v2_2 - 1)) (z_b2 (m_X0_linkSide N t_rows t_columns t_cells t_kind t_beside_18 t_besideBits_19 ((v1_1 * t_columns) + v2_2) 3 v1_1 (v2_2 - 1)) (fun (t_beside_22 : (Int → Int)) (t_besideBits_23 : (Int → Int64)) => z_chk (z_n (v2_2 + 1)) (m_X0_link_l2 N t_columns v1_1 t_rows t_cells t_kind n2 (v2_2 + 1) t_beside_22 t_besideBits_23)))))))))))))
def m_X0_link_l1 (N : Nat) (t_rows : Int) (t_columns : Int) (t_cells : Int) (t_kind : (Int → Int)) : Nat → Int → (Int → Int) → (Int → Int64) → Option ((Int → Int) × (Int → Int64))
  | 0, _, _, _ => none
  | n1 + 1, v1_1, t_beside_1, t_besideBits_1 => if t_rows ≤ v1_1 then (some (t_beside_1, t_besideBits_1)) else (if 6 ≤ v1_1 then (some (t_beside_1, t_besideBits_1)) else (z_b2 (m_X0_link_l2 N t_columns v1_1 t_rows t_cells t_kind N 0 t_beside_1 t_besideBits_1) (fun (o_t_beside_2 : (Int → Int)) (o_t_besideBits_2 : (Int → Int64)) => z_chk (z_n (v1_1 + 1)) (m_X0_link_l1 N t_rows t_columns t_cells t_kind n1 (v1_1 + 1) o_t_beside_2 o_t_besideBits_2))))
def m_X0_link (N : Nat) (t_rows : Int) (t_columns : Int) (t_cells : Int) (t_kind : (Int → Int)) (t_beside : (Int → Int)) (t_besideBits : (Int → Int64)) : Option ((Int → Int) × (Int → Int64)) := z_b1 (m_J7_fill_d0a16 N 36 t_besideBits (0 : Int64)) (fun (t_besideBits_1 : (Int → Int64)) => z_b2 (m_X0_link_l1 N t_rows t_columns t_cells t_kind N 0 t_beside t_besideBits_1) (fun (o_t_beside_1 : (Int → Int)) (o_t_besideBits_1 : (Int → Int64)) => some (o_t_beside_1, o_t_besideBits_1)))
def m_X0_takesRain (N : Nat) (t_cells : Int) (t_kind : (Int → Int)) (x1 : Int) : Option (Int) := z_b1 (m_X0_holds N t_cells x1) (fun (r1 : Int) => if r1 = 0 then (some (0)) else (z_chk (0 ≤ x1 ∧ x1 < 36) (if (t_kind x1) = 3 then (some (0)) else (z_chk (0 ≤ x1 ∧ x1 < 36) (if (t_kind x1) = 2 then (some (0)) else (some (1)))))))
def m_X3_finish_l1 (N : Nat) (g_cells : Int) (g_kind : (Int → Int)) : Nat → Int → (Int → Int) → Option ((Int → Int))
  | 0, _, _ => none
  | n1 + 1, v2_1, w_drops_1 => if g_cells ≤ v2_1 then (some (w_drops_1)) else (if 36 ≤ v2_1 then (some (w_drops_1)) else (z_b1 (m_X0_takesRain N g_cells g_kind v2_1) (fun (r6 : Int) => if r6 ≠ 0 then (z_chk (z_n (v2_1 + 1)) (m_X3_finish_l1 N g_cells g_kind n1 (v2_1 + 1) w_drops_1)) else (z_chk (0 ≤ v2_1 ∧ v2_1 < 36) (z_chk (z_n (v2_1 + 1)) (m_X3_finish_l1 N g_cells g_kind n1 (v2_1 + 1) (z_up w_drops_1 v2_1 0)))))))
def m_X3_finish (N : Nat) (g_rows : Int) (g_columns : Int) (g_cells : Int) (g_kind : (Int → Int)) (g_beside : (Int → Int)) (g_besideBits : (Int → Int64)) (w_drops : (Int → Int)) : Option ((Int → Int) × (Int → Int64) × (Int → Int)) := z_b2 (m_X0_link N g_rows g_columns g_cells g_kind g_beside g_besideBits) (fun (g_beside_1 : (Int → Int)) (g_besideBits_2 : (Int → Int64)) => z_b1 (m_X3_finish_l1 N g_cells g_kind N 0 w_drops) (fun (o_w_drops_1 : (Int → Int)) => some (g_beside_1, g_besideBits_2, o_w_drops_1)))
def m_X3_readInto_l1 (N : Nat) (t_length : Int) (g_beside : (Int → Int)) (g_besideBits : (Int → Int64)) (w_hours_8 : Int) (t_letters : (Int → Int)) : Nat → Int → Int → Int → Int → Int → Int → (Int → Int) → (Int → Int) → (Int → Int) → Option (Int × Int × Int × Int × Int × (Int → Int) × (Int → Int) × (Int → Int64) × (Int → Int) × (Int → Int) × Int)
  | 0, _, _, _, _, _, _, _, _, _ => none
  | n1 + 1, v3_1, v4_1, t_at_1, g_rows_1, g_columns_1, g_cells_1, g_kind_1, w_height_1, w_drops_1 => if t_length ≤ t_at_1 then (z_b3 (m_X3_finish N g_rows_1 g_columns_1 g_cells_1 g_kind_1 g_beside g_besideBits w_drops_1) (fun (g_beside_11 : (Int → Int)) (g_besideBits_12 : (Int → Int64)) (w_drops_13 : (Int → Int)) => some ((-4), t_at_1, g_rows_1, g_columns_1, g_cells_1, g_kind_1, g_beside_11, g_besideBits_12, w_height_1, w_drops_13, w_hours_8))) else (if 200 ≤ v4_1 then (z_b3 (m_X3_finish N g_rows_1 g_columns_1 g_cells_1 g_kind_1 g_beside g_besideBits w_drops_1) (fun (g_beside_16 : (Int → Int)) (g_besideBits_17 : (Int → Int64)) (w_drops_18 : (Int → Int)) => some ((-4), t_at_1, g_rows_1, g_columns_1, g_cells_1, g_kind_1, g_beside_16, g_besideBits_17, w_height_1, w_drops_18, w_hours_8))) else (z_b2 (m_X3_nextLetter N t_letters t_length t_at_1) (fun (r20 : Int) (t_at_21 : Int) => z_b2 (m_X3_nextNumber N t_letters t_length t_at_21) (fun (r23 : Int) (t_at_24 : Int) => z_b2 (m_X3_skip N t_letters t_length t_at_24 44) (fun (r26 : Int) (t_at_27 : Int) => z_b2 (m_X3_nextNumber N t_letters t_length t_at_27) (fun (r29 : Int) (t_at_30 : Int) => z_b2 (m_X3_skip N t_letters t_length t_at_30 59) (fun (r32 : Int) (t_at_33 : Int) => if r23 < 0 then (some (t_at_1, t_at_33, g_rows_1, g_columns_1, g_cells_1, g_kind_1, g_beside, g_besideBits, w_height_1, w_drops_1, w_hours_8)) else (if r26 = 0 then (some (t_at_1, t_at_33, g_rows_1, g_columns_1, g_cells_1, g_kind_1, g_beside, g_besideBits, w_height_1, w_drops_1, w_hours_8)) else (if r29 < 0 then (some (t_at_1, t_at_33, g_rows_1, g_columns_1, g_cells_1, g_kind_1, g_beside, g_besideBits, w_height_1, w_drops_1, w_hours_8)) else (if r32 ≠ 0 then (if r20 ≠ 115 then (z_b4 (m_X3_tellCell N g_cells_1 g_kind_1 w_height_1 w_drops_1 r20 r23 r29) (fun (r40 : Int) (g_kind_41 : (Int → Int)) (w_height_42 : (Int → Int)) (w_drops_43 : (Int → Int)) => if r40 ≠ 0 then (if r20 ≠ 115 then (if v3_1 = 0 then (z_chk (z_n (v4_1 + 1)) (m_X3_readInto_l1 N t_length g_beside g_besideBits w_hours_8 t_letters n1 0 (v4_1 + 1) t_at_33 g_rows_1 g_columns_1 g_cells_1 g_kind_41 w_height_42 w_drops_43)) else (if r20 ≠ 115 then (z_chk (z_n (v4_1 + 1)) (m_X3_readInto_l1 N t_length g_beside g_besideBits w_hours_8 t_letters n1 0 (v4_1 + 1) t_at_33 g_rows_1 g_columns_1 g_cells_1 g_kind_41 w_height_42 w_drops_43)) else (z_chk (z_n (v4_1 + 1)) (m_X3_readInto_l1 N t_length g_beside g_besideBits w_hours_8 t_letters n1 1 (v4_1 + 1) t_at_33 g_rows_1 g_columns_1 g_cells_1 g_kind_41 w_height_42 w_drops_43)))) else (z_b4 (m_X0_shape N g_rows_1 g_columns_1 g_cells_1 r23 r29) (fun (r52 : Int) (g_rows_53 : Int) (g_columns_54 : Int) (g_cells_55 : Int) => if r52 ≠ 0 then (if v3_1 = 0 then (z_chk (z_n (v4_1 + 1)) (m_X3_readInto_l1 N t_length g_beside g_besideBits w_hours_8 t_letters n1 0 (v4_1 + 1) t_at_33 g_rows_53 g_columns_54 g_cells_55 g_kind_41 w_height_42 w_drops_43)) else (if r20 ≠ 115 then (z_chk (z_n (v4_1 + 1)) (m_X3_readInto_l1 N t_length g_beside g_besideBits w_hours_8 t_letters n1 0 (v4_1 + 1) t_at_33 g_rows_53 g_columns_54 g_cells_55 g_kind_41 w_height_42 w_drops_43)) else (z_chk (z_n (v4_1 + 1)) (m_X3_readInto_l1 N t_length g_beside g_besideBits w_hours_8 t_letters n1 1 (v4_1 + 1) t_at_33 g_rows_53 g_columns_54 g_cells_55 g_kind_41 w_height_42 w_drops_43)))) else (some (t_at_1, t_at_33, g_rows_53, g_columns_54, g_cells_55, g_kind_41, g_beside, g_besideBits, w_height_42, w_drops_43, w_hours_8))))) else (some (t_at_1, t_at_33, g_rows_1, g_columns_1, g_cells_1, g_kind_41, g_beside, g_besideBits, w_height_42, w_drops_43, w_hours_8)))) else (if v3_1 ≠ 0 then (if r20 ≠ 115 then (if v3_1 = 0 then (z_chk (z_n (v4_1 + 1)) (m_X3_readInto_l1 N t_length g_beside g_besideBits w_hours_8 t_letters n1 0 (v4_1 + 1) t_at_33 g_rows_1 g_columns_1 g_cells_1 g_kind_1 w_height_1 w_drops_1)) else (if r20 ≠ 115 then (z_chk (z_n (v4_1 + 1)) (m_X3_readInto_l1 N t_length g_beside g_besideBits w_hours_8 t_letters n1 0 (v4_1 + 1) t_at_33 g_rows_1 g_columns_1 g_cells_1 g_kind_1 w_height_1 w_drops_1)) else (z_chk (z_n (v4_1 + 1)) (m_X3_readInto_l1 N t_length g_beside g_besideBits w_hours_8 t_letters n1 1 (v4_1 + 1) t_at_33 g_rows_1 g_columns_1 g_cells_1 g_kind_1 w_height_1 w_drops_1)))) else (z_b4 (m_X0_shape N g_rows_1 g_columns_1 g_cells_1 r23 r29) (fun (r70 : Int) (g_rows_71 : Int) (g_columns_72 : Int) (g_cells_73 : Int) => if r70 ≠ 0 then (if v3_1 = 0 then (z_chk (z_n (v4_1 + 1)) (m_X3_readInto_l1 N t_length g_beside g_besideBits w_hours_8 t_letters n1 0 (v4_1 + 1) t_at_33 g_rows_71 g_columns_72 g_cells_73 g_kind_1 w_height_1 w_drops_1)) else (if r20 ≠ 115 then (z_chk (z_n (v4_1 + 1)) (m_X3_readInto_l1 N t_length g_beside g_besideBits w_hours_8 t_letters n1 0 (v4_1 + 1) t_at_33 g_rows_71 g_columns_72 g_cells_73 g_kind_1 w_height_1 w_drops_1)) else (z_chk (z_n (v4_1 + 1)) (m_X3_readInto_l1 N t_length g_beside g_besideBits w_hours_8 t_letters n1 1 (v4_1 + 1) t_at_33 g_rows_71 g_columns_72 g_cells_73 g_kind_1 w_height_1 w_drops_1)))) else (some (t_at_1, t_at_33, g_rows_71, g_columns_72, g_cells_73, g_kind_1, g_beside, g_besideBits, w_height_1, w_drops_1, w_hours_8))))) else (some (t_at_1, t_at_33, g_rows_1, g_columns_1, g_cells_1, g_kind_1, g_beside, g_besideBits, w_height_1, w_drops_1, w_hours_8)))) else (some (t_at_1, t_at_33, g_rows_1, g_columns_1, g_cells_1, g_kind_1, g_beside, g_besideBits, w_height_1, w_drops_1, w_hours_8))))))))))))
def m_X3_readInto (N : Nat) (t_letters : (Int → Int)) (t_length : Int) (t_at : Int) (g_rows : Int) (g_columns : Int) (g_cells : Int) (g_kind : (Int → Int)) (g_beside : (Int → Int)) (g_besideBits : (Int → Int64)) (w_height : (Int → Int)) (w_drops : (Int → Int)) (w_hours : Int) : Option (Int × Int × Int × Int × Int × (Int → Int) × (Int → Int) × (Int → Int64) × (Int → Int) × (Int → Int) × Int) := z_b4 (m_X0_makeOpen N g_rows g_columns g_cells g_kind) (fun (g_rows_1 : Int) (g_columns_2 : Int) (g_cells_3 : Int) (g_kind_4 : (Int → Int)) => z_b3 (m_X4_makeDry N w_height w_drops w_hours) (fun (w_height_6 : (Int → Int)) (w_drops_7 : (Int → Int)) (w_hours_8 : Int) => m_X3_readInto_l1 N t_length g_beside g_besideBits w_hours_8 t_letters N 1 0 0 g_rows_1 g_columns_2 g_cells_3 g_kind_4 w_height_6 w_drops_7))
def m_X0_copyFrom (N : Nat) (t_rows : Int) (t_columns : Int) (t_cells : Int) (t_kind : (Int → Int)) (t_beside : (Int → Int)) (t_besideBits : (Int → Int64)) (o_rows : Int) (o_columns : Int) (o_cells : Int) (o_kind : (Int → Int)) (o_beside : (Int → Int)) (o_besideBits : (Int → Int64)) : Option (Int × Int × Int × (Int → Int) × (Int → Int) × (Int → Int64)) := z_chk ((0 : Int) ≤ 0 ∧ (0 : Int) ≤ 0 ∧ (0 : Int) ≤ 36 ∧ 0 + 36 ≤ (36 : Int) ∧ 0 + 36 ≤ (36 : Int)) (z_chk ((0 : Int) ≤ 0 ∧ (0 : Int) ≤ 0 ∧ (0 : Int) ≤ 144 ∧ 0 + 144 ≤ (144 : Int) ∧ 0 + 144 ≤ (144 : Int)) (z_chk ((0 : Int) ≤ 0 ∧ (0 : Int) ≤ 0 ∧ (0 : Int) ≤ 36 ∧ 0 + 36 ≤ (36 : Int) ∧ 0 + 36 ≤ (36 : Int)) (some (o_rows, o_columns, o_cells, (z_cpy o_kind t_kind 0 0 36), (z_cpy o_beside t_beside 0 0 144), (z_cpy o_besideBits t_besideBits 0 0 36)))))
def m_X4_copyFrom (N : Nat) (t_height : (Int → Int)) (t_drops : (Int → Int)) (t_hours : Int) (o_height : (Int → Int)) (o_drops : (Int → Int)) (o_hours : Int) : Option ((Int → Int) × (Int → Int) × Int) := z_chk ((0 : Int) ≤ 0 ∧ (0 : Int) ≤ 0 ∧ (0 : Int) ≤ 36 ∧ 0 + 36 ≤ (36 : Int) ∧ 0 + 36 ≤ (36 : Int)) (z_chk ((0 : Int) ≤ 0 ∧ (0 : Int) ≤ 0 ∧ (0 : Int) ≤ 36 ∧ 0 + 36 ≤ (36 : Int) ∧ 0 + 36 ≤ (36 : Int)) (some ((z_cpy o_height t_height 0 0 36), (z_cpy o_drops t_drops 0 0 36), o_hours)))
def m_X4_wetBits_l1 (N : Nat) (g_cells : Int) (t_drops : (Int → Int)) : Nat → Int64 → Int → Option (Int64)
  | 0, _, _ => none
  | n1 + 1, v2_1, v4_1 => if g_cells ≤ v4_1 then (some (v2_1)) else (if 36 ≤ v4_1 then (some (v2_1)) else (z_chk (0 ≤ v4_1 ∧ v4_1 < 36) (if (t_drops v4_1) ≤ 0 then (z_chk (z_n (v4_1 + 1)) (m_X4_wetBits_l1 N g_cells t_drops n1 v2_1 (v4_1 + 1))) else (z_chk (z_n (v4_1 + 1)) (m_X4_wetBits_l1 N g_cells t_drops n1 (v2_1 ||| (z_lshl (1 : Int64) v4_1)) (v4_1 + 1))))))
def m_X4_wetBits (N : Nat) (t_drops : (Int → Int)) (g_cells : Int) : Option (Int64) := z_b1 (m_X4_wetBits_l1 N g_cells t_drops N (0 : Int64) 0) (fun (o2_1 : Int64) => some (o2_1))
def m_X4_whereTo_l1 (N : Nat) (i3_1 : Int) (g_beside : (Int → Int)) (t_height : (Int → Int)) (t_drops : (Int → Int)) (i4_1 : Int) (g_kind : (Int → Int)) : Nat → Int → Int → Int → Option (Int)
  | 0, _, _, _ => none
  | n1 + 1, v5_1, v6_1, v7_1 => z_chk (z_n (i3_1 + 4)) (if (i3_1 + 4) ≤ v7_1 then (some (v5_1)) else (z_chk (0 ≤ v7_1 ∧ v7_1 < 144) (if (g_beside v7_1) < 0 then (z_chk (z_n (v7_1 + 1)) (m_X4_whereTo_l1 N i3_1 g_beside t_height t_drops i4_1 g_kind n1 v5_1 v6_1 (v7_1 + 1))) else (if 36 ≤ (g_beside v7_1) then (z_chk (z_n (v7_1 + 1)) (m_X4_whereTo_l1 N i3_1 g_beside t_height t_drops i4_1 g_kind n1 v5_1 v6_1 (v7_1 + 1))) else (z_chk (0 ≤ (g_beside v7_1) ∧ (g_beside v7_1) < 36) (z_chk (0 ≤ (g_beside v7_1) ∧ (g_beside v7_1) < 36) (z_chk (z_n ((t_height (g_beside v7_1)) + (t_drops (g_beside v7_1)))) (z_chk (z_n (i4_1 - 2)) (z_b1 (if ((t_height (g_beside v7_1)) + (t_drops (g_beside v7_1))) ≤ (i4_1 - 2) then (some (1)) else (z_chk (0 ≤ (g_beside v7_1) ∧ (g_beside v7_1) < 36) (if (g_kind (g_beside v7_1)) ≠ 2 then (some (0)) else (some (1))))) (fun (s26 : Int) => if s26 = 0 then (z_chk (z_n (v7_1 + 1)) (m_X4_whereTo_l1 N i3_1 g_beside t_height t_drops i4_1 g_kind n1 v5_1 v6_1 (v7_1 + 1))) else (if v6_1 ≤ ((t_height (g_beside v7_1)) + (t_drops (g_beside v7_1))) then (z_chk (z_n (v7_1 + 1)) (m_X4_whereTo_l1 N i3_1 g_beside t_height t_drops i4_1 g_kind n1 v5_1 v6_1 (v7_1 + 1))) else (z_chk (z_n (v7_1 + 1)) (m_X4_whereTo_l1 N i3_1 g_beside t_height t_drops i4_1 g_kind n1 (g_beside v7_1) ((t_height (g_beside v7_1)) + (t_drops (g_beside v7_1))) (v7_1 + 1))))))))))))))
def m_X4_whereTo (N : Nat) (t_height : (Int → Int)) (t_drops : (Int → Int)) (g_cells : Int) (g_kind : (Int → Int)) (g_beside : (Int → Int)) (x2 : Int) : Option (Int) := z_chk (z_n (x2 * 4)) (z_b1 (m_X0_holds N g_cells x2) (fun (r2 : Int) => if r2 = 0 then (some ((-4))) else (z_chk (0 ≤ x2 ∧ x2 < 36) (if (t_drops x2) ≤ 0 then (some ((-4))) else (z_chk (z_n ((x2 * 4) + 4)) (if ((x2 * 4) + 4) ≤ 144 then (z_chk (0 ≤ x2 ∧ x2 < 36) (z_chk (0 ≤ x2 ∧ x2 < 36) (z_chk (z_n ((t_height x2) + (t_drops x2))) (z_b1 (m_X4_whereTo_l1 N (x2 * 4) g_beside t_height t_drops ((t_height x2) + (t_drops x2)) g_kind N (-4) ((t_height x2) + (t_drops x2)) (x2 * 4)) (fun (o5_1 : Int) => some (o5_1)))))) else (some ((-4)))))))))
def m_X4_putDrop (N : Nat) (t_drops : (Int → Int)) (g_cells : Int) (g_kind : (Int → Int)) (x2 : Int) : Option ((Int → Int)) := z_b1 (m_X0_takesRain N g_cells g_kind x2) (fun (r1 : Int) => if r1 = 0 then (some (t_drops)) else (z_chk (0 ≤ x2 ∧ x2 < 36) (if 60 ≤ (t_drops x2) then (some (t_drops)) else (z_chk (0 ≤ x2 ∧ x2 < 36) (z_chk (z_n ((t_drops x2) + 1)) (z_chk (0 ≤ x2 ∧ x2 < 36) (some ((z_up t_drops x2 ((t_drops x2) + 1))))))))))
def m_X0_bitsBeside (N : Nat) (t_cells : Int) (t_besideBits : (Int → Int64)) (x1 : Int) : Option (Int64) := z_b1 (m_X0_holds N t_cells x1) (fun (r1 : Int) => if r1 = 0 then (some ((0 : Int64))) else (z_chk (0 ≤ x1 ∧ x1 < 36) (some ((t_besideBits x1)))))
def m_X4_flowFrom (N : Nat) (t_height : (Int → Int)) (t_drops : (Int → Int)) (t_restless : Int64) (g_cells : Int) (g_kind : (Int → Int)) (g_beside : (Int → Int)) (g_besideBits : (Int → Int64)) (x2 : Int) : Option ((Int → Int) × Int64) := z_b1 (m_X4_whereTo N t_height t_drops g_cells g_kind g_beside x2) (fun (r1 : Int) => if r1 ≠ (-4) then (z_chk (0 ≤ x2 ∧ x2 < 36) (z_chk (z_n ((t_drops x2) - 1)) (z_chk (0 ≤ x2 ∧ x2 < 36) (z_b1 (m_X4_putDrop N (z_up t_drops x2 ((t_drops x2) - 1)) g_cells g_kind r1) (fun (t_drops_7 : (Int → Int)) => z_b1 (m_X0_bitsBeside N g_cells g_besideBits x2) (fun (r9 : Int64) => some (t_drops_7, (t_restless ||| r9)))))))) else (some (t_drops, (t_restless &&& ((z_lshl (1 : Int64) x2) ^^^ (-1 : Int64))))))
def m_X4_flow_l2 (N : Nat) (g_cells : Int) (t_height : (Int → Int)) (g_kind : (Int → Int)) (g_beside : (Int → Int)) (g_besideBits : (Int → Int64)) : Nat → Int → (Int → Int) → Int64 → Option ((Int → Int) × Int64)
  | 0, _, _, _ => none
  | n2 + 1, v3_2, t_drops_2, t_restless_2 => if g_cells ≤ v3_2 then (some (t_drops_2, t_restless_2)) else (if 36 ≤ v3_2 then (some (t_drops_2, t_restless_2)) else (if (z_lcmp ((z_lshr t_restless_2 v3_2) &&& (1 : Int64)) (1 : Int64)) ≠ 0 then (z_chk (z_n (v3_2 + 1)) (m_X4_flow_l2 N g_cells t_height g_kind g_beside g_besideBits n2 (v3_2 + 1) t_drops_2 t_restless_2)) else (z_b2 (m_X4_flowFrom N t_height t_drops_2 t_restless_2 g_cells g_kind g_beside g_besideBits v3_2) (fun (t_drops_9 : (Int → Int)) (t_restless_10 : Int64) => z_chk (z_n (v3_2 + 1)) (m_X4_flow_l2 N g_cells t_height g_kind g_beside g_besideBits n2 (v3_2 + 1) t_drops_9 t_restless_10)))))
def m_X4_flow_l1 (N : Nat) (g_cells : Int) (t_height : (Int → Int)) (g_kind : (Int → Int)) (g_beside : (Int → Int)) (g_besideBits : (Int → Int64)) : Nat → Int → (Int → Int) → Int64 → Option ((Int → Int) × Int64)
  | 0, _, _, _ => none
  | n1 + 1, v2_1, t_drops_1, t_restless_1 => if (z_lcmp t_restless_1 (0 : Int64)) = 0 then (some (t_drops_1, t_restless_1)) else (if 1000000 ≤ v2_1 then (some (t_drops_1, t_restless_1)) else (z_b2 (m_X4_flow_l2 N g_cells t_height g_kind g_beside g_besideBits N 0 t_drops_1 t_restless_1) (fun (o_t_drops_2 : (Int → Int)) (o_t_restless_2 : Int64) => z_chk (z_n (v2_1 + 1)) (m_X4_flow_l1 N g_cells t_height g_kind g_beside g_besideBits n1 (v2_1 + 1) o_t_drops_2 o_t_restless_2))))
def m_X4_flow (N : Nat) (t_height : (Int → Int)) (t_drops : (Int → Int)) (t_restless : Int64) (g_cells : Int) (g_kind : (Int → Int)) (g_beside : (Int → Int)) (g_besideBits : (Int → Int64)) : Option ((Int → Int) × Int64) := z_b1 (m_X4_wetBits N t_drops g_cells) (fun (r1 : Int64) => z_b2 (m_X4_flow_l1 N g_cells t_height g_kind g_beside g_besideBits N 0 t_drops r1) (fun (o_t_drops_1 : (Int → Int)) (o_t_restless_1 : Int64) => some (o_t_drops_1, o_t_restless_1)))
def m_X5_layText (N : Nat) (m_rings : Int) (tx_letters : (Int → Int)) (tx_length : Int) (tx_at : Int) (gr_rows : Int) (gr_columns : Int) (gr_cells : Int) (gr_kind : (Int → Int)) (gr_beside : (Int → Int)) (gr_besideBits : (Int → Int64)) (nw_height : (Int → Int)) (nw_drops : (Int → Int)) (nw_hours : Int) (nw_restless : Int64) (og_rows : Int) (og_columns : Int) (og_cells : Int) (og_kind : (Int → Int)) (og_beside : (Int → Int)) (og_besideBits : (Int → Int64)) (la_height : (Int → Int)) (la_drops : (Int → Int)) (la_hours : Int) (un_many : Int) (kp_many : Int) : Option (Int × Int × Int × Int × Int × Int × (Int → Int) × (Int → Int) × (Int → Int64) × (Int → Int) × (Int → Int) × Int × Int64 × Int × Int × Int × (Int → Int) × (Int → Int) × (Int → Int64) × (Int → Int) × (Int → Int) × Int × Int × Int) := z_b11 (m_X3_readInto N tx_letters tx_length tx_at og_rows og_columns og_cells og_kind og_beside og_besideBits la_height la_drops la_hours) (fun (r1 : Int) (tx_at_2 : Int) (og_rows_3 : Int) (og_columns_4 : Int) (og_cells_5 : Int) (og_kind_6 : (Int → Int)) (og_beside_7 : (Int → Int)) (og_besideBits_8 : (Int → Int64)) (la_height_9 : (Int → Int)) (la_drops_10 : (Int → Int)) (la_hours_11 : Int) => if r1 = (-4) then (z_b6 (m_X0_copyFrom N gr_rows gr_columns gr_cells gr_kind gr_beside gr_besideBits og_rows_3 og_columns_4 og_cells_5 og_kind_6 og_beside_7 og_besideBits_8) (fun (gr_rows_14 : Int) (gr_columns_15 : Int) (gr_cells_16 : Int) (gr_kind_17 : (Int → Int)) (gr_beside_18 : (Int → Int)) (gr_besideBits_19 : (Int → Int64)) => z_b3 (m_X4_copyFrom N nw_height nw_drops nw_hours la_height_9 la_drops_10 la_hours_11) (fun (nw_height_21 : (Int → Int)) (nw_drops_22 : (Int → Int)) (nw_hours_23 : Int) => z_b2 (m_X4_flow N nw_height_21 nw_drops_22 nw_restless gr_cells_16 gr_kind_17 gr_beside_18 gr_besideBits_19) (fun (nw_drops_25 : (Int → Int)) (nw_restless_26 : Int64) => some (1, 0, tx_at_2, gr_rows_14, gr_columns_15, gr_cells_16, gr_kind_17, gr_beside_18, gr_besideBits_19, nw_height_21, nw_drops_25, nw_hours_23, nw_restless_26, og_rows_3, og_columns_4, og_cells_5, og_kind_6, og_beside_7, og_besideBits_8, la_height_9, la_drops_10, la_hours_11, 0, 0))))) else (some (0, m_rings, tx_at_2, gr_rows, gr_columns, gr_cells, gr_kind, gr_beside, gr_besideBits, nw_height, nw_drops, nw_hours, nw_restless, og_rows_3, og_columns_4, og_cells_5, og_kind_6, og_beside_7, og_besideBits_8, la_height_9, la_drops_10, la_hours_11, un_many, kp_many)))
def m_X3_empty (N : Nat) (t_length : Int) : Option (Int) := some (0)
def m_X5_write (N : Nat) (tx_letters : (Int → Int)) (tx_length : Int) (x1 : Int) : Option (Int × (Int → Int) × Int) := if x1 < 32 then (some ((-1), tx_letters, tx_length)) else (if x1 ≤ 126 then (if tx_length < 200 then (z_b2 (m_X3_add N tx_letters tx_length (z_i2c x1)) (fun (tx_letters_4 : (Int → Int)) (tx_length_5 : Int) => some (tx_length_5, tx_letters_4, tx_length_5))) else (some ((-3), tx_letters, tx_length))) else (some ((-1), tx_letters, tx_length)))
def m_X5_wipe (N : Nat) (tx_length : Int) : Option (Int × Int) := z_b1 (m_X3_empty N tx_length) (fun (tx_length_1 : Int) => some (tx_length, tx_length_1))
def m_X5_fault (N : Nat) (tx_letters : (Int → Int)) (tx_length : Int) (tx_at : Int) (og_rows : Int) (og_columns : Int) (og_cells : Int) (og_kind : (Int → Int)) (og_beside : (Int → Int)) (og_besideBits : (Int → Int64)) (la_height : (Int → Int)) (la_drops : (Int → Int)) (la_hours : Int) : Option (Int × Int × Int × Int × Int × (Int → Int) × (Int → Int) × (Int → Int64) × (Int → Int) × (Int → Int) × Int) := z_b11 (m_X3_readInto N tx_letters tx_length tx_at og_rows og_columns og_cells og_kind og_beside og_besideBits la_height la_drops la_hours) (fun (r1 : Int) (tx_at_2 : Int) (og_rows_3 : Int) (og_columns_4 : Int) (og_cells_5 : Int) (og_kind_6 : (Int → Int)) (og_beside_7 : (Int → Int)) (og_besideBits_8 : (Int → Int64)) (la_height_9 : (Int → Int)) (la_drops_10 : (Int → Int)) (la_hours_11 : Int) => some (r1, tx_at_2, og_rows_3, og_columns_4, og_cells_5, og_kind_6, og_beside_7, og_besideBits_8, la_height_9, la_drops_10, la_hours_11))
def m_X5_lay (N : Nat) (m_rings : Int) (tx_letters : (Int → Int)) (tx_length : Int) (tx_at : Int) (gr_rows : Int) (gr_columns : Int) (gr_cells : Int) (gr_kind : (Int → Int)) (gr_beside : (Int → Int)) (gr_besideBits : (Int → Int64)) (nw_height : (Int → Int)) (nw_drops : (Int → Int)) (nw_hours : Int) (nw_restless : Int64) (og_rows : Int) (og_columns : Int) (og_cells : Int) (og_kind : (Int → Int)) (og_beside : (Int → Int)) (og_besideBits : (Int → Int64)) (la_height : (Int → Int)) (la_drops : (Int → Int)) (la_hours : Int) (un_many : Int) (kp_many : Int) : Option (Int × Int × Int × Int × Int × Int × (Int → Int) × (Int → Int) × (Int → Int64) × (Int → Int) × (Int → Int) × Int × Int64 × Int × Int × Int × (Int → Int) × (Int → Int) × (Int → Int64) × (Int → Int) × (Int → Int) × Int × Int × Int) := if tx_length = 0 then (some ((-2), m_rings, tx_at, gr_rows, gr_columns, gr_cells, gr_kind, gr_beside, gr_besideBits, nw_height, nw_drops, nw_hours, nw_restless, og_rows, og_columns, og_cells, og_kind, og_beside, og_besideBits, la_height, la_drops, la_hours, un_many, kp_many)) else (z_b24 (m_X5_layText N m_rings tx_letters tx_length tx_at gr_rows gr_columns gr_cells gr_kind gr_beside gr_besideBits nw_height nw_drops nw_hours nw_restless og_rows og_columns og_cells og_kind og_beside og_besideBits la_height la_drops la_hours un_many kp_many) (fun (r2 : Int) (m_rings_3 : Int) (tx_at_4 : Int) (gr_rows_5 : Int) (gr_columns_6 : Int) (gr_cells_7 : Int) (gr_kind_8 : (Int → Int)) (gr_beside_9 : (Int → Int)) (gr_besideBits_10 : (Int → Int64)) (nw_height_11 : (Int → Int)) (nw_drops_12 : (Int → Int)) (nw_hours_13 : Int) (nw_restless_14 : Int64) (og_rows_15 : Int) (og_columns_16 : Int) (og_cells_17 : Int) (og_kind_18 : (Int → Int)) (og_beside_19 : (Int → Int)) (og_besideBits_20 : (Int → Int64)) (la_height_21 : (Int → Int)) (la_drops_22 : (Int → Int)) (la_hours_23 : Int) (un_many_24 : Int) (kp_many_25 : Int) => if r2 ≠ 0 then (some (gr_cells_7, m_rings_3, tx_at_4, gr_rows_5, gr_columns_6, gr_cells_7, gr_kind_8, gr_beside_9, gr_besideBits_10, nw_height_11, nw_drops_12, nw_hours_13, nw_restless_14, og_rows_15, og_columns_16, og_cells_17, og_kind_18, og_beside_19, og_besideBits_20, la_height_21, la_drops_22, la_hours_23, un_many_24, kp_many_25)) else (some ((-2), m_rings_3, tx_at_4, gr_rows_5, gr_columns_6, gr_cells_7, gr_kind_8, gr_beside_9, gr_besideBits_10, nw_height_11, nw_drops_12, nw_hours_13, nw_restless_14, og_rows_15, og_columns_16, og_cells_17, og_kind_18, og_beside_19, og_besideBits_20, la_height_21, la_drops_22, la_hours_23, un_many_24, kp_many_25))))
def m_X2_claim (N : Nat) (t_state : (Int → Int)) (t_waiting : (Int → Int)) (t_waits : Int) (w_drops : (Int → Int)) (x2 : Int) (x3 : Int) : Option ((Int → Int) × (Int → Int) × Int) := if x2 < 0 then (some (t_state, t_waiting, t_waits)) else (if 36 ≤ x2 then (some (t_state, t_waiting, t_waits)) else (z_chk (0 ≤ x2 ∧ x2 < 36) (if (w_drops x2) ≤ 0 then (some (t_state, t_waiting, t_waits)) else (z_chk (0 ≤ x2 ∧ x2 < 36) (if (t_state x2) ≠ (-4) then (some (t_state, t_waiting, t_waits)) else (if 36 ≤ t_waits then (some (t_state, t_waiting, t_waits)) else (z_chk (0 ≤ x2 ∧ x2 < 36) (z_chk (0 ≤ t_waits ∧ t_waits < 36) (z_chk (z_n (t_waits + 1)) (some ((z_up t_state x2 x3), (z_up t_waiting t_waits x2), (t_waits + 1))))))))))))
def m_X0_cellBeside (N : Nat) (t_beside : (Int → Int)) (x1 : Int) (x2 : Int) : Option (Int) := z_chk (z_n (x1 * 4)) (z_chk (z_n ((x1 * 4) + x2)) (if ((x1 * 4) + x2) < 0 then (some ((-4))) else (if 144 ≤ ((x1 * 4) + x2) then (some ((-4))) else (z_chk (0 ≤ ((x1 * 4) + x2) ∧ ((x1 * 4) + x2) < 144) (some ((t_beside ((x1 * 4) + x2))))))))
def m_X2_spread_l2 (N : Nat) (g_beside : (Int → Int)) (i5_2 : Int) (w_drops : (Int → Int)) (x3 : Int) : Nat → Int → (Int → Int) → (Int → Int) → Int → Option ((Int → Int) × (Int → Int) × Int)
  | 0, _, _, _, _ => none
  | n2 + 1, v6_2, t_state_2, t_waiting_2, t_waits_2 => if 4 ≤ v6_2 then (some (t_state_2, t_waiting_2, t_waits_2)) else (z_b1 (m_X0_cellBeside N g_beside i5_2 v6_2) (fun (r10 : Int) => z_b3 (m_X2_claim N t_state_2 t_waiting_2 t_waits_2 w_drops r10 x3) (fun (t_state_12 : (Int → Int)) (t_waiting_13 : (Int → Int)) (t_waits_14 : Int) => z_chk (z_n (v6_2 + 1)) (m_X2_spread_l2 N g_beside i5_2 w_drops x3 n2 (v6_2 + 1) t_state_12 t_waiting_13 t_waits_14))))
def m_X2_spread_l1 (N : Nat) (g_beside : (Int → Int)) (w_drops : (Int → Int)) (x3 : Int) : Nat → Int → (Int → Int) → (Int → Int) → Int → Option ((Int → Int) × (Int → Int) × Int)
  | 0, _, _, _, _ => none
  | n1 + 1, v4_1, t_state_1, t_waiting_1, t_waits_1 => if 36 ≤ v4_1 then (some (t_state_1, t_waiting_1, t_waits_1)) else (if t_waits_1 ≤ 0 then (some (t_state_1, t_waiting_1, t_waits_1)) else (z_chk (z_n (t_waits_1 - 1)) (z_chk (0 ≤ (t_waits_1 - 1) ∧ (t_waits_1 - 1) < 36) (z_b3 (m_X2_spread_l2 N g_beside (t_waiting_1 (t_waits_1 - 1)) w_drops x3 N 0 t_state_1 t_waiting_1 (t_waits_1 - 1)) (fun (o_t_state_2 : (Int → Int)) (o_t_waiting_2 : (Int → Int)) (o_t_waits_2 : Int) => z_chk (z_n (v4_1 + 1)) (m_X2_spread_l1 N g_beside w_drops x3 n1 (v4_1 + 1) o_t_state_2 o_t_waiting_2 o_t_waits_2))))))
def m_X2_spread (N : Nat) (t_state : (Int → Int)) (t_waiting : (Int → Int)) (t_waits : Int) (g_beside : (Int → Int)) (w_drops : (Int → Int)) (x3 : Int) : Option ((Int → Int) × (Int → Int) × Int) := z_b3 (m_X2_claim N t_state t_waiting 0 w_drops x3 x3) (fun (t_state_1 : (Int → Int)) (t_waiting_2 : (Int → Int)) (t_waits_3 : Int) => z_b3 (m_X2_spread_l1 N g_beside w_drops x3 N 0 t_state_1 t_waiting_2 t_waits_3) (fun (o_t_state_1 : (Int → Int)) (o_t_waiting_1 : (Int → Int)) (o_t_waits_1 : Int) => some (o_t_state_1, o_t_waiting_1, o_t_waits_1)))
def m_X2_map_l1 (N : Nat) (g_cells : Int) (w_drops : (Int → Int)) (g_beside : (Int → Int)) : Nat → Int → (Int → Int) → (Int → Int) → Int → Int → Option ((Int → Int) × (Int → Int) × Int × Int)
  | 0, _, _, _, _, _ => none
  | n1 + 1, v3_1, t_state_1, t_waiting_1, t_waits_1, t_many_1 => if g_cells ≤ v3_1 then (some (t_state_1, t_waiting_1, t_waits_1, t_many_1)) else (if 36 ≤ v3_1 then (some (t_state_1, t_waiting_1, t_waits_1, t_many_1)) else (z_chk (0 ≤ v3_1 ∧ v3_1 < 36) (if (w_drops v3_1) ≤ 0 then (z_chk (z_n (v3_1 + 1)) (m_X2_map_l1 N g_cells w_drops g_beside n1 (v3_1 + 1) t_state_1 t_waiting_1 t_waits_1 t_many_1)) else (z_chk (0 ≤ v3_1 ∧ v3_1 < 36) (if (t_state_1 v3_1) ≠ (-4) then (z_chk (z_n (v3_1 + 1)) (m_X2_map_l1 N g_cells w_drops g_beside n1 (v3_1 + 1) t_state_1 t_waiting_1 t_waits_1 t_many_1)) else (z_chk (z_n (t_many_1 + 1)) (z_b3 (m_X2_spread N t_state_1 t_waiting_1 t_waits_1 g_beside w_drops v3_1) (fun (t_state_12 : (Int → Int)) (t_waiting_13 : (Int → Int)) (t_waits_14 : Int) => z_chk (z_n (v3_1 + 1)) (m_X2_map_l1 N g_cells w_drops g_beside n1 (v3_1 + 1) t_state_12 t_waiting_13 t_waits_14 (t_many_1 + 1))))))))))
def m_X2_map (N : Nat) (t_state : (Int → Int)) (t_waiting : (Int → Int)) (t_waits : Int) (t_cells : Int) (t_many : Int) (g_cells : Int) (g_beside : (Int → Int)) (w_drops : (Int → Int)) : Option ((Int → Int) × (Int → Int) × Int × Int × Int) := z_b1 (m_J7_fill_53178 N 36 t_state (-4)) (fun (t_state_1 : (Int → Int)) => z_b4 (m_X2_map_l1 N g_cells w_drops g_beside N 0 t_state_1 t_waiting t_waits 0) (fun (o_t_state_1 : (Int → Int)) (o_t_waiting_1 : (Int → Int)) (o_t_waits_1 : Int) (o_t_many_1 : Int) => some (o_t_state_1, o_t_waiting_1, o_t_waits_1, g_cells, o_t_many_1)))
def m_X2_stateOf (N : Nat) (t_state : (Int → Int)) (t_cells : Int) (x1 : Int) : Option (Int) := if x1 < 0 then (some ((-4))) else (if t_cells ≤ x1 then (some ((-4))) else (if 36 ≤ x1 then (some ((-4))) else (z_chk (0 ≤ x1 ∧ x1 < 36) (some ((t_state x1))))))
def m_X2_sizeAt_l1 (N : Nat) (t_cells : Int) (r1 : Int) (t_state : (Int → Int)) : Nat → Int → Int → Option (Int)
  | 0, _, _ => none
  | n1 + 1, v3_1, v4_1 => if t_cells ≤ v4_1 then (some (v3_1)) else (if r1 = (-4) then (some (v3_1)) else (z_b1 (m_X2_stateOf N t_state t_cells v4_1) (fun (r5 : Int) => if r5 ≠ r1 then (z_chk (z_n (v4_1 + 1)) (m_X2_sizeAt_l1 N t_cells r1 t_state n1 v3_1 (v4_1 + 1))) else (z_chk (z_n (v3_1 + 1)) (z_chk (z_n (v4_1 + 1)) (m_X2_sizeAt_l1 N t_cells r1 t_state n1 (v3_1 + 1) (v4_1 + 1)))))))
def m_X2_sizeAt (N : Nat) (t_state : (Int → Int)) (t_cells : Int) (x1 : Int) : Option (Int) := z_b1 (m_X2_stateOf N t_state t_cells x1) (fun (r1 : Int) => z_b1 (m_X2_sizeAt_l1 N t_cells r1 t_state N 0 0) (fun (o3_1 : Int) => some (o3_1)))
def m_X2_depthAt_l1 (N : Nat) (t_cells : Int) (r1 : Int) (t_state : (Int → Int)) (w_drops : (Int → Int)) : Nat → Int → Int → Option (Int)
  | 0, _, _ => none
  | n1 + 1, v4_1, v5_1 => if t_cells ≤ v5_1 then (some (v4_1)) else (if 36 ≤ v5_1 then (some (v4_1)) else (if r1 = (-4) then (some (v4_1)) else (z_chk (0 ≤ v5_1 ∧ v5_1 < 36) (if (t_state v5_1) ≠ r1 then (z_chk (z_n (v5_1 + 1)) (m_X2_depthAt_l1 N t_cells r1 t_state w_drops n1 v4_1 (v5_1 + 1))) else (z_chk (0 ≤ v5_1 ∧ v5_1 < 36) (z_chk (z_n (v5_1 + 1)) (m_X2_depthAt_l1 N t_cells r1 t_state w_drops n1 (z_max v4_1 (w_drops v5_1)) (v5_1 + 1))))))))
def m_X2_depthAt (N : Nat) (t_state : (Int → Int)) (t_cells : Int) (w_drops : (Int → Int)) (x1 : Int) : Option (Int) := z_b1 (m_X2_stateOf N t_state t_cells x1) (fun (r1 : Int) => z_b1 (m_X2_depthAt_l1 N t_cells r1 t_state w_drops N 0 0) (fun (o4_1 : Int) => some (o4_1)))
def m_X5_cell (N : Nat) (gr_cells : Int) (gr_kind : (Int → Int)) (gr_beside : (Int → Int)) (nw_height : (Int → Int)) (nw_drops : (Int → Int)) (ss_state : (Int → Int)) (ss_waiting : (Int → Int)) (ss_waits : Int) (ss_cells : Int) (ss_many : Int) (x1 : Int) (x2 : Int) : Option (Int × (Int → Int) × (Int → Int) × Int × Int × Int) := z_b1 (m_X0_holds N gr_cells x1) (fun (r1 : Int) => if r1 = 0 then (some ((-1), ss_state, ss_waiting, ss_waits, ss_cells, ss_many)) else (z_b1 (m_X5_isFrom N x2 0 5) (fun (r4 : Int) => if r4 ≠ 0 then (if x2 ≠ 0 then (if x2 ≠ 1 then (if x2 ≠ 2 then (z_b5 (m_X2_map N ss_state ss_waiting ss_waits ss_cells ss_many gr_cells gr_beside nw_drops) (fun (ss_state_10 : (Int → Int)) (ss_waiting_11 : (Int → Int)) (ss_waits_12 : Int) (ss_cells_13 : Int) (ss_many_14 : Int) => if x2 ≠ 3 then (if x2 ≠ 4 then (z_b1 (m_X2_depthAt N ss_state_10 ss_cells_13 nw_drops x1) (fun (r18 : Int) => some (r18, ss_state_10, ss_waiting_11, ss_waits_12, ss_cells_13, ss_many_14))) else (z_b1 (m_X2_sizeAt N ss_state_10 ss_cells_13 x1) (fun (r20 : Int) => some (r20, ss_state_10, ss_waiting_11, ss_waits_12, ss_cells_13, ss_many_14)))) else (z_b1 (m_X2_stateOf N ss_state_10 ss_cells_13 x1) (fun (r22 : Int) => some (r22, ss_state_10, ss_waiting_11, ss_waits_12, ss_cells_13, ss_many_14))))) else (z_chk (0 ≤ x1 ∧ x1 < 36) (some ((nw_drops x1), ss_state, ss_waiting, ss_waits, ss_cells, ss_many)))) else (z_chk (0 ≤ x1 ∧ x1 < 36) (some ((gr_kind x1), ss_state, ss_waiting, ss_waits, ss_cells, ss_many)))) else (z_chk (0 ≤ x1 ∧ x1 < 36) (some ((nw_height x1), ss_state, ss_waiting, ss_waits, ss_cells, ss_many)))) else (some ((-1), ss_state, ss_waiting, ss_waits, ss_cells, ss_many)))))
def m_X1_dropOldest (N : Nat) (t_heights : (Int → Int)) (t_drops : (Int → Int)) (t_hours : (Int → Int)) (t_many : Int) : Option ((Int → Int) × (Int → Int) × (Int → Int) × Int) := z_chk (z_n (7 * 36)) (z_chk ((0 : Int) ≤ 36 ∧ (0 : Int) ≤ 0 ∧ (0 : Int) ≤ (7 * 36) ∧ 36 + (7 * 36) ≤ (288 : Int) ∧ 0 + (7 * 36) ≤ (288 : Int)) (z_chk (z_n (7 * 36)) (z_chk ((0 : Int) ≤ 36 ∧ (0 : Int) ≤ 0 ∧ (0 : Int) ≤ (7 * 36) ∧ 36 + (7 * 36) ≤ (288 : Int) ∧ 0 + (7 * 36) ≤ (288 : Int)) (z_chk ((0 : Int) ≤ 1 ∧ (0 : Int) ≤ 0 ∧ (0 : Int) ≤ 7 ∧ 1 + 7 ≤ (8 : Int) ∧ 0 + 7 ≤ (8 : Int)) (some ((z_cpy t_heights t_heights 36 0 (7 * 36)), (z_cpy t_drops t_drops 36 0 (7 * 36)), (z_cpy t_hours t_hours 1 0 7), 7))))))
def m_X1_push (N : Nat) (t_heights : (Int → Int)) (t_drops : (Int → Int)) (t_hours : (Int → Int)) (t_many : Int) (w_height : (Int → Int)) (w_drops : (Int → Int)) (w_hours : Int) : Option ((Int → Int) × (Int → Int) × (Int → Int) × Int) := z_b4 (if t_many < 8 then (some (t_heights, t_drops, t_hours, t_many)) else (z_b4 (m_X1_dropOldest N t_heights t_drops t_hours t_many) (fun (t_heights_2 : (Int → Int)) (t_drops_3 : (Int → Int)) (t_hours_4 : (Int → Int)) (t_many_5 : Int) => some (t_heights_2, t_drops_3, t_hours_4, t_many_5)))) (fun (t_heights_7 : (Int → Int)) (t_drops_8 : (Int → Int)) (t_hours_9 : (Int → Int)) (t_many_10 : Int) => if t_many_10 < 0 then (some (t_heights_7, t_drops_8, t_hours_9, t_many_10)) else (if 8 ≤ t_many_10 then (some (t_heights_7, t_drops_8, t_hours_9, t_many_10)) else (z_chk (z_n (t_many_10 * 36)) (z_chk ((0 : Int) ≤ 0 ∧ (0 : Int) ≤ (t_many_10 * 36) ∧ (0 : Int) ≤ 36 ∧ 0 + 36 ≤ (36 : Int) ∧ (t_many_10 * 36) + 36 ≤ (288 : Int)) (z_chk (z_n (t_many_10 * 36)) (z_chk ((0 : Int) ≤ 0 ∧ (0 : Int) ≤ (t_many_10 * 36) ∧ (0 : Int) ≤ 36 ∧ 0 + 36 ≤ (36 : Int) ∧ (t_many_10 * 36) + 36 ≤ (288 : Int)) (z_chk (0 ≤ t_many_10 ∧ t_many_10 < 8) (z_chk (z_n (t_many_10 + 1)) (some ((z_cpy w_height t_heights_7 0 (t_many_10 * 36) 36), (z_cpy w_drops t_drops_8 0 (t_many_10 * 36) 36), (z_up t_hours_9 t_many_10 w_hours), (t_many_10 + 1)))))))))))
def m_X4_pour_l1 (N : Nat) (g_cells : Int) (g_kind : (Int → Int)) (x2 : Int) : Nat → Int → (Int → Int) → Option ((Int → Int))
  | 0, _, _ => none
  | n1 + 1, v3_1, t_drops_1 => if g_cells ≤ v3_1 then (some (t_drops_1)) else (if 36 ≤ v3_1 then (some (t_drops_1)) else (z_b1 (m_X0_takesRain N g_cells g_kind v3_1) (fun (r3 : Int) => if r3 = 0 then (z_chk (z_n (v3_1 + 1)) (m_X4_pour_l1 N g_cells g_kind x2 n1 (v3_1 + 1) t_drops_1)) else (z_chk (0 ≤ v3_1 ∧ v3_1 < 36) (z_chk (z_n ((t_drops_1 v3_1) + x2)) (z_chk (0 ≤ v3_1 ∧ v3_1 < 36) (z_chk (z_n (v3_1 + 1)) (m_X4_pour_l1 N g_cells g_kind x2 n1 (v3_1 + 1) (z_up t_drops_1 v3_1 (z_min 60 ((t_drops_1 v3_1) + x2)))))))))))
def m_X4_pour (N : Nat) (t_height : (Int → Int)) (t_drops : (Int → Int)) (t_restless : Int64) (g_cells : Int) (g_kind : (Int → Int)) (g_beside : (Int → Int)) (g_besideBits : (Int → Int64)) (x2 : Int) : Option ((Int → Int) × Int64) := z_b1 (m_X4_pour_l1 N g_cells g_kind x2 N 0 t_drops) (fun (o_t_drops_1 : (Int → Int)) => z_b2 (m_X4_flow N t_height o_t_drops_1 t_restless g_cells g_kind g_beside g_besideBits) (fun (t_drops_11 : (Int → Int)) (t_restless_12 : Int64) => some (t_drops_11, t_restless_12)))
def m_X4_allDrops_l1 (N : Nat) (g_cells : Int) (t_drops : (Int → Int)) : Nat → Int → Int → Option (Int)
  | 0, _, _ => none
  | n1 + 1, v2_1, v3_1 => if g_cells ≤ v3_1 then (some (v2_1)) else (if 36 ≤ v3_1 then (some (v2_1)) else (z_chk (0 ≤ v3_1 ∧ v3_1 < 36) (z_chk (z_n (v2_1 + (t_drops v3_1))) (z_chk (z_n (v3_1 + 1)) (m_X4_allDrops_l1 N g_cells t_drops n1 (v2_1 + (t_drops v3_1)) (v3_1 + 1))))))
def m_X4_allDrops (N : Nat) (t_drops : (Int → Int)) (g_cells : Int) : Option (Int) := z_b1 (m_X4_allDrops_l1 N g_cells t_drops N 0 0) (fun (o2_1 : Int) => some (o2_1))
def m_X5_rain (N : Nat) (gr_cells : Int) (gr_kind : (Int → Int)) (gr_beside : (Int → Int)) (gr_besideBits : (Int → Int64)) (nw_height : (Int → Int)) (nw_drops : (Int → Int)) (nw_hours : Int) (nw_restless : Int64) (un_heights : (Int → Int)) (un_drops : (Int → Int)) (un_hours : (Int → Int)) (un_many : Int) (x1 : Int) : Option (Int × (Int → Int) × Int64 × (Int → Int) × (Int → Int) × (Int → Int) × Int) := z_b1 (m_X5_isFrom N x1 1 9) (fun (r1 : Int) => if r1 ≠ 0 then (z_b4 (m_X1_push N un_heights un_drops un_hours un_many nw_height nw_drops nw_hours) (fun (un_heights_4 : (Int → Int)) (un_drops_5 : (Int → Int)) (un_hours_6 : (Int → Int)) (un_many_7 : Int) => z_b2 (m_X4_pour N nw_height nw_drops nw_restless gr_cells gr_kind gr_beside gr_besideBits x1) (fun (nw_drops_9 : (Int → Int)) (nw_restless_10 : Int64) => z_b1 (m_X4_allDrops N nw_drops_9 gr_cells) (fun (r12 : Int) => some (r12, nw_drops_9, nw_restless_10, un_heights_4, un_drops_5, un_hours_6, un_many_7))))) else (some ((-1), nw_drops, nw_restless, un_heights, un_drops, un_hours, un_many)))
def m_X0_isKind (N : Nat) (t_cells : Int) (t_kind : (Int → Int)) (x1 : Int) (x2 : Int) : Option (Int) := z_b1 (m_X0_holds N t_cells x1) (fun (r1 : Int) => if r1 = 0 then (some (0)) else (z_chk (0 ≤ x1 ∧ x1 < 36) (if (t_kind x1) ≠ x2 then (some (0)) else (some (1)))))
def m_X4_passHour_l1 (N : Nat) (g_cells : Int) (s4 : Int) (g_kind : (Int → Int)) : Nat → Int → (Int → Int) → Option ((Int → Int))
  | 0, _, _ => none
  | n1 + 1, v3_1, t_drops_1 => if g_cells ≤ v3_1 then (some (t_drops_1)) else (if 36 ≤ v3_1 then (some (t_drops_1)) else (z_chk (0 ≤ v3_1 ∧ v3_1 < 36) (z_b1 (if (t_drops_1 v3_1) ≤ 0 then (some (t_drops_1)) else (if s4 ≠ 0 then (z_chk (0 ≤ v3_1 ∧ v3_1 < 36) (z_chk (z_n ((t_drops_1 v3_1) - 1)) (z_chk (0 ≤ v3_1 ∧ v3_1 < 36) (some ((z_up t_drops_1 v3_1 ((t_drops_1 v3_1) - 1))))))) else (z_b1 (m_X0_isKind N g_cells g_kind v3_1 1) (fun (r14 : Int) => if r14 ≠ 0 then (some (t_drops_1)) else (z_chk (0 ≤ v3_1 ∧ v3_1 < 36) (z_chk (z_n ((t_drops_1 v3_1) - 1)) (z_chk (0 ≤ v3_1 ∧ v3_1 < 36) (some ((z_up t_drops_1 v3_1 ((t_drops_1 v3_1) - 1))))))))))) (fun (t_drops_20 : (Int → Int)) => z_b1 (m_X0_isKind N g_cells g_kind v3_1 4) (fun (r22 : Int) => if r22 = 0 then (z_chk (z_n (v3_1 + 1)) (m_X4_passHour_l1 N g_cells s4 g_kind n1 (v3_1 + 1) t_drops_20)) else (z_b1 (m_X4_putDrop N t_drops_20 g_cells g_kind v3_1) (fun (t_drops_26 : (Int → Int)) => z_chk (z_n (v3_1 + 1)) (m_X4_passHour_l1 N g_cells s4 g_kind n1 (v3_1 + 1) t_drops_26))))))))
def m_X4_passHour (N : Nat) (t_height : (Int → Int)) (t_drops : (Int → Int)) (t_hours : Int) (t_restless : Int64) (g_cells : Int) (g_kind : (Int → Int)) (g_beside : (Int → Int)) (g_besideBits : (Int → Int64)) : Option ((Int → Int) × Int × Int64) := z_chk (z_n (t_hours + 1)) (z_chk (z_n (Int.tmod (t_hours + 1) 2)) (z_b1 (if (Int.tmod (t_hours + 1) 2) ≠ 0 then (some (0)) else (some (1))) (fun (s4 : Int) => z_b1 (m_X4_passHour_l1 N g_cells s4 g_kind N 0 t_drops) (fun (o_t_drops_1 : (Int → Int)) => z_b2 (m_X4_flow N t_height o_t_drops_1 t_restless g_cells g_kind g_beside g_besideBits) (fun (t_drops_29 : (Int → Int)) (t_restless_30 : Int64) => some (t_drops_29, (t_hours + 1), t_restless_30))))))
def m_X4_passHours_l1 (N : Nat) (x2 : Int) (t_height : (Int → Int)) (g_cells : Int) (g_kind : (Int → Int)) (g_beside : (Int → Int)) (g_besideBits : (Int → Int64)) : Nat → Int → (Int → Int) → Int → Int64 → Option ((Int → Int) × Int × Int64)
  | 0, _, _, _, _ => none
  | n1 + 1, v3_1, t_drops_1, t_hours_1, t_restless_1 => if x2 ≤ v3_1 then (some (t_drops_1, t_hours_1, t_restless_1)) else (z_b3 (m_X4_passHour N t_height t_drops_1 t_hours_1 t_restless_1 g_cells g_kind g_beside g_besideBits) (fun (t_drops_2 : (Int → Int)) (t_hours_3 : Int) (t_restless_4 : Int64) => z_chk (z_n (v3_1 + 1)) (m_X4_passHours_l1 N x2 t_height g_cells g_kind g_beside g_besideBits n1 (v3_1 + 1) t_drops_2 t_hours_3 t_restless_4)))
def m_X4_passHours (N : Nat) (t_height : (Int → Int)) (t_drops : (Int → Int)) (t_hours : Int) (t_restless : Int64) (g_cells : Int) (g_kind : (Int → Int)) (g_beside : (Int → Int)) (g_besideBits : (Int → Int64)) (x2 : Int) : Option ((Int → Int) × Int × Int64) := z_b3 (m_X4_passHours_l1 N x2 t_height g_cells g_kind g_beside g_besideBits N 0 t_drops t_hours t_restless) (fun (o_t_drops_1 : (Int → Int)) (o_t_hours_1 : Int) (o_t_restless_1 : Int64) => some (o_t_drops_1, o_t_hours_1, o_t_restless_1))
def m_X5_shine (N : Nat) (gr_cells : Int) (gr_kind : (Int → Int)) (gr_beside : (Int → Int)) (gr_besideBits : (Int → Int64)) (nw_height : (Int → Int)) (nw_drops : (Int → Int)) (nw_hours : Int) (nw_restless : Int64) (un_heights : (Int → Int)) (un_drops : (Int → Int)) (un_hours : (Int → Int)) (un_many : Int) (x1 : Int) : Option (Int × (Int → Int) × Int × Int64 × (Int → Int) × (Int → Int) × (Int → Int) × Int) := z_b1 (m_X5_isFrom N x1 1 20) (fun (r1 : Int) => if r1 ≠ 0 then (z_b4 (m_X1_push N un_heights un_drops un_hours un_many nw_height nw_drops nw_hours) (fun (un_heights_4 : (Int → Int)) (un_drops_5 : (Int → Int)) (un_hours_6 : (Int → Int)) (un_many_7 : Int) => z_b3 (m_X4_passHours N nw_height nw_drops nw_hours nw_restless gr_cells gr_kind gr_beside gr_besideBits x1) (fun (nw_drops_9 : (Int → Int)) (nw_hours_10 : Int) (nw_restless_11 : Int64) => some (nw_hours_10, nw_drops_9, nw_hours_10, nw_restless_11, un_heights_4, un_drops_5, un_hours_6, un_many_7)))) else (some ((-1), nw_drops, nw_hours, nw_restless, un_heights, un_drops, un_hours, un_many)))
def m_X4_stepInto_l1 (N : Nat) (g_beside : (Int → Int)) (x2 : Int) (g_cells : Int) (g_kind : (Int → Int)) : Nat → Int → (Int → Int) → Option ((Int → Int))
  | 0, _, _ => none
  | n1 + 1, v3_1, t_drops_1 => if 4 ≤ v3_1 then (some (t_drops_1)) else (z_b1 (m_X0_cellBeside N g_beside x2 v3_1) (fun (r2 : Int) => z_b1 (m_X0_holds N g_cells r2) (fun (r4 : Int) => if r4 = 0 then (z_chk (z_n (v3_1 + 1)) (m_X4_stepInto_l1 N g_beside x2 g_cells g_kind n1 (v3_1 + 1) t_drops_1)) else (z_b1 (m_X0_holds N g_cells x2) (fun (r8 : Int) => if r8 = 0 then (z_chk (z_n (v3_1 + 1)) (m_X4_stepInto_l1 N g_beside x2 g_cells g_kind n1 (v3_1 + 1) t_drops_1)) else (z_chk (0 ≤ x2 ∧ x2 < 36) (if (t_drops_1 x2) ≤ 0 then (z_chk (z_n (v3_1 + 1)) (m_X4_stepInto_l1 N g_beside x2 g_cells g_kind n1 (v3_1 + 1) t_drops_1)) else (z_chk (0 ≤ x2 ∧ x2 < 36) (z_chk (z_n ((t_drops_1 x2) - 1)) (z_chk (0 ≤ x2 ∧ x2 < 36) (z_b1 (m_X4_putDrop N (z_up t_drops_1 x2 ((t_drops_1 x2) - 1)) g_cells g_kind r2) (fun (t_drops_18 : (Int → Int)) => z_chk (z_n (v3_1 + 1)) (m_X4_stepInto_l1 N g_beside x2 g_cells g_kind n1 (v3_1 + 1) t_drops_18)))))))))))))
def m_X4_stepInto (N : Nat) (t_height : (Int → Int)) (t_drops : (Int → Int)) (t_restless : Int64) (g_cells : Int) (g_kind : (Int → Int)) (g_beside : (Int → Int)) (g_besideBits : (Int → Int64)) (x2 : Int) : Option ((Int → Int) × Int64) := z_b1 (m_X4_stepInto_l1 N g_beside x2 g_cells g_kind N 0 t_drops) (fun (o_t_drops_1 : (Int → Int)) => z_b2 (m_X4_flow N t_height o_t_drops_1 t_restless g_cells g_kind g_beside g_besideBits) (fun (t_drops_21 : (Int → Int)) (t_restless_22 : Int64) => some (t_drops_21, t_restless_22)))
def m_X5_boot (N : Nat) (gr_cells : Int) (gr_kind : (Int → Int)) (gr_beside : (Int → Int)) (gr_besideBits : (Int → Int64)) (nw_height : (Int → Int)) (nw_drops : (Int → Int)) (nw_hours : Int) (nw_restless : Int64) (un_heights : (Int → Int)) (un_drops : (Int → Int)) (un_hours : (Int → Int)) (un_many : Int) (x1 : Int) : Option (Int × (Int → Int) × Int64 × (Int → Int) × (Int → Int) × (Int → Int) × Int) := z_b1 (m_X0_holds N gr_cells x1) (fun (r1 : Int) => if r1 ≠ 0 then (z_chk (0 ≤ x1 ∧ x1 < 36) (if (nw_drops x1) ≠ 0 then (z_b4 (m_X1_push N un_heights un_drops un_hours un_many nw_height nw_drops nw_hours) (fun (un_heights_6 : (Int → Int)) (un_drops_7 : (Int → Int)) (un_hours_8 : (Int → Int)) (un_many_9 : Int) => z_b2 (m_X4_stepInto N nw_height nw_drops nw_restless gr_cells gr_kind gr_beside gr_besideBits x1) (fun (nw_drops_11 : (Int → Int)) (nw_restless_12 : Int64) => z_chk (0 ≤ x1 ∧ x1 < 36) (some ((nw_drops_11 x1), nw_drops_11, nw_restless_12, un_heights_6, un_drops_7, un_hours_8, un_many_9))))) else (some ((-2), nw_drops, nw_restless, un_heights, un_drops, un_hours, un_many)))) else (some ((-1), nw_drops, nw_restless, un_heights, un_drops, un_hours, un_many)))
def m_X5_stone (N : Nat) (gr_cells : Int) (gr_kind : (Int → Int)) (gr_beside : (Int → Int)) (gr_besideBits : (Int → Int64)) (nw_height : (Int → Int)) (nw_drops : (Int → Int)) (nw_hours : Int) (nw_restless : Int64) (un_heights : (Int → Int)) (un_drops : (Int → Int)) (un_hours : (Int → Int)) (un_many : Int) (x1 : Int) (x2 : Int) : Option (Int × (Int → Int) × (Int → Int) × Int64 × (Int → Int) × (Int → Int) × (Int → Int) × Int) := z_b1 (m_X0_holds N gr_cells x1) (fun (r1 : Int) => if r1 ≠ 0 then (z_chk (0 ≤ x1 ∧ x1 < 36) (z_b1 (if x2 = 0 then (some (1)) else (some ((-1)))) (fun (s6 : Int) => z_chk (z_n ((nw_height x1) + s6)) (z_b1 (m_X5_isFrom N ((nw_height x1) + s6) 0 20) (fun (r9 : Int) => if r9 = 0 then (some ((-2), nw_height, nw_drops, nw_restless, un_heights, un_drops, un_hours, un_many)) else (z_b1 (m_X0_takesRain N gr_cells gr_kind x1) (fun (r12 : Int) => if r12 ≠ 0 then (z_b4 (m_X1_push N un_heights un_drops un_hours un_many nw_height nw_drops nw_hours) (fun (un_heights_15 : (Int → Int)) (un_drops_16 : (Int → Int)) (un_hours_17 : (Int → Int)) (un_many_18 : Int) => z_chk (0 ≤ x1 ∧ x1 < 36) (z_b2 (m_X4_flow N (z_up nw_height x1 ((nw_height x1) + s6)) nw_drops nw_restless gr_cells gr_kind gr_beside gr_besideBits) (fun (nw_drops_21 : (Int → Int)) (nw_restless_22 : Int64) => some (((nw_height x1) + s6), (z_up nw_height x1 ((nw_height x1) + s6)), nw_drops_21, nw_restless_22, un_heights_15, un_drops_16, un_hours_17, un_many_18))))) else (some ((-2), nw_height, nw_drops, nw_restless, un_heights, un_drops, un_hours, un_many))))))))) else (some ((-1), nw_height, nw_drops, nw_restless, un_heights, un_drops, un_hours, un_many)))
def m_X1_pop (N : Nat) (t_heights : (Int → Int)) (t_drops : (Int → Int)) (t_hours : (Int → Int)) (t_many : Int) (w_height : (Int → Int)) (w_drops : (Int → Int)) (w_hours : Int) : Option (Int × (Int → Int) × (Int → Int) × Int) := if t_many ≤ 0 then (some (t_many, w_height, w_drops, w_hours)) else (if 8 < t_many then (some (t_many, w_height, w_drops, w_hours)) else (z_chk (z_n (t_many - 1)) (z_chk (z_n ((t_many - 1) * 36)) (z_chk ((0 : Int) ≤ ((t_many - 1) * 36) ∧ (0 : Int) ≤ 0 ∧ (0 : Int) ≤ 36 ∧ ((t_many - 1) * 36) + 36 ≤ (288 : Int) ∧ 0 + 36 ≤ (36 : Int)) (z_chk (z_n ((t_many - 1) * 36)) (z_chk ((0 : Int) ≤ ((t_many - 1) * 36) ∧ (0 : Int) ≤ 0 ∧ (0 : Int) ≤ 36 ∧ ((t_many - 1) * 36) + 36 ≤ (288 : Int) ∧ 0 + 36 ≤ (36 : Int)) (z_chk (0 ≤ (t_many - 1) ∧ (t_many - 1) < 8) (some ((t_many - 1), (z_cpy t_heights w_height ((t_many - 1) * 36) 0 36), (z_cpy t_drops w_drops ((t_many - 1) * 36) 0 36), (t_hours (t_many - 1)))))))))))
def m_X5_undo (N : Nat) (nw_height : (Int → Int)) (nw_drops : (Int → Int)) (nw_hours : Int) (un_heights : (Int → Int)) (un_drops : (Int → Int)) (un_hours : (Int → Int)) (un_many : Int) : Option (Int × (Int → Int) × (Int → Int) × Int × Int) := if un_many ≠ 0 then (z_b4 (m_X1_pop N un_heights un_drops un_hours un_many nw_height nw_drops nw_hours) (fun (un_many_2 : Int) (nw_height_3 : (Int → Int)) (nw_drops_4 : (Int → Int)) (nw_hours_5 : Int) => some (un_many_2, nw_height_3, nw_drops_4, nw_hours_5, un_many_2))) else (some ((-2), nw_height, nw_drops, nw_hours, un_many))
def m_X5_behind (N : Nat) (gr_cells : Int) (gr_kind : (Int → Int)) (gr_beside : (Int → Int)) (gr_besideBits : (Int → Int64)) (nw_height : (Int → Int)) (nw_drops : (Int → Int)) (nw_hours : Int) (la_height : (Int → Int)) (la_drops : (Int → Int)) (la_hours : Int) (la_restless : Int64) (ss_state : (Int → Int)) (ss_waiting : (Int → Int)) (ss_waits : Int) (ss_cells : Int) (ss_many : Int) (x1 : Int) (x2 : Int) (x3 : Int) : Option (Int × (Int → Int) × (Int → Int) × Int × Int64 × (Int → Int) × (Int → Int) × Int × Int × Int) := z_b1 (m_X5_isFrom N x1 0 40) (fun (r1 : Int) => if r1 = 0 then (some ((-1), la_height, la_drops, la_hours, la_restless, ss_state, ss_waiting, ss_waits, ss_cells, ss_many)) else (z_b1 (m_X0_holds N gr_cells x2) (fun (r4 : Int) => if r4 = 0 then (some ((-1), la_height, la_drops, la_hours, la_restless, ss_state, ss_waiting, ss_waits, ss_cells, ss_many)) else (z_b1 (m_X5_isFrom N x3 0 1) (fun (r7 : Int) => if r7 ≠ 0 then (z_b3 (m_X4_copyFrom N la_height la_drops la_hours nw_height nw_drops nw_hours) (fun (la_height_10 : (Int → Int)) (la_drops_11 : (Int → Int)) (la_hours_12 : Int) => z_b3 (m_X4_passHours N la_height_10 la_drops_11 la_hours_12 la_restless gr_cells gr_kind gr_beside gr_besideBits x1) (fun (la_drops_14 : (Int → Int)) (la_hours_15 : Int) (la_restless_16 : Int64) => if x3 ≠ 0 then (z_b5 (m_X2_map N ss_state ss_waiting ss_waits ss_cells ss_many gr_cells gr_beside la_drops_14) (fun (ss_state_19 : (Int → Int)) (ss_waiting_20 : (Int → Int)) (ss_waits_21 : Int) (ss_cells_22 : Int) (ss_many_23 : Int) => z_b1 (m_X2_stateOf N ss_state_19 ss_cells_22 x2) (fun (r25 : Int) => some (r25, la_height_10, la_drops_14, la_hours_15, la_restless_16, ss_state_19, ss_waiting_20, ss_waits_21, ss_cells_22, ss_many_23)))) else (z_chk (0 ≤ x2 ∧ x2 < 36) (some ((la_drops_14 x2), la_height_10, la_drops_14, la_hours_15, la_restless_16, ss_state, ss_waiting, ss_waits, ss_cells, ss_many)))))) else (some ((-1), la_height, la_drops, la_hours, la_restless, ss_state, ss_waiting, ss_waits, ss_cells, ss_many)))))))
def m_X4_firstWet_l1 (N : Nat) (g_cells : Int) (t_drops : (Int → Int)) : Nat → Int → Option (Int)
  | 0, _ => none
  | n1 + 1, v2_1 => if g_cells ≤ v2_1 then (some ((-4))) else (if 36 ≤ v2_1 then (some ((-4))) else (z_chk (0 ≤ v2_1 ∧ v2_1 < 36) (if (t_drops v2_1) ≤ 0 then (z_chk (z_n (v2_1 + 1)) (m_X4_firstWet_l1 N g_cells t_drops n1 (v2_1 + 1))) else (some (v2_1)))))
def m_X4_firstWet (N : Nat) (t_drops : (Int → Int)) (g_cells : Int) : Option (Int) := m_X4_firstWet_l1 N g_cells t_drops N 0
def m_X5_dry_l1 (N : Nat) (la_height_4 : (Int → Int)) (gr_cells : Int) (gr_kind : (Int → Int)) (gr_beside : (Int → Int)) (gr_besideBits : (Int → Int64)) (x1 : Int) : Nat → Int → Int → (Int → Int) → Int → Int64 → Option (Int × (Int → Int) × (Int → Int) × Int × Int64)
  | 0, _, _, _, _, _ => none
  | n1 + 1, v2_1, v3_1, la_drops_1, la_hours_1, la_restless_1 => if 60 < v3_1 then (some ((-4), la_height_4, la_drops_1, la_hours_1, la_restless_1)) else (z_b1 (m_X4_firstWet N la_drops_1 gr_cells) (fun (r9 : Int) => if r9 ≠ (-4) then (z_b3 (m_X4_passHours N la_height_4 la_drops_1 la_hours_1 la_restless_1 gr_cells gr_kind gr_beside gr_besideBits 1) (fun (la_drops_12 : (Int → Int)) (la_hours_13 : Int) (la_restless_14 : Int64) => z_chk (z_n (v3_1 + 1)) (m_X5_dry_l1 N la_height_4 gr_cells gr_kind gr_beside gr_besideBits x1 n1 r9 (v3_1 + 1) la_drops_12 la_hours_13 la_restless_14))) else (if x1 ≠ 0 then (some (v2_1, la_height_4, la_drops_1, la_hours_1, la_restless_1)) else (some (v3_1, la_height_4, la_drops_1, la_hours_1, la_restless_1)))))
def m_X5_dry (N : Nat) (gr_cells : Int) (gr_kind : (Int → Int)) (gr_beside : (Int → Int)) (gr_besideBits : (Int → Int64)) (nw_height : (Int → Int)) (nw_drops : (Int → Int)) (nw_hours : Int) (la_height : (Int → Int)) (la_drops : (Int → Int)) (la_hours : Int) (la_restless : Int64) (x1 : Int) : Option (Int × (Int → Int) × (Int → Int) × Int × Int64) := z_b1 (m_X5_isFrom N x1 0 1) (fun (r1 : Int) => if r1 ≠ 0 then (z_b3 (m_X4_copyFrom N la_height la_drops la_hours nw_height nw_drops nw_hours) (fun (la_height_4 : (Int → Int)) (la_drops_5 : (Int → Int)) (la_hours_6 : Int) => m_X5_dry_l1 N la_height_4 gr_cells gr_kind gr_beside gr_besideBits x1 N (-4) 0 la_drops_5 la_hours_6 la_restless)) else (some ((-1), la_height, la_drops, la_hours, la_restless)))
def m_X5_areTwo (N : Nat) (gr_cells : Int) (x1 : Int) (x2 : Int) : Option (Int) := z_b1 (m_X0_holds N gr_cells x1) (fun (r1 : Int) => if r1 = 0 then (some (0)) else (z_b1 (m_X0_holds N gr_cells x2) (fun (r4 : Int) => if r4 = 0 then (some (0)) else (if x1 = x2 then (some (0)) else (some (1))))))
def m_X2_apart (N : Nat) (t_state : (Int → Int)) (t_cells : Int) (x1 : Int) (x2 : Int) : Option (Int) := z_b1 (m_X2_stateOf N t_state t_cells x1) (fun (r1 : Int) => if r1 = (-4) then (some (1)) else (z_b1 (m_X2_stateOf N t_state t_cells x1) (fun (r4 : Int) => z_b1 (m_X2_stateOf N t_state t_cells x2) (fun (r6 : Int) => if r4 = r6 then (some (0)) else (some (1))))))
def m_X5_apartBehindRain (N : Nat) (p_cells : Int) (p_kind : (Int → Int)) (p_beside : (Int → Int)) (p_besideBits : (Int → Int64)) (nw_height : (Int → Int)) (nw_drops : (Int → Int)) (nw_hours : Int) (la_height : (Int → Int)) (la_drops : (Int → Int)) (la_hours : Int) (la_restless : Int64) (ss_state : (Int → Int)) (ss_waiting : (Int → Int)) (ss_waits : Int) (ss_cells : Int) (ss_many : Int) (x2 : Int) (x3 : Int) (x4 : Int) : Option (Int × (Int → Int) × (Int → Int) × Int × Int64 × (Int → Int) × (Int → Int) × Int × Int × Int) := z_b3 (m_X4_copyFrom N la_height la_drops la_hours nw_height nw_drops nw_hours) (fun (la_height_1 : (Int → Int)) (la_drops_2 : (Int → Int)) (la_hours_3 : Int) => z_b2 (m_X4_pour N la_height_1 la_drops_2 la_restless p_cells p_kind p_beside p_besideBits x4) (fun (la_drops_5 : (Int → Int)) (la_restless_6 : Int64) => z_b5 (m_X2_map N ss_state ss_waiting ss_waits ss_cells ss_many p_cells p_beside la_drops_5) (fun (ss_state_8 : (Int → Int)) (ss_waiting_9 : (Int → Int)) (ss_waits_10 : Int) (ss_cells_11 : Int) (ss_many_12 : Int) => z_b1 (m_X2_apart N ss_state_8 ss_cells_11 x2 x3) (fun (r14 : Int) => some (r14, la_height_1, la_drops_5, la_hours_3, la_restless_6, ss_state_8, ss_waiting_9, ss_waits_10, ss_cells_11, ss_many_12)))))
def m_X5_join_l1 (N : Nat) (gr_cells : Int) (gr_kind : (Int → Int)) (gr_beside : (Int → Int)) (gr_besideBits : (Int → Int64)) (nw_height : (Int → Int)) (nw_drops : (Int → Int)) (nw_hours : Int) (x1 : Int) (x2 : Int) : Nat → Int → (Int → Int) → (Int → Int) → Int → Int64 → (Int → Int) → (Int → Int) → Int → Int → Int → Option (Int × (Int → Int) × (Int → Int) × Int × Int64 × (Int → Int) × (Int → Int) × Int × Int × Int)
  | 0, _, _, _, _, _, _, _, _, _, _ => none
  | n1 + 1, v3_1, la_height_1, la_drops_1, la_hours_1, la_restless_1, ss_state_1, ss_waiting_1, ss_waits_1, ss_cells_1, ss_many_1 => if 30 < v3_1 then (some ((-4), la_height_1, la_drops_1, la_hours_1, la_restless_1, ss_state_1, ss_waiting_1, ss_waits_1, ss_cells_1, ss_many_1)) else (z_b10 (m_X5_apartBehindRain N gr_cells gr_kind gr_beside gr_besideBits nw_height nw_drops nw_hours la_height_1 la_drops_1 la_hours_1 la_restless_1 ss_state_1 ss_waiting_1 ss_waits_1 ss_cells_1 ss_many_1 x1 x2 v3_1) (fun (r5 : Int) (la_height_6 : (Int → Int)) (la_drops_7 : (Int → Int)) (la_hours_8 : Int) (la_restless_9 : Int64) (ss_state_10 : (Int → Int)) (ss_waiting_11 : (Int → Int)) (ss_waits_12 : Int) (ss_cells_13 : Int) (ss_many_14 : Int) => if r5 ≠ 0 then (z_chk (z_n (v3_1 + 1)) (m_X5_join_l1 N gr_cells gr_kind gr_beside gr_besideBits nw_height nw_drops nw_hours x1 x2 n1 (v3_1 + 1) la_height_6 la_drops_7 la_hours_8 la_restless_9 ss_state_10 ss_waiting_11 ss_waits_12 ss_cells_13 ss_many_14)) else (some (v3_1, la_height_6, la_drops_7, la_hours_8, la_restless_9, ss_state_10, ss_waiting_11, ss_waits_12, ss_cells_13, ss_many_14))))
def m_X5_join (N : Nat) (gr_cells : Int) (gr_kind : (Int → Int)) (gr_beside : (Int → Int)) (gr_besideBits : (Int → Int64)) (nw_height : (Int → Int)) (nw_drops : (Int → Int)) (nw_hours : Int) (la_height : (Int → Int)) (la_drops : (Int → Int)) (la_hours : Int) (la_restless : Int64) (ss_state : (Int → Int)) (ss_waiting : (Int → Int)) (ss_waits : Int) (ss_cells : Int) (ss_many : Int) (x1 : Int) (x2 : Int) : Option (Int × (Int → Int) × (Int → Int) × Int × Int64 × (Int → Int) × (Int → Int) × Int × Int × Int) := z_b1 (m_X5_areTwo N gr_cells x1 x2) (fun (r1 : Int) => if r1 ≠ 0 then (m_X5_join_l1 N gr_cells gr_kind gr_beside gr_besideBits nw_height nw_drops nw_hours x1 x2 N 0 la_height la_drops la_hours la_restless ss_state ss_waiting ss_waits ss_cells ss_many) else (some ((-1), la_height, la_drops, la_hours, la_restless, ss_state, ss_waiting, ss_waits, ss_cells, ss_many)))
def m_X5_part_l1 (N : Nat) (la_height_13 : (Int → Int)) (gr_cells : Int) (gr_kind : (Int → Int)) (gr_beside : (Int → Int)) (gr_besideBits : (Int → Int64)) (x1 : Int) (x2 : Int) : Nat → Int → (Int → Int) → Int → Int64 → (Int → Int) → (Int → Int) → Int → Int → Int → Option (Int × (Int → Int) × (Int → Int) × Int × Int64 × (Int → Int) × (Int → Int) × Int × Int × Int)
  | 0, _, _, _, _, _, _, _, _, _ => none
  | n1 + 1, v3_1, la_drops_1, la_hours_1, la_restless_1, ss_state_1, ss_waiting_1, ss_waits_1, ss_cells_1, ss_many_1 => if 60 < v3_1 then (some ((-4), la_height_13, la_drops_1, la_hours_1, la_restless_1, ss_state_1, ss_waiting_1, ss_waits_1, ss_cells_1, ss_many_1)) else (z_b3 (m_X4_passHours N la_height_13 la_drops_1 la_hours_1 la_restless_1 gr_cells gr_kind gr_beside gr_besideBits 1) (fun (la_drops_18 : (Int → Int)) (la_hours_19 : Int) (la_restless_20 : Int64) => z_b5 (m_X2_map N ss_state_1 ss_waiting_1 ss_waits_1 ss_cells_1 ss_many_1 gr_cells gr_beside la_drops_18) (fun (ss_state_22 : (Int → Int)) (ss_waiting_23 : (Int → Int)) (ss_waits_24 : Int) (ss_cells_25 : Int) (ss_many_26 : Int) => z_b1 (m_X2_apart N ss_state_22 ss_cells_25 x1 x2) (fun (r28 : Int) => if r28 = 0 then (z_chk (z_n (v3_1 + 1)) (m_X5_part_l1 N la_height_13 gr_cells gr_kind gr_beside gr_besideBits x1 x2 n1 (v3_1 + 1) la_drops_18 la_hours_19 la_restless_20 ss_state_22 ss_waiting_23 ss_waits_24 ss_cells_25 ss_many_26)) else (some (v3_1, la_height_13, la_drops_18, la_hours_19, la_restless_20, ss_state_22, ss_waiting_23, ss_waits_24, ss_cells_25, ss_many_26))))))
def m_X5_part (N : Nat) (gr_cells : Int) (gr_kind : (Int → Int)) (gr_beside : (Int → Int)) (gr_besideBits : (Int → Int64)) (nw_height : (Int → Int)) (nw_drops : (Int → Int)) (nw_hours : Int) (la_height : (Int → Int)) (la_drops : (Int → Int)) (la_hours : Int) (la_restless : Int64) (ss_state : (Int → Int)) (ss_waiting : (Int → Int)) (ss_waits : Int) (ss_cells : Int) (ss_many : Int) (x1 : Int) (x2 : Int) : Option (Int × (Int → Int) × (Int → Int) × Int × Int64 × (Int → Int) × (Int → Int) × Int × Int × Int) := z_b1 (m_X5_areTwo N gr_cells x1 x2) (fun (r1 : Int) => if r1 ≠ 0 then (z_b5 (m_X2_map N ss_state ss_waiting ss_waits ss_cells ss_many gr_cells gr_beside nw_drops) (fun (ss_state_4 : (Int → Int)) (ss_waiting_5 : (Int → Int)) (ss_waits_6 : Int) (ss_cells_7 : Int) (ss_many_8 : Int) => z_b1 (m_X2_apart N ss_state_4 ss_cells_7 x1 x2) (fun (r10 : Int) => if r10 = 0 then (z_b3 (m_X4_copyFrom N la_height la_drops la_hours nw_height nw_drops nw_hours) (fun (la_height_13 : (Int → Int)) (la_drops_14 : (Int → Int)) (la_hours_15 : Int) => m_X5_part_l1 N la_height_13 gr_cells gr_kind gr_beside gr_besideBits x1 x2 N 1 la_drops_14 la_hours_15 la_restless ss_state_4 ss_waiting_5 ss_waits_6 ss_cells_7 ss_many_8)) else (some ((-2), la_height, la_drops, la_hours, la_restless, ss_state_4, ss_waiting_5, ss_waits_6, ss_cells_7, ss_many_8))))) else (some ((-1), la_height, la_drops, la_hours, la_restless, ss_state, ss_waiting, ss_waits, ss_cells, ss_many)))
def m_X0_withBeside_l1 (N : Nat) (t_cells : Int) (x1 : Int64) (t_besideBits : (Int → Int64)) : Nat → Int64 → Int → Option (Int64)
  | 0, _, _ => none
  | n1 + 1, v3_1, v5_1 => if t_cells ≤ v5_1 then (some (v3_1)) else (if 36 ≤ v5_1 then (some (v3_1)) else (if (z_lcmp ((z_lshr x1 v5_1) &&& (1 : Int64)) (1 : Int64)) ≠ 0 then (z_chk (z_n (v5_1 + 1)) (m_X0_withBeside_l1 N t_cells x1 t_besideBits n1 v3_1 (v5_1 + 1))) else (z_chk (0 ≤ v5_1 ∧ v5_1 < 36) (z_chk (z_n (v5_1 + 1)) (m_X0_withBeside_l1 N t_cells x1 t_besideBits n1 (v3_1 ||| (t_besideBits v5_1)) (v5_1 + 1))))))
def m_X0_withBeside (N : Nat) (t_cells : Int) (t_besideBits : (Int → Int64)) (x1 : Int64) : Option (Int64) := z_b1 (m_X0_withBeside_l1 N t_cells x1 t_besideBits N x1 0) (fun (o3_1 : Int64) => some (o3_1))
def m_X5_way_l1 (N : Nat) (la_height_9 : (Int → Int)) (x2 : Int) (gr_cells : Int) (gr_besideBits : (Int → Int64)) (gr_kind : (Int → Int)) (gr_beside : (Int → Int)) : Nat → Int64 → Int → (Int → Int) → Int → Int64 → Option (Int × (Int → Int) × (Int → Int) × Int × Int64)
  | 0, _, _, _, _, _ => none
  | n1 + 1, v3_1, v5_1, la_drops_1, la_hours_1, la_restless_1 => if 40 < v5_1 then (some ((-4), la_height_9, la_drops_1, la_hours_1, la_restless_1)) else (if (z_lcmp ((z_lshr v3_1 x2) &&& (1 : Int64)) (1 : Int64)) ≠ 0 then (z_b1 (m_X0_withBeside N gr_cells gr_besideBits v3_1) (fun (r15 : Int64) => z_b1 (m_X4_wetBits N la_drops_1 gr_cells) (fun (r17 : Int64) => z_b3 (m_X4_passHours N la_height_9 la_drops_1 la_hours_1 la_restless_1 gr_cells gr_kind gr_beside gr_besideBits 1) (fun (la_drops_19 : (Int → Int)) (la_hours_20 : Int) (la_restless_21 : Int64) => z_b1 (m_X4_wetBits N la_drops_19 gr_cells) (fun (r23 : Int64) => z_chk (z_n (v5_1 + 1)) (m_X5_way_l1 N la_height_9 x2 gr_cells gr_besideBits gr_kind gr_beside n1 ((r15 &&& r17) &&& r23) (v5_1 + 1) la_drops_19 la_hours_20 la_restless_21)))))) else (some (v5_1, la_height_9, la_drops_1, la_hours_1, la_restless_1)))
def m_X5_way (N : Nat) (gr_cells : Int) (gr_kind : (Int → Int)) (gr_beside : (Int → Int)) (gr_besideBits : (Int → Int64)) (nw_height : (Int → Int)) (nw_drops : (Int → Int)) (nw_hours : Int) (la_height : (Int → Int)) (la_drops : (Int → Int)) (la_hours : Int) (la_restless : Int64) (x1 : Int) (x2 : Int) : Option (Int × (Int → Int) × (Int → Int) × Int × Int64) := z_b1 (m_X0_holds N gr_cells x1) (fun (r1 : Int) => if r1 = 0 then (some ((-1), la_height, la_drops, la_hours, la_restless)) else (z_b1 (m_X0_holds N gr_cells x2) (fun (r4 : Int) => if r4 ≠ 0 then (z_chk (0 ≤ x1 ∧ x1 < 36) (if (nw_drops x1) ≠ 0 then (z_b3 (m_X4_copyFrom N la_height la_drops la_hours nw_height nw_drops nw_hours) (fun (la_height_9 : (Int → Int)) (la_drops_10 : (Int → Int)) (la_hours_11 : Int) => m_X5_way_l1 N la_height_9 x2 gr_cells gr_besideBits gr_kind gr_beside N (z_lshl (1 : Int64) x1) 0 la_drops_10 la_hours_11 la_restless)) else (some ((-4), la_height, la_drops, la_hours, la_restless)))) else (some ((-1), la_height, la_drops, la_hours, la_restless)))))
def m_X5_mayBeKerb (N : Nat) (gr_cells : Int) (gr_kind : (Int → Int)) (nw_drops : (Int → Int)) (x1 : Int) (x2 : Int) (x3 : Int) : Option (Int) := z_b1 (m_X0_holds N gr_cells x1) (fun (r1 : Int) => if r1 = 0 then (some (0)) else (if x1 = x2 then (some (0)) else (if x1 = x3 then (some (0)) else (z_chk (0 ≤ x1 ∧ x1 < 36) (if (gr_kind x1) = 3 then (some (0)) else (z_chk (0 ≤ x1 ∧ x1 < 36) (if (nw_drops x1) ≠ 0 then (some (0)) else (some (1)))))))))
def m_X0_makeKerb (N : Nat) (t_rows : Int) (t_columns : Int) (t_cells : Int) (t_kind : (Int → Int)) (t_beside : (Int → Int)) (t_besideBits : (Int → Int64)) (x1 : Int) : Option ((Int → Int) × (Int → Int) × (Int → Int64)) := z_b1 (m_X0_holds N t_cells x1) (fun (r1 : Int) => if r1 = 0 then (some (t_kind, t_beside, t_besideBits)) else (z_chk (0 ≤ x1 ∧ x1 < 36) (z_b2 (m_X0_link N t_rows t_columns t_cells (z_up t_kind x1 3) t_beside t_besideBits) (fun (t_beside_5 : (Int → Int)) (t_besideBits_6 : (Int → Int64)) => some ((z_up t_kind x1 3), t_beside_5, t_besideBits_6)))))
def m_X5_kerb_l1 (N : Nat) (gr_cells : Int) (gr_kind : (Int → Int)) (nw_drops : (Int → Int)) (x1 : Int) (x2 : Int) (gr_rows : Int) (gr_columns : Int) (gr_beside : (Int → Int)) (gr_besideBits : (Int → Int64)) (nw_height : (Int → Int)) (nw_hours : Int) (x3 : Int) : Nat → Int → Int → Int → Int → (Int → Int) → (Int → Int) → (Int → Int64) → (Int → Int) → (Int → Int) → Int → Int64 → (Int → Int) → (Int → Int) → Int → Int → Int → Option (Int × Int × Int × Int × (Int → Int) × (Int → Int) × (Int → Int64) × (Int → Int) × (Int → Int) × Int × Int64 × (Int → Int) × (Int → Int) × Int × Int × Int)
  | 0, _, _, _, _, _, _, _, _, _, _, _, _, _, _, _, _ => none
  | n1 + 1, v4_1, og_rows_1, og_columns_1, og_cells_1, og_kind_1, og_beside_1, og_besideBits_1, la_height_1, la_drops_1, la_hours_1, la_restless_1, ss_state_1, ss_waiting_1, ss_waits_1, ss_cells_1, ss_many_1 => if gr_cells ≤ v4_1 then (some ((-4), og_rows_1, og_columns_1, og_cells_1, og_kind_1, og_beside_1, og_besideBits_1, la_height_1, la_drops_1, la_hours_1, la_restless_1, ss_state_1, ss_waiting_1, ss_waits_1, ss_cells_1, ss_many_1)) else (if 36 ≤ v4_1 then (some ((-4), og_rows_1, og_columns_1, og_cells_1, og_kind_1, og_beside_1, og_besideBits_1, la_height_1, la_drops_1, la_hours_1, la_restless_1, ss_state_1, ss_waiting_1, ss_waits_1, ss_cells_1, ss_many_1)) else (z_b1 (m_X5_mayBeKerb N gr_cells gr_kind nw_drops v4_1 x1 x2) (fun (r21 : Int) => if r21 = 0 then (z_chk (z_n (v4_1 + 1)) (m_X5_kerb_l1 N gr_cells gr_kind nw_drops x1 x2 gr_rows gr_columns gr_beside gr_besideBits nw_height nw_hours x3 n1 (v4_1 + 1) og_rows_1 og_columns_1 og_cells_1 og_kind_1 og_beside_1 og_besideBits_1 la_height_1 la_drops_1 la_hours_1 la_restless_1 ss_state_1 ss_waiting_1 ss_waits_1 ss_cells_1 ss_many_1)) else (z_b6 (m_X0_copyFrom N og_rows_1 og_columns_1 og_cells_1 og_kind_1 og_beside_1 og_besideBits_1 gr_rows gr_columns gr_cells gr_kind gr_beside gr_besideBits) (fun (og_rows_25 : Int) (og_columns_26 : Int) (og_cells_27 : Int) (og_kind_28 : (Int → Int)) (og_beside_29 : (Int → Int)) (og_besideBits_30 : (Int → Int64)) => z_b3 (m_X0_makeKerb N og_rows_25 og_columns_26 og_cells_27 og_kind_28 og_beside_29 og_besideBits_30 v4_1) (fun (og_kind_32 : (Int → Int)) (og_beside_33 : (Int → Int)) (og_besideBits_34 : (Int → Int64)) => z_b10 (m_X5_apartBehindRain N og_cells_27 og_kind_32 og_beside_33 og_besideBits_34 nw_height nw_drops nw_hours la_height_1 la_drops_1 la_hours_1 la_restless_1 ss_state_1 ss_waiting_1 ss_waits_1 ss_cells_1 ss_many_1 x1 x2 x3) (fun (r36 : Int) (la_height_37 : (Int → Int)) (la_drops_38 : (Int → Int)) (la_hours_39 : Int) (la_restless_40 : Int64) (ss_state_41 : (Int → Int)) (ss_waiting_42 : (Int → Int)) (ss_waits_43 : Int) (ss_cells_44 : Int) (ss_many_45 : Int) => if r36 = 0 then (z_chk (z_n (v4_1 + 1)) (m_X5_kerb_l1 N gr_cells gr_kind nw_drops x1 x2 gr_rows gr_columns gr_beside gr_besideBits nw_height nw_hours x3 n1 (v4_1 + 1) og_rows_25 og_columns_26 og_cells_27 og_kind_32 og_beside_33 og_besideBits_34 la_height_37 la_drops_38 la_hours_39 la_restless_40 ss_state_41 ss_waiting_42 ss_waits_43 ss_cells_44 ss_many_45)) else (some (v4_1, og_rows_25, og_columns_26, og_cells_27, og_kind_32, og_beside_33, og_besideBits_34, la_height_37, la_drops_38, la_hours_39, la_restless_40, ss_state_41, ss_waiting_42, ss_waits_43, ss_cells_44, ss_many_45)))))))))
def m_X5_kerb (N : Nat) (gr_rows : Int) (gr_columns : Int) (gr_cells : Int) (gr_kind : (Int → Int)) (gr_beside : (Int → Int)) (gr_besideBits : (Int → Int64)) (nw_height : (Int → Int)) (nw_drops : (Int → Int)) (nw_hours : Int) (og_rows : Int) (og_columns : Int) (og_cells : Int) (og_kind : (Int → Int)) (og_beside : (Int → Int)) (og_besideBits : (Int → Int64)) (la_height : (Int → Int)) (la_drops : (Int → Int)) (la_hours : Int) (la_restless : Int64) (ss_state : (Int → Int)) (ss_waiting : (Int → Int)) (ss_waits : Int) (ss_cells : Int) (ss_many : Int) (x1 : Int) (x2 : Int) (x3 : Int) : Option (Int × Int × Int × Int × (Int → Int) × (Int → Int) × (Int → Int64) × (Int → Int) × (Int → Int) × Int × Int64 × (Int → Int) × (Int → Int) × Int × Int × Int) := z_b1 (m_X5_areTwo N gr_cells x1 x2) (fun (r1 : Int) => if r1 = 0 then (some ((-1), og_rows, og_columns, og_cells, og_kind, og_beside, og_besideBits, la_height, la_drops, la_hours, la_restless, ss_state, ss_waiting, ss_waits, ss_cells, ss_many)) else (z_b1 (m_X5_isFrom N x3 0 9) (fun (r4 : Int) => if r4 ≠ 0 then (z_b10 (m_X5_apartBehindRain N gr_cells gr_kind gr_beside gr_besideBits nw_height nw_drops nw_hours la_height la_drops la_hours la_restless ss_state ss_waiting ss_waits ss_cells ss_many x1 x2 x3) (fun (r7 : Int) (la_height_8 : (Int → Int)) (la_drops_9 : (Int → Int)) (la_hours_10 : Int) (la_restless_11 : Int64) (ss_state_12 : (Int → Int)) (ss_waiting_13 : (Int → Int)) (ss_waits_14 : Int) (ss_cells_15 : Int) (ss_many_16 : Int) => if r7 = 0 then (m_X5_kerb_l1 N gr_cells gr_kind nw_drops x1 x2 gr_rows gr_columns gr_beside gr_besideBits nw_height nw_hours x3 N 0 og_rows og_columns og_cells og_kind og_beside og_besideBits la_height_8 la_drops_9 la_hours_10 la_restless_11 ss_state_12 ss_waiting_13 ss_waits_14 ss_cells_15 ss_many_16) else (some (100, og_rows, og_columns, og_cells, og_kind, og_beside, og_besideBits, la_height_8, la_drops_9, la_hours_10, la_restless_11, ss_state_12, ss_waiting_13, ss_waits_14, ss_cells_15, ss_many_16)))) else (some ((-1), og_rows, og_columns, og_cells, og_kind, og_beside, og_besideBits, la_height, la_drops, la_hours, la_restless, ss_state, ss_waiting, ss_waits, ss_cells, ss_many)))))
def m_X5_ring (N : Nat) (m_ringCell : (Int → Int)) (m_ringDrops : (Int → Int)) (m_rings : Int) (gr_cells : Int) (x1 : Int) (x2 : Int) : Option (Int × (Int → Int) × (Int → Int) × Int) := z_b1 (m_X0_holds N gr_cells x1) (fun (r1 : Int) => if r1 = 0 then (some ((-1), m_ringCell, m_ringDrops, m_rings)) else (z_b1 (m_X5_isFrom N x2 0 60) (fun (r4 : Int) => if r4 ≠ 0 then (if m_rings < 0 then (some ((-3), m_ringCell, m_ringDrops, m_rings)) else (if m_rings < 6 then (z_chk (0 ≤ m_rings ∧ m_rings < 6) (z_chk (0 ≤ m_rings ∧ m_rings < 6) (z_chk (z_n (m_rings + 1)) (some ((m_rings + 1), (z_up m_ringCell m_rings x1), (z_up m_ringDrops m_rings x2), (m_rings + 1)))))) else (some ((-3), m_ringCell, m_ringDrops, m_rings)))) else (some ((-1), m_ringCell, m_ringDrops, m_rings)))))
def m_X5_forget (N : Nat) (m_rings : Int) : Option (Int × Int) := some (m_rings, 0)
def m_X5_ringsHold_l1 (N : Nat) (m_rings : Int) (gr_cells : Int) (m_ringCell : (Int → Int)) (la_drops : (Int → Int)) (m_ringDrops : (Int → Int)) : Nat → Int → Option (Int)
  | 0, _ => none
  | n1 + 1, v1_1 => if m_rings ≤ v1_1 then (some (1)) else (if 6 ≤ v1_1 then (some (1)) else (z_chk (0 ≤ v1_1 ∧ v1_1 < 6) (z_b1 (m_X0_holds N gr_cells (m_ringCell v1_1)) (fun (r4 : Int) => if r4 = 0 then (some (0)) else (z_chk (0 ≤ (m_ringCell v1_1) ∧ (m_ringCell v1_1) < 36) (z_chk (0 ≤ v1_1 ∧ v1_1 < 6) (if (la_drops (m_ringCell v1_1)) = (m_ringDrops v1_1) then (z_chk (z_n (v1_1 + 1)) (m_X5_ringsHold_l1 N m_rings gr_cells m_ringCell la_drops m_ringDrops n1 (v1_1 + 1))) else (some (0)))))))))
def m_X5_ringsHold (N : Nat) (m_ringCell : (Int → Int)) (m_ringDrops : (Int → Int)) (m_rings : Int) (gr_cells : Int) (la_drops : (Int → Int)) : Option (Int) := m_X5_ringsHold_l1 N m_rings gr_cells m_ringCell la_drops m_ringDrops N 0
def m_X5_rains_l1 (N : Nat) (nw_height : (Int → Int)) (nw_drops : (Int → Int)) (nw_hours : Int) (gr_cells : Int) (gr_kind : (Int → Int)) (gr_beside : (Int → Int)) (gr_besideBits : (Int → Int64)) (m_ringCell : (Int → Int)) (m_ringDrops : (Int → Int)) (m_rings : Int) : Nat → Int → Int → (Int → Int) → (Int → Int) → Int → Int64 → Option (Int × (Int → Int) × (Int → Int) × Int × Int64)
  | 0, _, _, _, _, _, _ => none
  | n1 + 1, v1_1, v2_1, la_height_1, la_drops_1, la_hours_1, la_restless_1 => if 30 < v2_1 then (some (v1_1, la_height_1, la_drops_1, la_hours_1, la_restless_1)) else (z_b3 (m_X4_copyFrom N la_height_1 la_drops_1 la_hours_1 nw_height nw_drops nw_hours) (fun (la_height_3 : (Int → Int)) (la_drops_4 : (Int → Int)) (la_hours_5 : Int) => z_b2 (m_X4_pour N la_height_3 la_drops_4 la_restless_1 gr_cells gr_kind gr_beside gr_besideBits v2_1) (fun (la_drops_7 : (Int → Int)) (la_restless_8 : Int64) => z_b1 (m_X5_ringsHold N m_ringCell m_ringDrops m_rings gr_cells la_drops_7) (fun (r10 : Int) => if r10 = 0 then (z_chk (z_n (v2_1 + 1)) (m_X5_rains_l1 N nw_height nw_drops nw_hours gr_cells gr_kind gr_beside gr_besideBits m_ringCell m_ringDrops m_rings n1 v1_1 (v2_1 + 1) la_height_3 la_drops_7 la_hours_5 la_restless_8)) else (z_chk (z_n (v2_1 + 1)) (m_X5_rains_l1 N nw_height nw_drops nw_hours gr_cells gr_kind gr_beside gr_besideBits m_ringCell m_ringDrops m_rings n1 (z_or v1_1 (z_shl 1 v2_1)) (v2_1 + 1) la_height_3 la_drops_7 la_hours_5 la_restless_8))))))
def m_X5_rains (N : Nat) (m_ringCell : (Int → Int)) (m_ringDrops : (Int → Int)) (m_rings : Int) (gr_cells : Int) (gr_kind : (Int → Int)) (gr_beside : (Int → Int)) (gr_besideBits : (Int → Int64)) (nw_height : (Int → Int)) (nw_drops : (Int → Int)) (nw_hours : Int) (la_height : (Int → Int)) (la_drops : (Int → Int)) (la_hours : Int) (la_restless : Int64) : Option (Int × (Int → Int) × (Int → Int) × Int × Int64) := if m_rings ≠ 0 then (z_b5 (m_X5_rains_l1 N nw_height nw_drops nw_hours gr_cells gr_kind gr_beside gr_besideBits m_ringCell m_ringDrops m_rings N 0 0 la_height la_drops la_hours la_restless) (fun (o1_1 : Int) (o_la_height_1 : (Int → Int)) (o_la_drops_1 : (Int → Int)) (o_la_hours_1 : Int) (o_la_restless_1 : Int64) => some (o1_1, o_la_height_1, o_la_drops_1, o_la_hours_1, o_la_restless_1))) else (some (2147483647, la_height, la_drops, la_hours, la_restless))
def m_X4_wetCells_l1 (N : Nat) (g_cells : Int) (t_drops : (Int → Int)) : Nat → Int → Int → Option (Int)
  | 0, _, _ => none
  | n1 + 1, v2_1, v3_1 => if g_cells ≤ v3_1 then (some (v2_1)) else (if 36 ≤ v3_1 then (some (v2_1)) else (z_chk (0 ≤ v3_1 ∧ v3_1 < 36) (if (t_drops v3_1) ≤ 0 then (z_chk (z_n (v3_1 + 1)) (m_X4_wetCells_l1 N g_cells t_drops n1 v2_1 (v3_1 + 1))) else (z_chk (z_n (v2_1 + 1)) (z_chk (z_n (v3_1 + 1)) (m_X4_wetCells_l1 N g_cells t_drops n1 (v2_1 + 1) (v3_1 + 1)))))))
def m_X4_wetCells (N : Nat) (t_drops : (Int → Int)) (g_cells : Int) : Option (Int) := z_b1 (m_X4_wetCells_l1 N g_cells t_drops N 0 0) (fun (o2_1 : Int) => some (o2_1))
def m_X5_commonDivisor_l1 (N : Nat) : Nat → Int → Int → Int → Option (Int)
  | 0, _, _, _ => none
  | n1 + 1, v0_1, v1_1, v2_1 => if 64 ≤ v2_1 then (some (v0_1)) else (if v1_1 = 0 then (some (v0_1)) else (z_chk (v1_1 ≠ 0) (z_chk (z_n (Int.tmod v0_1 v1_1)) (z_chk (z_n (v2_1 + 1)) (m_X5_commonDivisor_l1 N n1 v1_1 (Int.tmod v0_1 v1_1) (v2_1 + 1))))))
def m_X5_commonDivisor (N : Nat) (x0 : Int) (x1 : Int) : Option (Int) := z_b1 (m_X5_commonDivisor_l1 N N x0 x1 0) (fun (o0_1 : Int) => some (o0_1))
def m_X5_lowestTerms (N : Nat) (x0 : Int) (x1 : Int) (x2 : Int) : Option (Int) := z_b1 (m_X5_commonDivisor N x0 x1) (fun (r1 : Int) => z_b1 (if x2 ≠ 0 then (some (x1)) else (some (x0))) (fun (s4 : Int) => if r1 ≤ 1 then (some (s4)) else (z_chk (r1 ≠ 0) (z_chk (z_n (Int.tdiv s4 r1)) (some ((Int.tdiv s4 r1)))))))
def m_X5_sky (N : Nat) (gr_cells : Int) (gr_beside : (Int → Int)) (nw_drops : (Int → Int)) (ss_state : (Int → Int)) (ss_waiting : (Int → Int)) (ss_waits : Int) (ss_cells : Int) (ss_many : Int) (x1 : Int) (x2 : Int) : Option (Int × (Int → Int) × (Int → Int) × Int × Int × Int) := z_b1 (m_X0_holds N gr_cells x1) (fun (r1 : Int) => if r1 = 0 then (some ((-1), ss_state, ss_waiting, ss_waits, ss_cells, ss_many)) else (z_b1 (m_X5_isFrom N x2 0 1) (fun (r4 : Int) => if r4 ≠ 0 then (z_b5 (m_X2_map N ss_state ss_waiting ss_waits ss_cells ss_many gr_cells gr_beside nw_drops) (fun (ss_state_7 : (Int → Int)) (ss_waiting_8 : (Int → Int)) (ss_waits_9 : Int) (ss_cells_10 : Int) (ss_many_11 : Int) => z_b1 (m_X2_stateOf N ss_state_7 ss_cells_10 x1) (fun (r13 : Int) => if r13 ≠ (-4) then (z_b1 (m_X2_sizeAt N ss_state_7 ss_cells_10 x1) (fun (r16 : Int) => z_b1 (m_X4_wetCells N nw_drops gr_cells) (fun (r18 : Int) => z_b1 (m_X5_lowestTerms N r16 r18 x2) (fun (r20 : Int) => some (r20, ss_state_7, ss_waiting_8, ss_waits_9, ss_cells_10, ss_many_11))))) else (some ((-4), ss_state_7, ss_waiting_8, ss_waits_9, ss_cells_10, ss_many_11))))) else (some ((-1), ss_state, ss_waiting, ss_waits, ss_cells, ss_many)))))
def m_X5_wetBehindHours_l1 (N : Nat) (x2 : Int) (gr_cells : Int) (x1 : Int) (la_height_1 : (Int → Int)) (gr_kind : (Int → Int)) (gr_beside : (Int → Int)) (gr_besideBits : (Int → Int64)) : Nat → Int → Int → (Int → Int) → Int → Int64 → Option (Int × (Int → Int) × Int × Int64)
  | 0, _, _, _, _, _ => none
  | n1 + 1, v3_1, v4_1, la_drops_1, la_hours_1, la_restless_1 => if x2 < v4_1 then (some (v3_1, la_drops_1, la_hours_1, la_restless_1)) else (z_b1 (m_X0_holds N gr_cells x1) (fun (r6 : Int) => z_b1 (if r6 = 0 then (some (v3_1)) else (z_chk (0 ≤ x1 ∧ x1 < 36) (if (la_drops_1 x1) ≤ 0 then (some (v3_1)) else (some ((z_or v3_1 (z_shl 1 v4_1))))))) (fun (v3_11 : Int) => z_b3 (m_X4_passHours N la_height_1 la_drops_1 la_hours_1 la_restless_1 gr_cells gr_kind gr_beside gr_besideBits 1) (fun (la_drops_13 : (Int → Int)) (la_hours_14 : Int) (la_restless_15 : Int64) => z_chk (z_n (v4_1 + 1)) (m_X5_wetBehindHours_l1 N x2 gr_cells x1 la_height_1 gr_kind gr_beside gr_besideBits n1 v3_11 (v4_1 + 1) la_drops_13 la_hours_14 la_restless_15)))))
def m_X5_wetBehindHours (N : Nat) (gr_cells : Int) (gr_kind : (Int → Int)) (gr_beside : (Int → Int)) (gr_besideBits : (Int → Int64)) (nw_height : (Int → Int)) (nw_drops : (Int → Int)) (nw_hours : Int) (la_height : (Int → Int)) (la_drops : (Int → Int)) (la_hours : Int) (la_restless : Int64) (x1 : Int) (x2 : Int) : Option (Int × (Int → Int) × (Int → Int) × Int × Int64) := z_b3 (m_X4_copyFrom N la_height la_drops la_hours nw_height nw_drops nw_hours) (fun (la_height_1 : (Int → Int)) (la_drops_2 : (Int → Int)) (la_hours_3 : Int) => z_b4 (m_X5_wetBehindHours_l1 N x2 gr_cells x1 la_height_1 gr_kind gr_beside gr_besideBits N 0 0 la_drops_2 la_hours_3 la_restless) (fun (o3_1 : Int) (o_la_drops_1 : (Int → Int)) (o_la_hours_1 : Int) (o_la_restless_1 : Int64) => some (o3_1, la_height_1, o_la_drops_1, o_la_hours_1, o_la_restless_1)))
def m_J6_bitCount_0f7a4 (N : Nat) (x0 : Int) : Option (Int) := z_chk (z_n (x0 - (z_and (z_ushr x0 1) 1431655765))) (z_chk (z_n ((z_and (x0 - (z_and (z_ushr x0 1) 1431655765)) 858993459) + (z_and (z_ushr (x0 - (z_and (z_ushr x0 1) 1431655765)) 2) 858993459))) (z_chk (z_n (((z_and (x0 - (z_and (z_ushr x0 1) 1431655765)) 858993459) + (z_and (z_ushr (x0 - (z_and (z_ushr x0 1) 1431655765)) 2) 858993459)) + (z_ushr ((z_and (x0 - (z_and (z_ushr x0 1) 1431655765)) 858993459) + (z_and (z_ushr (x0 - (z_and (z_ushr x0 1) 1431655765)) 2) 858993459)) 4))) (z_chk (z_n ((z_and (((z_and (x0 - (z_and (z_ushr x0 1) 1431655765)) 858993459) + (z_and (z_ushr (x0 - (z_and (z_ushr x0 1) 1431655765)) 2) 858993459)) + (z_ushr ((z_and (x0 - (z_and (z_ushr x0 1) 1431655765)) 858993459) + (z_and (z_ushr (x0 - (z_and (z_ushr x0 1) 1431655765)) 2) 858993459)) 4)) 252645135) + (z_ushr (z_and (((z_and (x0 - (z_and (z_ushr x0 1) 1431655765)) 858993459) + (z_and (z_ushr (x0 - (z_and (z_ushr x0 1) 1431655765)) 2) 858993459)) + (z_ushr ((z_and (x0 - (z_and (z_ushr x0 1) 1431655765)) 858993459) + (z_and (z_ushr (x0 - (z_and (z_ushr x0 1) 1431655765)) 2) 858993459)) 4)) 252645135) 8))) (z_chk (z_n (((z_and (((z_and (x0 - (z_and (z_ushr x0 1) 1431655765)) 858993459) + (z_and (z_ushr (x0 - (z_and (z_ushr x0 1) 1431655765)) 2) 858993459)) + (z_ushr ((z_and (x0 - (z_and (z_ushr x0 1) 1431655765)) 858993459) + (z_and (z_ushr (x0 - (z_and (z_ushr x0 1) 1431655765)) 2) 858993459)) 4)) 252645135) + (z_ushr (z_and (((z_and (x0 - (z_and (z_ushr x0 1) 1431655765)) 858993459) + (z_and (z_ushr (x0 - (z_and (z_ushr x0 1) 1431655765)) 2) 858993459)) + (z_ushr ((z_and (x0 - (z_and (z_ushr x0 1) 1431655765)) 858993459) + (z_and (z_ushr (x0 - (z_and (z_ushr x0 1) 1431655765)) 2) 858993459)) 4)) 252645135) 8)) + (z_ushr ((z_and (((z_and (x0 - (z_and (z_ushr x0 1) 1431655765)) 858993459) + (z_and (z_ushr (x0 - (z_and (z_ushr x0 1) 1431655765)) 2) 858993459)) + (z_ushr ((z_and (x0 - (z_and (z_ushr x0 1) 1431655765)) 858993459) + (z_and (z_ushr (x0 - (z_and (z_ushr x0 1) 1431655765)) 2) 858993459)) 4)) 252645135) + (z_ushr (z_and (((z_and (x0 - (z_and (z_ushr x0 1) 1431655765)) 858993459) + (z_and (z_ushr (x0 - (z_and (z_ushr x0 1) 1431655765)) 2) 858993459)) + (z_ushr ((z_and (x0 - (z_and (z_ushr x0 1) 1431655765)) 858993459) + (z_and (z_ushr (x0 - (z_and (z_ushr x0 1) 1431655765)) 2) 858993459)) 4)) 252645135) 8)) 16))) (some ((z_and (((z_and (((z_and (x0 - (z_and (z_ushr x0 1) 1431655765)) 858993459) + (z_and (z_ushr (x0 - (z_and (z_ushr x0 1) 1431655765)) 2) 858993459)) + (z_ushr ((z_and (x0 - (z_and (z_ushr x0 1) 1431655765)) 858993459) + (z_and (z_ushr (x0 - (z_and (z_ushr x0 1) 1431655765)) 2) 858993459)) 4)) 252645135) + (z_ushr (z_and (((z_and (x0 - (z_and (z_ushr x0 1) 1431655765)) 858993459) + (z_and (z_ushr (x0 - (z_and (z_ushr x0 1) 1431655765)) 2) 858993459)) + (z_ushr ((z_and (x0 - (z_and (z_ushr x0 1) 1431655765)) 858993459) + (z_and (z_ushr (x0 - (z_and (z_ushr x0 1) 1431655765)) 2) 858993459)) 4)) 252645135) 8)) + (z_ushr ((z_and (((z_and (x0 - (z_and (z_ushr x0 1) 1431655765)) 858993459) + (z_and (z_ushr (x0 - (z_and (z_ushr x0 1) 1431655765)) 2) 858993459)) + (z_ushr ((z_and (x0 - (z_and (z_ushr x0 1) 1431655765)) 858993459) + (z_and (z_ushr (x0 - (z_and (z_ushr x0 1) 1431655765)) 2) 858993459)) 4)) 252645135) + (z_ushr (z_and (((z_and (x0 - (z_and (z_ushr x0 1) 1431655765)) 858993459) + (z_and (z_ushr (x0 - (z_and (z_ushr x0 1) 1431655765)) 2) 858993459)) + (z_ushr ((z_and (x0 - (z_and (z_ushr x0 1) 1431655765)) 858993459) + (z_and (z_ushr (x0 - (z_and (z_ushr x0 1) 1431655765)) 2) 858993459)) 4)) 252645135) 8)) 16)) 63)))))))
def m_X5_power_l1 (N : Nat) (x1 : Int) (x0 : Int) : Nat → Int → Int → Option (Int)
  | 0, _, _ => none
  | n1 + 1, v2_1, v3_1 => if x1 ≤ v3_1 then (some (v2_1)) else (z_chk (z_n (v2_1 * x0)) (z_chk (z_n (v3_1 + 1)) (m_X5_power_l1 N x1 x0 n1 (v2_1 * x0) (v3_1 + 1))))
def m_X5_power (N : Nat) (x0 : Int) (x1 : Int) : Option (Int) := z_b1 (m_X5_power_l1 N x1 x0 N 1 0) (fun (o2_1 : Int) => some (o2_1))
def m_X5_sun_l1 (N : Nat) (x2 : Int) (r13 : Int) (x3 : Int) : Nat → Int → Int → Option (Int)
  | 0, _, _ => none
  | n1 + 1, v6_1, v7_1 => if (z_shl 1 x2) ≤ v7_1 then (some (v6_1)) else (z_b1 (m_J6_bitCount_0f7a4 N v7_1) (fun (r20 : Int) => if (z_and (z_shr r13 r20) 1) ≠ 1 then (z_chk (z_n (v7_1 + 1)) (m_X5_sun_l1 N x2 r13 x3 n1 v6_1 (v7_1 + 1))) else (z_b1 (m_X5_power N x3 r20) (fun (r24 : Int) => z_chk (z_n (10 - x3)) (z_chk (z_n (x2 - r20)) (z_b1 (m_X5_power N (10 - x3) (x2 - r20)) (fun (r28 : Int) => z_chk (z_n (r24 * r28)) (z_chk (z_n (v6_1 + (r24 * r28))) (z_chk (z_n (v7_1 + 1)) (m_X5_sun_l1 N x2 r13 x3 n1 (v6_1 + (r24 * r28)) (v7_1 + 1)))))))))))
def m_X5_sun (N : Nat) (gr_cells : Int) (gr_kind : (Int → Int)) (gr_beside : (Int → Int)) (gr_besideBits : (Int → Int64)) (nw_height : (Int → Int)) (nw_drops : (Int → Int)) (nw_hours : Int) (la_height : (Int → Int)) (la_drops : (Int → Int)) (la_hours : Int) (la_restless : Int64) (x1 : Int) (x2 : Int) (x3 : Int) (x4 : Int) : Option (Int × (Int → Int) × (Int → Int) × Int × Int64) := z_b1 (m_X0_holds N gr_cells x1) (fun (r1 : Int) => if r1 = 0 then (some ((-1), la_height, la_drops, la_hours, la_restless)) else (z_b1 (m_X5_isFrom N x2 0 6) (fun (r4 : Int) => if r4 = 0 then (some ((-1), la_height, la_drops, la_hours, la_restless)) else (z_b1 (m_X5_isFrom N x3 0 10) (fun (r7 : Int) => if r7 = 0 then (some ((-1), la_height, la_drops, la_hours, la_restless)) else (z_b1 (m_X5_isFrom N x4 0 1) (fun (r10 : Int) => if r10 ≠ 0 then (z_b5 (m_X5_wetBehindHours N gr_cells gr_kind gr_beside gr_besideBits nw_height nw_drops nw_hours la_height la_drops la_hours la_restless x1 x2) (fun (r13 : Int) (la_height_14 : (Int → Int)) (la_drops_15 : (Int → Int)) (la_hours_16 : Int) (la_restless_17 : Int64) => z_b1 (m_X5_sun_l1 N x2 r13 x3 N 0 0) (fun (o6_1 : Int) => z_b1 (m_X5_power N 10 x2) (fun (r33 : Int) => z_b1 (m_X5_lowestTerms N o6_1 r33 x4) (fun (r35 : Int) => some (r35, la_height_14, la_drops_15, la_hours_16, la_restless_17)))))) else (some ((-1), la_height, la_drops, la_hours, la_restless)))))))))
def m_X5_drawOf (N : Nat) (x0 : Int) (x1 : Int) : Option (Int) := some ((z_l2i ((z_lrem (((((7919 : Int64) * (z_i2l x0)) + ((6151 : Int64) * (z_i2l x1))) + (1 : Int64)) * ((((7919 : Int64) * (z_i2l x0)) + ((6151 : Int64) * (z_i2l x1))) + (1 : Int64))) (65521 : Int64)) / (8 : Int64))))
def m_X5_year_l1 (N : Nat) (x2 : Int) (x1 : Int) (la_height_10 : (Int → Int)) (gr_cells : Int) (gr_kind : (Int → Int)) (gr_beside : (Int → Int)) (gr_besideBits : (Int → Int64)) : Nat → Int → (Int → Int) → Int → Int64 → Option ((Int → Int) × Int × Int64)
  | 0, _, _, _, _ => none
  | n1 + 1, v4_1, la_drops_1, la_hours_1, la_restless_1 => if x2 ≤ v4_1 then (some (la_drops_1, la_hours_1, la_restless_1)) else (z_b1 (m_X5_drawOf N x1 v4_1) (fun (r15 : Int) => z_chk (z_n (Int.tmod r15 4)) (z_b2 (m_X4_pour N la_height_10 la_drops_1 la_restless_1 gr_cells gr_kind gr_beside gr_besideBits (Int.tmod r15 4)) (fun (la_drops_18 : (Int → Int)) (la_restless_19 : Int64) => z_chk (z_n (Int.tdiv r15 4)) (z_chk (z_n (Int.tmod (Int.tdiv r15 4) 4)) (z_b3 (m_X4_passHours N la_height_10 la_drops_18 la_hours_1 la_restless_19 gr_cells gr_kind gr_beside gr_besideBits (Int.tmod (Int.tdiv r15 4) 4)) (fun (la_drops_23 : (Int → Int)) (la_hours_24 : Int) (la_restless_25 : Int64) => z_chk (z_n (v4_1 + 1)) (m_X5_year_l1 N x2 x1 la_height_10 gr_cells gr_kind gr_beside gr_besideBits n1 (v4_1 + 1) la_drops_23 la_hours_24 la_restless_25))))))))
def m_X5_year (N : Nat) (gr_cells : Int) (gr_kind : (Int → Int)) (gr_beside : (Int → Int)) (gr_besideBits : (Int → Int64)) (nw_height : (Int → Int)) (nw_drops : (Int → Int)) (nw_hours : Int) (la_height : (Int → Int)) (la_drops : (Int → Int)) (la_hours : Int) (la_restless : Int64) (ss_state : (Int → Int)) (ss_waiting : (Int → Int)) (ss_waits : Int) (ss_cells : Int) (ss_many : Int) (x1 : Int) (x2 : Int) (x3 : Int) : Option (Int × (Int → Int) × (Int → Int) × Int × Int64 × (Int → Int) × (Int → Int) × Int × Int × Int) := z_b1 (m_X5_isFrom N x1 0 9999) (fun (r1 : Int) => if r1 = 0 then (some ((-1), la_height, la_drops, la_hours, la_restless, ss_state, ss_waiting, ss_waits, ss_cells, ss_many)) else (z_b1 (m_X5_isFrom N x2 1 30) (fun (r4 : Int) => if r4 = 0 then (some ((-1), la_height, la_drops, la_hours, la_restless, ss_state, ss_waiting, ss_waits, ss_cells, ss_many)) else (z_b1 (m_X5_isFrom N x3 0 1) (fun (r7 : Int) => if r7 ≠ 0 then (z_b3 (m_X4_copyFrom N la_height la_drops la_hours nw_height nw_drops nw_hours) (fun (la_height_10 : (Int → Int)) (la_drops_11 : (Int → Int)) (la_hours_12 : Int) => z_b3 (m_X5_year_l1 N x2 x1 la_height_10 gr_cells gr_kind gr_beside gr_besideBits N 0 la_drops_11 la_hours_12 la_restless) (fun (o_la_drops_1 : (Int → Int)) (o_la_hours_1 : Int) (o_la_restless_1 : Int64) => if x3 ≠ 1 then (z_b5 (m_X2_map N ss_state ss_waiting ss_waits ss_cells ss_many gr_cells gr_beside o_la_drops_1) (fun (ss_state_29 : (Int → Int)) (ss_waiting_30 : (Int → Int)) (ss_waits_31 : Int) (ss_cells_32 : Int) (ss_many_33 : Int) => some (ss_many_33, la_height_10, o_la_drops_1, o_la_hours_1, o_la_restless_1, ss_state_29, ss_waiting_30, ss_waits_31, ss_cells_32, ss_many_33))) else (z_b1 (m_X4_allDrops N o_la_drops_1 gr_cells) (fun (r35 : Int) => some (r35, la_height_10, o_la_drops_1, o_la_hours_1, o_la_restless_1, ss_state, ss_waiting, ss_waits, ss_cells, ss_many)))))) else (some ((-1), la_height, la_drops, la_hours, la_restless, ss_state, ss_waiting, ss_waits, ss_cells, ss_many)))))))
def m_X5_keep (N : Nat) (nw_height : (Int → Int)) (nw_drops : (Int → Int)) (nw_hours : Int) (kp_heights : (Int → Int)) (kp_drops : (Int → Int)) (kp_hours : (Int → Int)) (kp_many : Int) : Option (Int × (Int → Int) × (Int → Int) × (Int → Int) × Int) := if kp_many < 2 then (z_b4 (m_X1_push N kp_heights kp_drops kp_hours kp_many nw_height nw_drops nw_hours) (fun (kp_heights_2 : (Int → Int)) (kp_drops_3 : (Int → Int)) (kp_hours_4 : (Int → Int)) (kp_many_5 : Int) => some (kp_many_5, kp_heights_2, kp_drops_3, kp_hours_4, kp_many_5))) else (some ((-3), kp_heights, kp_drops, kp_hours, kp_many))
def m_X5_back (N : Nat) (nw_height : (Int → Int)) (nw_drops : (Int → Int)) (nw_hours : Int) (un_many : Int) (kp_heights : (Int → Int)) (kp_drops : (Int → Int)) (kp_hours : (Int → Int)) (kp_many : Int) : Option (Int × (Int → Int) × (Int → Int) × Int × Int × Int) := if kp_many ≠ 0 then (z_b4 (m_X1_pop N kp_heights kp_drops kp_hours kp_many nw_height nw_drops nw_hours) (fun (kp_many_2 : Int) (nw_height_3 : (Int → Int)) (nw_drops_4 : (Int → Int)) (nw_hours_5 : Int) => some (kp_many_2, nw_height_3, nw_drops_4, nw_hours_5, 0, kp_many_2))) else (some ((-2), nw_height, nw_drops, nw_hours, un_many, kp_many))
def m_X5_count (N : Nat) (m_rings : Int) (tx_length : Int) (gr_rows : Int) (gr_cells : Int) (gr_beside : (Int → Int)) (nw_drops : (Int → Int)) (nw_hours : Int) (ss_state : (Int → Int)) (ss_waiting : (Int → Int)) (ss_waits : Int) (ss_cells : Int) (ss_many : Int) (un_many : Int) (kp_many : Int) (x1 : Int) : Option (Int × (Int → Int) × (Int → Int) × Int × Int × Int) := if x1 = 0 then (some (gr_cells, ss_state, ss_waiting, ss_waits, ss_cells, ss_many)) else (if x1 = 1 then (some (gr_rows, ss_state, ss_waiting, ss_waits, ss_cells, ss_many)) else (if x1 = 2 then (z_b1 (m_X4_wetCells N nw_drops gr_cells) (fun (r1 : Int) => some (r1, ss_state, ss_waiting, ss_waits, ss_cells, ss_many))) else (if x1 = 3 then (z_b5 (m_X2_map N ss_state ss_waiting ss_waits ss_cells ss_many gr_cells gr_beside nw_drops) (fun (ss_state_3 : (Int → Int)) (ss_waiting_4 : (Int → Int)) (ss_waits_5 : Int) (ss_cells_6 : Int) (ss_many_7 : Int) => some (ss_many_7, ss_state_3, ss_waiting_4, ss_waits_5, ss_cells_6, ss_many_7))) else (if x1 = 4 then (z_b1 (m_X4_allDrops N nw_drops gr_cells) (fun (r9 : Int) => some (r9, ss_state, ss_waiting, ss_waits, ss_cells, ss_many))) else (if x1 = 5 then (some (nw_hours, ss_state, ss_waiting, ss_waits, ss_cells, ss_many)) else (if x1 = 6 then (some (m_rings, ss_state, ss_waiting, ss_waits, ss_cells, ss_many)) else (if x1 = 7 then (some (un_many, ss_state, ss_waiting, ss_waits, ss_cells, ss_many)) else (if x1 = 8 then (some (kp_many, ss_state, ss_waiting, ss_waits, ss_cells, ss_many)) else (if x1 = 9 then (some (tx_length, ss_state, ss_waiting, ss_waits, ss_cells, ss_many)) else (some ((-1), ss_state, ss_waiting, ss_waits, ss_cells, ss_many)))))))))))
def m_X6_in (N : Nat) (x0 : Int) (x1 : Int) (x2 : Int) : Option (Int) := if x0 < x1 then (some (0)) else (if x2 < x0 then (some (0)) else (some (1)))
def m_X6_begins_l1 (N : Nat) : Nat → Int → (Int → Int) → Option ((Int → Int))
  | 0, _, _ => none
  | n1 + 1, v1_1, r_draft_1 => if 39 ≤ v1_1 then (some (r_draft_1)) else (z_chk (0 ≤ v1_1 ∧ v1_1 < 39) (z_chk (z_n (v1_1 + 1)) (m_X6_begins_l1 N n1 (v1_1 + 1) (z_up r_draft_1 v1_1 0))))
def m_X6_begins_l2 (N : Nat) : Nat → Int → (Int → Int) → Option ((Int → Int))
  | 0, _, _ => none
  | n2 + 1, v1_2, r_begun_2 => if 73 ≤ v1_2 then (some (r_begun_2)) else (z_b1 (m_X6_in N v1_2 36 71) (fun (r7 : Int) => if r7 = 0 then (z_chk (0 ≤ v1_2 ∧ v1_2 < 73) (z_chk (z_n (v1_2 + 1)) (m_X6_begins_l2 N n2 (v1_2 + 1) (z_up r_begun_2 v1_2 0)))) else (z_chk (0 ≤ v1_2 ∧ v1_2 < 73) (z_chk (z_n (v1_2 + 1)) (m_X6_begins_l2 N n2 (v1_2 + 1) (z_up r_begun_2 v1_2 5))))))
def m_X6_begins (N : Nat) (r_draft : (Int → Int)) (r_begun : (Int → Int)) : Option ((Int → Int) × (Int → Int)) := z_b1 (m_X6_begins_l1 N N 0 r_draft) (fun (o_r_draft_1 : (Int → Int)) => z_chk ((0 : Int) ≤ 0 ∧ (0 : Int) < 39) (z_chk ((0 : Int) ≤ 1 ∧ (1 : Int) < 39) (z_b1 (m_X6_begins_l2 N N 0 r_begun) (fun (o_r_begun_2 : (Int → Int)) => some ((z_up (z_up o_r_draft_1 0 4) 1 5), o_r_begun_2)))))
def m_X6_cells (N : Nat) (r_told : (Int → Int)) : Option (Int) := z_chk ((0 : Int) ≤ 0 ∧ (0 : Int) < 39) (z_chk ((0 : Int) ≤ 1 ∧ (1 : Int) < 39) (z_chk (z_n ((r_told 0) * (r_told 1))) (some (((r_told 0) * (r_told 1))))))
def m_X6_isCell (N : Nat) (r_told : (Int → Int)) (x1 : Int) : Option (Int) := z_b1 (m_X6_cells N r_told) (fun (r1 : Int) => z_chk (z_n (r1 - 1)) (z_b1 (m_X6_in N x1 0 (r1 - 1)) (fun (r4 : Int) => some (r4))))
def m_X6_beside (N : Nat) (r_told : (Int → Int)) (x1 : Int) (x2 : Int) : Option (Int) := z_chk ((0 : Int) ≤ 1 ∧ (1 : Int) < 39) (z_b1 (if x2 ≠ 0 then (if x2 ≠ 1 then (if x2 ≠ 2 then (z_chk (z_n (x1 - 1)) (some ((x1 - 1)))) else (z_chk (z_n (x1 + 1)) (some ((x1 + 1))))) else (z_chk (z_n (x1 + (r_told 1))) (some ((x1 + (r_told 1)))))) else (z_chk (z_n (x1 - (r_told 1))) (some ((x1 - (r_told 1)))))) (fun (s9 : Int) => z_b1 (m_X6_isCell N r_told s9) (fun (r11 : Int) => z_b1 (if r11 = 0 then (some (0)) else (if x2 < 2 then (if x2 < 3 then (some (1)) else (if x1 ≤ 0 then (some (0)) else (some (1)))) else (z_chk ((r_told 1) ≠ 0) (z_chk (z_n (Int.tdiv s9 (r_told 1))) (z_chk ((r_told 1) ≠ 0) (z_chk (z_n (Int.tdiv x1 (r_told 1))) (if (Int.tdiv s9 (r_told 1)) ≠ (Int.tdiv x1 (r_told 1)) then (some (0)) else (if x2 < 3 then (some (1)) else (if x1 ≤ 0 then (some (0)) else (some (1))))))))))) (fun (s24 : Int) => if s24 = 0 then (some ((-1))) else (z_chk (z_n (3 + s9)) (z_chk (0 ≤ (3 + s9) ∧ (3 + s9) < 39) (if (r_told (3 + s9)) = 3 then (some ((-1))) else (some (s9)))))))))
def m_X6_level (N : Nat) (r_s : (Int → Int)) (x1 : Int) : Option (Int) := z_chk (z_n (36 + x1)) (z_chk (0 ≤ (36 + x1) ∧ (36 + x1) < 73) (z_chk (0 ≤ x1 ∧ x1 < 73) (z_chk (z_n ((r_s (36 + x1)) + (r_s x1))) (some (((r_s (36 + x1)) + (r_s x1)))))))
def m_X6_drops (N : Nat) (r_told : (Int → Int)) (r_s : (Int → Int)) (x1 : Int) (x2 : Int) : Option ((Int → Int)) := z_chk (0 ≤ x1 ∧ x1 < 73) (z_chk (z_n ((r_s x1) - 1)) (z_chk (0 ≤ x1 ∧ x1 < 73) (z_chk (0 ≤ x2 ∧ x2 < 73) (z_chk (z_n (3 + x2)) (z_chk (0 ≤ (3 + x2) ∧ (3 + x2) < 39) (if (r_told (3 + x2)) = 2 then (z_chk (z_n (((z_up r_s x1 ((r_s x1) - 1)) x2) + 0)) (z_chk (0 ≤ x2 ∧ x2 < 73) (some ((z_up (z_up r_s x1 ((r_s x1) - 1)) x2 (((z_up r_s x1 ((r_s x1) - 1)) x2) + 0)))))) else (z_chk (0 ≤ x2 ∧ x2 < 73) (if 60 ≤ ((z_up r_s x1 ((r_s x1) - 1)) x2) then (z_chk (z_n (((z_up r_s x1 ((r_s x1) - 1)) x2) + 0)) (z_chk (0 ≤ x2 ∧ x2 < 73) (some ((z_up (z_up r_s x1 ((r_s x1) - 1)) x2 (((z_up r_s x1 ((r_s x1) - 1)) x2) + 0)))))) else (z_chk (z_n (((z_up r_s x1 ((r_s x1) - 1)) x2) + 1)) (z_chk (0 ≤ x2 ∧ x2 < 73) (some ((z_up (z_up r_s x1 ((r_s x1) - 1)) x2 (((z_up r_s x1 ((r_s x1) - 1)) x2) + 1))))))))))))))
def m_X6_sends_l1 (N : Nat) (x1 : Int) (r_s : (Int → Int)) (r_told : (Int → Int)) : Nat → Int → Int → Option (Int)
  | 0, _, _ => none
  | n1 + 1, v2_1, v3_1 => if v3_1 < 0 then (some (v2_1)) else (z_chk (0 ≤ x1 ∧ x1 < 73) (if (r_s x1) ≤ 0 then (some (v2_1)) else (z_b1 (m_X6_beside N r_told x1 v3_1) (fun (r4 : Int) => z_b1 (if r4 < 0 then (some (1)) else (z_chk (z_n (3 + r4)) (z_chk (0 ≤ (3 + r4) ∧ (3 + r4) < 39) (if (r_told (3 + r4)) ≠ 2 then (some (2)) else (some (1)))))) (fun (s10 : Int) => z_b1 (if r4 < 0 then (some (0)) else (z_b1 (m_X6_level N r_s r4) (fun (r13 : Int) => z_chk (z_n (r13 + s10)) (z_b1 (m_X6_level N r_s x1) (fun (r16 : Int) => if r16 < (r13 + s10) then (some (0)) else (some (1))))))) (fun (s19 : Int) => if s19 = 0 then (z_chk (z_n (v3_1 + (-1))) (m_X6_sends_l1 N x1 r_s r_told n1 v2_1 (v3_1 + (-1)))) else (if v2_1 < 0 then (z_chk (z_n (v3_1 + (-1))) (m_X6_sends_l1 N x1 r_s r_told n1 r4 (v3_1 + (-1)))) else (z_b1 (m_X6_level N r_s r4) (fun (r25 : Int) => z_b1 (m_X6_level N r_s v2_1) (fun (r27 : Int) => if r27 < r25 then (z_chk (z_n (v3_1 + (-1))) (m_X6_sends_l1 N x1 r_s r_told n1 v2_1 (v3_1 + (-1)))) else (z_chk (z_n (v3_1 + (-1))) (m_X6_sends_l1 N x1 r_s r_told n1 r4 (v3_1 + (-1))))))))))))))
def m_X6_sends (N : Nat) (r_told : (Int → Int)) (r_s : (Int → Int)) (x1 : Int) : Option (Int × (Int → Int)) := z_b1 (m_X6_sends_l1 N x1 r_s r_told N (-1) 3) (fun (o2_1 : Int) => z_b1 (if o2_1 < 0 then (some (r_s)) else (z_b1 (m_X6_drops N r_told r_s x1 o2_1) (fun (r_s_33 : (Int → Int)) => some (r_s_33)))) (fun (r_s_35 : (Int → Int)) => if o2_1 < 0 then (some (0, r_s_35)) else (some (1, r_s_35))))
def m_X6_flows_l2 (N : Nat) (r_told : (Int → Int)) : Nat → Int → Int → (Int → Int) → Option (Int × (Int → Int))
  | 0, _, _, _ => none
  | n2 + 1, v1_2, v2_2, r_s_2 => z_b1 (m_X6_cells N r_told) (fun (r2 : Int) => if r2 ≤ v2_2 then (some (v1_2, r_s_2)) else (z_b2 (m_X6_sends N r_told r_s_2 v2_2) (fun (r5 : Int) (r_s_6 : (Int → Int)) => if v1_2 ≠ 0 then (z_chk (z_n (v2_2 + 1)) (m_X6_flows_l2 N r_told n2 1 (v2_2 + 1) r_s_6)) else (if r5 = 0 then (z_chk (z_n (v2_2 + 1)) (m_X6_flows_l2 N r_told n2 0 (v2_2 + 1) r_s_6)) else (z_chk (z_n (v2_2 + 1)) (m_X6_flows_l2 N r_told n2 1 (v2_2 + 1) r_s_6))))))
def m_X6_flows_l1 (N : Nat) (r_told : (Int → Int)) : Nat → Int → (Int → Int) → Option ((Int → Int))
  | 0, _, _ => none
  | n1 + 1, v1_1, r_s_1 => if v1_1 = 0 then (some (r_s_1)) else (z_b2 (m_X6_flows_l2 N r_told N 0 0 r_s_1) (fun (o1_2 : Int) (o_r_s_2 : (Int → Int)) => m_X6_flows_l1 N r_told n1 o1_2 o_r_s_2))
def m_X6_flows (N : Nat) (r_told : (Int → Int)) (r_s : (Int → Int)) : Option ((Int → Int)) := z_b1 (m_X6_flows_l1 N r_told N 1 r_s) (fun (o_r_s_1 : (Int → Int)) => some (o_r_s_1))
def m_X6_lays_l1 (N : Nat) (r_draft : (Int → Int)) : Nat → Int → (Int → Int) → Option ((Int → Int))
  | 0, _, _ => none
  | n1 + 1, v1_1, r_told_1 => if 39 ≤ v1_1 then (some (r_told_1)) else (z_chk (0 ≤ v1_1 ∧ v1_1 < 39) (z_chk (0 ≤ v1_1 ∧ v1_1 < 39) (z_chk (z_n (v1_1 + 1)) (m_X6_lays_l1 N r_draft n1 (v1_1 + 1) (z_up r_told_1 v1_1 (r_draft v1_1))))))
def m_X6_lays_l2 (N : Nat) (r_begun : (Int → Int)) : Nat → Int → (Int → Int) → Option ((Int → Int))
  | 0, _, _ => none
  | n2 + 1, v1_2, r_s_2 => if 73 ≤ v1_2 then (some (r_s_2)) else (z_chk (0 ≤ v1_2 ∧ v1_2 < 73) (z_chk (0 ≤ v1_2 ∧ v1_2 < 73) (z_chk (z_n (v1_2 + 1)) (m_X6_lays_l2 N r_begun n2 (v1_2 + 1) (z_up r_s_2 v1_2 (r_begun v1_2))))))
def m_X6_lays_l3 (N : Nat) (o_r_told_1 : (Int → Int)) : Nat → Int → (Int → Int) → Option ((Int → Int))
  | 0, _, _ => none
  | n3 + 1, v1_3, r_s_3 => if 36 ≤ v1_3 then (some (r_s_3)) else (z_chk (z_n (3 + v1_3)) (z_chk (0 ≤ (3 + v1_3) ∧ (3 + v1_3) < 39) (if (o_r_told_1 (3 + v1_3)) = 2 then (z_chk (0 ≤ v1_3 ∧ v1_3 < 73) (z_chk (z_n (v1_3 + 1)) (m_X6_lays_l3 N o_r_told_1 n3 (v1_3 + 1) (z_up r_s_3 v1_3 0)))) else (z_chk (z_n (3 + v1_3)) (z_chk (0 ≤ (3 + v1_3) ∧ (3 + v1_3) < 39) (if (o_r_told_1 (3 + v1_3)) ≠ 3 then (z_chk (0 ≤ v1_3 ∧ v1_3 < 73) (z_chk (0 ≤ v1_3 ∧ v1_3 < 73) (z_chk (z_n (v1_3 + 1)) (m_X6_lays_l3 N o_r_told_1 n3 (v1_3 + 1) (z_up r_s_3 v1_3 (r_s_3 v1_3)))))) else (z_chk (0 ≤ v1_3 ∧ v1_3 < 73) (z_chk (z_n (v1_3 + 1)) (m_X6_lays_l3 N o_r_told_1 n3 (v1_3 + 1) (z_up r_s_3 v1_3 0))))))))))
def m_X6_lays (N : Nat) (r_told : (Int → Int)) (r_draft : (Int → Int)) (r_begun : (Int → Int)) (r_s : (Int → Int)) (r_known : Int) (r_kept : Int) (r_rung : Int) : Option ((Int → Int) × (Int → Int) × Int × Int × Int) := z_b1 (m_X6_lays_l1 N r_draft N 0 r_told) (fun (o_r_told_1 : (Int → Int)) => z_b1 (m_X6_lays_l2 N r_begun N 0 r_s) (fun (o_r_s_2 : (Int → Int)) => z_b1 (m_X6_lays_l3 N o_r_told_1 N 0 o_r_s_2) (fun (o_r_s_3 : (Int → Int)) => z_b1 (m_X6_flows N o_r_told_1 o_r_s_3) (fun (r_s_23 : (Int → Int)) => some (o_r_told_1, r_s_23, 0, 0, 0)))))
def m_X6_write (N : Nat) (r_text : (Int → Int)) (r_typed : Int) (x1 : Int) : Option (Int × (Int → Int) × Int) := z_b1 (m_X6_in N x1 32 126) (fun (r1 : Int) => if r1 ≠ 0 then (if r_typed ≠ 200 then (z_chk (0 ≤ r_typed ∧ r_typed < 200) (z_chk (z_n (r_typed + 1)) (some ((r_typed + 1), (z_up r_text r_typed x1), (r_typed + 1))))) else (some ((-3), r_text, r_typed))) else (some ((-1), r_text, r_typed)))
def m_X6_wipe (N : Nat) (r_typed : Int) : Option (Int × Int) := some (r_typed, 0)
def m_X6_letterAt (N : Nat) (r_text : (Int → Int)) (r_typed : Int) (x1 : Int) : Option (Int) := if r_typed ≤ x1 then (some ((-1))) else (z_chk (0 ≤ x1 ∧ x1 < 200) (some ((r_text x1))))
def m_X6_isFigure (N : Nat) (x0 : Int) : Option (Int) := z_b1 (m_X6_in N x0 48 57) (fun (r1 : Int) => some (r1))
def m_X6_number (N : Nat) (r_text : (Int → Int)) (r_typed : Int) (r_at : Int) (x1 : Int) (x2 : Int) (x3 : Int) : Option (Int × Int) := z_b1 (m_X6_letterAt N r_text r_typed r_at) (fun (r1 : Int) => z_b1 (m_X6_isFigure N r1) (fun (r3 : Int) => if r3 ≠ 0 then (z_b1 (m_X6_letterAt N r_text r_typed r_at) (fun (r6 : Int) => z_chk (z_n (r6 - 48)) (z_chk (z_n (r_at + 1)) (z_b1 (m_X6_letterAt N r_text r_typed (r_at + 1)) (fun (r10 : Int) => z_b1 (m_X6_isFigure N r10) (fun (r12 : Int) => z_b2 (if r12 = 0 then (some ((r6 - 48), (r_at + 1))) else (z_chk (z_n (10 * (r6 - 48))) (z_b1 (m_X6_letterAt N r_text r_typed (r_at + 1)) (fun (r16 : Int) => z_chk (z_n ((10 * (r6 - 48)) + r16)) (z_chk (z_n (((10 * (r6 - 48)) + r16) - 48)) (z_chk (z_n ((r_at + 1) + 1)) (some ((((10 * (r6 - 48)) + r16) - 48), ((r_at + 1) + 1))))))))) (fun (v4_21 : Int) (r_at_22 : Int) => z_b1 (m_X6_letterAt N r_text r_typed r_at_22) (fun (r24 : Int) => z_b1 (if r24 ≠ x3 then (some (0)) else (z_b1 (m_X6_in N v4_21 x1 x2) (fun (r27 : Int) => if r27 = 0 then (some (0)) else (some (1))))) (fun (s30 : Int) => z_chk (z_n (r_at_22 + 1)) (if s30 = 0 then (some ((-1), (r_at_22 + 1))) else (some (v4_21, (r_at_22 + 1))))))))))))) else (some ((-1), r_at))))
def m_X6_readsItem (N : Nat) (r_text : (Int → Int)) (r_typed : Int) (r_draft : (Int → Int)) (r_begun : (Int → Int)) (r_at : Int) (x1 : Int) : Option (Int × (Int → Int) × (Int → Int) × Int) := if x1 ≠ 115 then (z_chk ((0 : Int) ≤ 2 ∧ (2 : Int) < 39) (if x1 = 104 then (z_chk ((0 : Int) ≤ 0 ∧ (0 : Int) < 39) (z_chk ((0 : Int) ≤ 1 ∧ (1 : Int) < 39) (z_chk (z_n (((z_up r_draft 2 1) 0) * ((z_up r_draft 2 1) 1))) (z_chk (z_n ((((z_up r_draft 2 1) 0) * ((z_up r_draft 2 1) 1)) - 1)) (z_b2 (m_X6_number N r_text r_typed r_at 0 ((((z_up r_draft 2 1) 0) * ((z_up r_draft 2 1) 1)) - 1) 44) (fun (r8 : Int) (r_at_9 : Int) => z_b2 (if 0 ≤ r8 then (z_b1 (if x1 ≠ 107 then (some (20)) else (some (4))) (fun (s13 : Int) => z_b2 (m_X6_number N r_text r_typed r_at_9 0 s13 59) (fun (r15 : Int) (r_at_16 : Int) => some (r15, r_at_16)))) else (some ((-1), r_at_9))) (fun (s18 : Int) (r_at_19 : Int) => if 0 ≤ s18 then (if x1 ≠ 104 then (if x1 ≠ 107 then (z_chk (0 ≤ r8 ∧ r8 < 73) (some (1, (z_up r_draft 2 1), (z_up r_begun r8 s18), r_at_19))) else (z_chk (z_n (3 + r8)) (z_chk (0 ≤ (3 + r8) ∧ (3 + r8) < 39) (some (1, (z_up (z_up r_draft 2 1) (3 + r8) s18), r_begun, r_at_19))))) else (z_chk (z_n (36 + r8)) (z_chk (0 ≤ (36 + r8) ∧ (36 + r8) < 73) (some (1, (z_up r_draft 2 1), (z_up r_begun (36 + r8) s18), r_at_19))))) else (some (0, (z_up r_draft 2 1), r_begun, r_at_19))))))))) else (if x1 = 107 then (z_chk ((0 : Int) ≤ 0 ∧ (0 : Int) < 39) (z_chk ((0 : Int) ≤ 1 ∧ (1 : Int) < 39) (z_chk (z_n (((z_up r_draft 2 1) 0) * ((z_up r_draft 2 1) 1))) (z_chk (z_n ((((z_up r_draft 2 1) 0) * ((z_up r_draft 2 1) 1)) - 1)) (z_b2 (m_X6_number N r_text r_typed r_at 0 ((((z_up r_draft 2 1) 0) * ((z_up r_draft 2 1) 1)) - 1) 44) (fun (r34 : Int) (r_at_35 : Int) => z_b2 (if 0 ≤ r34 then (z_b1 (if x1 ≠ 107 then (some (20)) else (some (4))) (fun (s39 : Int) => z_b2 (m_X6_number N r_text r_typed r_at_35 0 s39 59) (fun (r41 : Int) (r_at_42 : Int) => some (r41, r_at_42)))) else (some ((-1), r_at_35))) (fun (s44 : Int) (r_at_45 : Int) => if 0 ≤ s44 then (if x1 ≠ 104 then (if x1 ≠ 107 then (z_chk (0 ≤ r34 ∧ r34 < 73) (some (1, (z_up r_draft 2 1), (z_up r_begun r34 s44), r_at_45))) else (z_chk (z_n (3 + r34)) (z_chk (0 ≤ (3 + r34) ∧ (3 + r34) < 39) (some (1, (z_up (z_up r_draft 2 1) (3 + r34) s44), r_begun, r_at_45))))) else (z_chk (z_n (36 + r34)) (z_chk (0 ≤ (36 + r34) ∧ (36 + r34) < 73) (some (1, (z_up r_draft 2 1), (z_up r_begun (36 + r34) s44), r_at_45))))) else (some (0, (z_up r_draft 2 1), r_begun, r_at_45))))))))) else (if x1 = 119 then (z_chk ((0 : Int) ≤ 0 ∧ (0 : Int) < 39) (z_chk ((0 : Int) ≤ 1 ∧ (1 : Int) < 39) (z_chk (z_n (((z_up r_draft 2 1) 0) * ((z_up r_draft 2 1) 1))) (z_chk (z_n ((((z_up r_draft 2 1) 0) * ((z_up r_draft 2 1) 1)) - 1)) (z_b2 (m_X6_number N r_text r_typed r_at 0 ((((z_up r_draft 2 1) 0) * ((z_up r_draft 2 1) 1)) - 1) 44) (fun (r60 : Int) (r_at_61 : Int) => z_b2 (if 0 ≤ r60 then (z_b1 (if x1 ≠ 107 then (some (20)) else (some (4))) (fun (s65 : Int) => z_b2 (m_X6_number N r_text r_typed r_at_61 0 s65 59) (fun (r67 : Int) (r_at_68 : Int) => some (r67, r_at_68)))) else (some ((-1), r_at_61))) (fun (s70 : Int) (r_at_71 : Int) => if 0 ≤ s70 then (if x1 ≠ 104 then (if x1 ≠ 107 then (z_chk (0 ≤ r60 ∧ r60 < 73) (some (1, (z_up r_draft 2 1), (z_up r_begun r60 s70), r_at_71))) else (z_chk (z_n (3 + r60)) (z_chk (0 ≤ (3 + r60) ∧ (3 + r60) < 39) (some (1, (z_up (z_up r_draft 2 1) (3 + r60) s70), r_begun, r_at_71))))) else (z_chk (z_n (36 + r60)) (z_chk (0 ≤ (36 + r60) ∧ (36 + r60) < 73) (some (1, (z_up r_draft 2 1), (z_up r_begun (36 + r60) s70), r_at_71))))) else (some (0, (z_up r_draft 2 1), r_begun, r_at_71))))))))) else (some (0, (z_up r_draft 2 1), r_begun, r_at)))))) else (z_b2 (m_X6_number N r_text r_typed r_at 2 6 44) (fun (r81 : Int) (r_at_82 : Int) => z_b2 (if 0 ≤ r81 then (z_b2 (m_X6_number N r_text r_typed r_at_82 2 6 59) (fun (r85 : Int) (r_at_86 : Int) => some (r85, r_at_86))) else (some ((-1), r_at_82))) (fun (s88 : Int) (r_at_89 : Int) => z_chk ((0 : Int) ≤ 0 ∧ (0 : Int) < 39) (z_chk ((0 : Int) ≤ 1 ∧ (1 : Int) < 39) (if s88 ≤ 0 then (some (0, (z_up (z_up r_draft 0 r81) 1 s88), r_begun, r_at_89)) else (z_chk ((0 : Int) ≤ 2 ∧ (2 : Int) < 39) (if ((z_up (z_up r_draft 0 r81) 1 s88) 2) ≠ 0 then (some (0, (z_up (z_up r_draft 0 r81) 1 s88), r_begun, r_at_89)) else (some (1, (z_up (z_up r_draft 0 r81) 1 s88), r_begun, r_at_89)))))))))
def m_X6_readsAll_l1 (N : Nat) (r_typed : Int) (r_text : (Int → Int)) : Nat → (Int → Int) → (Int → Int) → Int → Option (Int × (Int → Int) × (Int → Int) × Int)
  | 0, _, _, _ => none
  | n1 + 1, r_draft_1, r_begun_1, r_at_1 => if r_typed ≤ r_at_1 then (some ((-4), r_draft_1, r_begun_1, r_at_1)) else (z_chk (z_n (r_at_1 + 1)) (z_chk (0 ≤ r_at_1 ∧ r_at_1 < 200) (z_b4 (m_X6_readsItem N r_text r_typed r_draft_1 r_begun_1 (r_at_1 + 1) (r_text r_at_1)) (fun (r7 : Int) (r_draft_8 : (Int → Int)) (r_begun_9 : (Int → Int)) (r_at_10 : Int) => if r7 ≠ 0 then (m_X6_readsAll_l1 N r_typed r_text n1 r_draft_8 r_begun_9 r_at_10) else (some (r_at_1, r_draft_8, r_begun_9, r_at_10))))))
def m_X6_readsAll (N : Nat) (r_text : (Int → Int)) (r_typed : Int) (r_draft : (Int → Int)) (r_begun : (Int → Int)) (r_at : Int) : Option (Int × (Int → Int) × (Int → Int) × Int) := z_b2 (m_X6_begins N r_draft r_begun) (fun (r_draft_1 : (Int → Int)) (r_begun_2 : (Int → Int)) => m_X6_readsAll_l1 N r_typed r_text N r_draft_1 r_begun_2 0)
def m_X6_fault (N : Nat) (r_text : (Int → Int)) (r_typed : Int) (r_draft : (Int → Int)) (r_begun : (Int → Int)) (r_at : Int) : Option (Int × (Int → Int) × (Int → Int) × Int) := z_b4 (m_X6_readsAll N r_text r_typed r_draft r_begun r_at) (fun (r1 : Int) (r_draft_2 : (Int → Int)) (r_begun_3 : (Int → Int)) (r_at_4 : Int) => some (r1, r_draft_2, r_begun_3, r_at_4))
def m_X6_lay (N : Nat) (r_text : (Int → Int)) (r_typed : Int) (r_told : (Int → Int)) (r_draft : (Int → Int)) (r_begun : (Int → Int)) (r_s : (Int → Int)) (r_known : Int) (r_kept : Int) (r_rung : Int) (r_at : Int) : Option (Int × (Int → Int) × (Int → Int) × (Int → Int) × (Int → Int) × Int × Int × Int × Int) := if r_typed = 0 then (some ((-2), r_told, r_draft, r_begun, r_s, r_known, r_kept, r_rung, r_at)) else (z_b4 (m_X6_readsAll N r_text r_typed r_draft r_begun r_at) (fun (r2 : Int) (r_draft_3 : (Int → Int)) (r_begun_4 : (Int → Int)) (r_at_5 : Int) => if r2 = (-4) then (z_b5 (m_X6_lays N r_told r_draft_3 r_begun_4 r_s r_known r_kept r_rung) (fun (r_told_8 : (Int → Int)) (r_s_9 : (Int → Int)) (r_known_10 : Int) (r_kept_11 : Int) (r_rung_12 : Int) => z_b1 (m_X6_cells N r_told_8) (fun (r14 : Int) => some (r14, r_told_8, r_draft_3, r_begun_4, r_s_9, r_known_10, r_kept_11, r_rung_12, r_at_5)))) else (some ((-2), r_told, r_draft_3, r_begun_4, r_s, r_known, r_kept, r_rung, r_at_5))))
def m_X6_laysStates_l1 (N : Nat) (r_told : (Int → Int)) (r_s : (Int → Int)) : Nat → Int → (Int → Int) → Option ((Int → Int))
  | 0, _, _ => none
  | n1 + 1, v1_1, r_states_1 => z_b1 (m_X6_cells N r_told) (fun (r1 : Int) => if r1 ≤ v1_1 then (some (r_states_1)) else (z_chk (0 ≤ v1_1 ∧ v1_1 < 73) (if (r_s v1_1) ≤ 0 then (z_chk (0 ≤ v1_1 ∧ v1_1 < 36) (z_chk (z_n (v1_1 + 1)) (m_X6_laysStates_l1 N r_told r_s n1 (v1_1 + 1) (z_up r_states_1 v1_1 (-1))))) else (z_chk (0 ≤ v1_1 ∧ v1_1 < 36) (z_chk (z_n (v1_1 + 1)) (m_X6_laysStates_l1 N r_told r_s n1 (v1_1 + 1) (z_up r_states_1 v1_1 v1_1)))))))
def m_X6_laysStates_l4 (N : Nat) (v2_3 : Int) (r_told : (Int → Int)) : Nat → Int → Int → (Int → Int) → Option (Int × (Int → Int))
  | 0, _, _, _ => none
  | n4 + 1, v1_4, v3_4, r_states_4 => if 4 ≤ v3_4 then (some (v1_4, r_states_4)) else (z_chk (0 ≤ v2_3 ∧ v2_3 < 36) (if (r_states_4 v2_3) < 0 then (some (v1_4, r_states_4)) else (z_b1 (m_X6_beside N r_told v2_3 v3_4) (fun (r17 : Int) => if r17 < 0 then (z_chk (z_n (v3_4 + 1)) (m_X6_laysStates_l4 N v2_3 r_told n4 v1_4 (v3_4 + 1) r_states_4)) else (z_chk (0 ≤ r17 ∧ r17 < 36) (if (r_states_4 r17) < 0 then (z_chk (z_n (v3_4 + 1)) (m_X6_laysStates_l4 N v2_3 r_told n4 v1_4 (v3_4 + 1) r_states_4)) else (z_chk (0 ≤ r17 ∧ r17 < 36) (z_chk (0 ≤ v2_3 ∧ v2_3 < 36) (if (r_states_4 v2_3) ≤ (r_states_4 r17) then (z_chk (z_n (v3_4 + 1)) (m_X6_laysStates_l4 N v2_3 r_told n4 v1_4 (v3_4 + 1) r_states_4)) else (z_chk (0 ≤ r17 ∧ r17 < 36) (z_chk (0 ≤ v2_3 ∧ v2_3 < 36) (z_chk (z_n (v3_4 + 1)) (m_X6_laysStates_l4 N v2_3 r_told n4 1 (v3_4 + 1) (z_up r_states_4 v2_3 (r_states_4 r17)))))))))))))))
def m_X6_laysStates_l3 (N : Nat) (r_told : (Int → Int)) : Nat → Int → Int → (Int → Int) → Option (Int × (Int → Int))
  | 0, _, _, _ => none
  | n3 + 1, v1_3, v2_3, r_states_3 => z_b1 (m_X6_cells N r_told) (fun (r11 : Int) => if r11 ≤ v2_3 then (some (v1_3, r_states_3)) else (z_b2 (m_X6_laysStates_l4 N v2_3 r_told N v1_3 0 r_states_3) (fun (o1_4 : Int) (o_r_states_4 : (Int → Int)) => z_chk (z_n (v2_3 + 1)) (m_X6_laysStates_l3 N r_told n3 o1_4 (v2_3 + 1) o_r_states_4))))
def m_X6_laysStates_l2 (N : Nat) (r_told : (Int → Int)) : Nat → Int → (Int → Int) → Option ((Int → Int))
  | 0, _, _ => none
  | n2 + 1, v1_2, r_states_2 => if v1_2 = 0 then (some (r_states_2)) else (z_b2 (m_X6_laysStates_l3 N r_told N 0 0 r_states_2) (fun (o1_3 : Int) (o_r_states_3 : (Int → Int)) => m_X6_laysStates_l2 N r_told n2 o1_3 o_r_states_3))
def m_X6_laysStates (N : Nat) (r_told : (Int → Int)) (r_s : (Int → Int)) (r_states : (Int → Int)) : Option ((Int → Int)) := z_b1 (m_X6_laysStates_l1 N r_told r_s N 0 r_states) (fun (o_r_states_1 : (Int → Int)) => z_b1 (m_X6_laysStates_l2 N r_told N 1 o_r_states_1) (fun (o_r_states_2 : (Int → Int)) => some (o_r_states_2)))
def m_X6_sizeOf_l1 (N : Nat) (r_told : (Int → Int)) (x1 : Int) (r_states : (Int → Int)) : Nat → Int → Int → Option (Int)
  | 0, _, _ => none
  | n1 + 1, v2_1, v3_1 => z_b1 (m_X6_cells N r_told) (fun (r1 : Int) => if r1 ≤ v3_1 then (some (v2_1)) else (if x1 < 0 then (z_chk (z_n (v2_1 + 0)) (z_chk (z_n (v3_1 + 1)) (m_X6_sizeOf_l1 N r_told x1 r_states n1 (v2_1 + 0) (v3_1 + 1)))) else (z_chk (0 ≤ v3_1 ∧ v3_1 < 36) (if (r_states v3_1) ≠ x1 then (z_chk (z_n (v2_1 + 0)) (z_chk (z_n (v3_1 + 1)) (m_X6_sizeOf_l1 N r_told x1 r_states n1 (v2_1 + 0) (v3_1 + 1)))) else (z_chk (z_n (v2_1 + 1)) (z_chk (z_n (v3_1 + 1)) (m_X6_sizeOf_l1 N r_told x1 r_states n1 (v2_1 + 1) (v3_1 + 1))))))))
def m_X6_sizeOf (N : Nat) (r_told : (Int → Int)) (r_states : (Int → Int)) (x1 : Int) : Option (Int) := z_b1 (m_X6_sizeOf_l1 N r_told x1 r_states N 0 0) (fun (o2_1 : Int) => some (o2_1))
def m_X6_cell_l1 (N : Nat) (r_told : (Int → Int)) (x1 : Int) (r_states_4 : (Int → Int)) (r_s : (Int → Int)) : Nat → Int → Int → Option (Int)
  | 0, _, _ => none
  | n1 + 1, v3_1, v4_1 => z_b1 (m_X6_cells N r_told) (fun (r6 : Int) => if r6 ≤ v4_1 then (some (v3_1)) else (z_chk (0 ≤ x1 ∧ x1 < 36) (if (r_states_4 x1) < 0 then (z_chk (z_n (v4_1 + 1)) (m_X6_cell_l1 N r_told x1 r_states_4 r_s n1 v3_1 (v4_1 + 1))) else (z_chk (0 ≤ v4_1 ∧ v4_1 < 36) (z_chk (0 ≤ x1 ∧ x1 < 36) (if (r_states_4 v4_1) ≠ (r_states_4 x1) then (z_chk (z_n (v4_1 + 1)) (m_X6_cell_l1 N r_told x1 r_states_4 r_s n1 v3_1 (v4_1 + 1))) else (z_chk (0 ≤ v4_1 ∧ v4_1 < 73) (if (r_s v4_1) ≤ v3_1 then (z_chk (z_n (v4_1 + 1)) (m_X6_cell_l1 N r_told x1 r_states_4 r_s n1 v3_1 (v4_1 + 1))) else (z_chk (0 ≤ v4_1 ∧ v4_1 < 73) (z_chk (z_n (v4_1 + 1)) (m_X6_cell_l1 N r_told x1 r_states_4 r_s n1 (r_s v4_1) (v4_1 + 1))))))))))))
def m_X6_cell (N : Nat) (r_told : (Int → Int)) (r_s : (Int → Int)) (r_states : (Int → Int)) (x1 : Int) (x2 : Int) : Option (Int × (Int → Int)) := z_b1 (m_X6_isCell N r_told x1) (fun (r1 : Int) => if r1 ≠ 0 then (z_b1 (m_X6_laysStates N r_told r_s r_states) (fun (r_states_4 : (Int → Int)) => z_b1 (m_X6_cell_l1 N r_told x1 r_states_4 r_s N 0 0) (fun (o3_1 : Int) => if x2 = 0 then (z_chk (z_n (36 + x1)) (z_chk (0 ≤ (36 + x1) ∧ (36 + x1) < 73) (some ((r_s (36 + x1)), r_states_4)))) else (if x2 = 1 then (z_chk (z_n (3 + x1)) (z_chk (0 ≤ (3 + x1) ∧ (3 + x1) < 39) (some ((r_told (3 + x1)), r_states_4)))) else (if x2 = 2 then (z_chk (0 ≤ x1 ∧ x1 < 73) (some ((r_s x1), r_states_4))) else (if x2 = 3 then (z_chk (0 ≤ x1 ∧ x1 < 36) (if 0 ≤ (r_states_4 x1) then (z_chk (0 ≤ x1 ∧ x1 < 36) (some ((r_states_4 x1), r_states_4))) else (some ((-4), r_states_4)))) else (if x2 = 4 then (z_chk (0 ≤ x1 ∧ x1 < 36) (z_b1 (m_X6_sizeOf N r_told r_states_4 (r_states_4 x1)) (fun (r30 : Int) => some (r30, r_states_4)))) else (if x2 = 5 then (some (o3_1, r_states_4)) else (some ((-1), r_states_4)))))))))) else (some ((-1), r_states)))
def m_X6_keeps_l1 (N : Nat) : Nat → Int → (Int → Int) → Option ((Int → Int))
  | 0, _, _ => none
  | n1 + 1, v1_1, r_past_1 => if 511 ≤ v1_1 then (some (r_past_1)) else (z_chk (z_n (v1_1 + 73)) (z_chk (0 ≤ (v1_1 + 73) ∧ (v1_1 + 73) < 584) (z_chk (0 ≤ v1_1 ∧ v1_1 < 584) (z_chk (z_n (v1_1 + 1)) (m_X6_keeps_l1 N n1 (v1_1 + 1) (z_up r_past_1 v1_1 (r_past_1 (v1_1 + 73))))))))
def m_X6_keeps_l2 (N : Nat) (r_known_9 : Int) (r_s : (Int → Int)) : Nat → Int → (Int → Int) → Option ((Int → Int))
  | 0, _, _ => none
  | n2 + 1, v1_2, r_past_2 => if 73 ≤ v1_2 then (some (r_past_2)) else (z_chk (z_n (73 * r_known_9)) (z_chk (z_n ((73 * r_known_9) + v1_2)) (z_chk (0 ≤ v1_2 ∧ v1_2 < 73) (z_chk (0 ≤ ((73 * r_known_9) + v1_2) ∧ ((73 * r_known_9) + v1_2) < 584) (z_chk (z_n (v1_2 + 1)) (m_X6_keeps_l2 N r_known_9 r_s n2 (v1_2 + 1) (z_up r_past_2 ((73 * r_known_9) + v1_2) (r_s v1_2))))))))
def m_X6_keeps (N : Nat) (r_s : (Int → Int)) (r_past : (Int → Int)) (r_known : Int) : Option ((Int → Int) × Int) := z_b2 (if r_known ≠ 8 then (some (r_past, r_known)) else (z_b1 (m_X6_keeps_l1 N N 0 r_past) (fun (o_r_past_1 : (Int → Int)) => z_chk (z_n (r_known - 1)) (some (o_r_past_1, (r_known - 1)))))) (fun (r_past_8 : (Int → Int)) (r_known_9 : Int) => z_b1 (m_X6_keeps_l2 N r_known_9 r_s N 0 r_past_8) (fun (o_r_past_2 : (Int → Int)) => z_chk (z_n (r_known_9 + 1)) (some (o_r_past_2, (r_known_9 + 1)))))
def m_X6_isOpen (N : Nat) (r_told : (Int → Int)) (x1 : Int) : Option (Int) := z_chk (z_n (3 + x1)) (z_chk (0 ≤ (3 + x1) ∧ (3 + x1) < 39) (if (r_told (3 + x1)) = 2 then (some (0)) else (z_chk (z_n (3 + x1)) (z_chk (0 ≤ (3 + x1) ∧ (3 + x1) < 39) (if (r_told (3 + x1)) = 3 then (some (0)) else (some (1)))))))
def m_X6_pours_l1 (N : Nat) (r_told : (Int → Int)) (x1 : Int) : Nat → Int → (Int → Int) → Option ((Int → Int))
  | 0, _, _ => none
  | n1 + 1, v2_1, r_s_1 => z_b1 (m_X6_cells N r_told) (fun (r1 : Int) => if r1 ≤ v2_1 then (some (r_s_1)) else (z_b1 (m_X6_isOpen N r_told v2_1) (fun (r4 : Int) => if r4 ≠ 0 then (z_chk (0 ≤ v2_1 ∧ v2_1 < 73) (z_chk (z_n ((r_s_1 v2_1) + x1)) (if ((r_s_1 v2_1) + x1) ≤ 60 then (z_chk (0 ≤ v2_1 ∧ v2_1 < 73) (z_chk (z_n ((r_s_1 v2_1) + x1)) (z_chk (0 ≤ v2_1 ∧ v2_1 < 73) (z_chk (z_n (v2_1 + 1)) (m_X6_pours_l1 N r_told x1 n1 (v2_1 + 1) (z_up r_s_1 v2_1 ((r_s_1 v2_1) + x1))))))) else (z_chk (0 ≤ v2_1 ∧ v2_1 < 73) (z_chk (z_n (v2_1 + 1)) (m_X6_pours_l1 N r_told x1 n1 (v2_1 + 1) (z_up r_s_1 v2_1 60))))))) else (z_chk (0 ≤ v2_1 ∧ v2_1 < 73) (z_chk (z_n (v2_1 + 1)) (m_X6_pours_l1 N r_told x1 n1 (v2_1 + 1) (z_up r_s_1 v2_1 0)))))))
def m_X6_pours (N : Nat) (r_told : (Int → Int)) (r_s : (Int → Int)) (x1 : Int) : Option ((Int → Int)) := z_b1 (m_X6_pours_l1 N r_told x1 N 0 r_s) (fun (o_r_s_1 : (Int → Int)) => z_b1 (m_X6_flows N r_told o_r_s_1) (fun (r_s_18 : (Int → Int)) => some (r_s_18)))
def m_X6_all_l1 (N : Nat) (r_told : (Int → Int)) (r_s : (Int → Int)) : Nat → Int → Int → Option (Int)
  | 0, _, _ => none
  | n1 + 1, v1_1, v2_1 => z_b1 (m_X6_cells N r_told) (fun (r1 : Int) => if r1 ≤ v2_1 then (some (v1_1)) else (z_chk (0 ≤ v2_1 ∧ v2_1 < 73) (z_chk (z_n (v1_1 + (r_s v2_1))) (z_chk (z_n (v2_1 + 1)) (m_X6_all_l1 N r_told r_s n1 (v1_1 + (r_s v2_1)) (v2_1 + 1))))))
def m_X6_all (N : Nat) (r_told : (Int → Int)) (r_s : (Int → Int)) : Option (Int) := z_b1 (m_X6_all_l1 N r_told r_s N 0 0) (fun (o1_1 : Int) => some (o1_1))
def m_X6_rain (N : Nat) (r_told : (Int → Int)) (r_s : (Int → Int)) (r_past : (Int → Int)) (r_known : Int) (x1 : Int) : Option (Int × (Int → Int) × (Int → Int) × Int) := z_b1 (m_X6_in N x1 1 9) (fun (r1 : Int) => if r1 ≠ 0 then (z_b2 (m_X6_keeps N r_s r_past r_known) (fun (r_past_4 : (Int → Int)) (r_known_5 : Int) => z_b1 (m_X6_pours N r_told r_s x1) (fun (r_s_7 : (Int → Int)) => z_b1 (m_X6_all N r_told r_s_7) (fun (r9 : Int) => some (r9, r_s_7, r_past_4, r_known_5))))) else (some ((-1), r_s, r_past, r_known)))
def m_X6_shines_l1 (N : Nat) (r_told : (Int → Int)) : Nat → Int → (Int → Int) → Option ((Int → Int))
  | 0, _, _ => none
  | n1 + 1, v1_1, r_s_1 => z_b1 (m_X6_cells N r_told) (fun (r4 : Int) => if r4 ≤ v1_1 then (some (r_s_1)) else (z_chk (0 ≤ v1_1 ∧ v1_1 < 73) (z_b1 (if (r_s_1 v1_1) ≤ 0 then (some (0)) else (z_chk (z_n (3 + v1_1)) (z_chk (0 ≤ (3 + v1_1) ∧ (3 + v1_1) < 39) (if (r_told (3 + v1_1)) ≠ 1 then (some (1)) else (z_chk ((0 : Int) ≤ 72 ∧ (72 : Int) < 73) (z_chk (z_n (Int.tmod (r_s_1 72) 2)) (if (Int.tmod (r_s_1 72) 2) ≠ 0 then (some (0)) else (some (1))))))))) (fun (s15 : Int) => z_chk (0 ≤ v1_1 ∧ v1_1 < 73) (if s15 = 0 then (z_chk (z_n ((r_s_1 v1_1) - 0)) (z_chk (0 ≤ v1_1 ∧ v1_1 < 73) (z_chk (z_n (v1_1 + 1)) (m_X6_shines_l1 N r_told n1 (v1_1 + 1) (z_up r_s_1 v1_1 ((r_s_1 v1_1) - 0)))))) else (z_chk (z_n ((r_s_1 v1_1) - 1)) (z_chk (0 ≤ v1_1 ∧ v1_1 < 73) (z_chk (z_n (v1_1 + 1)) (m_X6_shines_l1 N r_told n1 (v1_1 + 1) (z_up r_s_1 v1_1 ((r_s_1 v1_1) - 1)))))))))))
def m_X6_shines_l2 (N : Nat) (r_told : (Int → Int)) : Nat → Int → (Int → Int) → Option ((Int → Int))
  | 0, _, _ => none
  | n2 + 1, v1_2, r_s_2 => z_b1 (m_X6_cells N r_told) (fun (r25 : Int) => if r25 ≤ v1_2 then (some (r_s_2)) else (z_chk (0 ≤ v1_2 ∧ v1_2 < 73) (z_chk (z_n (3 + v1_2)) (z_chk (0 ≤ (3 + v1_2) ∧ (3 + v1_2) < 39) (if (r_told (3 + v1_2)) ≠ 4 then (z_chk (z_n ((r_s_2 v1_2) + 0)) (z_chk (0 ≤ v1_2 ∧ v1_2 < 73) (z_chk (z_n (v1_2 + 1)) (m_X6_shines_l2 N r_told n2 (v1_2 + 1) (z_up r_s_2 v1_2 ((r_s_2 v1_2) + 0)))))) else (z_chk (0 ≤ v1_2 ∧ v1_2 < 73) (if 60 ≤ (r_s_2 v1_2) then (z_chk (z_n ((r_s_2 v1_2) + 0)) (z_chk (0 ≤ v1_2 ∧ v1_2 < 73) (z_chk (z_n (v1_2 + 1)) (m_X6_shines_l2 N r_told n2 (v1_2 + 1) (z_up r_s_2 v1_2 ((r_s_2 v1_2) + 0)))))) else (z_chk (z_n ((r_s_2 v1_2) + 1)) (z_chk (0 ≤ v1_2 ∧ v1_2 < 73) (z_chk (z_n (v1_2 + 1)) (m_X6_shines_l2 N r_told n2 (v1_2 + 1) (z_up r_s_2 v1_2 ((r_s_2 v1_2) + 1)))))))))))))
def m_X6_shines (N : Nat) (r_told : (Int → Int)) (r_s : (Int → Int)) : Option ((Int → Int)) := z_chk ((0 : Int) ≤ 72 ∧ (72 : Int) < 73) (z_chk (z_n ((r_s 72) + 1)) (z_chk ((0 : Int) ≤ 72 ∧ (72 : Int) < 73) (z_b1 (m_X6_shines_l1 N r_told N 0 (z_up r_s 72 ((r_s 72) + 1))) (fun (o_r_s_1 : (Int → Int)) => z_b1 (m_X6_shines_l2 N r_told N 0 o_r_s_1) (fun (o_r_s_2 : (Int → Int)) => z_b1 (m_X6_flows N r_told o_r_s_2) (fun (r_s_43 : (Int → Int)) => some (r_s_43)))))))
def m_X6_shine_l1 (N : Nat) (x1 : Int) (r_told : (Int → Int)) : Nat → Int → (Int → Int) → Option ((Int → Int))
  | 0, _, _ => none
  | n1 + 1, v2_1, r_s_1 => if x1 ≤ v2_1 then (some (r_s_1)) else (z_b1 (m_X6_shines N r_told r_s_1) (fun (r_s_8 : (Int → Int)) => z_chk (z_n (v2_1 + 1)) (m_X6_shine_l1 N x1 r_told n1 (v2_1 + 1) r_s_8)))
def m_X6_shine (N : Nat) (r_told : (Int → Int)) (r_s : (Int → Int)) (r_past : (Int → Int)) (r_known : Int) (x1 : Int) : Option (Int × (Int → Int) × (Int → Int) × Int) := z_b1 (m_X6_in N x1 1 20) (fun (r1 : Int) => if r1 ≠ 0 then (z_b2 (m_X6_keeps N r_s r_past r_known) (fun (r_past_4 : (Int → Int)) (r_known_5 : Int) => z_b1 (m_X6_shine_l1 N x1 r_told N 0 r_s) (fun (o_r_s_1 : (Int → Int)) => z_chk ((0 : Int) ≤ 72 ∧ (72 : Int) < 73) (some ((o_r_s_1 72), o_r_s_1, r_past_4, r_known_5))))) else (some ((-1), r_s, r_past, r_known)))
def m_X6_boot_l1 (N : Nat) (r_told : (Int → Int)) (x1 : Int) : Nat → Int → (Int → Int) → Option ((Int → Int))
  | 0, _, _ => none
  | n1 + 1, v2_1, r_s_1 => if 4 ≤ v2_1 then (some (r_s_1)) else (z_b1 (m_X6_beside N r_told x1 v2_1) (fun (r10 : Int) => if r10 < 0 then (z_chk (z_n (v2_1 + 1)) (m_X6_boot_l1 N r_told x1 n1 (v2_1 + 1) r_s_1)) else (z_chk (0 ≤ x1 ∧ x1 < 73) (if (r_s_1 x1) ≤ 0 then (z_chk (z_n (v2_1 + 1)) (m_X6_boot_l1 N r_told x1 n1 (v2_1 + 1) r_s_1)) else (z_b1 (m_X6_drops N r_told r_s_1 x1 r10) (fun (r_s_17 : (Int → Int)) => z_chk (z_n (v2_1 + 1)) (m_X6_boot_l1 N r_told x1 n1 (v2_1 + 1) r_s_17)))))))
def m_X6_boot (N : Nat) (r_told : (Int → Int)) (r_s : (Int → Int)) (r_past : (Int → Int)) (r_known : Int) (x1 : Int) : Option (Int × (Int → Int) × (Int → Int) × Int) := z_b1 (m_X6_isCell N r_told x1) (fun (r1 : Int) => if r1 ≠ 0 then (z_chk (0 ≤ x1 ∧ x1 < 73) (if (r_s x1) ≠ 0 then (z_b2 (m_X6_keeps N r_s r_past r_known) (fun (r_past_6 : (Int → Int)) (r_known_7 : Int) => z_b1 (m_X6_boot_l1 N r_told x1 N 0 r_s) (fun (o_r_s_1 : (Int → Int)) => z_b1 (m_X6_flows N r_told o_r_s_1) (fun (r_s_20 : (Int → Int)) => z_chk (0 ≤ x1 ∧ x1 < 73) (some ((r_s_20 x1), r_s_20, r_past_6, r_known_7)))))) else (some ((-2), r_s, r_past, r_known)))) else (some ((-1), r_s, r_past, r_known)))
def m_X6_stone (N : Nat) (r_told : (Int → Int)) (r_s : (Int → Int)) (r_past : (Int → Int)) (r_known : Int) (x1 : Int) (x2 : Int) : Option (Int × (Int → Int) × (Int → Int) × Int) := z_b1 (m_X6_isCell N r_told x1) (fun (r1 : Int) => if r1 ≠ 0 then (z_b1 (m_X6_isOpen N r_told x1) (fun (r4 : Int) => if r4 = 0 then (some ((-2), r_s, r_past, r_known)) else (z_chk (z_n (36 + x1)) (z_chk (0 ≤ (36 + x1) ∧ (36 + x1) < 73) (z_b1 (if x2 = 0 then (some (20)) else (some (0))) (fun (s10 : Int) => if (r_s (36 + x1)) ≠ s10 then (z_b2 (m_X6_keeps N r_s r_past r_known) (fun (r_past_13 : (Int → Int)) (r_known_14 : Int) => z_chk (z_n (36 + x1)) (z_chk (0 ≤ (36 + x1) ∧ (36 + x1) < 73) (z_b1 (if x2 = 0 then (some (1)) else (some ((-1)))) (fun (s19 : Int) => z_chk (z_n ((r_s (36 + x1)) + s19)) (z_chk (0 ≤ (36 + x1) ∧ (36 + x1) < 73) (z_b1 (m_X6_flows N r_told (z_up r_s (36 + x1) ((r_s (36 + x1)) + s19))) (fun (r_s_23 : (Int → Int)) => z_chk (z_n (36 + x1)) (z_chk (0 ≤ (36 + x1) ∧ (36 + x1) < 73) (some ((r_s_23 (36 + x1)), r_s_23, r_past_13, r_known_14))))))))))) else (some ((-2), r_s, r_past, r_known)))))))) else (some ((-1), r_s, r_past, r_known)))
def m_X6_undo_l1 (N : Nat) (i_r_known_1 : Int) (r_past : (Int → Int)) : Nat → Int → (Int → Int) → Option ((Int → Int))
  | 0, _, _ => none
  | n1 + 1, v1_1, r_s_1 => if 73 ≤ v1_1 then (some (r_s_1)) else (z_chk (z_n (73 * i_r_known_1)) (z_chk (z_n ((73 * i_r_known_1) + v1_1)) (z_chk (0 ≤ ((73 * i_r_known_1) + v1_1) ∧ ((73 * i_r_known_1) + v1_1) < 584) (z_chk (0 ≤ v1_1 ∧ v1_1 < 73) (z_chk (z_n (v1_1 + 1)) (m_X6_undo_l1 N i_r_known_1 r_past n1 (v1_1 + 1) (z_up r_s_1 v1_1 (r_past ((73 * i_r_known_1) + v1_1)))))))))
def m_X6_undo (N : Nat) (r_s : (Int → Int)) (r_past : (Int → Int)) (r_known : Int) : Option (Int × (Int → Int) × Int) := if r_known ≠ 0 then (z_chk (z_n (r_known - 1)) (z_b1 (m_X6_undo_l1 N (r_known - 1) r_past N 0 r_s) (fun (o_r_s_1 : (Int → Int)) => some ((r_known - 1), o_r_s_1, (r_known - 1))))) else (some ((-2), r_s, r_known))
def m_X6_holds_l1 (N : Nat) (r_s : (Int → Int)) : Nat → Int → (Int → Int) → Option ((Int → Int))
  | 0, _, _ => none
  | n1 + 1, v1_1, r_held_1 => if 73 ≤ v1_1 then (some (r_held_1)) else (z_chk (0 ≤ v1_1 ∧ v1_1 < 73) (z_chk (0 ≤ v1_1 ∧ v1_1 < 73) (z_chk (z_n (v1_1 + 1)) (m_X6_holds_l1 N r_s n1 (v1_1 + 1) (z_up r_held_1 v1_1 (r_s v1_1))))))
def m_X6_holds (N : Nat) (r_s : (Int → Int)) (r_held : (Int → Int)) : Option ((Int → Int)) := z_b1 (m_X6_holds_l1 N r_s N 0 r_held) (fun (o_r_held_1 : (Int → Int)) => some (o_r_held_1))
def m_X6_lets_l1 (N : Nat) (r_held : (Int → Int)) : Nat → Int → (Int → Int) → Option ((Int → Int))
  | 0, _, _ => none
  | n1 + 1, v1_1, r_s_1 => if 73 ≤ v1_1 then (some (r_s_1)) else (z_chk (0 ≤ v1_1 ∧ v1_1 < 73) (z_chk (0 ≤ v1_1 ∧ v1_1 < 73) (z_chk (z_n (v1_1 + 1)) (m_X6_lets_l1 N r_held n1 (v1_1 + 1) (z_up r_s_1 v1_1 (r_held v1_1))))))
def m_X6_lets (N : Nat) (r_s : (Int → Int)) (r_held : (Int → Int)) : Option ((Int → Int)) := z_b1 (m_X6_lets_l1 N r_held N 0 r_s) (fun (o_r_s_1 : (Int → Int)) => some (o_r_s_1))
def m_X6_behind_l1 (N : Nat) (x1 : Int) (r_told : (Int → Int)) : Nat → Int → (Int → Int) → Option ((Int → Int))
  | 0, _, _ => none
  | n1 + 1, v4_1, r_s_1 => if x1 ≤ v4_1 then (some (r_s_1)) else (z_b1 (m_X6_shines N r_told r_s_1) (fun (r_s_13 : (Int → Int)) => z_chk (z_n (v4_1 + 1)) (m_X6_behind_l1 N x1 r_told n1 (v4_1 + 1) r_s_13)))
def m_X6_behind (N : Nat) (r_told : (Int → Int)) (r_s : (Int → Int)) (r_states : (Int → Int)) (r_held : (Int → Int)) (x1 : Int) (x2 : Int) (x3 : Int) : Option (Int × (Int → Int) × (Int → Int) × (Int → Int)) := z_b1 (m_X6_in N x1 0 40) (fun (r1 : Int) => if r1 = 0 then (some ((-1), r_s, r_states, r_held)) else (z_b1 (m_X6_isCell N r_told x2) (fun (r4 : Int) => if r4 = 0 then (some ((-1), r_s, r_states, r_held)) else (z_b1 (m_X6_in N x3 0 1) (fun (r7 : Int) => if r7 ≠ 0 then (z_b1 (m_X6_holds N r_s r_held) (fun (r_held_10 : (Int → Int)) => z_b1 (m_X6_behind_l1 N x1 r_told N 0 r_s) (fun (o_r_s_1 : (Int → Int)) => z_b1 (m_X6_laysStates N r_told o_r_s_1 r_states) (fun (r_states_16 : (Int → Int)) => z_b1 (if x3 ≠ 0 then (z_chk (0 ≤ x2 ∧ x2 < 36) (if 0 ≤ (r_states_16 x2) then (z_chk (0 ≤ x2 ∧ x2 < 36) (some ((r_states_16 x2)))) else (some ((-4))))) else (z_chk (0 ≤ x2 ∧ x2 < 73) (some ((o_r_s_1 x2))))) (fun (s23 : Int) => z_b1 (m_X6_lets N o_r_s_1 r_held_10) (fun (r_s_25 : (Int → Int)) => some (s23, r_s_25, r_states_16, r_held_10))))))) else (some ((-1), r_s, r_states, r_held)))))))
def m_X6_lowest_l1 (N : Nat) (r_s : (Int → Int)) : Nat → Int → Int → Option (Int)
  | 0, _, _ => none
  | n1 + 1, v1_1, v2_1 => if v2_1 < 0 then (some (v1_1)) else (z_chk (0 ≤ v2_1 ∧ v2_1 < 73) (if (r_s v2_1) ≤ 0 then (z_chk (z_n (v2_1 + (-1))) (m_X6_lowest_l1 N r_s n1 v1_1 (v2_1 + (-1)))) else (z_chk (z_n (v2_1 + (-1))) (m_X6_lowest_l1 N r_s n1 v2_1 (v2_1 + (-1))))))
def m_X6_lowest (N : Nat) (r_told : (Int → Int)) (r_s : (Int → Int)) : Option (Int) := z_b1 (m_X6_cells N r_told) (fun (r1 : Int) => z_chk (z_n (r1 - 1)) (z_b1 (m_X6_lowest_l1 N r_s N (-4) (r1 - 1)) (fun (o1_1 : Int) => some (o1_1))))
def m_X6_dry_l1 (N : Nat) (r_told : (Int → Int)) : Nat → Int → Int → Int → (Int → Int) → Option (Int × Int × (Int → Int))
  | 0, _, _, _, _ => none
  | n1 + 1, v2_1, v3_1, v4_1, r_s_1 => if 61 ≤ v4_1 then (some (v2_1, v3_1, r_s_1)) else (if v3_1 ≠ (-4) then (some (v2_1, v3_1, r_s_1)) else (z_b1 (m_X6_lowest N r_told r_s_1) (fun (r8 : Int) => z_b1 (if r8 ≠ (-4) then (some ((-4))) else (some (v4_1))) (fun (s11 : Int) => z_b1 (if r8 ≠ (-4) then (some (r8)) else (some (v2_1))) (fun (s14 : Int) => z_b1 (m_X6_shines N r_told r_s_1) (fun (r_s_16 : (Int → Int)) => z_chk (z_n (v4_1 + 1)) (m_X6_dry_l1 N r_told n1 s14 s11 (v4_1 + 1) r_s_16)))))))
def m_X6_dry (N : Nat) (r_told : (Int → Int)) (r_s : (Int → Int)) (r_held : (Int → Int)) (x1 : Int) : Option (Int × (Int → Int) × (Int → Int)) := z_b1 (m_X6_in N x1 0 1) (fun (r1 : Int) => if r1 ≠ 0 then (z_b1 (m_X6_holds N r_s r_held) (fun (r_held_4 : (Int → Int)) => z_b3 (m_X6_dry_l1 N r_told N (-4) (-4) 0 r_s) (fun (o2_1 : Int) (o3_1 : Int) (o_r_s_1 : (Int → Int)) => z_b1 (m_X6_lets N o_r_s_1 r_held_4) (fun (r_s_19 : (Int → Int)) => if x1 = 0 then (some (o3_1, r_s_19, r_held_4)) else (if o3_1 ≠ (-4) then (some (o2_1, r_s_19, r_held_4)) else (some (o3_1, r_s_19, r_held_4))))))) else (some ((-1), r_s, r_held)))
def m_X6_isOne (N : Nat) (r_told : (Int → Int)) (r_s : (Int → Int)) (r_states : (Int → Int)) (x1 : Int) (x2 : Int) : Option (Int × (Int → Int)) := z_b1 (m_X6_laysStates N r_told r_s r_states) (fun (r_states_1 : (Int → Int)) => z_chk (0 ≤ x1 ∧ x1 < 36) (if (r_states_1 x1) < 0 then (some (0, r_states_1)) else (z_chk (0 ≤ x1 ∧ x1 < 36) (z_chk (0 ≤ x2 ∧ x2 < 36) (if (r_states_1 x1) ≠ (r_states_1 x2) then (some (0, r_states_1)) else (some (1, r_states_1)))))))
def m_X6_join_l1 (N : Nat) (r_told : (Int → Int)) (x1 : Int) (x2 : Int) (r_held_8 : (Int → Int)) : Nat → Int → Int → (Int → Int) → (Int → Int) → Option (Int × (Int → Int) × (Int → Int))
  | 0, _, _, _, _ => none
  | n1 + 1, v3_1, v4_1, r_s_1, r_states_1 => if 31 ≤ v4_1 then (some (v3_1, r_s_1, r_states_1)) else (if v3_1 ≠ (-4) then (some (v3_1, r_s_1, r_states_1)) else (z_b1 (if v4_1 ≤ 0 then (some (r_s_1)) else (z_b1 (m_X6_pours N r_told r_s_1 v4_1) (fun (r_s_13 : (Int → Int)) => some (r_s_13)))) (fun (r_s_15 : (Int → Int)) => z_b2 (m_X6_isOne N r_told r_s_15 r_states_1 x1 x2) (fun (r17 : Int) (r_states_18 : (Int → Int)) => z_b1 (if r17 = 0 then (some ((-4))) else (some (v4_1))) (fun (s21 : Int) => z_b1 (m_X6_lets N r_s_15 r_held_8) (fun (r_s_23 : (Int → Int)) => z_chk (z_n (v4_1 + 1)) (m_X6_join_l1 N r_told x1 x2 r_held_8 n1 s21 (v4_1 + 1) r_s_23 r_states_18)))))))
def m_X6_join (N : Nat) (r_told : (Int → Int)) (r_s : (Int → Int)) (r_states : (Int → Int)) (r_held : (Int → Int)) (x1 : Int) (x2 : Int) : Option (Int × (Int → Int) × (Int → Int) × (Int → Int)) := z_b1 (m_X6_isCell N r_told x1) (fun (r1 : Int) => if r1 = 0 then (some ((-1), r_s, r_states, r_held)) else (z_b1 (m_X6_isCell N r_told x2) (fun (r4 : Int) => if r4 = 0 then (some ((-1), r_s, r_states, r_held)) else (if x1 ≠ x2 then (z_b1 (m_X6_holds N r_s r_held) (fun (r_held_8 : (Int → Int)) => z_b3 (m_X6_join_l1 N r_told x1 x2 r_held_8 N (-4) 0 r_s r_states) (fun (o3_1 : Int) (o_r_s_1 : (Int → Int)) (o_r_states_1 : (Int → Int)) => some (o3_1, o_r_s_1, o_r_states_1, r_held_8)))) else (some ((-1), r_s, r_states, r_held))))))
def m_X6_part_l1 (N : Nat) (r_told : (Int → Int)) (x1 : Int) (x2 : Int) : Nat → Int → Int → (Int → Int) → (Int → Int) → Option (Int × (Int → Int) × (Int → Int))
  | 0, _, _, _, _ => none
  | n1 + 1, v3_1, v4_1, r_s_1, r_states_1 => if 61 ≤ v4_1 then (some (v3_1, r_s_1, r_states_1)) else (if v3_1 ≠ (-4) then (some (v3_1, r_s_1, r_states_1)) else (z_b1 (m_X6_shines N r_told r_s_1) (fun (r_s_16 : (Int → Int)) => z_b2 (m_X6_isOne N r_told r_s_16 r_states_1 x1 x2) (fun (r18 : Int) (r_states_19 : (Int → Int)) => if r18 = 0 then (z_chk (z_n (v4_1 + 1)) (m_X6_part_l1 N r_told x1 x2 n1 v4_1 (v4_1 + 1) r_s_16 r_states_19)) else (z_chk (z_n (v4_1 + 1)) (m_X6_part_l1 N r_told x1 x2 n1 (-4) (v4_1 + 1) r_s_16 r_states_19))))))
def m_X6_part (N : Nat) (r_told : (Int → Int)) (r_s : (Int → Int)) (r_states : (Int → Int)) (r_held : (Int → Int)) (x1 : Int) (x2 : Int) : Option (Int × (Int → Int) × (Int → Int) × (Int → Int)) := z_b1 (m_X6_isCell N r_told x1) (fun (r1 : Int) => if r1 = 0 then (some ((-1), r_s, r_states, r_held)) else (z_b1 (m_X6_isCell N r_told x2) (fun (r4 : Int) => if r4 = 0 then (some ((-1), r_s, r_states, r_held)) else (if x1 ≠ x2 then (z_b2 (m_X6_isOne N r_told r_s r_states x1 x2) (fun (r8 : Int) (r_states_9 : (Int → Int)) => if r8 ≠ 0 then (z_b1 (m_X6_holds N r_s r_held) (fun (r_held_12 : (Int → Int)) => z_b3 (m_X6_part_l1 N r_told x1 x2 N (-4) 1 r_s r_states_9) (fun (o3_1 : Int) (o_r_s_1 : (Int → Int)) (o_r_states_1 : (Int → Int)) => z_b1 (m_X6_lets N o_r_s_1 r_held_12) (fun (r_s_24 : (Int → Int)) => some (o3_1, r_s_24, o_r_states_1, r_held_12))))) else (some ((-2), r_s, r_states_9, r_held)))) else (some ((-1), r_s, r_states, r_held))))))
def m_X6_way_l1 (N : Nat) (r_told : (Int → Int)) (x1 : Int) : Nat → Int → (Int → Int) → Option ((Int → Int))
  | 0, _, _ => none
  | n1 + 1, v3_1, r_here_1 => z_b1 (m_X6_cells N r_told) (fun (r11 : Int) => if r11 ≤ v3_1 then (some (r_here_1)) else (if v3_1 ≠ x1 then (z_chk (0 ≤ v3_1 ∧ v3_1 < 36) (z_chk (z_n (v3_1 + 1)) (m_X6_way_l1 N r_told x1 n1 (v3_1 + 1) (z_up r_here_1 v3_1 0)))) else (z_chk (0 ≤ v3_1 ∧ v3_1 < 36) (z_chk (z_n (v3_1 + 1)) (m_X6_way_l1 N r_told x1 n1 (v3_1 + 1) (z_up r_here_1 v3_1 1))))))
def m_X6_way_l4 (N : Nat) (r_told : (Int → Int)) (v5_3 : Int) (r_here_2 : (Int → Int)) : Nat → Int → (Int → Int) → Option ((Int → Int))
  | 0, _, _ => none
  | n4 + 1, v6_4, r_there_4 => if 4 ≤ v6_4 then (some (r_there_4)) else (z_b1 (m_X6_beside N r_told v5_3 v6_4) (fun (r31 : Int) => z_chk (0 ≤ v5_3 ∧ v5_3 < 36) (if (r_there_4 v5_3) ≠ 0 then (z_chk (0 ≤ v5_3 ∧ v5_3 < 36) (z_chk (z_n (v6_4 + 1)) (m_X6_way_l4 N r_told v5_3 r_here_2 n4 (v6_4 + 1) (z_up r_there_4 v5_3 1)))) else (if r31 < 0 then (z_chk (0 ≤ v5_3 ∧ v5_3 < 36) (z_chk (z_n (v6_4 + 1)) (m_X6_way_l4 N r_told v5_3 r_here_2 n4 (v6_4 + 1) (z_up r_there_4 v5_3 0)))) else (z_chk (0 ≤ r31 ∧ r31 < 36) (if (r_here_2 r31) = 0 then (z_chk (0 ≤ v5_3 ∧ v5_3 < 36) (z_chk (z_n (v6_4 + 1)) (m_X6_way_l4 N r_told v5_3 r_here_2 n4 (v6_4 + 1) (z_up r_there_4 v5_3 0)))) else (z_chk (0 ≤ v5_3 ∧ v5_3 < 36) (z_chk (z_n (v6_4 + 1)) (m_X6_way_l4 N r_told v5_3 r_here_2 n4 (v6_4 + 1) (z_up r_there_4 v5_3 1))))))))))
def m_X6_way_l3 (N : Nat) (r_told : (Int → Int)) (r_here_2 : (Int → Int)) (r_s_2 : (Int → Int)) : Nat → Int → (Int → Int) → Option ((Int → Int))
  | 0, _, _ => none
  | n3 + 1, v5_3, r_there_3 => z_b1 (m_X6_cells N r_told) (fun (r24 : Int) => if r24 ≤ v5_3 then (some (r_there_3)) else (z_chk (0 ≤ v5_3 ∧ v5_3 < 36) (z_chk (0 ≤ v5_3 ∧ v5_3 < 36) (z_chk ((r_here_2 v5_3) = 0 ∨ (r_here_2 v5_3) = 1) (z_b1 (m_X6_way_l4 N r_told v5_3 r_here_2 N 0 (z_up r_there_3 v5_3 (r_here_2 v5_3))) (fun (o_r_there_4 : (Int → Int)) => z_chk (0 ≤ v5_3 ∧ v5_3 < 36) (if (o_r_there_4 v5_3) = 0 then (z_chk (0 ≤ v5_3 ∧ v5_3 < 36) (z_chk (z_n (v5_3 + 1)) (m_X6_way_l3 N r_told r_here_2 r_s_2 n3 (v5_3 + 1) (z_up o_r_there_4 v5_3 0)))) else (z_chk (0 ≤ v5_3 ∧ v5_3 < 73) (if (r_s_2 v5_3) ≤ 0 then (z_chk (0 ≤ v5_3 ∧ v5_3 < 36) (z_chk (z_n (v5_3 + 1)) (m_X6_way_l3 N r_told r_here_2 r_s_2 n3 (v5_3 + 1) (z_up o_r_there_4 v5_3 0)))) else (z_chk (0 ≤ v5_3 ∧ v5_3 < 36) (z_chk (z_n (v5_3 + 1)) (m_X6_way_l3 N r_told r_here_2 r_s_2 n3 (v5_3 + 1) (z_up o_r_there_4 v5_3 1)))))))))))))
def m_X6_way_l5 (N : Nat) (r_told : (Int → Int)) (o_r_there_3 : (Int → Int)) (r_s_56 : (Int → Int)) : Nat → Int → (Int → Int) → Option ((Int → Int))
  | 0, _, _ => none
  | n5 + 1, v5_5, r_here_5 => z_b1 (m_X6_cells N r_told) (fun (r58 : Int) => if r58 ≤ v5_5 then (some (r_here_5)) else (z_chk (0 ≤ v5_5 ∧ v5_5 < 36) (if (o_r_there_3 v5_5) = 0 then (z_chk (0 ≤ v5_5 ∧ v5_5 < 36) (z_chk (z_n (v5_5 + 1)) (m_X6_way_l5 N r_told o_r_there_3 r_s_56 n5 (v5_5 + 1) (z_up r_here_5 v5_5 0)))) else (z_chk (0 ≤ v5_5 ∧ v5_5 < 73) (if (r_s_56 v5_5) ≤ 0 then (z_chk (0 ≤ v5_5 ∧ v5_5 < 36) (z_chk (z_n (v5_5 + 1)) (m_X6_way_l5 N r_told o_r_there_3 r_s_56 n5 (v5_5 + 1) (z_up r_here_5 v5_5 0)))) else (z_chk (0 ≤ v5_5 ∧ v5_5 < 36) (z_chk (z_n (v5_5 + 1)) (m_X6_way_l5 N r_told o_r_there_3 r_s_56 n5 (v5_5 + 1) (z_up r_here_5 v5_5 1)))))))))
def m_X6_way_l2 (N : Nat) (r_told : (Int → Int)) (x2 : Int) : Nat → Int → Int → (Int → Int) → (Int → Int) → (Int → Int) → Option (Int × (Int → Int) × (Int → Int) × (Int → Int))
  | 0, _, _, _, _, _ => none
  | n2 + 1, v3_2, v4_2, r_s_2, r_here_2, r_there_2 => if 41 ≤ v4_2 then (some (v3_2, r_s_2, r_here_2, r_there_2)) else (if v3_2 ≠ (-4) then (some (v3_2, r_s_2, r_here_2, r_there_2)) else (z_b1 (m_X6_way_l3 N r_told r_here_2 r_s_2 N 0 r_there_2) (fun (o_r_there_3 : (Int → Int)) => z_b1 (m_X6_shines N r_told r_s_2) (fun (r_s_56 : (Int → Int)) => z_b1 (m_X6_way_l5 N r_told o_r_there_3 r_s_56 N 0 r_here_2) (fun (o_r_here_5 : (Int → Int)) => z_chk (0 ≤ x2 ∧ x2 < 36) (if (o_r_here_5 x2) = 0 then (z_chk (z_n (v4_2 + 1)) (m_X6_way_l2 N r_told x2 n2 (-4) (v4_2 + 1) r_s_56 o_r_here_5 o_r_there_3)) else (z_chk (z_n (v4_2 + 1)) (m_X6_way_l2 N r_told x2 n2 v4_2 (v4_2 + 1) r_s_56 o_r_here_5 o_r_there_3))))))))
def m_X6_way (N : Nat) (r_told : (Int → Int)) (r_s : (Int → Int)) (r_held : (Int → Int)) (r_here : (Int → Int)) (r_there : (Int → Int)) (x1 : Int) (x2 : Int) : Option (Int × (Int → Int) × (Int → Int) × (Int → Int) × (Int → Int)) := z_b1 (m_X6_isCell N r_told x1) (fun (r1 : Int) => if r1 = 0 then (some ((-1), r_s, r_held, r_here, r_there)) else (z_b1 (m_X6_isCell N r_told x2) (fun (r4 : Int) => if r4 ≠ 0 then (z_chk (0 ≤ x1 ∧ x1 < 73) (if (r_s x1) ≠ 0 then (z_b1 (m_X6_holds N r_s r_held) (fun (r_held_9 : (Int → Int)) => z_b1 (m_X6_way_l1 N r_told x1 N 0 r_here) (fun (o_r_here_1 : (Int → Int)) => z_b1 (if x1 ≠ x2 then (some ((-4))) else (some (0))) (fun (s20 : Int) => z_b4 (m_X6_way_l2 N r_told x2 N s20 1 r_s o_r_here_1 r_there) (fun (o3_2 : Int) (o_r_s_2 : (Int → Int)) (o_r_here_2 : (Int → Int)) (o_r_there_2 : (Int → Int)) => z_b1 (m_X6_lets N o_r_s_2 r_held_9) (fun (r_s_75 : (Int → Int)) => some (o3_2, r_s_75, r_held_9, o_r_here_2, o_r_there_2))))))) else (some ((-4), r_s, r_held, r_here, r_there)))) else (some ((-1), r_s, r_held, r_here, r_there)))))
def m_X6_areApart (N : Nat) (r_told : (Int → Int)) (r_s : (Int → Int)) (r_states : (Int → Int)) (r_held : (Int → Int)) (x1 : Int) (x2 : Int) (x3 : Int) : Option (Int × (Int → Int) × (Int → Int)) := z_b1 (if x3 ≤ 0 then (some (r_s)) else (z_b1 (m_X6_pours N r_told r_s x3) (fun (r_s_2 : (Int → Int)) => some (r_s_2)))) (fun (r_s_4 : (Int → Int)) => z_b2 (m_X6_isOne N r_told r_s_4 r_states x1 x2) (fun (r6 : Int) (r_states_7 : (Int → Int)) => z_b1 (if r6 ≠ 0 then (some (0)) else (some (1))) (fun (s10 : Int) => z_b1 (m_X6_lets N r_s_4 r_held) (fun (r_s_12 : (Int → Int)) => some (s10, r_s_12, r_states_7)))))
def m_X6_kerb_l1 (N : Nat) (r_held_11 : (Int → Int)) (x1 : Int) (x2 : Int) (x3 : Int) : Nat → Int → (Int → Int) → (Int → Int) → (Int → Int) → Option (Int × (Int → Int) × (Int → Int) × (Int → Int) × (Int → Int))
  | 0, _, _, _, _ => none
  | n1 + 1, v4_1, r_told_1, r_s_1, r_states_1 => z_b1 (m_X6_cells N r_told_1) (fun (r18 : Int) => if r18 ≤ v4_1 then (some ((-4), r_told_1, r_s_1, r_states_1, r_held_11)) else (if v4_1 = x1 then (z_chk (z_n (v4_1 + 1)) (m_X6_kerb_l1 N r_held_11 x1 x2 x3 n1 (v4_1 + 1) r_told_1 r_s_1 r_states_1)) else (if v4_1 = x2 then (z_chk (z_n (v4_1 + 1)) (m_X6_kerb_l1 N r_held_11 x1 x2 x3 n1 (v4_1 + 1) r_told_1 r_s_1 r_states_1)) else (z_chk (z_n (3 + v4_1)) (z_chk (0 ≤ (3 + v4_1) ∧ (3 + v4_1) < 39) (if (r_told_1 (3 + v4_1)) = 3 then (z_chk (z_n (v4_1 + 1)) (m_X6_kerb_l1 N r_held_11 x1 x2 x3 n1 (v4_1 + 1) r_told_1 r_s_1 r_states_1)) else (z_chk (0 ≤ v4_1 ∧ v4_1 < 73) (if (r_s_1 v4_1) ≠ 0 then (z_chk (z_n (v4_1 + 1)) (m_X6_kerb_l1 N r_held_11 x1 x2 x3 n1 (v4_1 + 1) r_told_1 r_s_1 r_states_1)) else (z_chk (z_n (3 + v4_1)) (z_chk (0 ≤ (3 + v4_1) ∧ (3 + v4_1) < 39) (z_chk (z_n (3 + v4_1)) (z_chk (0 ≤ (3 + v4_1) ∧ (3 + v4_1) < 39) (z_b3 (m_X6_areApart N (z_up r_told_1 (3 + v4_1) 3) r_s_1 r_states_1 r_held_11 x1 x2 x3) (fun (r36 : Int) (r_s_37 : (Int → Int)) (r_states_38 : (Int → Int)) => z_chk (z_n (3 + v4_1)) (z_chk (0 ≤ (3 + v4_1) ∧ (3 + v4_1) < 39) (if r36 = 0 then (z_chk (z_n (v4_1 + 1)) (m_X6_kerb_l1 N r_held_11 x1 x2 x3 n1 (v4_1 + 1) (z_up (z_up r_told_1 (3 + v4_1) 3) (3 + v4_1) (r_told_1 (3 + v4_1))) r_s_37 r_states_38)) else (some (v4_1, (z_up (z_up r_told_1 (3 + v4_1) 3) (3 + v4_1) (r_told_1 (3 + v4_1))), r_s_37, r_states_38, r_held_11))))))))))))))))))
def m_X6_kerb (N : Nat) (r_told : (Int → Int)) (r_s : (Int → Int)) (r_states : (Int → Int)) (r_held : (Int → Int)) (x1 : Int) (x2 : Int) (x3 : Int) : Option (Int × (Int → Int) × (Int → Int) × (Int → Int) × (Int → Int)) := z_b1 (m_X6_isCell N r_told x1) (fun (r1 : Int) => if r1 = 0 then (some ((-1), r_told, r_s, r_states, r_held)) else (z_b1 (m_X6_isCell N r_told x2) (fun (r4 : Int) => if r4 = 0 then (some ((-1), r_told, r_s, r_states, r_held)) else (if x1 = x2 then (some ((-1), r_told, r_s, r_states, r_held)) else (z_b1 (m_X6_in N x3 0 9) (fun (r8 : Int) => if r8 ≠ 0 then (z_b1 (m_X6_holds N r_s r_held) (fun (r_held_11 : (Int → Int)) => z_b3 (m_X6_areApart N r_told r_s r_states r_held_11 x1 x2 x3) (fun (r13 : Int) (r_s_14 : (Int → Int)) (r_states_15 : (Int → Int)) => if r13 = 0 then (m_X6_kerb_l1 N r_held_11 x1 x2 x3 N 0 r_told r_s_14 r_states_15) else (some (100, r_told, r_s_14, r_states_15, r_held_11))))) else (some ((-1), r_told, r_s, r_states, r_held))))))))
def m_X6_ring (N : Nat) (r_told : (Int → Int)) (r_rings : (Int → Int)) (r_rung : Int) (x1 : Int) (x2 : Int) : Option (Int × (Int → Int) × Int) := z_b1 (m_X6_isCell N r_told x1) (fun (r1 : Int) => if r1 = 0 then (some ((-1), r_rings, r_rung)) else (z_b1 (m_X6_in N x2 0 60) (fun (r4 : Int) => if r4 ≠ 0 then (if r_rung ≠ 6 then (z_chk (z_n (100 * x1)) (z_chk (z_n ((100 * x1) + x2)) (z_chk (0 ≤ r_rung ∧ r_rung < 6) (z_chk (z_n (r_rung + 1)) (some ((r_rung + 1), (z_up r_rings r_rung ((100 * x1) + x2)), (r_rung + 1))))))) else (some ((-3), r_rings, r_rung))) else (some ((-1), r_rings, r_rung)))))
def m_X6_forget (N : Nat) (r_rung : Int) : Option (Int × Int) := some (r_rung, 0)
def m_X6_rains_l2 (N : Nat) (r_rung : Int) (r_rings : (Int → Int)) (r_s_7 : (Int → Int)) : Nat → Int → Int → Option (Int)
  | 0, _, _ => none
  | n2 + 1, v3_2, v4_2 => if r_rung ≤ v4_2 then (some (v3_2)) else (if v3_2 = 0 then (z_chk (z_n (v4_2 + 1)) (m_X6_rains_l2 N r_rung r_rings r_s_7 n2 0 (v4_2 + 1))) else (z_chk (0 ≤ v4_2 ∧ v4_2 < 6) (z_chk (z_n (Int.tdiv (r_rings v4_2) 100)) (z_chk (0 ≤ (Int.tdiv (r_rings v4_2) 100) ∧ (Int.tdiv (r_rings v4_2) 100) < 73) (z_chk (0 ≤ v4_2 ∧ v4_2 < 6) (z_chk (z_n (Int.tmod (r_rings v4_2) 100)) (if (r_s_7 (Int.tdiv (r_rings v4_2) 100)) ≠ (Int.tmod (r_rings v4_2) 100) then (z_chk (z_n (v4_2 + 1)) (m_X6_rains_l2 N r_rung r_rings r_s_7 n2 0 (v4_2 + 1))) else (z_chk (z_n (v4_2 + 1)) (m_X6_rains_l2 N r_rung r_rings r_s_7 n2 1 (v4_2 + 1))))))))))
def m_X6_rains_l1 (N : Nat) (r_told : (Int → Int)) (r_rung : Int) (r_rings : (Int → Int)) (r_held_1 : (Int → Int)) : Nat → Int → Int → (Int → Int) → Option (Int × (Int → Int))
  | 0, _, _, _ => none
  | n1 + 1, v1_1, v2_1, r_s_1 => if 31 ≤ v2_1 then (some (v1_1, r_s_1)) else (z_b1 (if v2_1 ≤ 0 then (some (r_s_1)) else (z_b1 (m_X6_pours N r_told r_s_1 v2_1) (fun (r_s_5 : (Int → Int)) => some (r_s_5)))) (fun (r_s_7 : (Int → Int)) => z_b1 (m_X6_rains_l2 N r_rung r_rings r_s_7 N 1 0) (fun (o3_2 : Int) => z_b1 (if o3_2 = 0 then (some (0)) else (some ((z_shl 1 v2_1)))) (fun (s21 : Int) => z_b1 (m_X6_lets N r_s_7 r_held_1) (fun (r_s_23 : (Int → Int)) => z_chk (z_n (v2_1 + 1)) (m_X6_rains_l1 N r_told r_rung r_rings r_held_1 n1 (z_or v1_1 s21) (v2_1 + 1) r_s_23))))))
def m_X6_rains (N : Nat) (r_told : (Int → Int)) (r_s : (Int → Int)) (r_rings : (Int → Int)) (r_rung : Int) (r_held : (Int → Int)) : Option (Int × (Int → Int) × (Int → Int)) := z_b1 (m_X6_holds N r_s r_held) (fun (r_held_1 : (Int → Int)) => z_b2 (m_X6_rains_l1 N r_told r_rung r_rings r_held_1 N 0 0 r_s) (fun (o1_1 : Int) (o_r_s_1 : (Int → Int)) => some (o1_1, o_r_s_1, r_held_1)))
def m_X6_wet_l1 (N : Nat) (r_told : (Int → Int)) (r_s : (Int → Int)) : Nat → Int → Int → Option (Int)
  | 0, _, _ => none
  | n1 + 1, v1_1, v2_1 => z_b1 (m_X6_cells N r_told) (fun (r1 : Int) => if r1 ≤ v2_1 then (some (v1_1)) else (z_chk (0 ≤ v2_1 ∧ v2_1 < 73) (if (r_s v2_1) ≤ 0 then (z_chk (z_n (v1_1 + 0)) (z_chk (z_n (v2_1 + 1)) (m_X6_wet_l1 N r_told r_s n1 (v1_1 + 0) (v2_1 + 1)))) else (z_chk (z_n (v1_1 + 1)) (z_chk (z_n (v2_1 + 1)) (m_X6_wet_l1 N r_told r_s n1 (v1_1 + 1) (v2_1 + 1)))))))
def m_X6_wet (N : Nat) (r_told : (Int → Int)) (r_s : (Int → Int)) : Option (Int) := z_b1 (m_X6_wet_l1 N r_told r_s N 0 0) (fun (o1_1 : Int) => some (o1_1))
def m_X6_common_l1 (N : Nat) : Nat → Int → Int → Option (Int)
  | 0, _, _ => none
  | n1 + 1, v2_1, v3_1 => if v3_1 ≤ 0 then (some (v2_1)) else (z_chk (v3_1 ≠ 0) (z_chk (z_n (Int.tmod v2_1 v3_1)) (m_X6_common_l1 N n1 v3_1 (Int.tmod v2_1 v3_1))))
def m_X6_common (N : Nat) (x0 : Int) (x1 : Int) : Option (Int) := z_b1 (m_X6_common_l1 N N x0 x1) (fun (o2_1 : Int) => some (o2_1))
def m_X6_sky (N : Nat) (r_told : (Int → Int)) (r_s : (Int → Int)) (r_states : (Int → Int)) (x1 : Int) (x2 : Int) : Option (Int × (Int → Int)) := z_b1 (m_X6_isCell N r_told x1) (fun (r1 : Int) => if r1 = 0 then (some ((-1), r_states)) else (z_b1 (m_X6_in N x2 0 1) (fun (r4 : Int) => if r4 ≠ 0 then (z_b1 (m_X6_laysStates N r_told r_s r_states) (fun (r_states_7 : (Int → Int)) => z_chk (0 ≤ x1 ∧ x1 < 36) (if 0 ≤ (r_states_7 x1) then (z_chk (0 ≤ x1 ∧ x1 < 36) (z_b1 (m_X6_sizeOf N r_told r_states_7 (r_states_7 x1)) (fun (r12 : Int) => z_b1 (m_X6_wet N r_told r_s) (fun (r14 : Int) => z_b1 (m_X6_common N r12 r14) (fun (r16 : Int) => if x2 ≠ 0 then (z_chk (r16 ≠ 0) (z_chk (z_n (Int.tdiv r14 r16)) (some ((Int.tdiv r14 r16), r_states_7)))) else (z_chk (r16 ≠ 0) (z_chk (z_n (Int.tdiv r12 r16)) (some ((Int.tdiv r12 r16), r_states_7))))))))) else (some ((-4), r_states_7))))) else (some ((-1), r_states)))))
def m_X6_sun_l1 (N : Nat) (x2 : Int) : Nat → Int → Int → Option (Int)
  | 0, _, _ => none
  | n1 + 1, v6_1, v7_1 => if x2 ≤ v7_1 then (some (v6_1)) else (z_chk (z_n (v6_1 * 10)) (z_chk (z_n (v7_1 + 1)) (m_X6_sun_l1 N x2 n1 (v6_1 * 10) (v7_1 + 1))))
def m_X6_sun_l3 (N : Nat) (x2 : Int) (v7_2 : Int) (x3 : Int) (r_told : (Int → Int)) : Nat → Int → Int → (Int → Int) → Option (Int × (Int → Int))
  | 0, _, _, _ => none
  | n3 + 1, v8_3, v9_3, r_s_3 => if x2 ≤ v9_3 then (some (v8_3, r_s_3)) else (z_b1 (if (z_and (z_shr v7_2 v9_3) 1) ≠ 1 then (some (0)) else (some (1))) (fun (s21 : Int) => z_b1 (if s21 = 0 then (z_chk (z_n (10 - x3)) (some ((10 - x3)))) else (some (x3))) (fun (s25 : Int) => z_chk (z_n (v8_3 * s25)) (if s21 = 0 then (z_chk (z_n (v9_3 + 1)) (m_X6_sun_l3 N x2 v7_2 x3 r_told n3 (v8_3 * s25) (v9_3 + 1) r_s_3)) else (z_b1 (m_X6_shines N r_told r_s_3) (fun (r_s_30 : (Int → Int)) => z_chk (z_n (v9_3 + 1)) (m_X6_sun_l3 N x2 v7_2 x3 r_told n3 (v8_3 * s25) (v9_3 + 1) r_s_30)))))))
def m_X6_sun_l2 (N : Nat) (x2 : Int) (x3 : Int) (r_told : (Int → Int)) (x1 : Int) (r_held_13 : (Int → Int)) : Nat → Int → Int → (Int → Int) → Option (Int × (Int → Int))
  | 0, _, _, _ => none
  | n2 + 1, v5_2, v7_2, r_s_2 => if (z_shl 1 x2) ≤ v7_2 then (some (v5_2, r_s_2)) else (z_b2 (m_X6_sun_l3 N x2 v7_2 x3 r_told N 1 0 r_s_2) (fun (o8_3 : Int) (o_r_s_3 : (Int → Int)) => z_chk (0 ≤ x1 ∧ x1 < 73) (z_b1 (if (o_r_s_3 x1) ≤ 0 then (some (0)) else (some (o8_3))) (fun (s35 : Int) => z_chk (z_n (v5_2 + s35)) (z_b1 (m_X6_lets N o_r_s_3 r_held_13) (fun (r_s_38 : (Int → Int)) => z_chk (z_n (v7_2 + 1)) (m_X6_sun_l2 N x2 x3 r_told x1 r_held_13 n2 (v5_2 + s35) (v7_2 + 1) r_s_38)))))))
def m_X6_sun (N : Nat) (r_told : (Int → Int)) (r_s : (Int → Int)) (r_held : (Int → Int)) (x1 : Int) (x2 : Int) (x3 : Int) (x4 : Int) : Option (Int × (Int → Int) × (Int → Int)) := z_b1 (m_X6_isCell N r_told x1) (fun (r1 : Int) => if r1 = 0 then (some ((-1), r_s, r_held)) else (z_b1 (m_X6_in N x2 0 6) (fun (r4 : Int) => if r4 = 0 then (some ((-1), r_s, r_held)) else (z_b1 (m_X6_in N x3 0 10) (fun (r7 : Int) => if r7 = 0 then (some ((-1), r_s, r_held)) else (z_b1 (m_X6_in N x4 0 1) (fun (r10 : Int) => if r10 ≠ 0 then (z_b1 (m_X6_holds N r_s r_held) (fun (r_held_13 : (Int → Int)) => z_b1 (m_X6_sun_l1 N x2 N 1 0) (fun (o6_1 : Int) => z_b2 (m_X6_sun_l2 N x2 x3 r_told x1 r_held_13 N 0 0 r_s) (fun (o5_2 : Int) (o_r_s_2 : (Int → Int)) => z_b1 (m_X6_common N o5_2 o6_1) (fun (r41 : Int) => if x4 ≠ 0 then (z_chk (r41 ≠ 0) (z_chk (z_n (Int.tdiv o6_1 r41)) (some ((Int.tdiv o6_1 r41), o_r_s_2, r_held_13)))) else (z_chk (r41 ≠ 0) (z_chk (z_n (Int.tdiv o5_2 r41)) (some ((Int.tdiv o5_2 r41), o_r_s_2, r_held_13))))))))) else (some ((-1), r_s, r_held)))))))))
def m_X6_manyStates_l1 (N : Nat) (r_told : (Int → Int)) (r_states_1 : (Int → Int)) : Nat → Int → Int → Option (Int)
  | 0, _, _ => none
  | n1 + 1, v1_1, v2_1 => z_b1 (m_X6_cells N r_told) (fun (r3 : Int) => if r3 ≤ v2_1 then (some (v1_1)) else (z_chk (0 ≤ v2_1 ∧ v2_1 < 36) (if (r_states_1 v2_1) ≠ v2_1 then (z_chk (z_n (v1_1 + 0)) (z_chk (z_n (v2_1 + 1)) (m_X6_manyStates_l1 N r_told r_states_1 n1 (v1_1 + 0) (v2_1 + 1)))) else (z_chk (z_n (v1_1 + 1)) (z_chk (z_n (v2_1 + 1)) (m_X6_manyStates_l1 N r_told r_states_1 n1 (v1_1 + 1) (v2_1 + 1)))))))
def m_X6_manyStates (N : Nat) (r_told : (Int → Int)) (r_s : (Int → Int)) (r_states : (Int → Int)) : Option (Int × (Int → Int)) := z_b1 (m_X6_laysStates N r_told r_s r_states) (fun (r_states_1 : (Int → Int)) => z_b1 (m_X6_manyStates_l1 N r_told r_states_1 N 0 0) (fun (o1_1 : Int) => some (o1_1, r_states_1)))
def m_X6_year_l2 (N : Nat) (i7_2 : Int) (r_told : (Int → Int)) : Nat → Int → (Int → Int) → Option ((Int → Int))
  | 0, _, _ => none
  | n2 + 1, v8_2, r_s_2 => z_chk (z_n (Int.tdiv i7_2 4)) (z_chk (z_n (Int.tmod (Int.tdiv i7_2 4) 4)) (if (Int.tmod (Int.tdiv i7_2 4) 4) ≤ v8_2 then (some (r_s_2)) else (z_b1 (m_X6_shines N r_told r_s_2) (fun (r_s_24 : (Int → Int)) => z_chk (z_n (v8_2 + 1)) (m_X6_year_l2 N i7_2 r_told n2 (v8_2 + 1) r_s_24)))))
def m_X6_year_l1 (N : Nat) (x2 : Int) (x1 : Int) (r_told : (Int → Int)) : Nat → Int → (Int → Int) → Option ((Int → Int))
  | 0, _, _ => none
  | n1 + 1, v4_1, r_s_1 => if x2 ≤ v4_1 then (some (r_s_1)) else (z_chk (z_n (Int.tdiv (z_l2i (z_lrem (((((7919 : Int64) * (z_i2l x1)) + ((6151 : Int64) * (z_i2l v4_1))) + (1 : Int64)) * ((((7919 : Int64) * (z_i2l x1)) + ((6151 : Int64) * (z_i2l v4_1))) + (1 : Int64))) (65521 : Int64))) 8)) (z_chk (z_n (Int.tmod (Int.tdiv (z_l2i (z_lrem (((((7919 : Int64) * (z_i2l x1)) + ((6151 : Int64) * (z_i2l v4_1))) + (1 : Int64)) * ((((7919 : Int64) * (z_i2l x1)) + ((6151 : Int64) * (z_i2l v4_1))) + (1 : Int64))) (65521 : Int64))) 8) 4)) (z_b1 (if (Int.tmod (Int.tdiv (z_l2i (z_lrem (((((7919 : Int64) * (z_i2l x1)) + ((6151 : Int64) * (z_i2l v4_1))) + (1 : Int64)) * ((((7919 : Int64) * (z_i2l x1)) + ((6151 : Int64) * (z_i2l v4_1))) + (1 : Int64))) (65521 : Int64))) 8) 4) ≤ 0 then (some (r_s_1)) else (z_chk (z_n (Int.tmod (Int.tdiv (z_l2i (z_lrem (((((7919 : Int64) * (z_i2l x1)) + ((6151 : Int64) * (z_i2l v4_1))) + (1 : Int64)) * ((((7919 : Int64) * (z_i2l x1)) + ((6151 : Int64) * (z_i2l v4_1))) + (1 : Int64))) (65521 : Int64))) 8) 4)) (z_b1 (m_X6_pours N r_told r_s_1 (Int.tmod (Int.tdiv (z_l2i (z_lrem (((((7919 : Int64) * (z_i2l x1)) + ((6151 : Int64) * (z_i2l v4_1))) + (1 : Int64)) * ((((7919 : Int64) * (z_i2l x1)) + ((6151 : Int64) * (z_i2l v4_1))) + (1 : Int64))) (65521 : Int64))) 8) 4)) (fun (r_s_17 : (Int → Int)) => some (r_s_17))))) (fun (r_s_19 : (Int → Int)) => z_b1 (m_X6_year_l2 N (Int.tdiv (z_l2i (z_lrem (((((7919 : Int64) * (z_i2l x1)) + ((6151 : Int64) * (z_i2l v4_1))) + (1 : Int64)) * ((((7919 : Int64) * (z_i2l x1)) + ((6151 : Int64) * (z_i2l v4_1))) + (1 : Int64))) (65521 : Int64))) 8) r_told N 0 r_s_19) (fun (o_r_s_2 : (Int → Int)) => z_chk (z_n (v4_1 + 1)) (m_X6_year_l1 N x2 x1 r_told n1 (v4_1 + 1) o_r_s_2))))))
def m_X6_year (N : Nat) (r_told : (Int → Int)) (r_s : (Int → Int)) (r_states : (Int → Int)) (r_held : (Int → Int)) (x1 : Int) (x2 : Int) (x3 : Int) : Option (Int × (Int → Int) × (Int → Int) × (Int → Int)) := z_b1 (m_X6_in N x1 0 9999) (fun (r1 : Int) => if r1 = 0 then (some ((-1), r_s, r_states, r_held)) else (z_b1 (m_X6_in N x2 1 30) (fun (r4 : Int) => if r4 = 0 then (some ((-1), r_s, r_states, r_held)) else (z_b1 (m_X6_in N x3 0 1) (fun (r7 : Int) => if r7 ≠ 0 then (z_b1 (m_X6_holds N r_s r_held) (fun (r_held_10 : (Int → Int)) => z_b1 (m_X6_year_l1 N x2 x1 r_told N 0 r_s) (fun (o_r_s_1 : (Int → Int)) => z_b2 (if x3 ≠ 0 then (z_b1 (m_X6_all N r_told o_r_s_1) (fun (r29 : Int) => some (r29, r_states))) else (z_b2 (m_X6_manyStates N r_told o_r_s_1 r_states) (fun (r31 : Int) (r_states_32 : (Int → Int)) => some (r31, r_states_32)))) (fun (s34 : Int) (r_states_35 : (Int → Int)) => z_b1 (m_X6_lets N o_r_s_1 r_held_10) (fun (r_s_37 : (Int → Int)) => some (s34, r_s_37, r_states_35, r_held_10)))))) else (some ((-1), r_s, r_states, r_held)))))))
def m_X6_keep_l1 (N : Nat) (r_kept : Int) (r_s : (Int → Int)) : Nat → Int → (Int → Int) → Option ((Int → Int))
  | 0, _, _ => none
  | n1 + 1, v1_1, r_images_1 => if 73 ≤ v1_1 then (some (r_images_1)) else (z_chk (z_n (73 * r_kept)) (z_chk (z_n ((73 * r_kept) + v1_1)) (z_chk (0 ≤ v1_1 ∧ v1_1 < 73) (z_chk (0 ≤ ((73 * r_kept) + v1_1) ∧ ((73 * r_kept) + v1_1) < 146) (z_chk (z_n (v1_1 + 1)) (m_X6_keep_l1 N r_kept r_s n1 (v1_1 + 1) (z_up r_images_1 ((73 * r_kept) + v1_1) (r_s v1_1))))))))
def m_X6_keep (N : Nat) (r_s : (Int → Int)) (r_images : (Int → Int)) (r_kept : Int) : Option (Int × (Int → Int) × Int) := if r_kept ≠ 2 then (z_b1 (m_X6_keep_l1 N r_kept r_s N 0 r_images) (fun (o_r_images_1 : (Int → Int)) => z_chk (z_n (r_kept + 1)) (some ((r_kept + 1), o_r_images_1, (r_kept + 1))))) else (some ((-3), r_images, r_kept))
def m_X6_back_l1 (N : Nat) (i_r_kept_1 : Int) (r_images : (Int → Int)) : Nat → Int → (Int → Int) → Option ((Int → Int))
  | 0, _, _ => none
  | n1 + 1, v1_1, r_s_1 => if 73 ≤ v1_1 then (some (r_s_1)) else (z_chk (z_n (73 * i_r_kept_1)) (z_chk (z_n ((73 * i_r_kept_1) + v1_1)) (z_chk (0 ≤ ((73 * i_r_kept_1) + v1_1) ∧ ((73 * i_r_kept_1) + v1_1) < 146) (z_chk (0 ≤ v1_1 ∧ v1_1 < 73) (z_chk (z_n (v1_1 + 1)) (m_X6_back_l1 N i_r_kept_1 r_images n1 (v1_1 + 1) (z_up r_s_1 v1_1 (r_images ((73 * i_r_kept_1) + v1_1)))))))))
def m_X6_back (N : Nat) (r_s : (Int → Int)) (r_known : Int) (r_images : (Int → Int)) (r_kept : Int) : Option (Int × (Int → Int) × Int × Int) := if r_kept ≠ 0 then (z_chk (z_n (r_kept - 1)) (z_b1 (m_X6_back_l1 N (r_kept - 1) r_images N 0 r_s) (fun (o_r_s_1 : (Int → Int)) => some ((r_kept - 1), o_r_s_1, 0, (r_kept - 1))))) else (some ((-2), r_s, r_known, r_kept))
def m_X6_count (N : Nat) (r_typed : Int) (r_told : (Int → Int)) (r_s : (Int → Int)) (r_known : Int) (r_kept : Int) (r_rung : Int) (r_states : (Int → Int)) (x1 : Int) : Option (Int × (Int → Int)) := if x1 = 0 then (z_b1 (m_X6_cells N r_told) (fun (r1 : Int) => some (r1, r_states))) else (if x1 = 1 then (z_chk ((0 : Int) ≤ 0 ∧ (0 : Int) < 39) (some ((r_told 0), r_states))) else (if x1 = 2 then (z_b1 (m_X6_wet N r_told r_s) (fun (r4 : Int) => some (r4, r_states))) else (if x1 = 3 then (z_b2 (m_X6_manyStates N r_told r_s r_states) (fun (r6 : Int) (r_states_7 : (Int → Int)) => some (r6, r_states_7))) else (if x1 = 4 then (z_b1 (m_X6_all N r_told r_s) (fun (r9 : Int) => some (r9, r_states))) else (if x1 = 5 then (z_chk ((0 : Int) ≤ 72 ∧ (72 : Int) < 73) (some ((r_s 72), r_states))) else (if x1 = 6 then (some (r_rung, r_states)) else (if x1 = 7 then (some (r_known, r_states)) else (if x1 = 8 then (some (r_kept, r_states)) else (if x1 = 9 then (some (r_typed, r_states)) else (some ((-1), r_states)))))))))))
end
section
/-! phase 2: the models alone -/
theorem p_b1 {α δ : Type} (a : α) (f : α → Option δ) : z_b1 (some a) f = f a := rfl
theorem p_b2 {α β δ : Type} (a : α) (b : β) (f : α → β → Option δ) : z_b2 (some (a, b)) f = f a b := rfl
theorem p_b0 {δ : Type} (f : Option δ) : z_b0 (some ()) f = f := rfl
theorem p_isFrom (N : Nat) (x a b : Int) : m_X5_isFrom N x a b = some (if a ≤ x ∧ x ≤ b then 1 else 0) := by
  grind [m_X5_isFrom]
theorem p_holds (N : Nat) (c x : Int) : m_X0_holds N c x = some (if 0 ≤ x ∧ x < c ∧ x < 36 then 1 else 0) := by
  grind [m_X0_holds]
theorem p_in (N : Nat) (x a b : Int) : m_X6_in N x a b = some (if a ≤ x ∧ x ≤ b then 1 else 0) := by
  grind [m_X6_in]
theorem p_takesRain (N : Nat) (c : Int) (K : Int → Int) (x : Int) : m_X0_takesRain N c K x = some (if 0 ≤ x ∧ x < c ∧ x < 36 ∧ K x ≠ 3 ∧ K x ≠ 2 then 1 else 0) := by
  grind [m_X0_takesRain, p_holds, p_b1, z_chk]
theorem p_isKind (N : Nat) (c : Int) (K : Int → Int) (x k : Int) : m_X0_isKind N c K x k = some (if 0 ≤ x ∧ x < c ∧ x < 36 ∧ K x = k then 1 else 0) := by
  grind [m_X0_isKind, p_holds, p_b1, z_chk]
theorem p_putDrop (N : Nat) (d : Int → Int) (c : Int) (K : Int → Int) (x : Int) (hd : ∀ x, 0 ≤ x → x < 36 → 0 ≤ d x ∧ d x ≤ 60) : m_X4_putDrop N d c K x = some (if 0 ≤ x ∧ x < c ∧ x < 36 ∧ K x ≠ 3 ∧ K x ≠ 2 ∧ d x < 60 then z_up d x (d x + 1) else d) := by
  grind [m_X4_putDrop, p_takesRain, p_b1, z_chk]
theorem p_cells (N : Nat) (t : Int → Int) (h : z_n (t 0 * t 1)) : m_X6_cells N t = some (t 0 * t 1) := by
  grind [m_X6_cells, z_chk]
theorem p_isCell (N : Nat) (t : Int → Int) (x : Int) (h0 : 0 ≤ t 0 * t 1) (h1 : t 0 * t 1 ≤ 36) : m_X6_isCell N t x = some (if 0 ≤ x ∧ x < t 0 * t 1 then 1 else 0) := by
  grind [m_X6_isCell, m_X6_cells, p_in, p_b1, z_chk]
end
section
/-! the grid: which cells lie beside which -/
def s_next (C x s : Int) : Int := if s = 0 then x - C else if s = 1 then x + C else if s = 2 then x + 1 else x - 1
def s_nb (R C : Int) (K : Int → Int) (x s : Int) : Int := if 0 ≤ s_next C x s ∧ s_next C x s < R * C ∧ (s < 2 ∨ s_next C x s / C = x / C) ∧ K (s_next C x s) ≠ 3 then s_next C x s else -1
def s_dim (R C : Int) : Prop := (R = 2 ∨ R = 3 ∨ R = 4 ∨ R = 5 ∨ R = 6) ∧ (C = 2 ∨ C = 3 ∨ C = 4 ∨ C = 5 ∨ C = 6)
theorem s_dim_n {R C : Int} (h : s_dim R C) : 4 ≤ R * C ∧ R * C ≤ 36 := by
  obtain ⟨h1, h2⟩ := h
  rcases h1 with rfl | rfl | rfl | rfl | rfl <;> rcases h2 with rfl | rfl | rfl | rfl | rfl <;> decide
theorem s_nb_in {R C : Int} {K : Int → Int} {x s : Int} : s_nb R C K x s = -1 ∨ (0 ≤ s_nb R C K x s ∧ s_nb R C K x s < R * C ∧ K (s_nb R C K x s) ≠ 3) := by
  grind [s_nb]
theorem s_nb_sym {R C : Int} {K : Int → Int} (h : s_dim R C) {x s : Int} (hx : 0 ≤ x ∧ x < R * C) (hK : K x ≠ 3) (hs : 0 ≤ s ∧ s ≤ 3) (hn : 0 ≤ s_nb R C K x s) : ∃ s', (0 ≤ s' ∧ s' ≤ 3) ∧ s_nb R C K (s_nb R C K x s) s' = x := by
  obtain ⟨h1, h2⟩ := h
  have hs : s = 0 ∨ s = 1 ∨ s = 2 ∨ s = 3 := by omega
  rcases hs with rfl | rfl | rfl | rfl
  · refine ⟨1, by omega, ?_⟩
    grind [s_nb, s_next]
  · refine ⟨0, by omega, ?_⟩
    grind [s_nb, s_next]
  · refine ⟨3, by omega, ?_⟩
    rcases h2 with rfl | rfl | rfl | rfl | rfl <;> grind [s_nb, s_next]
  · refine ⟨2, by omega, ?_⟩
    rcases h2 with rfl | rfl | rfl | rfl | rfl <;> grind [s_nb, s_next]
theorem p6_beside (N : Nat) (t K : Int → Int) (R C x s : Int) (h : s_dim R C) (h0 : t 0 = R) (h1 : t 1 = C) (hK : ∀ i, 0 ≤ i → i < 36 → t (3 + i) = K i) (hx : 0 ≤ x ∧ x < R * C) (hs : 0 ≤ s ∧ s ≤ 3) : m_X6_beside N t x s = some (s_nb R C K x s) := by
  have hn := s_dim_n h
  obtain ⟨g1, g2⟩ := h
  have hs : s = 0 ∨ s = 1 ∨ s = 2 ∨ s = 3 := by omega
  have hc : ∀ y, m_X6_isCell N t y = some (if 0 ≤ y ∧ y < R * C then 1 else 0) := fun y => by
    rw [p_isCell N t y (by rw [h0, h1]; omega) (by rw [h0, h1]; omega), h0, h1]
  have hd : ∀ y, 0 ≤ y → Int.tdiv y (t 1) = y / (t 1) := fun y hy => Int.tdiv_eq_ediv_of_nonneg hy
  rcases hs with hs | hs | hs | hs <;> subst hs <;> rcases g2 with g2 | g2 | g2 | g2 | g2 <;> subst g2 <;> clear g1 <;> grind (splits := 40) [m_X6_beside, s_nb, s_next, p_b1, z_chk]
theorem p_walkable (N : Nat) (R C : Int) (K : Int → Int) (h : s_dim R C) (row col : Int) (hr : -1 ≤ row ∧ row ≤ 6) : m_X0_walkable N R C (R * C) K row col = some (if 0 ≤ row ∧ row < R ∧ 0 ≤ col ∧ col < C ∧ K (row * C + col) ≠ 3 then row * C + col else -4) := by
  have hn := s_dim_n h
  obtain ⟨g1, g2⟩ := h
  have hR : R ≤ 6 := by omega
  clear g1
  rcases g2 with g2 | g2 | g2 | g2 | g2 <;> subst g2 <;> grind (splits := 40) [m_X0_walkable, p_holds, p_b1, z_chk]
end
section
/-! longs as sets of cells -/
def s_bit (b : Int64) (y : Int) : Prop := b.toBitVec.getLsbD y.toNat = true
theorem s_bit_or (a b : Int64) (y : Int) : s_bit (a ||| b) y ↔ s_bit a y ∨ s_bit b y := by
  unfold s_bit
  rw [Int64.toBitVec_or, BitVec.getLsbD_or, Bool.or_eq_true]
theorem s_bit_and (a b : Int64) (y : Int) : s_bit (a &&& b) y ↔ s_bit a y ∧ s_bit b y := by
  unfold s_bit
  rw [Int64.toBitVec_and, BitVec.getLsbD_and, Bool.and_eq_true]
theorem s_bit_0 (y : Int) : ¬ s_bit 0 y := by
  unfold s_bit
  intro h
  rw [show (0 : Int64).toBitVec = 0#64 from rfl, BitVec.getLsbD_zero] at h
  cases h
theorem s_one : ∀ k : Nat, k < 64 → (z_lshl (1 : Int64) (k : Int)).toBitVec = BitVec.twoPow 64 k := by decide +kernel
theorem s_bit_one {x y : Int} (hx : 0 ≤ x ∧ x < 64) (hy : 0 ≤ y) : s_bit (z_lshl (1 : Int64) x) y ↔ y = x := by
  obtain ⟨k, rfl⟩ := Int.eq_ofNat_of_zero_le hx.1
  obtain ⟨j, rfl⟩ := Int.eq_ofNat_of_zero_le hy
  have hk : k < 64 := by omega
  unfold s_bit
  rw [s_one k hk, BitVec.getLsbD_twoPow]
  simp only [Int.toNat_natCast, Bool.and_eq_true, decide_eq_true_eq]
  omega
theorem s_bit_not {x y : Int} (hx : 0 ≤ x ∧ x < 64) (hy : 0 ≤ y ∧ y < 64) : s_bit ((z_lshl (1 : Int64) x) ^^^ (-1 : Int64)) y ↔ y ≠ x := by
  obtain ⟨k, rfl⟩ := Int.eq_ofNat_of_zero_le hx.1
  obtain ⟨j, rfl⟩ := Int.eq_ofNat_of_zero_le hy.1
  have hk : k < 64 := by omega
  have hj : j < 64 := by omega
  have ha : (-1 : Int64).toBitVec = BitVec.allOnes 64 := by decide
  unfold s_bit
  rw [Int64.toBitVec_xor, s_one k hk, ha, BitVec.getLsbD_xor, BitVec.getLsbD_twoPow, BitVec.getLsbD_allOnes]
  simp only [Int.toNat_natCast, hj, hk, decide_true, Bool.true_and]
  by_cases e : k = j
  · subst e; simp
  · simp [e]; omega
theorem s_cnt : ∀ k : Nat, k < 64 → (((Int32.ofInt (k : Int)).toInt64 &&& 63).toBitVec.smod 64).toNat = k := by decide +kernel
theorem s_lcmp (a b : Int64) : z_lcmp a b = 0 ↔ a = b := by
  unfold z_lcmp
  rw [← lg_cmp_eq a b]
  constructor
  · intro h
    exact Int32.toInt_inj.mp (by rw [h]; rfl)
  · intro h
    rw [h]; rfl
theorem s_tst {r : Int64} {x : Int} (hx : 0 ≤ x ∧ x < 64) : z_lcmp ((z_lshr r x) &&& (1 : Int64)) (1 : Int64) = 0 ↔ s_bit r x := by
  obtain ⟨k, rfl⟩ := Int.eq_ofNat_of_zero_le hx.1
  have hk : k < 64 := by omega
  rw [s_lcmp]
  have e : (z_lshr r (k : Int)).toBitVec.getLsbD 0 = r.toBitVec.getLsbD k := by
    unfold z_lshr
    rw [Int64.toBitVec_shiftRight]
    show (r.toBitVec.sshiftRight (((Int32.ofInt (k : Int)).toInt64 &&& 63).toBitVec.smod 64).toNat).getLsbD 0 = _
    rw [s_cnt k hk, BitVec.getLsbD_sshiftRight]
    simp [hk]
  unfold s_bit
  rw [Int.toNat_natCast, ← e, ← Int64.toBitVec_inj, Int64.toBitVec_and]
  generalize (z_lshr r (k : Int)).toBitVec = w
  show w &&& 1#64 = 1#64 ↔ _
  constructor
  · intro h
    have t := congrArg (fun x => x.getLsbD 0) h
    simpa using t
  · intro h
    apply BitVec.eq_of_getLsbD_eq
    intro i hi
    cases i with
    | zero => simp [h]
    | succ i => simp
theorem s_empty {r : Int64} : r = 0 ↔ ∀ y : Int, 0 ≤ y → y < 64 → ¬ s_bit r y := by
  constructor
  · rintro rfl y _ _
    exact s_bit_0 y
  · intro h
    rw [← Int64.toBitVec_inj]
    apply BitVec.eq_of_getLsbD_eq
    intro i hi
    have := h (i : Int) (by omega) (by omega)
    unfold s_bit at this
    rw [Int.toNat_natCast] at this
    rw [show (0 : Int64).toBitVec = 0#64 from rfl, BitVec.getLsbD_zero]
    simpa using this
end
section
/-! the class's square: beside and besideBits, as link() lays them -/
def s_w (R C : Int) (K : Int → Int) (row col : Int) : Int := if 0 ≤ row ∧ row < R ∧ 0 ≤ col ∧ col < C ∧ K (row * C + col) ≠ 3 then row * C + col else -4
def s_be (v : Int) : Int := if v < 0 then -4 else v
theorem s_wnb {R C : Int} {K : Int → Int} (h : s_dim R C) {row col : Int} (hr : 0 ≤ row ∧ row < R) (hc : 0 ≤ col ∧ col < C) : s_w R C K (row - 1) col = s_be (s_nb R C K (row * C + col) 0) ∧ s_w R C K (row + 1) col = s_be (s_nb R C K (row * C + col) 1) ∧ s_w R C K row (col + 1) = s_be (s_nb R C K (row * C + col) 2) ∧ s_w R C K row (col - 1) = s_be (s_nb R C K (row * C + col) 3) := by
  obtain ⟨g1, g2⟩ := h
  have hR : 2 ≤ R ∧ R ≤ 6 := by omega
  clear g1
  refine ⟨?_, ?_, ?_, ?_⟩ <;> rcases g2 with g2 | g2 | g2 | g2 | g2 <;> subst g2 <;> grind (splits := 40) [s_w, s_be, s_nb, s_next]
/-- the cells ahead of x0 are linked -/
def s_lk (n : Int) (nb : Int → Int → Int) (x0 : Int) (be : Int → Int) (bb : Int → Int64) : Prop :=
  (∀ x s, 0 ≤ x → x < x0 → 0 ≤ s → s ≤ 3 → be (x * 4 + s) = s_be (nb x s)) ∧ (∀ x y, 0 ≤ x → x < x0 → 0 ≤ y → y < 64 → (s_bit (bb x) y ↔ ∃ s, (0 ≤ s ∧ s ≤ 3) ∧ nb x s = y)) ∧ (∀ x y, x0 ≤ x → x < 36 → 0 ≤ y → y < 64 → ¬ s_bit (bb x) y)
theorem p_linkSide (N : Nat) (R C : Int) (K be : Int → Int) (bb : Int → Int64) (h : s_dim R C) (x s row col : Int) (hx : 0 ≤ x ∧ x < R * C) (hs : 0 ≤ s ∧ s ≤ 3) (hr : -1 ≤ row ∧ row ≤ 6) : m_X0_linkSide N R C (R * C) K be bb x s row col = some (z_up be (x * 4 + s) (s_w R C K row col), if s_w R C K row col = -4 then bb else z_up bb x (bb x ||| z_lshl (1 : Int64) (s_w R C K row col))) := by
  have hn := s_dim_n h
  have hw := p_walkable N R C K h row col hr
  rw [show (if 0 ≤ row ∧ row < R ∧ 0 ≤ col ∧ col < C ∧ K (row * C + col) ≠ 3 then row * C + col else -4) = s_w R C K row col from rfl] at hw
  generalize s_w R C K row col = w at *
  clear h
  generalize R * C = n at *
  unfold m_X0_linkSide
  rw [hw]
  grind (splits := 40) [p_holds, p_b1, z_chk, z_up]
theorem s_lk_step {n : Int} {nb : Int → Int → Int} {x0 : Int} {be : Int → Int} {bb : Int → Int64} (h : s_lk n nb x0 be bb) (hx : 0 ≤ x0 ∧ x0 < 36) (hnb : ∀ s, nb x0 s < 36) {b1 b2 b3 b4 : Int → Int64} (e1 : b1 = if s_be (nb x0 0) = -4 then bb else z_up bb x0 (bb x0 ||| z_lshl (1 : Int64) (s_be (nb x0 0)))) (e2 : b2 = if s_be (nb x0 1) = -4 then b1 else z_up b1 x0 (b1 x0 ||| z_lshl (1 : Int64) (s_be (nb x0 1)))) (e3 : b3 = if s_be (nb x0 2) = -4 then b2 else z_up b2 x0 (b2 x0 ||| z_lshl (1 : Int64) (s_be (nb x0 2)))) (e4 : b4 = if s_be (nb x0 3) = -4 then b3 else z_up b3 x0 (b3 x0 ||| z_lshl (1 : Int64) (s_be (nb x0 3)))) :
    s_lk n nb (x0 + 1) (z_up (z_up (z_up (z_up be (x0 * 4 + 0) (s_be (nb x0 0))) (x0 * 4 + 1) (s_be (nb x0 1))) (x0 * 4 + 2) (s_be (nb x0 2))) (x0 * 4 + 3) (s_be (nb x0 3))) b4 := by
  obtain ⟨h1, h2, h3⟩ := h
  have one : ∀ (b b' : Int → Int64) (s : Int), (b' = if s_be (nb x0 s) = -4 then b else z_up b x0 (b x0 ||| z_lshl (1 : Int64) (s_be (nb x0 s)))) → (∀ x, x ≠ x0 → b' x = b x) ∧ ∀ y, 0 ≤ y → y < 64 → (s_bit (b' x0) y ↔ s_bit (b x0) y ∨ nb x0 s = y) := by
    intro b b' s e
    subst e
    by_cases hn : nb x0 s < 0
    · have hb : s_be (nb x0 s) = -4 := if_pos hn
      rw [if_pos hb]
      exact ⟨fun _ _ => rfl, fun y hy _ => ⟨Or.inl, fun q => q.elim id (fun z => by omega)⟩⟩
    · have hb : s_be (nb x0 s) = nb x0 s := if_neg hn
      rw [hb, if_neg (by omega)]
      refine ⟨fun x hx => by simp [z_up, hx], fun y hy hy2 => ?_⟩
      have hh := hnb s
      simp only [z_up, if_true]
      rw [s_bit_or, s_bit_one (by omega) hy]
      exact ⟨fun q => q.imp id Eq.symm, fun q => q.imp id Eq.symm⟩
  obtain ⟨a1, c1⟩ := one _ _ 0 e1
  obtain ⟨a2, c2⟩ := one _ _ 1 e2
  obtain ⟨a3, c3⟩ := one _ _ 2 e3
  obtain ⟨a4, c4⟩ := one _ _ 3 e4
  refine ⟨fun x s g1 g2 g3 g4 => ?_, fun x y g1 g2 g3 g4 => ?_, fun x y g1 g2 g3 g4 => ?_⟩
  · by_cases hx0 : x = x0
    · subst hx0
      have : s = 0 ∨ s = 1 ∨ s = 2 ∨ s = 3 := by omega
      rcases this with rfl | rfl | rfl | rfl
      · grind [z_up]
      · grind [z_up]
      · grind [z_up]
      · grind [z_up]
    · simp only [z_up]
      rw [if_neg (by omega), if_neg (by omega), if_neg (by omega), if_neg (by omega)]
      exact h1 x s g1 (by omega) g3 g4
  · by_cases hx0 : x = x0
    · subst hx0
      rw [c4 y g3 g4, c3 y g3 g4, c2 y g3 g4, c1 y g3 g4]
      have hno := h3 x y (by omega) (by omega) g3 g4
      constructor
      · rintro ((((q | q) | q) | q) | q)
        · exact absurd q hno
        · exact ⟨0, by omega, q⟩
        · exact ⟨1, by omega, q⟩
        · exact ⟨2, by omega, q⟩
        · exact ⟨3, by omega, q⟩
      · rintro ⟨s, hs, q⟩
        have : s = 0 ∨ s = 1 ∨ s = 2 ∨ s = 3 := by omega
        rcases this with rfl | rfl | rfl | rfl
        · exact Or.inl (Or.inl (Or.inl (Or.inr q)))
        · exact Or.inl (Or.inl (Or.inr q))
        · exact Or.inl (Or.inr q)
        · exact Or.inr q
    · rw [a4 x hx0, a3 x hx0, a2 x hx0, a1 x hx0]
      exact h2 x y g1 (by omega) g3 g4
  · have hx0 : x ≠ x0 := by omega
    rw [a4 x hx0, a3 x hx0, a2 x hx0, a1 x hx0]
    exact h3 x y (by omega) g2 g3 g4
theorem p_link_l2 (N : Nat) (R C : Int) (K : Int → Int) (h : s_dim R C) (row : Int) (hr : 0 ≤ row ∧ row < R) : ∀ (f : Nat) (col : Int) (be : Int → Int) (bb : Int → Int64), 0 ≤ col → col ≤ C → (C - col).toNat < f → s_lk (R * C) (s_nb R C K) (row * C + col) be bb → ∃ be' bb', m_X0_link_l2 N C row R (R * C) K f col be bb = some (be', bb') ∧ s_lk (R * C) (s_nb R C K) (row * C + C) be' bb' := by
  have hn := s_dim_n h
  have hR : R ≤ 6 ∧ C ≤ 6 := by
    obtain ⟨g1, g2⟩ := h
    omega
  intro f
  induction f with
  | zero => intro col be bb _ _ hf; omega
  | succ f ih =>
    intro col be bb h0 hC hf hI
    rw [m_X0_link_l2]
    by_cases hc : C ≤ col
    · rw [if_pos hc]
      have : col = C := by omega
      subst this
      exact ⟨be, bb, rfl, hI⟩
    · rw [if_neg hc, if_neg (by omega)]
      have b1 : 0 ≤ row * C := Int.mul_nonneg hr.1 (by omega)
      have b2 : row * C + C ≤ R * C := by
        have : (row + 1) * C ≤ R * C := Int.mul_le_mul_of_nonneg_right (by omega) (by omega)
        rw [Int.add_mul, Int.one_mul] at this
        exact this
      have hx : 0 ≤ row * C + col ∧ row * C + col < R * C := by omega
      obtain ⟨w0, w1, w2, w3⟩ := s_wnb (K := K) h hr ⟨h0, by omega⟩
      have L0 := fun be bb => p_linkSide N R C K be bb h (row * C + col) 0 (row - 1) col hx (by omega) (by omega)
      have L1 := fun be bb => p_linkSide N R C K be bb h (row * C + col) 1 (row + 1) col hx (by omega) (by omega)
      have L2 := fun be bb => p_linkSide N R C K be bb h (row * C + col) 2 row (col + 1) hx (by omega) (by omega)
      have L3 := fun be bb => p_linkSide N R C K be bb h (row * C + col) 3 row (col - 1) hx (by omega) (by omega)
      rw [w0] at L0
      rw [w1] at L1
      rw [w2] at L2
      rw [w3] at L3
      have hnb : ∀ s, s_nb R C K (row * C + col) s < 36 := fun s => by
        rcases s_nb_in (R := R) (C := C) (K := K) (x := row * C + col) (s := s) with q | q <;> omega
      have st := s_lk_step hI (by omega) hnb rfl rfl rfl rfl
      rw [z_chk_pos (by omega), z_chk_pos (by omega), z_chk_pos (by omega), L0, p_b2, z_chk_pos (by omega), L1, p_b2, z_chk_pos (by omega), L2, p_b2, z_chk_pos (by omega), L3, p_b2, z_chk_pos (by omega)]
      exact ih (col + 1) _ _ (by omega) (by omega) (by omega) (by rw [show row * C + (col + 1) = row * C + col + 1 by omega]; exact st)
theorem p_link_l1 (N : Nat) (R C : Int) (K : Int → Int) (h : s_dim R C) (hN : 10 ≤ N) : ∀ (f : Nat) (row : Int) (be : Int → Int) (bb : Int → Int64), 0 ≤ row → row ≤ R → (R - row).toNat < f → s_lk (R * C) (s_nb R C K) (row * C) be bb → ∃ be' bb', m_X0_link_l1 N R C (R * C) K f row be bb = some (be', bb') ∧ s_lk (R * C) (s_nb R C K) (R * C) be' bb' := by
  have hR : (2 ≤ R ∧ R ≤ 6) ∧ 2 ≤ C ∧ C ≤ 6 := by
    obtain ⟨g1, g2⟩ := h
    omega
  intro f
  induction f with
  | zero => intro row be bb _ _ hf; omega
  | succ f ih =>
    intro row be bb h0 hC hf hI
    rw [m_X0_link_l1]
    by_cases hc : R ≤ row
    · rw [if_pos hc]
      have : row = R := by omega
      subst this
      exact ⟨be, bb, rfl, hI⟩
    · rw [if_neg hc, if_neg (by omega)]
      obtain ⟨be', bb', e, hI'⟩ := p_link_l2 N R C K h row ⟨h0, by omega⟩ N 0 be bb (by omega) (by omega) (by omega) (by rw [Int.add_zero]; exact hI)
      rw [e, p_b2, z_chk_pos (by omega)]
      exact ih (row + 1) be' bb' (by omega) (by omega) (by omega) (by rw [Int.add_mul, Int.one_mul]; exact hI')
theorem p_fillJ_l1 (N n : Nat) (v : Int64) (hn : n ≤ 1000) : ∀ (f : Nat) (i : Int) (a : Int → Int64), 0 ≤ i → i ≤ n → ((n : Int) - i).toNat < f → ∃ a', m_J7_fill_d0a16_l1 N n n v f i a = some a' ∧ ∀ j, a' j = if i ≤ j ∧ j < n then v else a j := by
  intro f
  induction f with
  | zero => intro i a _ _ hf; omega
  | succ f ih =>
    intro i a h0 h1 hf
    rw [m_J7_fill_d0a16_l1]
    by_cases hc : (n : Int) ≤ i
    · rw [if_pos hc]
      exact ⟨a, rfl, fun j => by rw [if_neg (by omega)]⟩
    · rw [if_neg hc, z_chk_pos (by omega), z_chk_pos (by omega)]
      obtain ⟨a', e, he⟩ := ih (i + 1) (z_up a i v) (by omega) (by omega) (by omega)
      exact ⟨a', e, fun j => by rw [he j]; grind [z_up]⟩
theorem p_fillI_l1 (N n : Nat) (v : Int) (hn : n ≤ 1000) : ∀ (f : Nat) (i : Int) (a : Int → Int), 0 ≤ i → i ≤ n → ((n : Int) - i).toNat < f → ∃ a', m_J7_fill_53178_l1 N n n v f i a = some a' ∧ ∀ j, a' j = if i ≤ j ∧ j < n then v else a j := by
  intro f
  induction f with
  | zero => intro i a _ _ hf; omega
  | succ f ih =>
    intro i a h0 h1 hf
    rw [m_J7_fill_53178_l1]
    by_cases hc : (n : Int) ≤ i
    · rw [if_pos hc]
      exact ⟨a, rfl, fun j => by rw [if_neg (by omega)]⟩
    · rw [if_neg hc, z_chk_pos (by omega), z_chk_pos (by omega)]
      obtain ⟨a', e, he⟩ := ih (i + 1) (z_up a i v) (by omega) (by omega) (by omega)
      exact ⟨a', e, fun j => by rw [he j]; grind [z_up]⟩
theorem p_fillJ (N n : Nat) (hn : n ≤ 1000) (hN : 1001 ≤ N) (a : Int → Int64) (v : Int64) : ∃ a', m_J7_fill_d0a16 N n a v = some a' ∧ ∀ j, a' j = if 0 ≤ j ∧ j < n then v else a j := by
  obtain ⟨a', e, he⟩ := p_fillJ_l1 N n v hn N 0 a (by omega) (by omega) (by omega)
  exact ⟨a', by rw [m_J7_fill_d0a16, e, p_b1], he⟩
theorem p_fillI (N n : Nat) (hn : n ≤ 1000) (hN : 1001 ≤ N) (a : Int → Int) (v : Int) : ∃ a', m_J7_fill_53178 N n a v = some a' ∧ ∀ j, a' j = if 0 ≤ j ∧ j < n then v else a j := by
  obtain ⟨a', e, he⟩ := p_fillI_l1 N n v hn N 0 a (by omega) (by omega) (by omega)
  exact ⟨a', by rw [m_J7_fill_53178, e, p_b1], he⟩
theorem p_link (N : Nat) (R C : Int) (K : Int → Int) (h : s_dim R C) (hN : 1001 ≤ N) (be : Int → Int) (bb : Int → Int64) : ∃ be' bb', m_X0_link N R C (R * C) K be bb = some (be', bb') ∧ s_lk (R * C) (s_nb R C K) (R * C) be' bb' := by
  obtain ⟨b0, e0, h0⟩ := p_fillJ N 36 (by omega) hN bb 0
  have hd := h
  obtain ⟨g1, g2⟩ := hd
  obtain ⟨be', bb', e, hI⟩ := p_link_l1 N R C K h (by omega) N 0 be b0 (by omega) (by omega) (by omega) (by
    refine ⟨fun x s a b => by omega, fun x y a b => by omega, fun x y a b c d => ?_⟩
    rw [h0 x, if_pos (by omega)]
    exact s_bit_0 y)
  exact ⟨be', bb', by rw [m_X0_link, e0, p_b1, e, p_b2], hI⟩
end
section
/-! FLOW: where a drop goes, one step, one round -/
def s_lv (h D : Int → Int) (x : Int) : Int := h x + D x
def s_bc (nb : Int → Int → Int) (K h D : Int → Int) (x s : Int) (p : Int × Int) : Int × Int := if 0 < D x ∧ 0 ≤ nb x s ∧ s_lv h D (nb x s) + (if K (nb x s) = 2 then 1 else 2) ≤ s_lv h D x ∧ (p.1 < 0 ∨ s_lv h D (nb x s) ≤ p.2) then (nb x s, s_lv h D (nb x s)) else p
def s_tgt (nb : Int → Int → Int) (K h D : Int → Int) (x : Int) : Int := (s_bc nb K h D x 0 (s_bc nb K h D x 1 (s_bc nb K h D x 2 (s_bc nb K h D x 3 (-1, 0))))).1
def s_fc (nb : Int → Int → Int) (K h D : Int → Int) (x s : Int) (p : Int × Int) : Int × Int := if 0 ≤ nb x s ∧ (s_lv h D (nb x s) ≤ s_lv h D x - 2 ∨ K (nb x s) = 2) ∧ s_lv h D (nb x s) < p.2 then (nb x s, s_lv h D (nb x s)) else p
def s_drop (K D : Int → Int) (x t : Int) : Int → Int := if K t ≠ 2 ∧ z_up D x (D x - 1) t < 60 then z_up (z_up D x (D x - 1)) t (z_up D x (D x - 1) t + 1) else z_up D x (D x - 1)
def s_step (nb : Int → Int → Int) (K h D : Int → Int) (x : Int) : Int → Int := if s_tgt nb K h D x < 0 then D else s_drop K D x (s_tgt nb K h D x)
def s_rd (nb : Int → Int → Int) (K h : Int → Int) : Nat → (Int → Int) → (Int → Int)
  | 0, D => D
  | k + 1, D => s_step nb K h (s_rd nb K h k D) k
/-- a water that can lie: heights and drops in their bounds, none where none can be -/
def s_ok (n : Int) (K h D : Int → Int) : Prop := ∀ x, 0 ≤ x → x < 36 → (0 ≤ h x ∧ h x ≤ 20) ∧ (0 ≤ D x ∧ D x ≤ 60) ∧ ((n ≤ x ∨ K x = 2 ∨ K x = 3) → D x = 0)
def s_nbok (n : Int) (nb : Int → Int → Int) (K : Int → Int) : Prop := ∀ x s, nb x s = -1 ∨ (0 ≤ nb x s ∧ nb x s < n ∧ K (nb x s) ≠ 3)
theorem s_scan (y0 y1 y2 y3 l0 l1 l2 l3 L : Int) (v0 v1 v2 v3 : Prop) [Decidable v0] [Decidable v1] [Decidable v2] [Decidable v3] (h0 : v0 → 0 ≤ y0 ∧ l0 < L) (h1 : v1 → 0 ≤ y1 ∧ l1 < L) (h2 : v2 → 0 ≤ y2 ∧ l2 < L) (h3 : v3 → 0 ≤ y3 ∧ l3 < L) (t3 t2 t1 t0 b0 b1 b2 b3 : Int × Int) (e3 : t3 = if v3 then (y3, l3) else (-1, 0)) (e2 : t2 = if v2 ∧ (t3.1 < 0 ∨ l2 ≤ t3.2) then (y2, l2) else t3) (e1 : t1 = if v1 ∧ (t2.1 < 0 ∨ l1 ≤ t2.2) then (y1, l1) else t2) (e0 : t0 = if v0 ∧ (t1.1 < 0 ∨ l0 ≤ t1.2) then (y0, l0) else t1)
    (f0 : b0 = if v0 ∧ l0 < L then (y0, l0) else (-4, L)) (f1 : b1 = if v1 ∧ l1 < b0.2 then (y1, l1) else b0) (f2 : b2 = if v2 ∧ l2 < b1.2 then (y2, l2) else b1) (f3 : b3 = if v3 ∧ l3 < b2.2 then (y3, l3) else b2) : b3.1 = if t0.1 < 0 then -4 else t0.1 := by
  by_cases g0 : v0 <;> by_cases g1 : v1 <;> by_cases g2 : v2 <;> by_cases g3 : v3 <;> simp only [g0, g1, g2, g3, true_and, false_and, if_true, if_false] at * <;> subst e3 <;> grind (splits := 40)
theorem p_where_step (N : Nat) (nb : Int → Int → Int) (K h D be : Int → Int) (n : Int) (hn : 0 ≤ n ∧ n ≤ 36) (hok : s_ok n K h D) (hnb : s_nbok n nb K) (x s : Int) (hx : 0 ≤ x ∧ x < n) (hs : 0 ≤ s ∧ s ≤ 3) (hbe : be (x * 4 + s) = s_be (nb x s)) (f : Nat) (p : Int × Int) : m_X4_whereTo_l1 N (x * 4) be h D (h x + D x) K (f + 1) p.1 p.2 (x * 4 + s) = m_X4_whereTo_l1 N (x * 4) be h D (h x + D x) K f (s_fc nb K h D x s p).1 (s_fc nb K h D x s p).2 (x * 4 + (s + 1)) := by
  rw [m_X4_whereTo_l1, hbe]
  have q1 := hok x hx.1 (by omega)
  have q2 := hnb x s
  unfold s_fc s_be s_lv
  generalize nb x s = y at *
  rw [z_chk_pos (by omega), if_neg (by omega), z_chk_pos (by omega)]
  rw [show x * 4 + (s + 1) = x * 4 + s + 1 by omega]
  rcases q2 with q2 | q2
  · subst q2
    simp (disch := omega) only [if_pos, if_neg, z_chk_pos]
  · have q3 := hok y q2.1 (by omega)
    rw [if_neg (show ¬ y < 0 by omega), if_neg (show ¬ y < 0 by omega), if_neg (show ¬ 36 ≤ y by omega)]
    rw [z_chk_pos (by omega), z_chk_pos (by omega), z_chk_pos (by omega), z_chk_pos (by omega)]
    grind (splits := 40) [z_chk, p_b1]
theorem p_whereTo (N : Nat) (hN : 10 ≤ N) (nb : Int → Int → Int) (K h D be : Int → Int) (n : Int) (hn : 0 ≤ n ∧ n ≤ 36) (hok : s_ok n K h D) (hnb : s_nbok n nb K) (x : Int) (hx : 0 ≤ x ∧ x < n) (hbe : ∀ s, 0 ≤ s → s ≤ 3 → be (x * 4 + s) = s_be (nb x s)) : m_X4_whereTo N h D n K be x = some (if s_tgt nb K h D x < 0 then -4 else s_tgt nb K h D x) := by
  have q1 := hok x hx.1 (by omega)
  obtain ⟨M, rfl⟩ : ∃ M, N = M + 5 := ⟨N - 5, by omega⟩
  have st := fun s hs f p => p_where_step (M + 5) nb K h D be n hn hok hnb x s hx hs (hbe s hs.1 hs.2) f p
  unfold m_X4_whereTo
  have e0 : m_X0_holds (M + 5) n x = some 1 := by rw [p_holds, if_pos (by omega)]
  rw [e0, z_chk_pos (by omega), p_b1, if_neg (by decide), z_chk_pos (by omega)]
  by_cases hd : D x ≤ 0
  · rw [if_pos hd]
    have : s_tgt nb K h D x = -1 := by
      unfold s_tgt
      have e : ∀ s p, s_bc nb K h D x s p = p := fun s p => if_neg (by omega)
      rw [e, e, e, e]
    rw [this]
    rfl
  · rw [if_neg hd, z_chk_pos (by omega), if_pos (by omega), z_chk_pos (by omega), z_chk_pos (by omega), z_chk_pos (by omega)]
    have e1 := st 0 (by omega) (M + 4) (-4, h x + D x)
    have e2 := fun p => st 1 (by omega) (M + 3) p
    have e3 := fun p => st 2 (by omega) (M + 2) p
    have e4 := fun p => st 3 (by omega) (M + 1) p
    simp only [Int.add_zero, Int.zero_add, show (1 : Int) + 1 = 2 from rfl, show (2 : Int) + 1 = 3 from rfl, show (3 : Int) + 1 = 4 from rfl] at e1 e2 e3 e4
    show z_b1 (m_X4_whereTo_l1 (M + 5) (x * 4) be h D (h x + D x) K (M + 4 + 1) (-4, h x + D x).1 (-4, h x + D x).2 (x * 4)) _ = _
    rw [e1, e2, e3, e4, m_X4_whereTo_l1, z_chk_pos (by omega), if_pos (by omega), p_b1]
    congr 1
    have vv : ∀ s, (0 ≤ nb x s ∧ (s_lv h D (nb x s) ≤ s_lv h D x - 2 ∨ K (nb x s) = 2) ∧ s_lv h D (nb x s) < s_lv h D x) ↔ (0 ≤ nb x s ∧ s_lv h D (nb x s) + (if K (nb x s) = 2 then 1 else 2) ≤ s_lv h D x) := fun s => by
      by_cases hk : K (nb x s) = 2
      · rw [if_pos hk]; omega
      · rw [if_neg hk]; omega
    have fc : ∀ s p, p.2 ≤ s_lv h D x → s_fc nb K h D x s p = if (0 ≤ nb x s ∧ s_lv h D (nb x s) + (if K (nb x s) = 2 then 1 else 2) ≤ s_lv h D x) ∧ s_lv h D (nb x s) < p.2 then (nb x s, s_lv h D (nb x s)) else p := fun s p hp => by
      unfold s_fc
      have := vv s
      congr 1
      apply propext
      constructor
      · intro q
        exact ⟨this.mp ⟨q.1, q.2.1, by omega⟩, q.2.2⟩
      · intro q
        have z := this.mpr q.1
        exact ⟨z.1, z.2.1, q.2⟩
    have fl : ∀ s p, p.2 ≤ s_lv h D x → (s_fc nb K h D x s p).2 ≤ s_lv h D x := fun s p hp => by
      unfold s_fc
      split
      · omega
      · exact hp
    have bc : ∀ s p, s_bc nb K h D x s p = if (0 ≤ nb x s ∧ s_lv h D (nb x s) + (if K (nb x s) = 2 then 1 else 2) ≤ s_lv h D x) ∧ (p.1 < 0 ∨ s_lv h D (nb x s) ≤ p.2) then (nb x s, s_lv h D (nb x s)) else p := fun s p => by
      unfold s_bc
      congr 1
      apply propext
      constructor
      · intro q
        exact ⟨⟨q.2.1, q.2.2.1⟩, q.2.2.2⟩
      · intro q
        exact ⟨by omega, q.1.1, q.1.2, q.2⟩
    have hv : ∀ s, (0 ≤ nb x s ∧ s_lv h D (nb x s) + (if K (nb x s) = 2 then 1 else 2) ≤ s_lv h D x) → 0 ≤ nb x s ∧ s_lv h D (nb x s) < s_lv h D x := fun s q => by
      have z := (vv s).mpr q
      exact ⟨z.1, z.2.2⟩
    have p0 : ((-4, h x + D x) : Int × Int).2 ≤ s_lv h D x := Int.le_refl _
    have p1 := fl 0 _ p0
    have p2 := fl 1 _ p1
    have p3 := fl 2 _ p2
    unfold s_tgt
    exact s_scan _ _ _ _ _ _ _ _ (s_lv h D x) _ _ _ _ (hv 0) (hv 1) (hv 2) (hv 3) _ _ _ _ _ _ _ _ (by rw [bc]; simp) (bc 2 _) (bc 1 _) (bc 0 _) (fc 0 _ p0) (fc 1 _ p1) (fc 2 _ p2) (fc 3 _ p3)
end
section
/-! FLOW: rounds, the potential, the class's flow -/
def s_env (n : Int) (nb : Int → Int → Int) (K : Int → Int) : Prop := (0 ≤ n ∧ n ≤ 36) ∧ s_nbok n nb K ∧ ∀ x s, 0 ≤ x → x < n → K x ≠ 3 → 0 ≤ s → s ≤ 3 → 0 ≤ nb x s → ∃ s', (0 ≤ s' ∧ s' ≤ 3) ∧ nb (nb x s) s' = x
def s_val (nb : Int → Int → Int) (K h D : Int → Int) (x s : Int) : Prop := 0 < D x ∧ 0 ≤ nb x s ∧ s_lv h D (nb x s) + (if K (nb x s) = 2 then 1 else 2) ≤ s_lv h D x
theorem s_bc_or (nb : Int → Int → Int) (K h D : Int → Int) (x s : Int) (p : Int × Int) : (s_val nb K h D x s ∧ s_bc nb K h D x s p = (nb x s, s_lv h D (nb x s))) ∨ s_bc nb K h D x s p = p := by
  by_cases hc : 0 < D x ∧ 0 ≤ nb x s ∧ s_lv h D (nb x s) + (if K (nb x s) = 2 then 1 else 2) ≤ s_lv h D x ∧ (p.1 < 0 ∨ s_lv h D (nb x s) ≤ p.2)
  · exact Or.inl ⟨⟨hc.1, hc.2.1, hc.2.2.1⟩, if_pos hc⟩
  · exact Or.inr (if_neg hc)
theorem s_tgt_spec (nb : Int → Int → Int) (K h D : Int → Int) (x : Int) : s_tgt nb K h D x < 0 ∨ ∃ s, (0 ≤ s ∧ s ≤ 3) ∧ s_tgt nb K h D x = nb x s ∧ s_val nb K h D x s := by
  have st : ∀ s p, 0 ≤ s → s ≤ 3 → (p.1 < 0 ∨ ∃ s, (0 ≤ s ∧ s ≤ 3) ∧ p.1 = nb x s ∧ s_val nb K h D x s) → ((s_bc nb K h D x s p).1 < 0 ∨ ∃ s', (0 ≤ s' ∧ s' ≤ 3) ∧ (s_bc nb K h D x s p).1 = nb x s' ∧ s_val nb K h D x s') := by
    intro s p h0 h1 hp
    rcases s_bc_or nb K h D x s p with ⟨hv, e⟩ | e
    · rw [e]
      exact Or.inr ⟨s, ⟨h0, h1⟩, rfl, hv⟩
    · rw [e]
      exact hp
  exact st 0 _ (by omega) (by omega) (st 1 _ (by omega) (by omega) (st 2 _ (by omega) (by omega) (st 3 _ (by omega) (by omega) (Or.inl (by decide)))))
theorem s_tgt_has (nb : Int → Int → Int) (K h D : Int → Int) (x s : Int) (hs : 0 ≤ s ∧ s ≤ 3) (hv : s_val nb K h D x s) : 0 ≤ s_tgt nb K h D x := by
  have keep : ∀ s p, 0 ≤ p.1 → 0 ≤ (s_bc nb K h D x s p).1 := by
    intro s p hp
    rcases s_bc_or nb K h D x s p with ⟨hv, e⟩ | e
    · rw [e]; exact hv.2.1
    · rw [e]; exact hp
  have hit : ∀ p, 0 ≤ (s_bc nb K h D x s p).1 := by
    intro p
    by_cases hp : p.1 < 0
    · unfold s_bc
      rw [if_pos ⟨hv.1, hv.2.1, hv.2.2, Or.inl hp⟩]
      exact hv.2.1
    · exact keep s p (by omega)
  have : s = 0 ∨ s = 1 ∨ s = 2 ∨ s = 3 := by omega
  unfold s_tgt
  rcases this with rfl | rfl | rfl | rfl
  · exact hit _
  · exact keep 0 _ (hit _)
  · exact keep 0 _ (keep 1 _ (hit _))
  · exact keep 0 _ (keep 1 _ (keep 2 _ (hit _)))
theorem s_drop_at (K D : Int → Int) (x t y : Int) (hxt : x ≠ t) : s_drop K D x t y = if y = x then D x - 1 else if y = t ∧ K t ≠ 2 ∧ D t < 60 then D t + 1 else D y := by
  have e : z_up D x (D x - 1) t = D t := by
    unfold z_up
    rw [if_neg (fun z => hxt z.symm)]
  unfold s_drop
  rw [e]
  by_cases hc : K t ≠ 2 ∧ D t < 60
  · rw [if_pos hc]
    unfold z_up
    by_cases h1 : y = t
    · subst h1
      rw [if_pos rfl, if_neg (fun z => hxt z.symm), if_pos ⟨rfl, hc⟩]
    · rw [if_neg h1]
      by_cases h2 : y = x
      · rw [if_pos h2, if_pos h2]
      · rw [if_neg h2, if_neg h2, if_neg (fun z => h1 z.1)]
  · rw [if_neg hc]
    unfold z_up
    by_cases h2 : y = x
    · rw [if_pos h2, if_pos h2]
    · rw [if_neg h2, if_neg h2, if_neg (fun z => hc z.2)]
theorem s_send (n : Int) (nb : Int → Int → Int) (K h D : Int → Int) (hE : s_env n nb K) (hok : s_ok n K h D) (x : Int) (hx : 0 ≤ x ∧ x < n) (ht : 0 ≤ s_tgt nb K h D x) : 0 < D x ∧ s_tgt nb K h D x < n ∧ K (s_tgt nb K h D x) ≠ 3 ∧ x ≠ s_tgt nb K h D x ∧ s_lv h D (s_tgt nb K h D x) + (if K (s_tgt nb K h D x) = 2 then 1 else 2) ≤ s_lv h D x ∧ ∃ s, (0 ≤ s ∧ s ≤ 3) ∧ s_tgt nb K h D x = nb x s := by
  rcases s_tgt_spec nb K h D x with q | ⟨s, hs, e, hv⟩
  · omega
  · rw [e] at ht ⊢
    rcases hE.2.1 x s with q | q
    · omega
    · refine ⟨hv.1, q.2.1, q.2.2, ?_, hv.2.2, s, hs, rfl⟩
      intro z
      have := hv.2.2
      rw [← z] at this
      split at this <;> omega
theorem s_step_ok (n : Int) (nb : Int → Int → Int) (K h D : Int → Int) (hE : s_env n nb K) (hok : s_ok n K h D) (x : Int) (hx : 0 ≤ x ∧ x < n) : s_ok n K h (s_step nb K h D x) := by
  unfold s_step
  split
  · exact hok
  · rename_i ht
    obtain ⟨h1, h2, h3, h4, h5, -⟩ := s_send n nb K h D hE hok x hx (by omega)
    generalize s_tgt nb K h D x = t at *
    intro y hy hy2
    have a := hok y hy hy2
    have b := hok x hx.1 (by have := hE.1; omega)
    rw [s_drop_at K D x t y h4]
    refine ⟨a.1, ?_, ?_⟩
    · grind
    · grind
def s_phi (h D : Int → Int) : Nat → Int
  | 0 => 0
  | k + 1 => s_phi h D k + s_lv h D k * s_lv h D k
theorem s_phi_same (h D D' : Int → Int) : ∀ k : Nat, (∀ y : Int, 0 ≤ y → y < k → D' y = D y) → s_phi h D' k = s_phi h D k
  | 0, _ => rfl
  | k + 1, hd => by
    rw [s_phi, s_phi, s_phi_same h D D' k (fun y h0 h1 => hd y h0 (by omega))]
    have : D' k = D k := hd k (by omega) (by omega)
    simp only [s_lv, this]
theorem s_sq (a : Int) : (a - 1) * (a - 1) = a * a - 2 * a + 1 := by grind
theorem s_sq2 (a : Int) : (a + 1) * (a + 1) = a * a + 2 * a + 1 := by grind
/-- what one cell's change does to the potential -/
theorem s_phi_one (h D D' : Int → Int) (x : Int) (hx : 0 ≤ x) (hd : ∀ y, y ≠ x → D' y = D y) : ∀ k : Nat, x < k → s_phi h D' k = s_phi h D k - s_lv h D x * s_lv h D x + s_lv h D' x * s_lv h D' x
  | 0, hk => by omega
  | k + 1, hk => by
    rw [s_phi, s_phi]
    by_cases hxk : x = k
    · rw [s_phi_same h D D' k (fun y h0 h1 => hd y (by omega)), ← hxk]
      omega
    · rw [s_phi_one h D D' x hx hd k (by omega)]
      have : D' k = D k := hd k (by omega)
      have e : s_lv h D' k = s_lv h D k := by simp only [s_lv, this]
      rw [e]
      omega
theorem s_phi_step (n : Int) (nb : Int → Int → Int) (K h D : Int → Int) (hE : s_env n nb K) (hok : s_ok n K h D) (x : Int) (hx : 0 ≤ x ∧ x < n) (ht : 0 ≤ s_tgt nb K h D x) : s_phi h (s_step nb K h D x) n.toNat + 1 ≤ s_phi h D n.toNat := by
  obtain ⟨h1, h2, h3, h4, h5, -⟩ := s_send n nb K h D hE hok x hx ht
  unfold s_step
  rw [if_neg (by omega)]
  generalize s_tgt nb K h D x = t at *
  have hn := hE.1
  have b := hok x hx.1 (by omega)
  have a := hok t ht (by omega)
  have e1 := s_phi_one h D (z_up D x (D x - 1)) x hx.1 (fun y hy => by simp [z_up, hy]) n.toNat (by omega)
  have l1 : s_lv h (z_up D x (D x - 1)) x = s_lv h D x - 1 := by simp [s_lv, z_up]; omega
  have l2 : s_lv h (z_up D x (D x - 1)) t = s_lv h D t := by
    have : ¬ t = x := fun z => h4 z.symm
    simp [s_lv, z_up, this]
  rw [l1, s_sq] at e1
  have lx : 1 ≤ s_lv h D x := by unfold s_lv; omega
  unfold s_drop
  split
  · rename_i hc
    have e2 := s_phi_one h (z_up D x (D x - 1)) (z_up (z_up D x (D x - 1)) t (z_up D x (D x - 1) t + 1)) t ht (fun y hy => by simp [z_up, hy]) n.toNat (by omega)
    have l3 : s_lv h (z_up (z_up D x (D x - 1)) t (z_up D x (D x - 1) t + 1)) t = s_lv h D t + 1 := by
      rw [← l2]
      simp [s_lv, z_up]; omega
    rw [l3, l2, s_sq2, e1] at e2
    rw [if_neg hc.1] at h5
    omega
  · omega
theorem s_sqnn (a : Int) : 0 ≤ a * a := by
  rcases Int.le_total 0 a with h | h
  · exact Int.mul_nonneg h h
  · rw [← Int.neg_mul_neg]
    exact Int.mul_nonneg (by omega) (by omega)
theorem s_phi_nn (h D : Int → Int) : ∀ k : Nat, 0 ≤ s_phi h D k
  | 0 => Int.le_refl _
  | k + 1 => by
    rw [s_phi]
    have := s_phi_nn h D k
    have h2 : 0 ≤ s_lv h D k * s_lv h D k := s_sqnn _
    omega
theorem s_phi_le (n : Int) (K h D : Int → Int) (hok : s_ok n K h D) : ∀ k : Nat, k ≤ 36 → s_phi h D k ≤ 6400 * k
  | 0, _ => Int.le_refl _
  | k + 1, hk => by
    rw [s_phi]
    have := s_phi_le n K h D hok k (by omega)
    have q := hok k (by omega) (by omega)
    have h1 : 0 ≤ s_lv h D k ∧ s_lv h D k ≤ 80 := by unfold s_lv; omega
    have h2 : s_lv h D k * s_lv h D k ≤ 80 * 80 := Int.mul_le_mul h1.2 h1.2 h1.1 (by omega)
    omega
/-- no cell sends -/
def s_still (n : Int) (nb : Int → Int → Int) (K h D : Int → Int) : Prop := ∀ y, 0 ≤ y → y < n → s_tgt nb K h D y < 0
theorem s_rd_still (n : Int) (nb : Int → Int → Int) (K h D : Int → Int) (hs : s_still n nb K h D) : ∀ k : Nat, (k : Int) ≤ n → s_rd nb K h k D = D
  | 0, _ => rfl
  | k + 1, hk => by
    rw [s_rd, s_rd_still n nb K h D hs k (by omega)]
    unfold s_step
    rw [if_pos (hs k (by omega) (by omega))]
theorem s_rd_ok (n : Int) (nb : Int → Int → Int) (K h D : Int → Int) (hE : s_env n nb K) (hok : s_ok n K h D) : ∀ k : Nat, (k : Int) ≤ n → s_ok n K h (s_rd nb K h k D)
  | 0, _ => hok
  | k + 1, hk => s_step_ok n nb K h _ hE (s_rd_ok n nb K h D hE hok k (by omega)) k (by omega)
def s_it (n : Int) (nb : Int → Int → Int) (K h : Int → Int) : Nat → (Int → Int) → (Int → Int)
  | 0, D => D
  | j + 1, D => s_rd nb K h n.toNat (s_it n nb K h j D)
def s_flow (n : Int) (nb : Int → Int → Int) (K h D : Int → Int) : Int → Int := s_it n nb K h 300000 D
theorem s_it_ok (n : Int) (nb : Int → Int → Int) (K h D : Int → Int) (hE : s_env n nb K) (hok : s_ok n K h D) : ∀ j : Nat, s_ok n K h (s_it n nb K h j D)
  | 0 => hok
  | j + 1 => s_rd_ok n nb K h _ hE (s_it_ok n nb K h D hE hok j) n.toNat (by have := hE.1; omega)
theorem s_it_stay (n : Int) (nb : Int → Int → Int) (K h D : Int → Int) (hn : 0 ≤ n) (j : Nat) (hs : s_still n nb K h (s_it n nb K h j D)) : ∀ k : Nat, s_it n nb K h (j + k) D = s_it n nb K h j D
  | 0 => rfl
  | k + 1 => by
    rw [show j + (k + 1) = (j + k) + 1 from rfl, s_it, s_it_stay n nb K h D hn j hs k]
    exact s_rd_still n nb K h _ hs n.toNat (by omega)
theorem s_flow_of (n : Int) (nb : Int → Int → Int) (K h D : Int → Int) (hn : 0 ≤ n) (j : Nat) (hj : j ≤ 300000) (hs : s_still n nb K h (s_it n nb K h j D)) : s_it n nb K h j D = s_flow n nb K h D := by
  have := s_it_stay n nb K h D hn j hs (300000 - j)
  rw [show j + (300000 - j) = 300000 by omega] at this
  exact this.symm
theorem s_flow_still (n : Int) (nb : Int → Int → Int) (K h D : Int → Int) (hn : 0 ≤ n) (hs : s_still n nb K h D) : s_flow n nb K h D = D := (s_flow_of n nb K h D hn 0 (by omega) hs).symm
theorem s_flow_ok (n : Int) (nb : Int → Int → Int) (K h D : Int → Int) (hE : s_env n nb K) (hok : s_ok n K h D) : s_ok n K h (s_flow n nb K h D) := s_it_ok n nb K h D hE hok _
/-- the class's wetBits -/
theorem p_wetBits_l1 (N : Nat) (n : Int) (D : Int → Int) (hn : 0 ≤ n ∧ n ≤ 36) : ∀ (f : Nat) (x : Int) (b : Int64), 0 ≤ x → x ≤ n → (n - x).toNat < f → (∀ y, 0 ≤ y → y < 64 → (s_bit b y ↔ y < x ∧ 0 < D y)) → ∃ b', m_X4_wetBits_l1 N n D f b x = some b' ∧ ∀ y, 0 ≤ y → y < 64 → (s_bit b' y ↔ y < n ∧ 0 < D y) := by
  intro f
  induction f with
  | zero => intro x b _ _ hf; omega
  | succ f ih =>
    intro x b h0 h1 hf hb
    rw [m_X4_wetBits_l1]
    by_cases hc : n ≤ x
    · rw [if_pos hc]
      have : x = n := by omega
      subst this
      exact ⟨b, rfl, hb⟩
    · rw [if_neg hc, if_neg (by omega), z_chk_pos (by omega)]
      by_cases hd : D x ≤ 0
      · rw [if_pos hd, z_chk_pos (by omega)]
        refine ih (x + 1) b (by omega) (by omega) (by omega) (fun y g0 g1 => ?_)
        rw [hb y g0 g1]
        constructor
        · intro q; omega
        · intro q
          refine ⟨?_, q.2⟩
          have : y ≠ x := fun z => by rw [z] at q; omega
          omega
      · rw [if_neg hd, z_chk_pos (by omega)]
        refine ih (x + 1) _ (by omega) (by omega) (by omega) (fun y g0 g1 => ?_)
        rw [s_bit_or, hb y g0 g1, s_bit_one (by omega) g0]
        constructor
        · rintro (q | rfl) <;> omega
        · intro q
          by_cases z : y = x
          · exact Or.inr z
          · exact Or.inl ⟨by omega, q.2⟩
theorem p_wetBits (N : Nat) (hN : 100 ≤ N) (n : Int) (D : Int → Int) (hn : 0 ≤ n ∧ n ≤ 36) : ∃ b', m_X4_wetBits N D n = some b' ∧ ∀ y, 0 ≤ y → y < 64 → (s_bit b' y ↔ y < n ∧ 0 < D y) := by
  obtain ⟨b', e, hb⟩ := p_wetBits_l1 N n D hn N 0 0 (by omega) (by omega) (by omega) (fun y g0 g1 => ⟨fun q => absurd q (s_bit_0 y), fun q => by omega⟩)
  exact ⟨b', by rw [m_X4_wetBits, e, p_b1], hb⟩
end
section
/-! FLOW in the class: restless cells; the whole flow -/
theorem p_bitsBeside (N : Nat) (n : Int) (bb : Int → Int64) (x : Int) (hn : n ≤ 36) (hx : 0 ≤ x ∧ x < n) : m_X0_bitsBeside N n bb x = some (bb x) := by
  have e0 : m_X0_holds N n x = some 1 := by rw [p_holds, if_pos (by omega)]
  rw [m_X0_bitsBeside, e0, p_b1, if_neg (by decide), z_chk_pos (by omega)]
def s_gb (n : Int) (nb : Int → Int → Int) (be : Int → Int) (bb : Int → Int64) : Prop := s_lk n nb n be bb
theorem p_flowFrom (N : Nat) (hN : 10 ≤ N) (n : Int) (nb : Int → Int → Int) (K h D be : Int → Int) (bb : Int → Int64) (hE : s_env n nb K) (hok : s_ok n K h D) (hg : s_gb n nb be bb) (r : Int64) (x : Int) (hx : 0 ≤ x ∧ x < n) : m_X4_flowFrom N h D r n K be bb x = some (s_step nb K h D x, if s_tgt nb K h D x < 0 then r &&& (z_lshl (1 : Int64) x ^^^ (-1 : Int64)) else r ||| bb x) := by
  have hn := hE.1
  rw [m_X4_flowFrom, p_whereTo N hN nb K h D be n hn hok hE.2.1 x hx (fun s a b => hg.1 x s hx.1 hx.2 a b), p_b1]
  unfold s_step
  by_cases ht : s_tgt nb K h D x < 0
  · rw [if_pos ht, if_pos ht, if_pos ht, if_neg (by decide)]
  · rw [if_neg ht, if_neg ht, if_neg ht]
    obtain ⟨h1, h2, h3, h4, h5, -⟩ := s_send n nb K h D hE hok x hx (by omega)
    generalize s_tgt nb K h D x = t at *
    have b := hok x hx.1 (by omega)
    have a := hok t (by omega) (by omega)
    rw [if_pos (by omega), z_chk_pos (by omega), z_chk_pos (by omega), z_chk_pos (by omega), p_putDrop N _ n K t (by
      intro y g0 g1
      have c := hok y g0 g1
      unfold z_up
      by_cases hy : y = x
      · rw [if_pos hy]; omega
      · rw [if_neg hy]; omega), p_b1, p_bitsBeside N n bb x (by omega) hx, p_b1]
    congr 2
    unfold s_drop
    by_cases hc : K t ≠ 2 ∧ z_up D x (D x - 1) t < 60
    · rw [if_pos hc, if_pos ⟨by omega, h2, by omega, h3, hc.1, hc.2⟩]
    · rw [if_neg hc, if_neg (fun z => hc ⟨z.2.2.2.2.1, z.2.2.2.2.2⟩)]
def s_ri (n : Int) (nb : Int → Int → Int) (K h : Int → Int) (r : Int64) (D : Int → Int) : Prop := ∀ y, 0 ≤ y → y < 64 → (s_bit r y → y < n) ∧ (y < n → ¬ s_bit r y → s_tgt nb K h D y < 0)
theorem s_ri_step (n : Int) (nb : Int → Int → Int) (K h D be : Int → Int) (bb : Int → Int64) (hE : s_env n nb K) (hok : s_ok n K h D) (hg : s_gb n nb be bb) (r : Int64) (x : Int) (hx : 0 ≤ x ∧ x < n) (hr : s_ri n nb K h r D) (hb : s_bit r x) : s_ri n nb K h (if s_tgt nb K h D x < 0 then r &&& (z_lshl (1 : Int64) x ^^^ (-1 : Int64)) else r ||| bb x) (s_step nb K h D x) := by
  have hn := hE.1
  intro y g0 g1
  obtain ⟨r1, r2⟩ := hr y g0 g1
  unfold s_step
  by_cases ht : s_tgt nb K h D x < 0
  · rw [if_pos ht, if_pos ht, s_bit_and, s_bit_not (by omega) (by omega)]
    refine ⟨fun q => r1 q.1, fun hy q => ?_⟩
    by_cases hyx : y = x
    · rw [hyx]; exact ht
    · exact r2 hy (fun z => q ⟨z, hyx⟩)
  · rw [if_neg ht, if_neg ht, s_bit_or]
    obtain ⟨h1, h2, h3, h4, h5, s0, hs0, e0⟩ := s_send n nb K h D hE hok x hx (by omega)
    have gb := hg.2.1 x y hx.1 hx.2 g0 g1
    refine ⟨fun q => q.elim r1 (fun z => ?_), fun hy q => ?_⟩
    · obtain ⟨s, hs, e⟩ := gb.mp z
      rcases hE.2.1 x s with w | w <;> omega
    · have nb1 : ∀ s, 0 ≤ s → s ≤ 3 → nb x s ≠ y := fun s a b e => q (Or.inr (gb.mpr ⟨s, ⟨a, b⟩, e⟩))
      have old := r2 hy (fun z => q (Or.inl z))
      have hyx : y ≠ x := fun z => q (Or.inl (by rw [z]; exact hb))
      rcases s_tgt_spec nb K h (s_drop K D x (s_tgt nb K h D x)) y with w | ⟨s, hs, -, hv⟩
      · exact w
      · exfalso
        have key : ∀ z, s_drop K D x (s_tgt nb K h D x) z = if z = x then D x - 1 else if z = s_tgt nb K h D x ∧ K (s_tgt nb K h D x) ≠ 2 ∧ D (s_tgt nb K h D x) < 60 then D (s_tgt nb K h D x) + 1 else D z := fun z => s_drop_at K D x _ z h4
        have hyt : y ≠ s_tgt nb K h D x := fun z => nb1 s0 hs0.1 hs0.2 (by rw [← e0]; exact z.symm)
        obtain ⟨v1, v2, v3⟩ := hv
        have ey : s_drop K D x (s_tgt nb K h D x) y = D y := by
          rw [key, if_neg hyx, if_neg (fun z => hyt z.1)]
        rw [ey] at v1
        have hKy : K y ≠ 3 := fun z => by
          have := (hok y g0 (by omega)).2.2 (Or.inr (Or.inr z))
          omega
        have hnx : nb y s ≠ x := fun z => by
          obtain ⟨s', hs', e'⟩ := hE.2.2 y s g0 hy hKy hs.1 hs.2 v2
          rw [z] at e'
          exact nb1 s' hs'.1 hs'.2 e'
        have le : s_lv h D (nb y s) ≤ s_lv h (s_drop K D x (s_tgt nb K h D x)) (nb y s) := by
          unfold s_lv
          rw [key (nb y s), if_neg hnx]
          split
          · rename_i c; rw [c.1]; omega
          · omega
        have el : s_lv h (s_drop K D x (s_tgt nb K h D x)) y = s_lv h D y := by unfold s_lv; rw [ey]
        rw [el] at v3
        have := s_tgt_has nb K h D y s hs ⟨v1, v2, by omega⟩
        omega
theorem p_flow_l2 (N : Nat) (hN : 100 ≤ N) (n : Int) (nb : Int → Int → Int) (K h D0 be : Int → Int) (bb : Int → Int64) (hE : s_env n nb K) (hok : s_ok n K h D0) (hg : s_gb n nb be bb) : ∀ (f : Nat) (x : Int) (r : Int64), 0 ≤ x → x ≤ n → (n - x).toNat < f → s_ri n nb K h r (s_rd nb K h x.toNat D0) → (s_phi h (s_rd nb K h x.toNat D0) n.toNat + 1 ≤ s_phi h D0 n.toNat ∨ (s_rd nb K h x.toNat D0 = D0 ∧ ∀ y, 0 ≤ y → y < x → ¬ s_bit r y)) → ∃ r', m_X4_flow_l2 N n h K be bb f x (s_rd nb K h x.toNat D0) r = some (s_rd nb K h n.toNat D0, r') ∧ s_ri n nb K h r' (s_rd nb K h n.toNat D0) ∧ (s_phi h (s_rd nb K h n.toNat D0) n.toNat + 1 ≤ s_phi h D0 n.toNat ∨ ∀ y, 0 ≤ y → y < 64 → ¬ s_bit r' y) := by
  have hn := hE.1
  intro f
  induction f with
  | zero => intro x r _ _ hf; omega
  | succ f ih =>
    intro x r g0 g1 hf hr hp
    rw [m_X4_flow_l2]
    by_cases hc : n ≤ x
    · rw [if_pos hc]
      have : x = n := by omega
      subst this
      refine ⟨r, rfl, hr, hp.imp id (fun q y a b z => ?_)⟩
      exact q.2 y a ((hr y a b).1 z) z
    · rw [if_neg hc, if_neg (by omega)]
      have hokx := s_rd_ok n nb K h D0 hE hok x.toNat (by omega)
      have ex : (x + 1).toNat = x.toNat + 1 := by omega
      have exx : ((x.toNat : Nat) : Int) = x := by omega
      have sx : s_rd nb K h (x + 1).toNat D0 = s_step nb K h (s_rd nb K h x.toNat D0) x := by rw [ex, s_rd, exx]
      by_cases hb : s_bit r x
      · have tt : z_lcmp ((z_lshr r x) &&& (1 : Int64)) (1 : Int64) = 0 := (s_tst (by omega)).mpr hb
        rw [if_neg (fun z => z tt), p_flowFrom N (by omega) n nb K h _ be bb hE hokx hg r x (by omega), p_b2, z_chk_pos (by omega), ← sx]
        have ri := s_ri_step n nb K h _ be bb hE hokx hg r x (by omega) hr hb
        refine ih (x + 1) _ (by omega) (by omega) (by omega) (by rw [sx]; exact ri) ?_
        by_cases ht : s_tgt nb K h (s_rd nb K h x.toNat D0) x < 0
        · have es : s_step nb K h (s_rd nb K h x.toNat D0) x = s_rd nb K h x.toNat D0 := by unfold s_step; rw [if_pos ht]
          rw [sx, es, if_pos ht]
          refine hp.imp id (fun q => ⟨q.1, fun y a b z => ?_⟩)
          rw [s_bit_and, s_bit_not (by omega) (by omega)] at z
          exact q.2 y a (by omega) z.1
        · left
          have := s_phi_step n nb K h _ hE hokx x (by omega) (by omega)
          rw [← sx] at this
          rcases hp with q | q
          · omega
          · rw [q.1] at this
            rw [sx, q.1]
            rw [sx, q.1] at this
            exact this
      · have tt : ¬ z_lcmp ((z_lshr r x) &&& (1 : Int64)) (1 : Int64) = 0 := fun z => hb ((s_tst (by omega)).mp z)
        rw [if_pos tt, z_chk_pos (by omega)]
        have ht := (hr x g0 (by omega)).2 (by omega) hb
        have es : s_step nb K h (s_rd nb K h x.toNat D0) x = s_rd nb K h x.toNat D0 := by unfold s_step; rw [if_pos ht]
        have sx' : s_rd nb K h (x + 1).toNat D0 = s_rd nb K h x.toNat D0 := by rw [sx, es]
        rw [← sx']
        refine ih (x + 1) r (by omega) (by omega) (by omega) (by rw [sx']; exact hr) ?_
        rw [sx']
        refine hp.imp id (fun q => ⟨q.1, fun y a b z => ?_⟩)
        by_cases hy : y = x
        · exact hb (by rw [← hy]; exact z)
        · exact q.2 y a (by omega) z
theorem p_flow_l1 (N : Nat) (hN : 100 ≤ N) (n : Int) (nb : Int → Int → Int) (K h D0 be : Int → Int) (bb : Int → Int64) (hE : s_env n nb K) (hok : s_ok n K h D0) (hg : s_gb n nb be bb) : ∀ (f : Nat) (j : Nat) (r : Int64), s_ri n nb K h r (s_it n nb K h j D0) → ((r = 0 ∧ 1 ≤ f ∧ (j : Int) ≤ s_phi h D0 n.toNat + 1) ∨ (s_phi h (s_it n nb K h j D0) n.toNat + j ≤ s_phi h D0 n.toNat ∧ s_phi h D0 n.toNat - j + 2 ≤ f)) → ∃ j' r', m_X4_flow_l1 N n h K be bb f j (s_it n nb K h j D0) r = some (s_it n nb K h j' D0, r') ∧ j' ≤ 300000 ∧ s_still n nb K h (s_it n nb K h j' D0) := by
  have hn := hE.1
  have hphi := s_phi_le n K h D0 hok n.toNat (by omega)
  intro f
  induction f with
  | zero =>
    intro j r hr hf
    rcases hf with q | q
    · omega
    · have := s_phi_nn h (s_it n nb K h j D0) n.toNat
      omega
  | succ f ih =>
    intro j r hr hf
    have nn := s_phi_nn h (s_it n nb K h j D0) n.toNat
    rw [m_X4_flow_l1]
    by_cases h0 : r = 0
    · rw [if_pos ((s_lcmp r 0).mpr h0)]
      refine ⟨j, r, rfl, by omega, fun y a b => ?_⟩
      exact (hr y a (by omega)).2 b (s_empty.mp h0 y a (by omega))
    · rw [if_neg (fun z => h0 ((s_lcmp r 0).mp z))]
      rcases hf with q | q
      · exact absurd q.1 h0
      · rw [if_neg (by omega)]
        have okj := s_it_ok n nb K h D0 hE hok j
        have base : s_rd nb K h (0 : Int).toNat (s_it n nb K h j D0) = s_it n nb K h j D0 := rfl
        obtain ⟨r', e, hr', hd⟩ := p_flow_l2 N hN n nb K h (s_it n nb K h j D0) be bb hE okj hg N 0 r (by omega) (by omega) (by omega) (by rw [base]; exact hr) (Or.inr ⟨base, fun y a b => by omega⟩)
        rw [base] at e
        have en : s_rd nb K h n.toNat (s_it n nb K h j D0) = s_it n nb K h (j + 1) D0 := rfl
        rw [en] at e hr' hd
        rw [e, p_b2, z_chk_pos (by omega)]
        have := ih (j + 1) r' hr' (by
          by_cases h1 : r' = 0
          · left
            refine ⟨h1, by omega, by omega⟩
          · right
            rcases hd with w | w
            · exact ⟨by omega, by omega⟩
            · exact absurd (s_empty.mpr w) h1)
        rw [show ((j + 1 : Nat) : Int) = (j : Int) + 1 by omega] at this
        exact this
theorem p_flow (N : Nat) (hN : 1000000 ≤ N) (n : Int) (nb : Int → Int → Int) (K h D be : Int → Int) (bb : Int → Int64) (hE : s_env n nb K) (hok : s_ok n K h D) (hg : s_gb n nb be bb) (r : Int64) : ∃ r', m_X4_flow N h D r n K be bb = some (s_flow n nb K h D, r') := by
  have hn := hE.1
  have hphi := s_phi_le n K h D hok n.toNat (by omega)
  have nn := s_phi_nn h D n.toNat
  obtain ⟨b, e, hb⟩ := p_wetBits N (by omega) n D hn
  have base : s_it n nb K h 0 D = D := rfl
  obtain ⟨j', r', e2, hj, hs⟩ := p_flow_l1 N (by omega) n nb K h D be bb hE hok hg N 0 b (by
    rw [base]
    intro y a c
    refine ⟨fun q => ((hb y a c).mp q).1, fun q z => ?_⟩
    rcases s_tgt_spec nb K h D y with w | ⟨s, -, -, hv⟩
    · exact w
    · exact absurd ((hb y a c).mpr ⟨q, hv.1⟩) z) (by
    by_cases h0 : b = 0
    · exact Or.inl ⟨h0, by omega, by omega⟩
    · right
      rw [base]
      constructor
      · omega
      · omega)
  rw [base] at e2
  refine ⟨r', ?_⟩
  rw [m_X4_flow, e, p_b1]
  show z_b2 (m_X4_flow_l1 N n h K be bb N ((0 : Nat) : Int) D b) _ = _
  rw [e2, p_b2, s_flow_of n nb K h D hn.1 j' hj hs]
end
section
/-! FLOW in the reference -/
def s_ag (s h D : Int → Int) (hr : Int) : Prop := (∀ x, 0 ≤ x → x < 36 → s x = D x) ∧ (∀ x, 0 ≤ x → x < 36 → s (36 + x) = h x) ∧ s 72 = hr
def s_tk (R C : Int) (K t : Int → Int) : Prop := s_dim R C ∧ t 0 = R ∧ t 1 = C ∧ ∀ i, 0 ≤ i → i < 36 → t (3 + i) = K i
theorem s_env_nb {R C : Int} (K : Int → Int) (h : s_dim R C) : s_env (R * C) (s_nb R C K) K := by
  have hn := s_dim_n h
  exact ⟨by omega, fun x s => s_nb_in, fun x s a b c d e f => s_nb_sym h ⟨a, b⟩ c ⟨d, e⟩ f⟩
theorem p6_cells {R C : Int} {K t : Int → Int} (N : Nat) (h : s_tk R C K t) : m_X6_cells N t = some (R * C) := by
  have hn := s_dim_n h.1
  rw [p_cells N t (by rw [h.2.1, h.2.2.1]; omega), h.2.1, h.2.2.1]
theorem p6_isCell {R C : Int} {K t : Int → Int} (N : Nat) (h : s_tk R C K t) (x : Int) : m_X6_isCell N t x = some (if 0 ≤ x ∧ x < R * C then 1 else 0) := by
  have hn := s_dim_n h.1
  rw [p_isCell N t x (by rw [h.2.1, h.2.2.1]; omega) (by rw [h.2.1, h.2.2.1]; omega), h.2.1, h.2.2.1]
theorem p6_nb {R C : Int} {K t : Int → Int} (N : Nat) (h : s_tk R C K t) (x s : Int) (hx : 0 ≤ x ∧ x < R * C) (hs : 0 ≤ s ∧ s ≤ 3) : m_X6_beside N t x s = some (s_nb R C K x s) := p6_beside N t K R C x s h.1 h.2.1 h.2.2.1 h.2.2.2 hx hs
theorem p6_level (N : Nat) (n hr : Int) (K s h D : Int → Int) (ha : s_ag s h D hr) (hok : s_ok n K h D) (x : Int) (hx : 0 ≤ x ∧ x < 36) : m_X6_level N s x = some (s_lv h D x) := by
  have q := hok x hx.1 hx.2
  have a := ha.1 x hx.1 hx.2
  have b := ha.2.1 x hx.1 hx.2
  unfold m_X6_level s_lv
  rw [a, b, z_chk_pos (by omega), z_chk_pos (by omega), z_chk_pos (by omega), z_chk_pos (by omega)]
theorem p6_drops (N : Nat) (n hr : Int) (K t s h D : Int → Int) (hK : ∀ i, 0 ≤ i → i < 36 → t (3 + i) = K i) (ha : s_ag s h D hr) (hok : s_ok n K h D) (x to : Int) (hx : 0 ≤ x ∧ x < 36) (hto : 0 ≤ to ∧ to < 36) (hne : x ≠ to) (hd : 0 < D x) : ∃ s', m_X6_drops N t s x to = some s' ∧ s_ag s' h (s_drop K D x to) hr := by
  have q := hok x hx.1 hx.2
  have q2 := hok to hto.1 hto.2
  have a := ha.1 x hx.1 hx.2
  have a2 := ha.1 to hto.1 hto.2
  have e : z_up s x (s x - 1) to = D to := by
    unfold z_up
    rw [if_neg (fun z => hne z.symm), a2]
  have ag : ∀ v, v = (if K to ≠ 2 ∧ D to < 60 then D to + 1 else D to) → s_ag (z_up (z_up s x (s x - 1)) to v) h (s_drop K D x to) hr := by
    intro v hv
    refine ⟨fun y g0 g1 => ?_, fun y g0 g1 => ?_, ?_⟩
    · rw [s_drop_at K D x to y hne]
      have ay := ha.1 y g0 g1
      unfold z_up
      by_cases h1 : y = to
      · rw [if_pos h1, if_neg (fun z => hne (z.symm.trans h1)), hv]
        by_cases hc : K to ≠ 2 ∧ D to < 60
        · rw [if_pos hc, if_pos ⟨h1, hc.1, hc.2⟩]
        · rw [if_neg hc, if_neg (fun z => hc z.2), h1]
      · by_cases h2 : y = x
        · rw [if_neg h1, if_pos h2, if_pos h2, a]
        · rw [if_neg h1, if_neg h2, if_neg h2, if_neg (fun z => h1 z.1), ay]
    · unfold z_up
      rw [if_neg (by omega), if_neg (by omega)]
      exact ha.2.1 y g0 g1
    · unfold z_up
      rw [if_neg (by omega), if_neg (by omega)]
      exact ha.2.2
  unfold m_X6_drops
  rw [z_chk_pos (by omega), z_chk_pos (by omega), z_chk_pos (by omega), z_chk_pos (by omega), z_chk_pos (by omega), z_chk_pos (by omega), hK to hto.1 hto.2, e]
  by_cases h2 : K to = 2
  · rw [if_pos h2, z_chk_pos (by omega), z_chk_pos (by omega)]
    exact ⟨_, rfl, ag _ (by rw [if_neg (fun z => z.1 h2), Int.add_zero])⟩
  · rw [if_neg h2, z_chk_pos (by omega)]
    by_cases h6 : 60 ≤ D to
    · rw [if_pos h6, z_chk_pos (by omega), z_chk_pos (by omega)]
      exact ⟨_, rfl, ag _ (by rw [if_neg (fun z => by omega), Int.add_zero])⟩
    · rw [if_neg h6, z_chk_pos (by omega), z_chk_pos (by omega)]
      exact ⟨_, rfl, ag _ (by rw [if_pos ⟨h2, by omega⟩])⟩
theorem p6_sends_step (N : Nat) (R C hr : Int) (K t s h D : Int → Int) (ht : s_tk R C K t) (ha : s_ag s h D hr) (hok : s_ok (R * C) K h D) (x v : Int) (hx : 0 ≤ x ∧ x < R * C) (hv : 0 ≤ v ∧ v ≤ 3) (hd : 0 < D x) (f : Nat) (p : Int × Int) (hp : p.1 < 0 ∨ (p.1 < R * C ∧ p.2 = s_lv h D p.1)) : m_X6_sends_l1 N x s t (f + 1) p.1 v = m_X6_sends_l1 N x s t f (s_bc (s_nb R C K) K h D x v p).1 (v + -1) ∧ ((s_bc (s_nb R C K) K h D x v p).1 < 0 ∨ ((s_bc (s_nb R C K) K h D x v p).1 < R * C ∧ (s_bc (s_nb R C K) K h D x v p).2 = s_lv h D (s_bc (s_nb R C K) K h D x v p).1)) := by
  have hn := s_dim_n ht.1
  have a := ha.1 x hx.1 (by omega)
  have hnb := s_nb_in (R := R) (C := C) (K := K) (x := x) (s := v)
  refine ⟨?_, ?_⟩
  · rw [m_X6_sends_l1, if_neg (by omega), z_chk_pos (by omega), a, if_neg (by omega), p6_nb N ht x v hx hv, p_b1]
    unfold s_bc
    generalize s_nb R C K x v = y at *
    by_cases hy : y < 0
    · rw [if_pos hy, p_b1, if_pos hy, p_b1, if_pos rfl, z_chk_pos (by omega), if_neg (fun z => by omega)]
    · have hy2 : 0 ≤ y ∧ y < R * C ∧ K y ≠ 3 := by omega
      have ky := ht.2.2.2 y (by omega) (by omega)
      have ly := p6_level N (R * C) hr K s h D ha hok y (by omega)
      have lx := p6_level N (R * C) hr K s h D ha hok x (by omega)
      have by0 := hok y (by omega) (by omega)
      have bx0 := hok x (by omega) (by omega)
      have gy : 0 ≤ s_lv h D y ∧ s_lv h D y ≤ 80 := by unfold s_lv; omega
      rw [if_neg hy, z_chk_pos (by omega), z_chk_pos (by omega), ky]
      by_cases h2 : K y = 2
      · rw [if_neg (fun z => z h2), p_b1, if_neg hy, ly, p_b1, z_chk_pos (by omega), lx, p_b1, if_pos h2]
        by_cases hc : s_lv h D x < s_lv h D y + 1
        · rw [if_pos hc, p_b1, if_pos rfl, z_chk_pos (by omega), if_neg (fun z => by omega)]
        · rw [if_neg hc, p_b1, if_neg (by decide)]
          by_cases hp0 : p.1 < 0
          · rw [if_pos hp0, z_chk_pos (by omega), if_pos ⟨hd, by omega, by omega, Or.inl hp0⟩]
          · have lp := p6_level N (R * C) hr K s h D ha hok p.1 (by omega)
            rw [if_neg hp0, p_b1, lp, p_b1]
            have hp2 : p.2 = s_lv h D p.1 := by omega
            by_cases hl : s_lv h D p.1 < s_lv h D y
            · rw [if_pos hl, z_chk_pos (by omega), if_neg (fun z => by omega)]
            · rw [if_neg hl, z_chk_pos (by omega), if_pos ⟨hd, by omega, by omega, Or.inr (by omega)⟩]
      · rw [if_pos h2, p_b1, if_neg hy, ly, p_b1, z_chk_pos (by omega), lx, p_b1, if_neg h2]
        by_cases hc : s_lv h D x < s_lv h D y + 2
        · rw [if_pos hc, p_b1, if_pos rfl, z_chk_pos (by omega), if_neg (fun z => by omega)]
        · rw [if_neg hc, p_b1, if_neg (by decide)]
          by_cases hp0 : p.1 < 0
          · rw [if_pos hp0, z_chk_pos (by omega), if_pos ⟨hd, by omega, by omega, Or.inl hp0⟩]
          · have lp := p6_level N (R * C) hr K s h D ha hok p.1 (by omega)
            rw [if_neg hp0, p_b1, lp, p_b1]
            have hp2 : p.2 = s_lv h D p.1 := by omega
            by_cases hl : s_lv h D p.1 < s_lv h D y
            · rw [if_pos hl, z_chk_pos (by omega), if_neg (fun z => by omega)]
            · rw [if_neg hl, z_chk_pos (by omega), if_pos ⟨hd, by omega, by omega, Or.inr (by omega)⟩]
  · rcases s_bc_or (s_nb R C K) K h D x v p with ⟨hv2, e⟩ | e
    · rw [e]
      right
      have := hv2.2.1
      refine ⟨?_, rfl⟩
      show s_nb R C K x v < R * C
      omega
    · rw [e]; exact hp
theorem p6_sends (N : Nat) (hN : 10 ≤ N) (R C hr : Int) (K t s h D : Int → Int) (ht : s_tk R C K t) (ha : s_ag s h D hr) (hok : s_ok (R * C) K h D) (x : Int) (hx : 0 ≤ x ∧ x < R * C) : ∃ s', m_X6_sends N t s x = some (if s_tgt (s_nb R C K) K h D x < 0 then 0 else 1, s') ∧ s_ag s' h (s_step (s_nb R C K) K h D x) hr := by
  have hn := s_dim_n ht.1
  have hE := s_env_nb K ht.1
  have a := ha.1 x hx.1 (by omega)
  have q := hok x hx.1 (by omega)
  obtain ⟨M, rfl⟩ : ∃ M, N = M + 5 := ⟨N - 5, by omega⟩
  have loop : m_X6_sends_l1 (M + 5) x s t (M + 5) (-1) 3 = some (s_tgt (s_nb R C K) K h D x) := by
    by_cases hd : D x ≤ 0
    · have : s_tgt (s_nb R C K) K h D x = -1 := by
        unfold s_tgt
        have e : ∀ s p, s_bc (s_nb R C K) K h D x s p = p := fun s p => if_neg (by omega)
        rw [e, e, e, e]
      rw [this, m_X6_sends_l1, if_neg (by omega), z_chk_pos (by omega), a, if_pos hd]
    · have st := fun v hv f p hp => p6_sends_step (M + 5) R C hr K t s h D ht ha hok x v hx hv (by omega) f p hp
      obtain ⟨e3, i3⟩ := st 3 (by omega) (M + 4) (-1, 0) (Or.inl (by decide))
      obtain ⟨e2, i2⟩ := st 2 (by omega) (M + 3) _ i3
      obtain ⟨e1, i1⟩ := st 1 (by omega) (M + 2) _ i2
      obtain ⟨e0, i0⟩ := st 0 (by omega) (M + 1) _ i1
      simp only [show (3 : Int) + -1 = 2 from rfl, show (2 : Int) + -1 = 1 from rfl, show (1 : Int) + -1 = 0 from rfl, show (0 : Int) + -1 = -1 from rfl] at e3 e2 e1 e0
      rw [show m_X6_sends_l1 (M + 5) x s t (M + 5) (-1) 3 = m_X6_sends_l1 (M + 5) x s t (M + 4 + 1) ((-1, 0) : Int × Int).1 3 from rfl, e3, e2, e1, e0, m_X6_sends_l1, if_pos (by decide)]
      rfl
  rw [m_X6_sends, loop, p_b1]
  unfold s_step
  by_cases hts : s_tgt (s_nb R C K) K h D x < 0
  · rw [if_pos hts, p_b1, if_pos hts, if_pos hts, if_pos hts]
    exact ⟨s, rfl, ha⟩
  · obtain ⟨h1, h2, h3, h4, h5, -⟩ := s_send (R * C) (s_nb R C K) K h D hE hok x hx (by omega)
    obtain ⟨s', e, ha'⟩ := p6_drops (M + 5) (R * C) hr K t s h D ht.2.2.2 ha hok x _ (by omega) (by omega) h4 h1
    rw [if_neg hts, e, p_b1, p_b1, if_neg hts, if_neg hts, if_neg hts]
    exact ⟨s', rfl, ha'⟩
theorem p6_flows_l2 (N : Nat) (hN : 10 ≤ N) (R C hr : Int) (K t h D0 : Int → Int) (ht : s_tk R C K t) (hok : s_ok (R * C) K h D0) : ∀ (f : Nat) (x m : Int) (s : Int → Int), 0 ≤ x → x ≤ R * C → (R * C - x).toNat < f → s_ag s h (s_rd (s_nb R C K) K h x.toNat D0) hr → ((m = 1 ∧ s_phi h (s_rd (s_nb R C K) K h x.toNat D0) (R * C).toNat + 1 ≤ s_phi h D0 (R * C).toNat) ∨ (m = 0 ∧ s_rd (s_nb R C K) K h x.toNat D0 = D0 ∧ ∀ y, 0 ≤ y → y < x → s_tgt (s_nb R C K) K h D0 y < 0)) → ∃ m' s', m_X6_flows_l2 N t f m x s = some (m', s') ∧ s_ag s' h (s_rd (s_nb R C K) K h (R * C).toNat D0) hr ∧ ((m' = 1 ∧ s_phi h (s_rd (s_nb R C K) K h (R * C).toNat D0) (R * C).toNat + 1 ≤ s_phi h D0 (R * C).toNat) ∨ (m' = 0 ∧ s_rd (s_nb R C K) K h (R * C).toNat D0 = D0 ∧ s_still (R * C) (s_nb R C K) K h D0)) := by
  have hn := s_dim_n ht.1
  have hE := s_env_nb K ht.1
  intro f
  induction f with
  | zero => intro x m s _ _ hf; omega
  | succ f ih =>
    intro x m s g0 g1 hf ha hp
    rw [m_X6_flows_l2, p6_cells N ht, p_b1]
    by_cases hc : R * C ≤ x
    · rw [if_pos hc]
      have : x = R * C := by omega
      subst this
      exact ⟨m, s, rfl, ha, hp.imp id (fun q => ⟨q.1, q.2.1, q.2.2⟩)⟩
    · rw [if_neg hc]
      have hokx := s_rd_ok (R * C) (s_nb R C K) K h D0 hE hok x.toNat (by omega)
      have ex : (x + 1).toNat = x.toNat + 1 := by omega
      have exx : ((x.toNat : Nat) : Int) = x := by omega
      have sx : s_rd (s_nb R C K) K h (x + 1).toNat D0 = s_step (s_nb R C K) K h (s_rd (s_nb R C K) K h x.toNat D0) x := by rw [ex, s_rd, exx]
      obtain ⟨s', e, ha'⟩ := p6_sends N hN R C hr K t s h _ ht ha hokx x (by omega)
      rw [← sx] at ha'
      rw [e, p_b2]
      by_cases hts : s_tgt (s_nb R C K) K h (s_rd (s_nb R C K) K h x.toNat D0) x < 0
      · have es : s_step (s_nb R C K) K h (s_rd (s_nb R C K) K h x.toNat D0) x = s_rd (s_nb R C K) K h x.toNat D0 := by unfold s_step; rw [if_pos hts]
        have sx' := sx.trans es
        rw [if_pos hts]
        rcases hp with ⟨hm, hphi⟩ | ⟨hm, hD, hall⟩
        · subst hm
          rw [if_pos (by decide), z_chk_pos (by omega)]
          exact ih (x + 1) 1 s' (by omega) (by omega) (by omega) ha' (Or.inl ⟨rfl, by rw [sx']; exact hphi⟩)
        · subst hm
          rw [if_neg (by decide), if_pos rfl, z_chk_pos (by omega)]
          refine ih (x + 1) 0 s' (by omega) (by omega) (by omega) ha' (Or.inr ⟨rfl, by rw [sx']; exact hD, fun y a b => ?_⟩)
          by_cases hy : y = x
          · rw [hD] at hts
            rw [hy]; exact hts
          · exact hall y a (by omega)
      · have ph := s_phi_step (R * C) (s_nb R C K) K h _ hE hokx x (by omega) (by omega)
        rw [← sx] at ph
        have ph2 : s_phi h (s_rd (s_nb R C K) K h (x + 1).toNat D0) (R * C).toNat + 1 ≤ s_phi h D0 (R * C).toNat := by
          rcases hp with ⟨hm, hphi⟩ | ⟨hm, hD, hall⟩
          · omega
          · rw [hD] at ph; exact ph
        rw [if_neg hts]
        rcases hp with ⟨hm, hphi⟩ | ⟨hm, hD, hall⟩
        · subst hm
          rw [if_pos (by decide), z_chk_pos (by omega)]
          exact ih (x + 1) 1 s' (by omega) (by omega) (by omega) ha' (Or.inl ⟨rfl, ph2⟩)
        · subst hm
          rw [if_neg (by decide), if_neg (by decide), z_chk_pos (by omega)]
          exact ih (x + 1) 1 s' (by omega) (by omega) (by omega) ha' (Or.inl ⟨rfl, ph2⟩)
theorem p6_flows_l1 (N : Nat) (hN : 100 ≤ N) (R C hr : Int) (K t h D0 : Int → Int) (ht : s_tk R C K t) (hok : s_ok (R * C) K h D0) : ∀ (f : Nat) (j : Nat) (m : Int) (s : Int → Int), s_ag s h (s_it (R * C) (s_nb R C K) K h j D0) hr → ((m = 0 ∧ 1 ≤ f ∧ j ≤ 300000 ∧ s_still (R * C) (s_nb R C K) K h (s_it (R * C) (s_nb R C K) K h j D0)) ∨ (m = 1 ∧ s_phi h (s_it (R * C) (s_nb R C K) K h j D0) (R * C).toNat + j ≤ s_phi h D0 (R * C).toNat ∧ s_phi h D0 (R * C).toNat - j + 3 ≤ f)) → ∃ s', m_X6_flows_l1 N t f m s = some s' ∧ s_ag s' h (s_flow (R * C) (s_nb R C K) K h D0) hr := by
  have hn := s_dim_n ht.1
  have hE := s_env_nb K ht.1
  have hphi := s_phi_le (R * C) K h D0 hok (R * C).toNat (by omega)
  intro f
  induction f with
  | zero =>
    intro j m s ha hf
    have := s_phi_nn h (s_it (R * C) (s_nb R C K) K h j D0) (R * C).toNat
    rcases hf with q | q <;> omega
  | succ f ih =>
    intro j m s ha hf
    have nn := s_phi_nn h (s_it (R * C) (s_nb R C K) K h j D0) (R * C).toNat
    rw [m_X6_flows_l1]
    rcases hf with ⟨hm, -, hj, hs⟩ | ⟨hm, h1, h2⟩
    · rw [if_pos hm]
      refine ⟨s, rfl, ?_⟩
      rw [← s_flow_of (R * C) (s_nb R C K) K h D0 (by omega) j hj hs]
      exact ha
    · rw [if_neg (by omega)]
      have okj := s_it_ok (R * C) (s_nb R C K) K h D0 hE hok j
      have base : s_rd (s_nb R C K) K h (0 : Int).toNat (s_it (R * C) (s_nb R C K) K h j D0) = s_it (R * C) (s_nb R C K) K h j D0 := rfl
      obtain ⟨m', s', e, ha', hd⟩ := p6_flows_l2 N (by omega) R C hr K t h (s_it (R * C) (s_nb R C K) K h j D0) ht okj N 0 0 s (by omega) (by omega) (by omega) (by rw [base]; exact ha) (Or.inr ⟨rfl, base, fun y a b => by omega⟩)
      have en : s_rd (s_nb R C K) K h (R * C).toNat (s_it (R * C) (s_nb R C K) K h j D0) = s_it (R * C) (s_nb R C K) K h (j + 1) D0 := rfl
      rw [en] at ha' hd
      rw [e, p_b2]
      refine ih (j + 1) m' s' ha' ?_
      rcases hd with ⟨a, b⟩ | ⟨a, b, c⟩
      · exact Or.inr ⟨a, by omega, by omega⟩
      · exact Or.inl ⟨a, by omega, by omega, by rw [b]; exact c⟩
theorem p6_flows (N : Nat) (hN : 1000000 ≤ N) (R C hr : Int) (K t s h D : Int → Int) (ht : s_tk R C K t) (ha : s_ag s h D hr) (hok : s_ok (R * C) K h D) : ∃ s', m_X6_flows N t s = some s' ∧ s_ag s' h (s_flow (R * C) (s_nb R C K) K h D) hr := by
  have hn := s_dim_n ht.1
  have hphi := s_phi_le (R * C) K h D hok (R * C).toNat (by omega)
  obtain ⟨s', e, h2⟩ := p6_flows_l1 N (by omega) R C hr K t h D ht hok N 0 1 s ha (Or.inr ⟨rfl, by
    show s_phi h D (R * C).toNat + 0 ≤ s_phi h D (R * C).toNat
    omega, by omega⟩)
  exact ⟨s', by rw [m_X6_flows, e, p_b1], h2⟩
end
