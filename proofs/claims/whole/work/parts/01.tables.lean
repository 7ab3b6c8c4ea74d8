/-- a private method of a class that the tables say can be made, by its rows of tables_1 -/
def lw_okq (q : MethodName × Nat) : Prop := (q.1.cls ≠ "java/lang/invoke/MethodHandle" ∧ q.1.cls ≠ "java/lang/invoke/VarHandle") ∧ Cond.instantiable q.1.cls q.2 ∈ tables_1 ∧ Cond.privateMethod q.1 ∈ tables_1 ∧ Cond.instanceMethod q.1 ∈ tables_1
theorem lw_p0 : lw_okq (⟨"PuddleStates", "layText", "()Z"⟩, 11) := ⟨⟨by decide +kernel, by decide +kernel⟩, List.mem_of_getElem? (i := 17) (by decide +kernel), List.mem_of_getElem? (i := 203) (by decide +kernel), List.mem_of_getElem? (i := 204) (by decide +kernel)⟩
theorem lw_p1 : lw_okq (⟨"PuddleStates$Text", "nextLetter", "()I"⟩, 3) := ⟨⟨by decide +kernel, by decide +kernel⟩, List.mem_of_getElem? (i := 25) (by decide +kernel), List.mem_of_getElem? (i := 230) (by decide +kernel), List.mem_of_getElem? (i := 231) (by decide +kernel)⟩
theorem lw_p2 : lw_okq (⟨"PuddleStates$Text", "peek", "()I"⟩, 3) := ⟨⟨by decide +kernel, by decide +kernel⟩, List.mem_of_getElem? (i := 25) (by decide +kernel), List.mem_of_getElem? (i := 234) (by decide +kernel), List.mem_of_getElem? (i := 235) (by decide +kernel)⟩
theorem lw_p3 : lw_okq (⟨"PuddleStates$Text", "nextNumber", "()I"⟩, 3) := ⟨⟨by decide +kernel, by decide +kernel⟩, List.mem_of_getElem? (i := 25) (by decide +kernel), List.mem_of_getElem? (i := 238) (by decide +kernel), List.mem_of_getElem? (i := 239) (by decide +kernel)⟩
theorem lw_p4 : lw_okq (⟨"PuddleStates$Text", "nextFigure", "()I"⟩, 3) := ⟨⟨by decide +kernel, by decide +kernel⟩, List.mem_of_getElem? (i := 25) (by decide +kernel), List.mem_of_getElem? (i := 242) (by decide +kernel), List.mem_of_getElem? (i := 243) (by decide +kernel)⟩
theorem lw_p5 : lw_okq (⟨"PuddleStates$Text", "skip", "(I)Z"⟩, 3) := ⟨⟨by decide +kernel, by decide +kernel⟩, List.mem_of_getElem? (i := 25) (by decide +kernel), List.mem_of_getElem? (i := 247) (by decide +kernel), List.mem_of_getElem? (i := 248) (by decide +kernel)⟩
theorem lw_p6 : lw_okq (⟨"PuddleStates$Ground", "linkSide", "(IIII)V"⟩, 6) := ⟨⟨by decide +kernel, by decide +kernel⟩, List.mem_of_getElem? (i := 43) (by decide +kernel), List.mem_of_getElem? (i := 269) (by decide +kernel), List.mem_of_getElem? (i := 270) (by decide +kernel)⟩
theorem lw_p7 : lw_okq (⟨"PuddleStates$Ground", "walkable", "(II)I"⟩, 6) := ⟨⟨by decide +kernel, by decide +kernel⟩, List.mem_of_getElem? (i := 43) (by decide +kernel), List.mem_of_getElem? (i := 274) (by decide +kernel), List.mem_of_getElem? (i := 275) (by decide +kernel)⟩
theorem lw_p8 : lw_okq (⟨"PuddleStates$Water", "flowFrom", "(LPuddleStates$Ground;I)V"⟩, 4) := ⟨⟨by decide +kernel, by decide +kernel⟩, List.mem_of_getElem? (i := 79) (by decide +kernel), List.mem_of_getElem? (i := 303) (by decide +kernel), List.mem_of_getElem? (i := 304) (by decide +kernel)⟩
theorem lw_p9 : lw_okq (⟨"PuddleStates$Water", "whereTo", "(LPuddleStates$Ground;I)I"⟩, 4) := ⟨⟨by decide +kernel, by decide +kernel⟩, List.mem_of_getElem? (i := 79) (by decide +kernel), List.mem_of_getElem? (i := 307) (by decide +kernel), List.mem_of_getElem? (i := 308) (by decide +kernel)⟩
theorem lw_p10 : lw_okq (⟨"PuddleStates$Water", "putDrop", "(LPuddleStates$Ground;I)V"⟩, 4) := ⟨⟨by decide +kernel, by decide +kernel⟩, List.mem_of_getElem? (i := 79) (by decide +kernel), List.mem_of_getElem? (i := 313) (by decide +kernel), List.mem_of_getElem? (i := 314) (by decide +kernel)⟩
theorem lw_p11 : lw_okq (⟨"PuddleStates$States", "spread", "(LPuddleStates$Ground;LPuddleStates$Water;I)V"⟩, 5) := ⟨⟨by decide +kernel, by decide +kernel⟩, List.mem_of_getElem? (i := 107) (by decide +kernel), List.mem_of_getElem? (i := 388) (by decide +kernel), List.mem_of_getElem? (i := 389) (by decide +kernel)⟩
theorem lw_p12 : lw_okq (⟨"PuddleStates$States", "claim", "(LPuddleStates$Water;II)V"⟩, 5) := ⟨⟨by decide +kernel, by decide +kernel⟩, List.mem_of_getElem? (i := 107) (by decide +kernel), List.mem_of_getElem? (i := 392) (by decide +kernel), List.mem_of_getElem? (i := 393) (by decide +kernel)⟩
theorem lw_p13 : lw_okq (⟨"PuddleStates$Past", "dropOldest", "()V"⟩, 4) := ⟨⟨by decide +kernel, by decide +kernel⟩, List.mem_of_getElem? (i := 130) (by decide +kernel), List.mem_of_getElem? (i := 424) (by decide +kernel), List.mem_of_getElem? (i := 425) (by decide +kernel)⟩
theorem lw_p14 : lw_okq (⟨"PuddleStates", "areTwo", "(II)Z"⟩, 11) := ⟨⟨by decide +kernel, by decide +kernel⟩, List.mem_of_getElem? (i := 17) (by decide +kernel), List.mem_of_getElem? (i := 496) (by decide +kernel), List.mem_of_getElem? (i := 497) (by decide +kernel)⟩
theorem lw_p15 : lw_okq (⟨"PuddleStates", "apartBehindRain", "(LPuddleStates$Ground;III)Z"⟩, 11) := ⟨⟨by decide +kernel, by decide +kernel⟩, List.mem_of_getElem? (i := 17) (by decide +kernel), List.mem_of_getElem? (i := 500) (by decide +kernel), List.mem_of_getElem? (i := 501) (by decide +kernel)⟩
def lw_privs_1 : List (MethodName × Nat) := [(⟨"PuddleStates", "layText", "()Z"⟩, 11), (⟨"PuddleStates$Text", "nextLetter", "()I"⟩, 3), (⟨"PuddleStates$Text", "peek", "()I"⟩, 3), (⟨"PuddleStates$Text", "nextNumber", "()I"⟩, 3), (⟨"PuddleStates$Text", "nextFigure", "()I"⟩, 3), (⟨"PuddleStates$Text", "skip", "(I)Z"⟩, 3), (⟨"PuddleStates$Ground", "linkSide", "(IIII)V"⟩, 6), (⟨"PuddleStates$Ground", "walkable", "(II)I"⟩, 6), (⟨"PuddleStates$Water", "flowFrom", "(LPuddleStates$Ground;I)V"⟩, 4), (⟨"PuddleStates$Water", "whereTo", "(LPuddleStates$Ground;I)I"⟩, 4), (⟨"PuddleStates$Water", "putDrop", "(LPuddleStates$Ground;I)V"⟩, 4), (⟨"PuddleStates$States", "spread", "(LPuddleStates$Ground;LPuddleStates$Water;I)V"⟩, 5), (⟨"PuddleStates$States", "claim", "(LPuddleStates$Water;II)V"⟩, 5), (⟨"PuddleStates$Past", "dropOldest", "()V"⟩, 4), (⟨"PuddleStates", "areTwo", "(II)Z"⟩, 11), (⟨"PuddleStates", "apartBehindRain", "(LPuddleStates$Ground;III)Z"⟩, 11)]
theorem lw_r1 : ∀ q ∈ lw_privs_1, lw_okq q := List.forall_mem_cons.mpr ⟨lw_p0, List.forall_mem_cons.mpr ⟨lw_p1, List.forall_mem_cons.mpr ⟨lw_p2, List.forall_mem_cons.mpr ⟨lw_p3, List.forall_mem_cons.mpr ⟨lw_p4, List.forall_mem_cons.mpr ⟨lw_p5, List.forall_mem_cons.mpr ⟨lw_p6, List.forall_mem_cons.mpr ⟨lw_p7, List.forall_mem_cons.mpr ⟨lw_p8, List.forall_mem_cons.mpr ⟨lw_p9, List.forall_mem_cons.mpr ⟨lw_p10, List.forall_mem_cons.mpr ⟨lw_p11, List.forall_mem_cons.mpr ⟨lw_p12, List.forall_mem_cons.mpr ⟨lw_p13, List.forall_mem_cons.mpr ⟨lw_p14, List.forall_mem_cons.mpr ⟨lw_p15, fun _ h => absurd h List.not_mem_nil⟩⟩⟩⟩⟩⟩⟩⟩⟩⟩⟩⟩⟩⟩⟩⟩
theorem lw_p16 : lw_okq (⟨"PuddleStates", "mayBeKerb", "(III)Z"⟩, 11) := ⟨⟨by decide +kernel, by decide +kernel⟩, List.mem_of_getElem? (i := 17) (by decide +kernel), List.mem_of_getElem? (i := 525) (by decide +kernel), List.mem_of_getElem? (i := 526) (by decide +kernel)⟩
theorem lw_p17 : lw_okq (⟨"PuddleStates", "ringsHold", "()Z"⟩, 11) := ⟨⟨by decide +kernel, by decide +kernel⟩, List.mem_of_getElem? (i := 17) (by decide +kernel), List.mem_of_getElem? (i := 547) (by decide +kernel), List.mem_of_getElem? (i := 548) (by decide +kernel)⟩
theorem lw_p18 : lw_okq (⟨"PuddleStates", "wetBehindHours", "(II)I"⟩, 11) := ⟨⟨by decide +kernel, by decide +kernel⟩, List.mem_of_getElem? (i := 17) (by decide +kernel), List.mem_of_getElem? (i := 569) (by decide +kernel), List.mem_of_getElem? (i := 570) (by decide +kernel)⟩
theorem lw_p19 : lw_okq (⟨"PuddleStatesModel", "begins", "()V"⟩, 17) := ⟨⟨by decide +kernel, by decide +kernel⟩, List.mem_of_getElem? (i := 605) (by decide +kernel), List.mem_of_getElem? (i := 611) (by decide +kernel), List.mem_of_getElem? (i := 612) (by decide +kernel)⟩
theorem lw_p20 : lw_okq (⟨"PuddleStatesModel", "lays", "()V"⟩, 17) := ⟨⟨by decide +kernel, by decide +kernel⟩, List.mem_of_getElem? (i := 605) (by decide +kernel), List.mem_of_getElem? (i := 618) (by decide +kernel), List.mem_of_getElem? (i := 619) (by decide +kernel)⟩
theorem lw_p21 : lw_okq (⟨"PuddleStatesModel", "flows", "()V"⟩, 17) := ⟨⟨by decide +kernel, by decide +kernel⟩, List.mem_of_getElem? (i := 605) (by decide +kernel), List.mem_of_getElem? (i := 622) (by decide +kernel), List.mem_of_getElem? (i := 623) (by decide +kernel)⟩
theorem lw_p22 : lw_okq (⟨"PuddleStatesModel", "cells", "()I"⟩, 17) := ⟨⟨by decide +kernel, by decide +kernel⟩, List.mem_of_getElem? (i := 605) (by decide +kernel), List.mem_of_getElem? (i := 626) (by decide +kernel), List.mem_of_getElem? (i := 627) (by decide +kernel)⟩
theorem lw_p23 : lw_okq (⟨"PuddleStatesModel", "sends", "(I)Z"⟩, 17) := ⟨⟨by decide +kernel, by decide +kernel⟩, List.mem_of_getElem? (i := 605) (by decide +kernel), List.mem_of_getElem? (i := 630) (by decide +kernel), List.mem_of_getElem? (i := 631) (by decide +kernel)⟩
theorem lw_p24 : lw_okq (⟨"PuddleStatesModel", "beside", "(II)I"⟩, 17) := ⟨⟨by decide +kernel, by decide +kernel⟩, List.mem_of_getElem? (i := 605) (by decide +kernel), List.mem_of_getElem? (i := 634) (by decide +kernel), List.mem_of_getElem? (i := 635) (by decide +kernel)⟩
theorem lw_p25 : lw_okq (⟨"PuddleStatesModel", "isCell", "(I)Z"⟩, 17) := ⟨⟨by decide +kernel, by decide +kernel⟩, List.mem_of_getElem? (i := 605) (by decide +kernel), List.mem_of_getElem? (i := 638) (by decide +kernel), List.mem_of_getElem? (i := 639) (by decide +kernel)⟩
theorem lw_p26 : lw_okq (⟨"PuddleStatesModel", "level", "(I)I"⟩, 17) := ⟨⟨by decide +kernel, by decide +kernel⟩, List.mem_of_getElem? (i := 605) (by decide +kernel), List.mem_of_getElem? (i := 642) (by decide +kernel), List.mem_of_getElem? (i := 643) (by decide +kernel)⟩
theorem lw_p27 : lw_okq (⟨"PuddleStatesModel", "drops", "(II)V"⟩, 17) := ⟨⟨by decide +kernel, by decide +kernel⟩, List.mem_of_getElem? (i := 605) (by decide +kernel), List.mem_of_getElem? (i := 646) (by decide +kernel), List.mem_of_getElem? (i := 647) (by decide +kernel)⟩
theorem lw_p28 : lw_okq (⟨"PuddleStatesModel", "readsAll", "()I"⟩, 17) := ⟨⟨by decide +kernel, by decide +kernel⟩, List.mem_of_getElem? (i := 605) (by decide +kernel), List.mem_of_getElem? (i := 715) (by decide +kernel), List.mem_of_getElem? (i := 716) (by decide +kernel)⟩
theorem lw_p29 : lw_okq (⟨"PuddleStatesModel", "readsItem", "(I)Z"⟩, 17) := ⟨⟨by decide +kernel, by decide +kernel⟩, List.mem_of_getElem? (i := 605) (by decide +kernel), List.mem_of_getElem? (i := 719) (by decide +kernel), List.mem_of_getElem? (i := 720) (by decide +kernel)⟩
theorem lw_p30 : lw_okq (⟨"PuddleStatesModel", "number", "(III)I"⟩, 17) := ⟨⟨by decide +kernel, by decide +kernel⟩, List.mem_of_getElem? (i := 605) (by decide +kernel), List.mem_of_getElem? (i := 723) (by decide +kernel), List.mem_of_getElem? (i := 724) (by decide +kernel)⟩
theorem lw_p31 : lw_okq (⟨"PuddleStatesModel", "letterAt", "(I)I"⟩, 17) := ⟨⟨by decide +kernel, by decide +kernel⟩, List.mem_of_getElem? (i := 605) (by decide +kernel), List.mem_of_getElem? (i := 727) (by decide +kernel), List.mem_of_getElem? (i := 728) (by decide +kernel)⟩
def lw_privs_2 : List (MethodName × Nat) := [(⟨"PuddleStates", "mayBeKerb", "(III)Z"⟩, 11), (⟨"PuddleStates", "ringsHold", "()Z"⟩, 11), (⟨"PuddleStates", "wetBehindHours", "(II)I"⟩, 11), (⟨"PuddleStatesModel", "begins", "()V"⟩, 17), (⟨"PuddleStatesModel", "lays", "()V"⟩, 17), (⟨"PuddleStatesModel", "flows", "()V"⟩, 17), (⟨"PuddleStatesModel", "cells", "()I"⟩, 17), (⟨"PuddleStatesModel", "sends", "(I)Z"⟩, 17), (⟨"PuddleStatesModel", "beside", "(II)I"⟩, 17), (⟨"PuddleStatesModel", "isCell", "(I)Z"⟩, 17), (⟨"PuddleStatesModel", "level", "(I)I"⟩, 17), (⟨"PuddleStatesModel", "drops", "(II)V"⟩, 17), (⟨"PuddleStatesModel", "readsAll", "()I"⟩, 17), (⟨"PuddleStatesModel", "readsItem", "(I)Z"⟩, 17), (⟨"PuddleStatesModel", "number", "(III)I"⟩, 17), (⟨"PuddleStatesModel", "letterAt", "(I)I"⟩, 17)]
theorem lw_r2 : ∀ q ∈ lw_privs_2, lw_okq q := List.forall_mem_cons.mpr ⟨lw_p16, List.forall_mem_cons.mpr ⟨lw_p17, List.forall_mem_cons.mpr ⟨lw_p18, List.forall_mem_cons.mpr ⟨lw_p19, List.forall_mem_cons.mpr ⟨lw_p20, List.forall_mem_cons.mpr ⟨lw_p21, List.forall_mem_cons.mpr ⟨lw_p22, List.forall_mem_cons.mpr ⟨lw_p23, List.forall_mem_cons.mpr ⟨lw_p24, List.forall_mem_cons.mpr ⟨lw_p25, List.forall_mem_cons.mpr ⟨lw_p26, List.forall_mem_cons.mpr ⟨lw_p27, List.forall_mem_cons.mpr ⟨lw_p28, List.forall_mem_cons.mpr ⟨lw_p29, List.forall_mem_cons.mpr ⟨lw_p30, List.forall_mem_cons.mpr ⟨lw_p31, fun _ h => absurd h List.not_mem_nil⟩⟩⟩⟩⟩⟩⟩⟩⟩⟩⟩⟩⟩⟩⟩⟩
theorem lw_p32 : lw_okq (⟨"PuddleStatesModel", "laysStates", "()V"⟩, 17) := ⟨⟨by decide +kernel, by decide +kernel⟩, List.mem_of_getElem? (i := 605) (by decide +kernel), List.mem_of_getElem? (i := 742) (by decide +kernel), List.mem_of_getElem? (i := 743) (by decide +kernel)⟩
theorem lw_p33 : lw_okq (⟨"PuddleStatesModel", "sizeOf", "(I)I"⟩, 17) := ⟨⟨by decide +kernel, by decide +kernel⟩, List.mem_of_getElem? (i := 605) (by decide +kernel), List.mem_of_getElem? (i := 746) (by decide +kernel), List.mem_of_getElem? (i := 747) (by decide +kernel)⟩
theorem lw_p34 : lw_okq (⟨"PuddleStatesModel", "keeps", "()V"⟩, 17) := ⟨⟨by decide +kernel, by decide +kernel⟩, List.mem_of_getElem? (i := 605) (by decide +kernel), List.mem_of_getElem? (i := 754) (by decide +kernel), List.mem_of_getElem? (i := 755) (by decide +kernel)⟩
theorem lw_p35 : lw_okq (⟨"PuddleStatesModel", "pours", "(I)V"⟩, 17) := ⟨⟨by decide +kernel, by decide +kernel⟩, List.mem_of_getElem? (i := 605) (by decide +kernel), List.mem_of_getElem? (i := 758) (by decide +kernel), List.mem_of_getElem? (i := 759) (by decide +kernel)⟩
theorem lw_p36 : lw_okq (⟨"PuddleStatesModel", "isOpen", "(I)Z"⟩, 17) := ⟨⟨by decide +kernel, by decide +kernel⟩, List.mem_of_getElem? (i := 605) (by decide +kernel), List.mem_of_getElem? (i := 762) (by decide +kernel), List.mem_of_getElem? (i := 763) (by decide +kernel)⟩
theorem lw_p37 : lw_okq (⟨"PuddleStatesModel", "all", "()I"⟩, 17) := ⟨⟨by decide +kernel, by decide +kernel⟩, List.mem_of_getElem? (i := 605) (by decide +kernel), List.mem_of_getElem? (i := 766) (by decide +kernel), List.mem_of_getElem? (i := 767) (by decide +kernel)⟩
theorem lw_p38 : lw_okq (⟨"PuddleStatesModel", "shines", "()V"⟩, 17) := ⟨⟨by decide +kernel, by decide +kernel⟩, List.mem_of_getElem? (i := 605) (by decide +kernel), List.mem_of_getElem? (i := 774) (by decide +kernel), List.mem_of_getElem? (i := 775) (by decide +kernel)⟩
theorem lw_p39 : lw_okq (⟨"PuddleStatesModel", "holds", "()V"⟩, 17) := ⟨⟨by decide +kernel, by decide +kernel⟩, List.mem_of_getElem? (i := 605) (by decide +kernel), List.mem_of_getElem? (i := 794) (by decide +kernel), List.mem_of_getElem? (i := 795) (by decide +kernel)⟩
theorem lw_p40 : lw_okq (⟨"PuddleStatesModel", "lets", "()V"⟩, 17) := ⟨⟨by decide +kernel, by decide +kernel⟩, List.mem_of_getElem? (i := 605) (by decide +kernel), List.mem_of_getElem? (i := 798) (by decide +kernel), List.mem_of_getElem? (i := 799) (by decide +kernel)⟩
theorem lw_p41 : lw_okq (⟨"PuddleStatesModel", "lowest", "()I"⟩, 17) := ⟨⟨by decide +kernel, by decide +kernel⟩, List.mem_of_getElem? (i := 605) (by decide +kernel), List.mem_of_getElem? (i := 806) (by decide +kernel), List.mem_of_getElem? (i := 807) (by decide +kernel)⟩
theorem lw_p42 : lw_okq (⟨"PuddleStatesModel", "isOne", "(II)Z"⟩, 17) := ⟨⟨by decide +kernel, by decide +kernel⟩, List.mem_of_getElem? (i := 605) (by decide +kernel), List.mem_of_getElem? (i := 814) (by decide +kernel), List.mem_of_getElem? (i := 815) (by decide +kernel)⟩
theorem lw_p43 : lw_okq (⟨"PuddleStatesModel", "areApart", "(III)Z"⟩, 17) := ⟨⟨by decide +kernel, by decide +kernel⟩, List.mem_of_getElem? (i := 605) (by decide +kernel), List.mem_of_getElem? (i := 830) (by decide +kernel), List.mem_of_getElem? (i := 831) (by decide +kernel)⟩
theorem lw_p44 : lw_okq (⟨"PuddleStatesModel", "wet", "()I"⟩, 17) := ⟨⟨by decide +kernel, by decide +kernel⟩, List.mem_of_getElem? (i := 605) (by decide +kernel), List.mem_of_getElem? (i := 850) (by decide +kernel), List.mem_of_getElem? (i := 851) (by decide +kernel)⟩
theorem lw_p45 : lw_okq (⟨"PuddleStatesModel", "manyStates", "()I"⟩, 17) := ⟨⟨by decide +kernel, by decide +kernel⟩, List.mem_of_getElem? (i := 605) (by decide +kernel), List.mem_of_getElem? (i := 868) (by decide +kernel), List.mem_of_getElem? (i := 869) (by decide +kernel)⟩
def lw_privs_3 : List (MethodName × Nat) := [(⟨"PuddleStatesModel", "laysStates", "()V"⟩, 17), (⟨"PuddleStatesModel", "sizeOf", "(I)I"⟩, 17), (⟨"PuddleStatesModel", "keeps", "()V"⟩, 17), (⟨"PuddleStatesModel", "pours", "(I)V"⟩, 17), (⟨"PuddleStatesModel", "isOpen", "(I)Z"⟩, 17), (⟨"PuddleStatesModel", "all", "()I"⟩, 17), (⟨"PuddleStatesModel", "shines", "()V"⟩, 17), (⟨"PuddleStatesModel", "holds", "()V"⟩, 17), (⟨"PuddleStatesModel", "lets", "()V"⟩, 17), (⟨"PuddleStatesModel", "lowest", "()I"⟩, 17), (⟨"PuddleStatesModel", "isOne", "(II)Z"⟩, 17), (⟨"PuddleStatesModel", "areApart", "(III)Z"⟩, 17), (⟨"PuddleStatesModel", "wet", "()I"⟩, 17), (⟨"PuddleStatesModel", "manyStates", "()I"⟩, 17)]
theorem lw_r3 : ∀ q ∈ lw_privs_3, lw_okq q := List.forall_mem_cons.mpr ⟨lw_p32, List.forall_mem_cons.mpr ⟨lw_p33, List.forall_mem_cons.mpr ⟨lw_p34, List.forall_mem_cons.mpr ⟨lw_p35, List.forall_mem_cons.mpr ⟨lw_p36, List.forall_mem_cons.mpr ⟨lw_p37, List.forall_mem_cons.mpr ⟨lw_p38, List.forall_mem_cons.mpr ⟨lw_p39, List.forall_mem_cons.mpr ⟨lw_p40, List.forall_mem_cons.mpr ⟨lw_p41, List.forall_mem_cons.mpr ⟨lw_p42, List.forall_mem_cons.mpr ⟨lw_p43, List.forall_mem_cons.mpr ⟨lw_p44, List.forall_mem_cons.mpr ⟨lw_p45, fun _ h => absurd h List.not_mem_nil⟩⟩⟩⟩⟩⟩⟩⟩⟩⟩⟩⟩⟩⟩
def lw_privs : List (MethodName × Nat) := lw_privs_1 ++ (lw_privs_2 ++ (lw_privs_3))
def lw_tbl : List Cond := k2_sels lw_privs ++ tables_1
theorem lw_privs_ok : ∀ q ∈ lw_privs, lw_okq q := by
  show ∀ q ∈ lw_privs_1 ++ (lw_privs_2 ++ (lw_privs_3)), lw_okq q
  exact List.forall_mem_append.mpr ⟨lw_r1, List.forall_mem_append.mpr ⟨lw_r2, lw_r3⟩⟩
def RX0 : String := "PuddleStates$Ground"
def TX0 : u_T := fun k => match k with
  | 0 => ("PuddleStates$Ground", "rows", "I", false)
  | 1 => ("PuddleStates$Ground", "columns", "I", false)
  | 2 => ("PuddleStates$Ground", "cells", "I", false)
  | 3 => ("PuddleStates$Ground", "kind", "[I", true)
  | 4 => ("PuddleStates$Ground", "beside", "[I", true)
  | _ => ("PuddleStates$Ground", "besideBits", "[J", true)
def tyX0 : Nat → FieldType := fun k => match k with
  | 0 => .int
  | 1 => .int
  | 2 => .int
  | 3 => .array .int
  | 4 => .array .int
  | _ => .array .long
abbrev wsX00 : List Cond := u_ws RX0 TX0 6
theorem nmX0 : ∀ a, a < 6 → ∀ b, b < 6 → a ≠ b → (TX0 a).2.1 ≠ (TX0 b).2.1 := by decide +kernel
theorem tyX0_ok : ∀ k, k < 6 → parseFieldDescriptor (TX0 k).2.2.1 = some (tyX0 k) := by decide +kernel
abbrev cX0_init : ByteArray := prog_2_method_1_code
def yX0_init : MethodName := ⟨RX0, "<init>", "()V"⟩
abbrev cX0_holds : ByteArray := prog_2_method_2_code
def yX0_holds : MethodName := ⟨RX0, "holds", "(I)Z"⟩
abbrev cX0_shape : ByteArray := prog_2_method_3_code
def yX0_shape : MethodName := ⟨RX0, "shape", "(II)Z"⟩
abbrev cX0_makeOpen : ByteArray := prog_2_method_4_code
def yX0_makeOpen : MethodName := ⟨RX0, "makeOpen", "()V"⟩
abbrev cX0_makeKerb : ByteArray := prog_2_method_5_code
def yX0_makeKerb : MethodName := ⟨RX0, "makeKerb", "(I)V"⟩
abbrev cX0_copyFrom : ByteArray := prog_2_method_6_code
def yX0_copyFrom : MethodName := ⟨RX0, "copyFrom", "(LPuddleStates$Ground;)V"⟩
abbrev cX0_link : ByteArray := prog_2_method_7_code
def yX0_link : MethodName := ⟨RX0, "link", "()V"⟩
abbrev cX0_linkSide : ByteArray := prog_2_method_8_code
def yX0_linkSide : MethodName := ⟨RX0, "linkSide", "(IIII)V"⟩
abbrev cX0_walkable : ByteArray := prog_2_method_9_code
def yX0_walkable : MethodName := ⟨RX0, "walkable", "(II)I"⟩
abbrev cX0_cellBeside : ByteArray := prog_2_method_10_code
def yX0_cellBeside : MethodName := ⟨RX0, "cellBeside", "(II)I"⟩
abbrev cX0_bitsBeside : ByteArray := prog_2_method_11_code
def yX0_bitsBeside : MethodName := ⟨RX0, "bitsBeside", "(I)J"⟩
abbrev cX0_withBeside : ByteArray := prog_2_method_12_code
def yX0_withBeside : MethodName := ⟨RX0, "withBeside", "(J)J"⟩
abbrev cX0_takesRain : ByteArray := prog_2_method_13_code
def yX0_takesRain : MethodName := ⟨RX0, "takesRain", "(I)Z"⟩
abbrev cX0_isKind : ByteArray := prog_2_method_14_code
def yX0_isKind : MethodName := ⟨RX0, "isKind", "(II)Z"⟩
def RX1 : String := "PuddleStates$Past"
def TX1 : u_T := fun k => match k with
  | 0 => ("PuddleStates$Past", "heights", "[I", true)
  | 1 => ("PuddleStates$Past", "drops", "[I", true)
  | 2 => ("PuddleStates$Past", "hours", "[I", true)
  | _ => ("PuddleStates$Past", "many", "I", false)
def tyX1 : Nat → FieldType := fun k => match k with
  | 0 => .array .int
  | 1 => .array .int
  | 2 => .array .int
  | _ => .int
abbrev wsX10 : List Cond := u_ws RX1 TX1 4
theorem nmX1 : ∀ a, a < 4 → ∀ b, b < 4 → a ≠ b → (TX1 a).2.1 ≠ (TX1 b).2.1 := by decide +kernel
theorem tyX1_ok : ∀ k, k < 4 → parseFieldDescriptor (TX1 k).2.2.1 = some (tyX1 k) := by decide +kernel
abbrev cX1_init : ByteArray := prog_3_method_1_code
def yX1_init : MethodName := ⟨RX1, "<init>", "()V"⟩
abbrev cX1_push : ByteArray := prog_3_method_2_code
def yX1_push : MethodName := ⟨RX1, "push", "(LPuddleStates$Water;)V"⟩
abbrev cX1_pop : ByteArray := prog_3_method_3_code
def yX1_pop : MethodName := ⟨RX1, "pop", "(LPuddleStates$Water;)V"⟩
abbrev cX1_dropOldest : ByteArray := prog_3_method_4_code
def yX1_dropOldest : MethodName := ⟨RX1, "dropOldest", "()V"⟩
def RX2 : String := "PuddleStates$States"
def TX2 : u_T := fun k => match k with
  | 0 => ("PuddleStates$States", "state", "[I", true)
  | 1 => ("PuddleStates$States", "waiting", "[I", true)
  | 2 => ("PuddleStates$States", "waits", "I", false)
  | 3 => ("PuddleStates$States", "cells", "I", false)
  | _ => ("PuddleStates$States", "many", "I", false)
def tyX2 : Nat → FieldType := fun k => match k with
  | 0 => .array .int
  | 1 => .array .int
  | 2 => .int
  | 3 => .int
  | _ => .int
abbrev wsX20 : List Cond := u_ws RX2 TX2 5
theorem nmX2 : ∀ a, a < 5 → ∀ b, b < 5 → a ≠ b → (TX2 a).2.1 ≠ (TX2 b).2.1 := by decide +kernel
theorem tyX2_ok : ∀ k, k < 5 → parseFieldDescriptor (TX2 k).2.2.1 = some (tyX2 k) := by decide +kernel
abbrev cX2_init : ByteArray := prog_4_method_1_code
def yX2_init : MethodName := ⟨RX2, "<init>", "()V"⟩
abbrev cX2_map : ByteArray := prog_4_method_2_code
def yX2_map : MethodName := ⟨RX2, "map", "(LPuddleStates$Ground;LPuddleStates$Water;)V"⟩
abbrev cX2_spread : ByteArray := prog_4_method_3_code
def yX2_spread : MethodName := ⟨RX2, "spread", "(LPuddleStates$Ground;LPuddleStates$Water;I)V"⟩
abbrev cX2_claim : ByteArray := prog_4_method_4_code
def yX2_claim : MethodName := ⟨RX2, "claim", "(LPuddleStates$Water;II)V"⟩
abbrev cX2_stateOf : ByteArray := prog_4_method_5_code
def yX2_stateOf : MethodName := ⟨RX2, "stateOf", "(I)I"⟩
abbrev cX2_apart : ByteArray := prog_4_method_6_code
def yX2_apart : MethodName := ⟨RX2, "apart", "(II)Z"⟩
abbrev cX2_sizeAt : ByteArray := prog_4_method_7_code
def yX2_sizeAt : MethodName := ⟨RX2, "sizeAt", "(I)I"⟩
abbrev cX2_depthAt : ByteArray := prog_4_method_8_code
def yX2_depthAt : MethodName := ⟨RX2, "depthAt", "(ILPuddleStates$Water;)I"⟩
def RX3 : String := "PuddleStates$Text"
def TX3 : u_T := fun k => match k with
  | 0 => ("PuddleStates$Text", "letters", "[C", true)
  | 1 => ("PuddleStates$Text", "length", "I", false)
  | _ => ("PuddleStates$Text", "at", "I", false)
def tyX3 : Nat → FieldType := fun k => match k with
  | 0 => .array .char
  | 1 => .int
  | _ => .int
abbrev wsX30 : List Cond := u_ws RX3 TX3 3
theorem nmX3 : ∀ a, a < 3 → ∀ b, b < 3 → a ≠ b → (TX3 a).2.1 ≠ (TX3 b).2.1 := by decide +kernel
theorem tyX3_ok : ∀ k, k < 3 → parseFieldDescriptor (TX3 k).2.2.1 = some (tyX3 k) := by decide +kernel
abbrev cX3_init : ByteArray := prog_5_method_1_code
def yX3_init : MethodName := ⟨RX3, "<init>", "()V"⟩
abbrev cX3_add : ByteArray := prog_5_method_2_code
def yX3_add : MethodName := ⟨RX3, "add", "(C)V"⟩
abbrev cX3_empty : ByteArray := prog_5_method_3_code
def yX3_empty : MethodName := ⟨RX3, "empty", "()V"⟩
abbrev cX3_readInto : ByteArray := prog_5_method_4_code
def yX3_readInto : MethodName := ⟨RX3, "readInto", "(LPuddleStates$Ground;LPuddleStates$Water;)I"⟩
abbrev cX3_tellCell : ByteArray := prog_5_method_5_code
def yX3_tellCell : MethodName := ⟨RX3, "tellCell", "(LPuddleStates$Ground;LPuddleStates$Water;III)Z"⟩
abbrev cX3_finish : ByteArray := prog_5_method_6_code
def yX3_finish : MethodName := ⟨RX3, "finish", "(LPuddleStates$Ground;LPuddleStates$Water;)V"⟩
abbrev cX3_peek : ByteArray := prog_5_method_7_code
def yX3_peek : MethodName := ⟨RX3, "peek", "()I"⟩
abbrev cX3_nextLetter : ByteArray := prog_5_method_8_code
def yX3_nextLetter : MethodName := ⟨RX3, "nextLetter", "()I"⟩
abbrev cX3_skip : ByteArray := prog_5_method_9_code
def yX3_skip : MethodName := ⟨RX3, "skip", "(I)Z"⟩
abbrev cX3_nextNumber : ByteArray := prog_5_method_10_code
def yX3_nextNumber : MethodName := ⟨RX3, "nextNumber", "()I"⟩
abbrev cX3_nextFigure : ByteArray := prog_5_method_11_code
def yX3_nextFigure : MethodName := ⟨RX3, "nextFigure", "()I"⟩
def RX4 : String := "PuddleStates$Water"
def TX4 : u_T := fun k => match k with
  | 0 => ("PuddleStates$Water", "height", "[I", true)
  | 1 => ("PuddleStates$Water", "drops", "[I", true)
  | 2 => ("PuddleStates$Water", "hours", "I", false)
  | _ => ("PuddleStates$Water", "restless", "J", false)
def tyX4 : Nat → FieldType := fun k => match k with
  | 0 => .array .int
  | 1 => .array .int
  | 2 => .int
  | _ => .long
abbrev wsX40 : List Cond := u_ws RX4 TX4 4
theorem nmX4 : ∀ a, a < 4 → ∀ b, b < 4 → a ≠ b → (TX4 a).2.1 ≠ (TX4 b).2.1 := by decide +kernel
theorem tyX4_ok : ∀ k, k < 4 → parseFieldDescriptor (TX4 k).2.2.1 = some (tyX4 k) := by decide +kernel
abbrev cX4_init : ByteArray := prog_6_method_1_code
def yX4_init : MethodName := ⟨RX4, "<init>", "()V"⟩
abbrev cX4_makeDry : ByteArray := prog_6_method_2_code
def yX4_makeDry : MethodName := ⟨RX4, "makeDry", "()V"⟩
abbrev cX4_copyFrom : ByteArray := prog_6_method_3_code
def yX4_copyFrom : MethodName := ⟨RX4, "copyFrom", "(LPuddleStates$Water;)V"⟩
abbrev cX4_allDrops : ByteArray := prog_6_method_4_code
def yX4_allDrops : MethodName := ⟨RX4, "allDrops", "(LPuddleStates$Ground;)I"⟩
abbrev cX4_wetCells : ByteArray := prog_6_method_5_code
def yX4_wetCells : MethodName := ⟨RX4, "wetCells", "(LPuddleStates$Ground;)I"⟩
abbrev cX4_wetBits : ByteArray := prog_6_method_6_code
def yX4_wetBits : MethodName := ⟨RX4, "wetBits", "(LPuddleStates$Ground;)J"⟩
abbrev cX4_firstWet : ByteArray := prog_6_method_7_code
def yX4_firstWet : MethodName := ⟨RX4, "firstWet", "(LPuddleStates$Ground;)I"⟩
abbrev cX4_pour : ByteArray := prog_6_method_8_code
def yX4_pour : MethodName := ⟨RX4, "pour", "(LPuddleStates$Ground;I)V"⟩
abbrev cX4_passHours : ByteArray := prog_6_method_9_code
def yX4_passHours : MethodName := ⟨RX4, "passHours", "(LPuddleStates$Ground;I)V"⟩
abbrev cX4_passHour : ByteArray := prog_6_method_10_code
def yX4_passHour : MethodName := ⟨RX4, "passHour", "(LPuddleStates$Ground;)V"⟩
abbrev cX4_stepInto : ByteArray := prog_6_method_11_code
def yX4_stepInto : MethodName := ⟨RX4, "stepInto", "(LPuddleStates$Ground;I)V"⟩
abbrev cX4_putDrop : ByteArray := prog_6_method_12_code
def yX4_putDrop : MethodName := ⟨RX4, "putDrop", "(LPuddleStates$Ground;I)V"⟩
abbrev cX4_flow : ByteArray := prog_6_method_13_code
def yX4_flow : MethodName := ⟨RX4, "flow", "(LPuddleStates$Ground;)V"⟩
abbrev cX4_flowFrom : ByteArray := prog_6_method_14_code
def yX4_flowFrom : MethodName := ⟨RX4, "flowFrom", "(LPuddleStates$Ground;I)V"⟩
abbrev cX4_whereTo : ByteArray := prog_6_method_15_code
def yX4_whereTo : MethodName := ⟨RX4, "whereTo", "(LPuddleStates$Ground;I)I"⟩
def RX5 : String := "PuddleStates"
def TX5 : u_T := fun k => match k with
  | 0 => ("PuddleStates", "text", "LPuddleStates$Text;", true)
  | 1 => ("PuddleStates", "ground", "LPuddleStates$Ground;", true)
  | 2 => ("PuddleStates", "now", "LPuddleStates$Water;", true)
  | 3 => ("PuddleStates", "otherGround", "LPuddleStates$Ground;", true)
  | 4 => ("PuddleStates", "later", "LPuddleStates$Water;", true)
  | 5 => ("PuddleStates", "states", "LPuddleStates$States;", true)
  | 6 => ("PuddleStates", "undone", "LPuddleStates$Past;", true)
  | 7 => ("PuddleStates", "kept", "LPuddleStates$Past;", true)
  | 8 => ("PuddleStates", "ringCell", "[I", true)
  | 9 => ("PuddleStates", "ringDrops", "[I", true)
  | _ => ("PuddleStates", "rings", "I", false)
def tyX5 : Nat → FieldType := fun k => match k with
  | 0 => .object "PuddleStates$Text"
  | 1 => .object "PuddleStates$Ground"
  | 2 => .object "PuddleStates$Water"
  | 3 => .object "PuddleStates$Ground"
  | 4 => .object "PuddleStates$Water"
  | 5 => .object "PuddleStates$States"
  | 6 => .object "PuddleStates$Past"
  | 7 => .object "PuddleStates$Past"
  | 8 => .array .int
  | 9 => .array .int
  | _ => .int
abbrev wsX50 : List Cond := u_ws RX5 TX5 11
theorem nmX5 : ∀ a, a < 11 → ∀ b, b < 11 → a ≠ b → (TX5 a).2.1 ≠ (TX5 b).2.1 := by decide +kernel
theorem tyX5_ok : ∀ k, k < 11 → parseFieldDescriptor (TX5 k).2.2.1 = some (tyX5 k) := by decide +kernel
abbrev cX5_init : ByteArray := prog_1_method_1_code
def yX5_init : MethodName := ⟨RX5, "<init>", "()V"⟩
abbrev cX5_write : ByteArray := prog_1_method_2_code
def yX5_write : MethodName := ⟨RX5, "write", "(I)I"⟩
abbrev cX5_wipe : ByteArray := prog_1_method_3_code
def yX5_wipe : MethodName := ⟨RX5, "wipe", "()I"⟩
abbrev cX5_fault : ByteArray := prog_1_method_4_code
def yX5_fault : MethodName := ⟨RX5, "fault", "()I"⟩
abbrev cX5_lay : ByteArray := prog_1_method_5_code
def yX5_lay : MethodName := ⟨RX5, "lay", "()I"⟩
abbrev cX5_cell : ByteArray := prog_1_method_6_code
def yX5_cell : MethodName := ⟨RX5, "cell", "(II)I"⟩
abbrev cX5_rain : ByteArray := prog_1_method_7_code
def yX5_rain : MethodName := ⟨RX5, "rain", "(I)I"⟩
abbrev cX5_shine : ByteArray := prog_1_method_8_code
def yX5_shine : MethodName := ⟨RX5, "shine", "(I)I"⟩
abbrev cX5_boot : ByteArray := prog_1_method_9_code
def yX5_boot : MethodName := ⟨RX5, "boot", "(I)I"⟩
abbrev cX5_stone : ByteArray := prog_1_method_10_code
def yX5_stone : MethodName := ⟨RX5, "stone", "(IZ)I"⟩
abbrev cX5_undo : ByteArray := prog_1_method_11_code
def yX5_undo : MethodName := ⟨RX5, "undo", "()I"⟩
abbrev cX5_behind : ByteArray := prog_1_method_12_code
def yX5_behind : MethodName := ⟨RX5, "behind", "(III)I"⟩
abbrev cX5_dry : ByteArray := prog_1_method_13_code
def yX5_dry : MethodName := ⟨RX5, "dry", "(I)I"⟩
abbrev cX5_join : ByteArray := prog_1_method_14_code
def yX5_join : MethodName := ⟨RX5, "join", "(II)I"⟩
abbrev cX5_part : ByteArray := prog_1_method_15_code
def yX5_part : MethodName := ⟨RX5, "part", "(II)I"⟩
abbrev cX5_way : ByteArray := prog_1_method_16_code
def yX5_way : MethodName := ⟨RX5, "way", "(II)I"⟩
abbrev cX5_kerb : ByteArray := prog_1_method_17_code
def yX5_kerb : MethodName := ⟨RX5, "kerb", "(III)I"⟩
abbrev cX5_ring : ByteArray := prog_1_method_18_code
def yX5_ring : MethodName := ⟨RX5, "ring", "(II)I"⟩
abbrev cX5_forget : ByteArray := prog_1_method_19_code
def yX5_forget : MethodName := ⟨RX5, "forget", "()I"⟩
abbrev cX5_rains : ByteArray := prog_1_method_20_code
def yX5_rains : MethodName := ⟨RX5, "rains", "()I"⟩
abbrev cX5_sky : ByteArray := prog_1_method_21_code
def yX5_sky : MethodName := ⟨RX5, "sky", "(II)I"⟩
abbrev cX5_sun : ByteArray := prog_1_method_22_code
def yX5_sun : MethodName := ⟨RX5, "sun", "(IIII)I"⟩
abbrev cX5_year : ByteArray := prog_1_method_23_code
def yX5_year : MethodName := ⟨RX5, "year", "(III)I"⟩
abbrev cX5_keep : ByteArray := prog_1_method_24_code
def yX5_keep : MethodName := ⟨RX5, "keep", "()I"⟩
abbrev cX5_back : ByteArray := prog_1_method_25_code
def yX5_back : MethodName := ⟨RX5, "back", "()I"⟩
abbrev cX5_count : ByteArray := prog_1_method_26_code
def yX5_count : MethodName := ⟨RX5, "count", "(I)I"⟩
abbrev cX5_isFrom : ByteArray := prog_1_method_27_code
def yX5_isFrom : MethodName := ⟨RX5, "isFrom", "(III)Z"⟩
abbrev cX5_areTwo : ByteArray := prog_1_method_28_code
def yX5_areTwo : MethodName := ⟨RX5, "areTwo", "(II)Z"⟩
abbrev cX5_layText : ByteArray := prog_1_method_29_code
def yX5_layText : MethodName := ⟨RX5, "layText", "()Z"⟩
abbrev cX5_apartBehindRain : ByteArray := prog_1_method_30_code
def yX5_apartBehindRain : MethodName := ⟨RX5, "apartBehindRain", "(LPuddleStates$Ground;III)Z"⟩
abbrev cX5_mayBeKerb : ByteArray := prog_1_method_31_code
def yX5_mayBeKerb : MethodName := ⟨RX5, "mayBeKerb", "(III)Z"⟩
abbrev cX5_ringsHold : ByteArray := prog_1_method_32_code
def yX5_ringsHold : MethodName := ⟨RX5, "ringsHold", "()Z"⟩
abbrev cX5_wetBehindHours : ByteArray := prog_1_method_33_code
def yX5_wetBehindHours : MethodName := ⟨RX5, "wetBehindHours", "(II)I"⟩
abbrev cX5_lowestTerms : ByteArray := prog_1_method_34_code
def yX5_lowestTerms : MethodName := ⟨RX5, "lowestTerms", "(III)I"⟩
abbrev cX5_commonDivisor : ByteArray := prog_1_method_35_code
def yX5_commonDivisor : MethodName := ⟨RX5, "commonDivisor", "(II)I"⟩
abbrev cX5_power : ByteArray := prog_1_method_36_code
def yX5_power : MethodName := ⟨RX5, "power", "(II)I"⟩
abbrev cX5_drawOf : ByteArray := prog_1_method_37_code
def yX5_drawOf : MethodName := ⟨RX5, "drawOf", "(II)I"⟩
def RX6 : String := "PuddleStatesModel"
def TX6 : u_T := fun k => match k with
  | 0 => ("PuddleStatesModel", "text", "[I", true)
  | 1 => ("PuddleStatesModel", "typed", "I", false)
  | 2 => ("PuddleStatesModel", "told", "[I", true)
  | 3 => ("PuddleStatesModel", "draft", "[I", true)
  | 4 => ("PuddleStatesModel", "begun", "[I", true)
  | 5 => ("PuddleStatesModel", "s", "[I", true)
  | 6 => ("PuddleStatesModel", "past", "[I", true)
  | 7 => ("PuddleStatesModel", "known", "I", false)
  | 8 => ("PuddleStatesModel", "images", "[I", true)
  | 9 => ("PuddleStatesModel", "kept", "I", false)
  | 10 => ("PuddleStatesModel", "rings", "[I", true)
  | 11 => ("PuddleStatesModel", "rung", "I", false)
  | 12 => ("PuddleStatesModel", "at", "I", false)
  | 13 => ("PuddleStatesModel", "states", "[I", true)
  | 14 => ("PuddleStatesModel", "held", "[I", true)
  | 15 => ("PuddleStatesModel", "here", "[Z", true)
  | _ => ("PuddleStatesModel", "there", "[Z", true)
def tyX6 : Nat → FieldType := fun k => match k with
  | 0 => .array .int
  | 1 => .int
  | 2 => .array .int
  | 3 => .array .int
  | 4 => .array .int
  | 5 => .array .int
  | 6 => .array .int
  | 7 => .int
  | 8 => .array .int
  | 9 => .int
  | 10 => .array .int
  | 11 => .int
  | 12 => .int
  | 13 => .array .int
  | 14 => .array .int
  | 15 => .array .boolean
  | _ => .array .boolean
abbrev wsX60 : List Cond := u_ws RX6 TX6 17
theorem nmX6 : ∀ a, a < 17 → ∀ b, b < 17 → a ≠ b → (TX6 a).2.1 ≠ (TX6 b).2.1 := by decide +kernel
theorem tyX6_ok : ∀ k, k < 17 → parseFieldDescriptor (TX6 k).2.2.1 = some (tyX6 k) := by decide +kernel
abbrev cX6_init : ByteArray := prog_8_method_1_code
def yX6_init : MethodName := ⟨RX6, "<init>", "()V"⟩
abbrev cX6_in : ByteArray := prog_8_method_3_code
def yX6_in : MethodName := ⟨RX6, "in", "(III)Z"⟩
abbrev cX6_cells : ByteArray := prog_8_method_4_code
def yX6_cells : MethodName := ⟨RX6, "cells", "()I"⟩
abbrev cX6_isCell : ByteArray := prog_8_method_5_code
def yX6_isCell : MethodName := ⟨RX6, "isCell", "(I)Z"⟩
abbrev cX6_write : ByteArray := prog_8_method_6_code
def yX6_write : MethodName := ⟨RX6, "write", "(I)I"⟩
abbrev cX6_wipe : ByteArray := prog_8_method_7_code
def yX6_wipe : MethodName := ⟨RX6, "wipe", "()I"⟩
abbrev cX6_letterAt : ByteArray := prog_8_method_8_code
def yX6_letterAt : MethodName := ⟨RX6, "letterAt", "(I)I"⟩
abbrev cX6_isFigure : ByteArray := prog_8_method_9_code
def yX6_isFigure : MethodName := ⟨RX6, "isFigure", "(I)Z"⟩
abbrev cX6_number : ByteArray := prog_8_method_10_code
def yX6_number : MethodName := ⟨RX6, "number", "(III)I"⟩
abbrev cX6_begins : ByteArray := prog_8_method_11_code
def yX6_begins : MethodName := ⟨RX6, "begins", "()V"⟩
abbrev cX6_readsItem : ByteArray := prog_8_method_12_code
def yX6_readsItem : MethodName := ⟨RX6, "readsItem", "(I)Z"⟩
abbrev cX6_readsAll : ByteArray := prog_8_method_13_code
def yX6_readsAll : MethodName := ⟨RX6, "readsAll", "()I"⟩
abbrev cX6_fault : ByteArray := prog_8_method_14_code
def yX6_fault : MethodName := ⟨RX6, "fault", "()I"⟩
abbrev cX6_lays : ByteArray := prog_8_method_15_code
def yX6_lays : MethodName := ⟨RX6, "lays", "()V"⟩
abbrev cX6_lay : ByteArray := prog_8_method_16_code
def yX6_lay : MethodName := ⟨RX6, "lay", "()I"⟩
abbrev cX6_beside : ByteArray := prog_8_method_17_code
def yX6_beside : MethodName := ⟨RX6, "beside", "(II)I"⟩
abbrev cX6_level : ByteArray := prog_8_method_18_code
def yX6_level : MethodName := ⟨RX6, "level", "(I)I"⟩
abbrev cX6_drops : ByteArray := prog_8_method_19_code
def yX6_drops : MethodName := ⟨RX6, "drops", "(II)V"⟩
abbrev cX6_sends : ByteArray := prog_8_method_20_code
def yX6_sends : MethodName := ⟨RX6, "sends", "(I)Z"⟩
abbrev cX6_flows : ByteArray := prog_8_method_21_code
def yX6_flows : MethodName := ⟨RX6, "flows", "()V"⟩
abbrev cX6_isOpen : ByteArray := prog_8_method_22_code
def yX6_isOpen : MethodName := ⟨RX6, "isOpen", "(I)Z"⟩
abbrev cX6_pours : ByteArray := prog_8_method_23_code
def yX6_pours : MethodName := ⟨RX6, "pours", "(I)V"⟩
abbrev cX6_shines : ByteArray := prog_8_method_24_code
def yX6_shines : MethodName := ⟨RX6, "shines", "()V"⟩
abbrev cX6_laysStates : ByteArray := prog_8_method_25_code
def yX6_laysStates : MethodName := ⟨RX6, "laysStates", "()V"⟩
abbrev cX6_sizeOf : ByteArray := prog_8_method_26_code
def yX6_sizeOf : MethodName := ⟨RX6, "sizeOf", "(I)I"⟩
abbrev cX6_cell : ByteArray := prog_8_method_27_code
def yX6_cell : MethodName := ⟨RX6, "cell", "(II)I"⟩
abbrev cX6_keeps : ByteArray := prog_8_method_28_code
def yX6_keeps : MethodName := ⟨RX6, "keeps", "()V"⟩
abbrev cX6_all : ByteArray := prog_8_method_29_code
def yX6_all : MethodName := ⟨RX6, "all", "()I"⟩
abbrev cX6_rain : ByteArray := prog_8_method_30_code
def yX6_rain : MethodName := ⟨RX6, "rain", "(I)I"⟩
abbrev cX6_shine : ByteArray := prog_8_method_31_code
def yX6_shine : MethodName := ⟨RX6, "shine", "(I)I"⟩
abbrev cX6_boot : ByteArray := prog_8_method_32_code
def yX6_boot : MethodName := ⟨RX6, "boot", "(I)I"⟩
abbrev cX6_stone : ByteArray := prog_8_method_33_code
def yX6_stone : MethodName := ⟨RX6, "stone", "(IZ)I"⟩
abbrev cX6_undo : ByteArray := prog_8_method_34_code
def yX6_undo : MethodName := ⟨RX6, "undo", "()I"⟩
abbrev cX6_holds : ByteArray := prog_8_method_35_code
def yX6_holds : MethodName := ⟨RX6, "holds", "()V"⟩
abbrev cX6_lets : ByteArray := prog_8_method_36_code
def yX6_lets : MethodName := ⟨RX6, "lets", "()V"⟩
abbrev cX6_behind : ByteArray := prog_8_method_37_code
def yX6_behind : MethodName := ⟨RX6, "behind", "(III)I"⟩
abbrev cX6_lowest : ByteArray := prog_8_method_38_code
def yX6_lowest : MethodName := ⟨RX6, "lowest", "()I"⟩
abbrev cX6_dry : ByteArray := prog_8_method_39_code
def yX6_dry : MethodName := ⟨RX6, "dry", "(I)I"⟩
abbrev cX6_isOne : ByteArray := prog_8_method_40_code
def yX6_isOne : MethodName := ⟨RX6, "isOne", "(II)Z"⟩
abbrev cX6_join : ByteArray := prog_8_method_41_code
def yX6_join : MethodName := ⟨RX6, "join", "(II)I"⟩
abbrev cX6_part : ByteArray := prog_8_method_42_code
def yX6_part : MethodName := ⟨RX6, "part", "(II)I"⟩
abbrev cX6_way : ByteArray := prog_8_method_43_code
def yX6_way : MethodName := ⟨RX6, "way", "(II)I"⟩
abbrev cX6_areApart : ByteArray := prog_8_method_44_code
def yX6_areApart : MethodName := ⟨RX6, "areApart", "(III)Z"⟩
abbrev cX6_kerb : ByteArray := prog_8_method_45_code
def yX6_kerb : MethodName := ⟨RX6, "kerb", "(III)I"⟩
abbrev cX6_ring : ByteArray := prog_8_method_46_code
def yX6_ring : MethodName := ⟨RX6, "ring", "(II)I"⟩
abbrev cX6_forget : ByteArray := prog_8_method_47_code
def yX6_forget : MethodName := ⟨RX6, "forget", "()I"⟩
abbrev cX6_rains : ByteArray := prog_8_method_48_code
def yX6_rains : MethodName := ⟨RX6, "rains", "()I"⟩
abbrev cX6_common : ByteArray := prog_8_method_49_code
def yX6_common : MethodName := ⟨RX6, "common", "(II)I"⟩
abbrev cX6_wet : ByteArray := prog_8_method_50_code
def yX6_wet : MethodName := ⟨RX6, "wet", "()I"⟩
abbrev cX6_sky : ByteArray := prog_8_method_51_code
def yX6_sky : MethodName := ⟨RX6, "sky", "(II)I"⟩
abbrev cX6_sun : ByteArray := prog_8_method_52_code
def yX6_sun : MethodName := ⟨RX6, "sun", "(IIII)I"⟩
abbrev cX6_manyStates : ByteArray := prog_8_method_53_code
def yX6_manyStates : MethodName := ⟨RX6, "manyStates", "()I"⟩
abbrev cX6_year : ByteArray := prog_8_method_54_code
def yX6_year : MethodName := ⟨RX6, "year", "(III)I"⟩
abbrev cX6_keep : ByteArray := prog_8_method_55_code
def yX6_keep : MethodName := ⟨RX6, "keep", "()I"⟩
abbrev cX6_back : ByteArray := prog_8_method_56_code
def yX6_back : MethodName := ⟨RX6, "back", "()I"⟩
abbrev cX6_count : ByteArray := prog_8_method_57_code
def yX6_count : MethodName := ⟨RX6, "count", "(I)I"⟩
def RJx145de : String := "java/io/Serializable"
def TJx145de : u_T := fun k => match k with
  | _ => ("", "", "", false)
def tyJx145de : Nat → FieldType := fun k => match k with
  | _ => .int
abbrev wsJx145de0 : List Cond := u_ws RJx145de TJx145de 0
theorem nmJx145de : ∀ a, a < 0 → ∀ b, b < 0 → a ≠ b → (TJx145de a).2.1 ≠ (TJx145de b).2.1 := by decide +kernel
theorem tyJx145de_ok : ∀ k, k < 0 → parseFieldDescriptor (TJx145de k).2.2.1 = some (tyJx145de k) := by decide +kernel
def RJx9f9b0 : String := "java/lang/CharSequence"
def TJx9f9b0 : u_T := fun k => match k with
  | _ => ("", "", "", false)
def tyJx9f9b0 : Nat → FieldType := fun k => match k with
  | _ => .int
abbrev wsJx9f9b00 : List Cond := u_ws RJx9f9b0 TJx9f9b0 0
theorem nmJx9f9b0 : ∀ a, a < 0 → ∀ b, b < 0 → a ≠ b → (TJx9f9b0 a).2.1 ≠ (TJx9f9b0 b).2.1 := by decide +kernel
theorem tyJx9f9b0_ok : ∀ k, k < 0 → parseFieldDescriptor (TJx9f9b0 k).2.2.1 = some (tyJx9f9b0 k) := by decide +kernel
def RJxb160c : String := "java/lang/Comparable"
def TJxb160c : u_T := fun k => match k with
  | _ => ("", "", "", false)
def tyJxb160c : Nat → FieldType := fun k => match k with
  | _ => .int
abbrev wsJxb160c0 : List Cond := u_ws RJxb160c TJxb160c 0
theorem nmJxb160c : ∀ a, a < 0 → ∀ b, b < 0 → a ≠ b → (TJxb160c a).2.1 ≠ (TJxb160c b).2.1 := by decide +kernel
theorem tyJxb160c_ok : ∀ k, k < 0 → parseFieldDescriptor (TJxb160c k).2.2.1 = some (tyJxb160c k) := by decide +kernel
def RJ6 : String := "java/lang/Integer"
def TJ6 : u_T := fun k => match k with
  | _ => ("", "", "", false)
def tyJ6 : Nat → FieldType := fun k => match k with
  | _ => .int
abbrev wsJ60 : List Cond := u_ws RJ6 TJ6 0
theorem nmJ6 : ∀ a, a < 0 → ∀ b, b < 0 → a ≠ b → (TJ6 a).2.1 ≠ (TJ6 b).2.1 := by decide +kernel
theorem tyJ6_ok : ∀ k, k < 0 → parseFieldDescriptor (TJ6 k).2.2.1 = some (tyJ6 k) := by decide +kernel
abbrev cJ6_bitCount_0f7a4 : ByteArray := prog_9_method_49_code
def yJ6_bitCount_0f7a4 : MethodName := ⟨RJ6, "bitCount", "(I)I"⟩
def RJ9 : String := "java/lang/Math"
def TJ9 : u_T := fun k => match k with
  | _ => ("", "", "", false)
def tyJ9 : Nat → FieldType := fun k => match k with
  | _ => .int
abbrev wsJ90 : List Cond := u_ws RJ9 TJ9 0
theorem nmJ9 : ∀ a, a < 0 → ∀ b, b < 0 → a ≠ b → (TJ9 a).2.1 ≠ (TJ9 b).2.1 := by decide +kernel
theorem tyJ9_ok : ∀ k, k < 0 → parseFieldDescriptor (TJ9 k).2.2.1 = some (tyJ9 k) := by decide +kernel
abbrev cJ9_max_7cf53 : ByteArray := prog_10_method_65_code
def yJ9_max_7cf53 : MethodName := ⟨RJ9, "max", "(II)I"⟩
abbrev cJ9_min_7cf53 : ByteArray := prog_10_method_69_code
def yJ9_min_7cf53 : MethodName := ⟨RJ9, "min", "(II)I"⟩
def RJ0 : String := "java/lang/String"
def TJ0 : u_T := fun k => match k with
  | _ => ("", "", "", false)
def tyJ0 : Nat → FieldType := fun k => match k with
  | _ => .int
abbrev wsJ00 : List Cond := u_ws RJ0 TJ0 0
theorem nmJ0 : ∀ a, a < 0 → ∀ b, b < 0 → a ≠ b → (TJ0 a).2.1 ≠ (TJ0 b).2.1 := by decide +kernel
theorem tyJ0_ok : ∀ k, k < 0 → parseFieldDescriptor (TJ0 k).2.2.1 = some (tyJ0 k) := by decide +kernel
abbrev cJ0_length_8abf5 : ByteArray := prog_11_method_54_code
def yJ0_length_8abf5 : MethodName := ⟨RJ0, "length", "()I"⟩
abbrev cJ0_charAt_5068e : ByteArray := prog_11_method_56_code
def yJ0_charAt_5068e : MethodName := ⟨RJ0, "charAt", "(I)C"⟩
abbrev cJ0_coder_7d493 : ByteArray := prog_11_method_152_code
def yJ0_coder_7d493 : MethodName := ⟨RJ0, "coder", "()B"⟩
abbrev cJ0_isLatin1_aae02 : ByteArray := prog_11_method_154_code
def yJ0_isLatin1_aae02 : MethodName := ⟨RJ0, "isLatin1", "()Z"⟩
abbrev cJ0_checkIndex_df160 : ByteArray := prog_11_method_155_code
def yJ0_checkIndex_df160 : MethodName := ⟨RJ0, "checkIndex", "(II)V"⟩
def RJ1 : String := "java/lang/StringLatin1"
def TJ1 : u_T := fun k => match k with
  | _ => ("", "", "", false)
def tyJ1 : Nat → FieldType := fun k => match k with
  | _ => .int
abbrev wsJ10 : List Cond := u_ws RJ1 TJ1 0
theorem nmJ1 : ∀ a, a < 0 → ∀ b, b < 0 → a ≠ b → (TJ1 a).2.1 ≠ (TJ1 b).2.1 := by decide +kernel
theorem tyJ1_ok : ∀ k, k < 0 → parseFieldDescriptor (TJ1 k).2.2.1 = some (tyJ1 k) := by decide +kernel
abbrev cJ1_charAt_3b067 : ByteArray := prog_12_method_2_code
def yJ1_charAt_3b067 : MethodName := ⟨RJ1, "charAt", "([BI)C"⟩
def RJ2 : String := "java/lang/StringUTF16"
def TJ2 : u_T := fun k => match k with
  | _ => ("", "", "", false)
def tyJ2 : Nat → FieldType := fun k => match k with
  | _ => .int
abbrev wsJ20 : List Cond := u_ws RJ2 TJ2 0
theorem nmJ2 : ∀ a, a < 0 → ∀ b, b < 0 → a ≠ b → (TJ2 a).2.1 ≠ (TJ2 b).2.1 := by decide +kernel
theorem tyJ2_ok : ∀ k, k < 0 → parseFieldDescriptor (TJ2 k).2.2.1 = some (tyJ2 k) := by decide +kernel
abbrev cJ2_getChar_3b067 : ByteArray := prog_13_method_5_code
def yJ2_getChar_3b067 : MethodName := ⟨RJ2, "getChar", "([BI)C"⟩
abbrev cJ2_length_9d52b : ByteArray := prog_13_method_6_code
def yJ2_length_9d52b : MethodName := ⟨RJ2, "length", "([B)I"⟩
abbrev cJ2_charAt_3b067 : ByteArray := prog_13_method_83_code
def yJ2_charAt_3b067 : MethodName := ⟨RJ2, "charAt", "([BI)C"⟩
abbrev cJ2_checkIndex_2214a : ByteArray := prog_13_method_91_code
def yJ2_checkIndex_2214a : MethodName := ⟨RJ2, "checkIndex", "(I[B)V"⟩
def RJ10 : String := "java/lang/System"
def TJ10 : u_T := fun k => match k with
  | _ => ("", "", "", false)
def tyJ10 : Nat → FieldType := fun k => match k with
  | _ => .int
abbrev wsJ100 : List Cond := u_ws RJ10 TJ10 0
theorem nmJ10 : ∀ a, a < 0 → ∀ b, b < 0 → a ≠ b → (TJ10 a).2.1 ≠ (TJ10 b).2.1 := by decide +kernel
theorem tyJ10_ok : ∀ k, k < 0 → parseFieldDescriptor (TJ10 k).2.2.1 = some (tyJ10 k) := by decide +kernel
def RJxfd54e : String := "java/lang/constant/Constable"
def TJxfd54e : u_T := fun k => match k with
  | _ => ("", "", "", false)
def tyJxfd54e : Nat → FieldType := fun k => match k with
  | _ => .int
abbrev wsJxfd54e0 : List Cond := u_ws RJxfd54e TJxfd54e 0
theorem nmJxfd54e : ∀ a, a < 0 → ∀ b, b < 0 → a ≠ b → (TJxfd54e a).2.1 ≠ (TJxfd54e b).2.1 := by decide +kernel
theorem tyJxfd54e_ok : ∀ k, k < 0 → parseFieldDescriptor (TJxfd54e k).2.2.1 = some (tyJxfd54e k) := by decide +kernel
def RJx3cf43 : String := "java/lang/constant/ConstantDesc"
def TJx3cf43 : u_T := fun k => match k with
  | _ => ("", "", "", false)
def tyJx3cf43 : Nat → FieldType := fun k => match k with
  | _ => .int
abbrev wsJx3cf430 : List Cond := u_ws RJx3cf43 TJx3cf43 0
theorem nmJx3cf43 : ∀ a, a < 0 → ∀ b, b < 0 → a ≠ b → (TJx3cf43 a).2.1 ≠ (TJx3cf43 b).2.1 := by decide +kernel
theorem tyJx3cf43_ok : ∀ k, k < 0 → parseFieldDescriptor (TJx3cf43 k).2.2.1 = some (tyJx3cf43 k) := by decide +kernel
def RJ7 : String := "java/util/Arrays"
def TJ7 : u_T := fun k => match k with
  | _ => ("", "", "", false)
def tyJ7 : Nat → FieldType := fun k => match k with
  | _ => .int
abbrev wsJ70 : List Cond := u_ws RJ7 TJ7 0
theorem nmJ7 : ∀ a, a < 0 → ∀ b, b < 0 → a ≠ b → (TJ7 a).2.1 ≠ (TJ7 b).2.1 := by decide +kernel
theorem tyJ7_ok : ∀ k, k < 0 → parseFieldDescriptor (TJ7 k).2.2.1 = some (tyJ7 k) := by decide +kernel
abbrev cJ7_fill_d0a16 : ByteArray := prog_15_method_101_code
def yJ7_fill_d0a16 : MethodName := ⟨RJ7, "fill", "([JJ)V"⟩
abbrev cJ7_fill_53178 : ByteArray := prog_15_method_103_code
def yJ7_fill_53178 : MethodName := ⟨RJ7, "fill", "([II)V"⟩
def RJ3 : String := "jdk/internal/util/Preconditions"
def TJ3 : u_T := fun k => match k with
  | _ => ("", "", "", false)
def tyJ3 : Nat → FieldType := fun k => match k with
  | _ => .int
abbrev wsJ30 : List Cond := u_ws RJ3 TJ3 0
theorem nmJ3 : ∀ a, a < 0 → ∀ b, b < 0 → a ≠ b → (TJ3 a).2.1 ≠ (TJ3 b).2.1 := by decide +kernel
theorem tyJ3_ok : ∀ k, k < 0 → parseFieldDescriptor (TJ3 k).2.2.1 = some (tyJ3 k) := by decide +kernel
abbrev cJ3_checkIndex_8e157 : ByteArray := prog_16_method_11_code
def yJ3_checkIndex_8e157 : MethodName := ⟨RJ3, "checkIndex", "(IILjava/util/function/BiFunction;)I"⟩
def RL : String := "PuddleStatesLaw"
abbrev cL_law : ByteArray := code
def yL_law : MethodName := ⟨RL, "law", "([I)Z"⟩
abbrev vwCl : List vw_C := [(RX0, TX0, 6), (RX1, TX1, 4), (RX2, TX2, 5), (RX3, TX3, 3), (RX4, TX4, 4), (RX5, TX5, 11), (RX6, TX6, 17)]
