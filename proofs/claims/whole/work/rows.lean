section
-- ===== PART A: goes FIRST, ahead of the names: the tables' words, and 'selects' of the private methods out of them =====
/-- a private method of a class that the tables say can be made, by its rows of tables_1 -/
def lw_okq (q : MethodName × Nat) : Prop := (q.1.cls ≠ "java/lang/invoke/MethodHandle" ∧ q.1.cls ≠ "java/lang/invoke/VarHandle") ∧ Cond.instantiable q.1.cls q.2 ∈ tables_1 ∧ Cond.privateMethod q.1 ∈ tables_1 ∧ Cond.instanceMethod q.1 ∈ tables_1
theorem lw_p0 : lw_okq (⟨"RatchetPost", "refuse", "(I)I"⟩, 11) := ⟨⟨by decide +kernel, by decide +kernel⟩, List.mem_of_getElem? (i := 21) (by decide +kernel), List.mem_of_getElem? (i := 163) (by decide +kernel), List.mem_of_getElem? (i := 164) (by decide +kernel)⟩
theorem lw_p1 : lw_okq (⟨"RatchetPost", "done", "(I)I"⟩, 11) := ⟨⟨by decide +kernel, by decide +kernel⟩, List.mem_of_getElem? (i := 21) (by decide +kernel), List.mem_of_getElem? (i := 167) (by decide +kernel), List.mem_of_getElem? (i := 168) (by decide +kernel)⟩
theorem lw_p2 : lw_okq (⟨"RatchetPost", "endOldSkipped", "()V"⟩, 11) := ⟨⟨by decide +kernel, by decide +kernel⟩, List.mem_of_getElem? (i := 21) (by decide +kernel), List.mem_of_getElem? (i := 175) (by decide +kernel), List.mem_of_getElem? (i := 176) (by decide +kernel)⟩
theorem lw_p3 : lw_okq (⟨"RatchetPost", "endAt", "(I)LRatchetPost$End;"⟩, 11) := ⟨⟨by decide +kernel, by decide +kernel⟩, List.mem_of_getElem? (i := 21) (by decide +kernel), List.mem_of_getElem? (i := 263) (by decide +kernel), List.mem_of_getElem? (i := 264) (by decide +kernel)⟩
theorem lw_p4 : lw_okq (⟨"java/util/ArrayList", "add", "(Ljava/lang/Object;[Ljava/lang/Object;I)V"⟩, 3) := ⟨⟨by decide +kernel, by decide +kernel⟩, List.mem_of_getElem? (i := 50) (by decide +kernel), List.mem_of_getElem? (i := 317) (by decide +kernel), List.mem_of_getElem? (i := 318) (by decide +kernel)⟩
theorem lw_p5 : lw_okq (⟨"java/util/ArrayList", "grow", "()[Ljava/lang/Object;"⟩, 3) := ⟨⟨by decide +kernel, by decide +kernel⟩, List.mem_of_getElem? (i := 50) (by decide +kernel), List.mem_of_getElem? (i := 321) (by decide +kernel), List.mem_of_getElem? (i := 322) (by decide +kernel)⟩
theorem lw_p6 : lw_okq (⟨"java/util/ArrayList", "grow", "(I)[Ljava/lang/Object;"⟩, 3) := ⟨⟨by decide +kernel, by decide +kernel⟩, List.mem_of_getElem? (i := 50) (by decide +kernel), List.mem_of_getElem? (i := 325) (by decide +kernel), List.mem_of_getElem? (i := 326) (by decide +kernel)⟩
theorem lw_p7 : lw_okq (⟨"RatchetPost", "lowerOf", "(I)LRatchetPost$End;"⟩, 11) := ⟨⟨by decide +kernel, by decide +kernel⟩, List.mem_of_getElem? (i := 21) (by decide +kernel), List.mem_of_getElem? (i := 375) (by decide +kernel), List.mem_of_getElem? (i := 376) (by decide +kernel)⟩
theorem lw_p8 : lw_okq (⟨"RatchetPost", "otherOf", "(I)LRatchetPost$End;"⟩, 11) := ⟨⟨by decide +kernel, by decide +kernel⟩, List.mem_of_getElem? (i := 21) (by decide +kernel), List.mem_of_getElem? (i := 379) (by decide +kernel), List.mem_of_getElem? (i := 380) (by decide +kernel)⟩
theorem lw_p9 : lw_okq (⟨"RatchetPost$Things", "comeOf", "(LRatchetPost$Thing;ILRatchetPost$Thing;I)LRatchetPost$Thing;"⟩, 3) := ⟨⟨by decide +kernel, by decide +kernel⟩, List.mem_of_getElem? (i := 29) (by decide +kernel), List.mem_of_getElem? (i := 400) (by decide +kernel), List.mem_of_getElem? (i := 401) (by decide +kernel)⟩
theorem lw_p10 : lw_okq (⟨"RatchetPost", "letterAt", "(I)LRatchetPost$Letter;"⟩, 11) := ⟨⟨by decide +kernel, by decide +kernel⟩, List.mem_of_getElem? (i := 21) (by decide +kernel), List.mem_of_getElem? (i := 474) (by decide +kernel), List.mem_of_getElem? (i := 475) (by decide +kernel)⟩
theorem lw_p11 : lw_okq (⟨"RatchetPost", "takeByKept", "(LRatchetPost$End;LRatchetPost$Letter;I)I"⟩, 11) := ⟨⟨by decide +kernel, by decide +kernel⟩, List.mem_of_getElem? (i := 21) (by decide +kernel), List.mem_of_getElem? (i := 494) (by decide +kernel), List.mem_of_getElem? (i := 495) (by decide +kernel)⟩
theorem lw_p12 : lw_okq (⟨"RatchetPost", "opened", "(LRatchetPost$Letter;I)I"⟩, 11) := ⟨⟨by decide +kernel, by decide +kernel⟩, List.mem_of_getElem? (i := 21) (by decide +kernel), List.mem_of_getElem? (i := 498) (by decide +kernel), List.mem_of_getElem? (i := 499) (by decide +kernel)⟩
theorem lw_p13 : lw_okq (⟨"RatchetPost", "takeByChain", "(LRatchetPost$End;LRatchetPost$Letter;)I"⟩, 11) := ⟨⟨by decide +kernel, by decide +kernel⟩, List.mem_of_getElem? (i := 21) (by decide +kernel), List.mem_of_getElem? (i := 504) (by decide +kernel), List.mem_of_getElem? (i := 505) (by decide +kernel)⟩
theorem lw_p14 : lw_okq (⟨"RatchetPost", "keyAhead", "(II)I"⟩, 11) := ⟨⟨by decide +kernel, by decide +kernel⟩, List.mem_of_getElem? (i := 21) (by decide +kernel), List.mem_of_getElem? (i := 509) (by decide +kernel), List.mem_of_getElem? (i := 510) (by decide +kernel)⟩
theorem lw_p15 : lw_okq (⟨"RatchetPost", "skipTo", "(LRatchetPost$End;I)V"⟩, 11) := ⟨⟨by decide +kernel, by decide +kernel⟩, List.mem_of_getElem? (i := 21) (by decide +kernel), List.mem_of_getElem? (i := 513) (by decide +kernel), List.mem_of_getElem? (i := 514) (by decide +kernel)⟩
def lw_privs_1 : List (MethodName × Nat) := [(⟨"RatchetPost", "refuse", "(I)I"⟩, 11), (⟨"RatchetPost", "done", "(I)I"⟩, 11), (⟨"RatchetPost", "endOldSkipped", "()V"⟩, 11), (⟨"RatchetPost", "endAt", "(I)LRatchetPost$End;"⟩, 11), (⟨"java/util/ArrayList", "add", "(Ljava/lang/Object;[Ljava/lang/Object;I)V"⟩, 3), (⟨"java/util/ArrayList", "grow", "()[Ljava/lang/Object;"⟩, 3), (⟨"java/util/ArrayList", "grow", "(I)[Ljava/lang/Object;"⟩, 3), (⟨"RatchetPost", "lowerOf", "(I)LRatchetPost$End;"⟩, 11), (⟨"RatchetPost", "otherOf", "(I)LRatchetPost$End;"⟩, 11), (⟨"RatchetPost$Things", "comeOf", "(LRatchetPost$Thing;ILRatchetPost$Thing;I)LRatchetPost$Thing;"⟩, 3), (⟨"RatchetPost", "letterAt", "(I)LRatchetPost$Letter;"⟩, 11), (⟨"RatchetPost", "takeByKept", "(LRatchetPost$End;LRatchetPost$Letter;I)I"⟩, 11), (⟨"RatchetPost", "opened", "(LRatchetPost$Letter;I)I"⟩, 11), (⟨"RatchetPost", "takeByChain", "(LRatchetPost$End;LRatchetPost$Letter;)I"⟩, 11), (⟨"RatchetPost", "keyAhead", "(II)I"⟩, 11), (⟨"RatchetPost", "skipTo", "(LRatchetPost$End;I)V"⟩, 11)]
theorem lw_r1 : ∀ q ∈ lw_privs_1, lw_okq q := List.forall_mem_cons.mpr ⟨lw_p0, List.forall_mem_cons.mpr ⟨lw_p1, List.forall_mem_cons.mpr ⟨lw_p2, List.forall_mem_cons.mpr ⟨lw_p3, List.forall_mem_cons.mpr ⟨lw_p4, List.forall_mem_cons.mpr ⟨lw_p5, List.forall_mem_cons.mpr ⟨lw_p6, List.forall_mem_cons.mpr ⟨lw_p7, List.forall_mem_cons.mpr ⟨lw_p8, List.forall_mem_cons.mpr ⟨lw_p9, List.forall_mem_cons.mpr ⟨lw_p10, List.forall_mem_cons.mpr ⟨lw_p11, List.forall_mem_cons.mpr ⟨lw_p12, List.forall_mem_cons.mpr ⟨lw_p13, List.forall_mem_cons.mpr ⟨lw_p14, List.forall_mem_cons.mpr ⟨lw_p15, fun _ h => absurd h List.not_mem_nil⟩⟩⟩⟩⟩⟩⟩⟩⟩⟩⟩⟩⟩⟩⟩⟩
theorem lw_p16 : lw_okq (⟨"RatchetPost", "passOne", "(LRatchetPost$End;)V"⟩, 11) := ⟨⟨by decide +kernel, by decide +kernel⟩, List.mem_of_getElem? (i := 21) (by decide +kernel), List.mem_of_getElem? (i := 555) (by decide +kernel), List.mem_of_getElem? (i := 556) (by decide +kernel)⟩
theorem lw_p17 : lw_okq (⟨"RatchetPost", "takeNewPublic", "(LRatchetPost$End;LRatchetPost$Letter;)I"⟩, 11) := ⟨⟨by decide +kernel, by decide +kernel⟩, List.mem_of_getElem? (i := 21) (by decide +kernel), List.mem_of_getElem? (i := 559) (by decide +kernel), List.mem_of_getElem? (i := 560) (by decide +kernel)⟩
theorem lw_p18 : lw_okq (⟨"RatchetPost", "turn", "(LRatchetPost$End;LRatchetPost$Letter;)V"⟩, 11) := ⟨⟨by decide +kernel, by decide +kernel⟩, List.mem_of_getElem? (i := 21) (by decide +kernel), List.mem_of_getElem? (i := 573) (by decide +kernel), List.mem_of_getElem? (i := 574) (by decide +kernel)⟩
theorem lw_p19 : lw_okq (⟨"RatchetPost", "meetingAt", "(LRatchetPost$End;LRatchetPost$Thing;)LRatchetPost$Thing;"⟩, 11) := ⟨⟨by decide +kernel, by decide +kernel⟩, List.mem_of_getElem? (i := 21) (by decide +kernel), List.mem_of_getElem? (i := 577) (by decide +kernel), List.mem_of_getElem? (i := 578) (by decide +kernel)⟩
theorem lw_p20 : lw_okq (⟨"RatchetPost", "trayAt", "(I)LRatchetPost$Tray;"⟩, 11) := ⟨⟨by decide +kernel, by decide +kernel⟩, List.mem_of_getElem? (i := 21) (by decide +kernel), List.mem_of_getElem? (i := 655) (by decide +kernel), List.mem_of_getElem? (i := 656) (by decide +kernel)⟩
theorem lw_p21 : lw_okq (⟨"RatchetPost", "holdOfLetter", "(LRatchetPost$Tray;ILRatchetPost$Letter;)I"⟩, 11) := ⟨⟨by decide +kernel, by decide +kernel⟩, List.mem_of_getElem? (i := 21) (by decide +kernel), List.mem_of_getElem? (i := 663) (by decide +kernel), List.mem_of_getElem? (i := 664) (by decide +kernel)⟩
theorem lw_p22 : lw_okq (⟨"RatchetPost", "holdOfEnd", "(LRatchetPost$Tray;ILRatchetPost$End;)I"⟩, 11) := ⟨⟨by decide +kernel, by decide +kernel⟩, List.mem_of_getElem? (i := 21) (by decide +kernel), List.mem_of_getElem? (i := 667) (by decide +kernel), List.mem_of_getElem? (i := 668) (by decide +kernel)⟩
theorem lw_p23 : lw_okq (⟨"RatchetPost", "forgeKind", "(LRatchetPost$Tray;I)I"⟩, 11) := ⟨⟨by decide +kernel, by decide +kernel⟩, List.mem_of_getElem? (i := 21) (by decide +kernel), List.mem_of_getElem? (i := 706) (by decide +kernel), List.mem_of_getElem? (i := 707) (by decide +kernel)⟩
theorem lw_p24 : lw_okq (⟨"RatchetPost", "forgeHeader", "(LRatchetPost$Tray;I)I"⟩, 11) := ⟨⟨by decide +kernel, by decide +kernel⟩, List.mem_of_getElem? (i := 21) (by decide +kernel), List.mem_of_getElem? (i := 713) (by decide +kernel), List.mem_of_getElem? (i := 714) (by decide +kernel)⟩
theorem lw_p25 : lw_okq (⟨"RatchetPost", "forgeCopy", "(LRatchetPost$Tray;I)I"⟩, 11) := ⟨⟨by decide +kernel, by decide +kernel⟩, List.mem_of_getElem? (i := 21) (by decide +kernel), List.mem_of_getElem? (i := 717) (by decide +kernel), List.mem_of_getElem? (i := 718) (by decide +kernel)⟩
theorem lw_p26 : lw_okq (⟨"RatchetPost", "forgeRow", "(LRatchetPost$Tray;)I"⟩, 11) := ⟨⟨by decide +kernel, by decide +kernel⟩, List.mem_of_getElem? (i := 21) (by decide +kernel), List.mem_of_getElem? (i := 721) (by decide +kernel), List.mem_of_getElem? (i := 722) (by decide +kernel)⟩
theorem lw_p27 : lw_okq (⟨"RatchetPostModel", "refused", "(I)I"⟩, 46) := ⟨⟨by decide +kernel, by decide +kernel⟩, List.mem_of_getElem? (i := 729) (by decide +kernel), List.mem_of_getElem? (i := 882) (by decide +kernel), List.mem_of_getElem? (i := 883) (by decide +kernel)⟩
theorem lw_p28 : lw_okq (⟨"RatchetPostModel", "done", "(I)I"⟩, 46) := ⟨⟨by decide +kernel, by decide +kernel⟩, List.mem_of_getElem? (i := 729) (by decide +kernel), List.mem_of_getElem? (i := 886) (by decide +kernel), List.mem_of_getElem? (i := 887) (by decide +kernel)⟩
theorem lw_p29 : lw_okq (⟨"RatchetPostModel", "expire", "()V"⟩, 46) := ⟨⟨by decide +kernel, by decide +kernel⟩, List.mem_of_getElem? (i := 729) (by decide +kernel), List.mem_of_getElem? (i := 894) (by decide +kernel), List.mem_of_getElem? (i := 895) (by decide +kernel)⟩
theorem lw_p30 : lw_okq (⟨"RatchetPostModel", "drops", "(II)V"⟩, 46) := ⟨⟨by decide +kernel, by decide +kernel⟩, List.mem_of_getElem? (i := 729) (by decide +kernel), List.mem_of_getElem? (i := 898) (by decide +kernel), List.mem_of_getElem? (i := 899) (by decide +kernel)⟩
theorem lw_p31 : lw_okq (⟨"RatchetPostModel", "isEnd", "(I)Z"⟩, 46) := ⟨⟨by decide +kernel, by decide +kernel⟩, List.mem_of_getElem? (i := 729) (by decide +kernel), List.mem_of_getElem? (i := 910) (by decide +kernel), List.mem_of_getElem? (i := 911) (by decide +kernel)⟩
def lw_privs_2 : List (MethodName × Nat) := [(⟨"RatchetPost", "passOne", "(LRatchetPost$End;)V"⟩, 11), (⟨"RatchetPost", "takeNewPublic", "(LRatchetPost$End;LRatchetPost$Letter;)I"⟩, 11), (⟨"RatchetPost", "turn", "(LRatchetPost$End;LRatchetPost$Letter;)V"⟩, 11), (⟨"RatchetPost", "meetingAt", "(LRatchetPost$End;LRatchetPost$Thing;)LRatchetPost$Thing;"⟩, 11), (⟨"RatchetPost", "trayAt", "(I)LRatchetPost$Tray;"⟩, 11), (⟨"RatchetPost", "holdOfLetter", "(LRatchetPost$Tray;ILRatchetPost$Letter;)I"⟩, 11), (⟨"RatchetPost", "holdOfEnd", "(LRatchetPost$Tray;ILRatchetPost$End;)I"⟩, 11), (⟨"RatchetPost", "forgeKind", "(LRatchetPost$Tray;I)I"⟩, 11), (⟨"RatchetPost", "forgeHeader", "(LRatchetPost$Tray;I)I"⟩, 11), (⟨"RatchetPost", "forgeCopy", "(LRatchetPost$Tray;I)I"⟩, 11), (⟨"RatchetPost", "forgeRow", "(LRatchetPost$Tray;)I"⟩, 11), (⟨"RatchetPostModel", "refused", "(I)I"⟩, 46), (⟨"RatchetPostModel", "done", "(I)I"⟩, 46), (⟨"RatchetPostModel", "expire", "()V"⟩, 46), (⟨"RatchetPostModel", "drops", "(II)V"⟩, 46), (⟨"RatchetPostModel", "isEnd", "(I)Z"⟩, 46)]
theorem lw_r2 : ∀ q ∈ lw_privs_2, lw_okq q := List.forall_mem_cons.mpr ⟨lw_p16, List.forall_mem_cons.mpr ⟨lw_p17, List.forall_mem_cons.mpr ⟨lw_p18, List.forall_mem_cons.mpr ⟨lw_p19, List.forall_mem_cons.mpr ⟨lw_p20, List.forall_mem_cons.mpr ⟨lw_p21, List.forall_mem_cons.mpr ⟨lw_p22, List.forall_mem_cons.mpr ⟨lw_p23, List.forall_mem_cons.mpr ⟨lw_p24, List.forall_mem_cons.mpr ⟨lw_p25, List.forall_mem_cons.mpr ⟨lw_p26, List.forall_mem_cons.mpr ⟨lw_p27, List.forall_mem_cons.mpr ⟨lw_p28, List.forall_mem_cons.mpr ⟨lw_p29, List.forall_mem_cons.mpr ⟨lw_p30, List.forall_mem_cons.mpr ⟨lw_p31, fun _ h => absurd h List.not_mem_nil⟩⟩⟩⟩⟩⟩⟩⟩⟩⟩⟩⟩⟩⟩⟩⟩
theorem lw_p32 : lw_okq (⟨"RatchetPostModel", "thing", "(IIII)I"⟩, 46) := ⟨⟨by decide +kernel, by decide +kernel⟩, List.mem_of_getElem? (i := 729) (by decide +kernel), List.mem_of_getElem? (i := 914) (by decide +kernel), List.mem_of_getElem? (i := 915) (by decide +kernel)⟩
theorem lw_p33 : lw_okq (⟨"RatchetPostModel", "next", "(I)I"⟩, 46) := ⟨⟨by decide +kernel, by decide +kernel⟩, List.mem_of_getElem? (i := 729) (by decide +kernel), List.mem_of_getElem? (i := 922) (by decide +kernel), List.mem_of_getElem? (i := 923) (by decide +kernel)⟩
theorem lw_p34 : lw_okq (⟨"RatchetPostModel", "meeting", "(II)I"⟩, 46) := ⟨⟨by decide +kernel, by decide +kernel⟩, List.mem_of_getElem? (i := 729) (by decide +kernel), List.mem_of_getElem? (i := 926) (by decide +kernel), List.mem_of_getElem? (i := 927) (by decide +kernel)⟩
theorem lw_p35 : lw_okq (⟨"RatchetPostModel", "publicOf", "(I)I"⟩, 46) := ⟨⟨by decide +kernel, by decide +kernel⟩, List.mem_of_getElem? (i := 729) (by decide +kernel), List.mem_of_getElem? (i := 930) (by decide +kernel), List.mem_of_getElem? (i := 931) (by decide +kernel)⟩
theorem lw_p36 : lw_okq (⟨"RatchetPostModel", "power", "(II)I"⟩, 46) := ⟨⟨by decide +kernel, by decide +kernel⟩, List.mem_of_getElem? (i := 729) (by decide +kernel), List.mem_of_getElem? (i := 934) (by decide +kernel), List.mem_of_getElem? (i := 935) (by decide +kernel)⟩
theorem lw_p37 : lw_okq (⟨"RatchetPostModel", "rootOf", "(II)I"⟩, 46) := ⟨⟨by decide +kernel, by decide +kernel⟩, List.mem_of_getElem? (i := 729) (by decide +kernel), List.mem_of_getElem? (i := 938) (by decide +kernel), List.mem_of_getElem? (i := 939) (by decide +kernel)⟩
theorem lw_p38 : lw_okq (⟨"RatchetPostModel", "mix", "(II)I"⟩, 46) := ⟨⟨by decide +kernel, by decide +kernel⟩, List.mem_of_getElem? (i := 729) (by decide +kernel), List.mem_of_getElem? (i := 942) (by decide +kernel), List.mem_of_getElem? (i := 943) (by decide +kernel)⟩
theorem lw_p39 : lw_okq (⟨"RatchetPostModel", "chainOf", "(I)I"⟩, 46) := ⟨⟨by decide +kernel, by decide +kernel⟩, List.mem_of_getElem? (i := 729) (by decide +kernel), List.mem_of_getElem? (i := 946) (by decide +kernel), List.mem_of_getElem? (i := 947) (by decide +kernel)⟩
theorem lw_p40 : lw_okq (⟨"RatchetPostModel", "keyOf", "(I)I"⟩, 46) := ⟨⟨by decide +kernel, by decide +kernel⟩, List.mem_of_getElem? (i := 729) (by decide +kernel), List.mem_of_getElem? (i := 954) (by decide +kernel), List.mem_of_getElem? (i := 955) (by decide +kernel)⟩
theorem lw_p41 : lw_okq (⟨"RatchetPostModel", "isLetter", "(I)Z"⟩, 46) := ⟨⟨by decide +kernel, by decide +kernel⟩, List.mem_of_getElem? (i := 729) (by decide +kernel), List.mem_of_getElem? (i := 962) (by decide +kernel), List.mem_of_getElem? (i := 963) (by decide +kernel)⟩
theorem lw_p42 : lw_okq (⟨"RatchetPostModel", "keptOf", "(II)I"⟩, 46) := ⟨⟨by decide +kernel, by decide +kernel⟩, List.mem_of_getElem? (i := 729) (by decide +kernel), List.mem_of_getElem? (i := 970) (by decide +kernel), List.mem_of_getElem? (i := 971) (by decide +kernel)⟩
theorem lw_p43 : lw_okq (⟨"RatchetPostModel", "isGood", "(II)Z"⟩, 46) := ⟨⟨by decide +kernel, by decide +kernel⟩, List.mem_of_getElem? (i := 729) (by decide +kernel), List.mem_of_getElem? (i := 974) (by decide +kernel), List.mem_of_getElem? (i := 975) (by decide +kernel)⟩
theorem lw_p44 : lw_okq (⟨"RatchetPostModel", "byteOf", "(II)I"⟩, 46) := ⟨⟨by decide +kernel, by decide +kernel⟩, List.mem_of_getElem? (i := 729) (by decide +kernel), List.mem_of_getElem? (i := 978) (by decide +kernel), List.mem_of_getElem? (i := 979) (by decide +kernel)⟩
theorem lw_p45 : lw_okq (⟨"RatchetPostModel", "further", "(II)I"⟩, 46) := ⟨⟨by decide +kernel, by decide +kernel⟩, List.mem_of_getElem? (i := 729) (by decide +kernel), List.mem_of_getElem? (i := 982) (by decide +kernel), List.mem_of_getElem? (i := 983) (by decide +kernel)⟩
theorem lw_p46 : lw_okq (⟨"RatchetPostModel", "keyBehind", "(II)I"⟩, 46) := ⟨⟨by decide +kernel, by decide +kernel⟩, List.mem_of_getElem? (i := 729) (by decide +kernel), List.mem_of_getElem? (i := 986) (by decide +kernel), List.mem_of_getElem? (i := 987) (by decide +kernel)⟩
theorem lw_p47 : lw_okq (⟨"RatchetPostModel", "skip", "(II)V"⟩, 46) := ⟨⟨by decide +kernel, by decide +kernel⟩, List.mem_of_getElem? (i := 729) (by decide +kernel), List.mem_of_getElem? (i := 990) (by decide +kernel), List.mem_of_getElem? (i := 991) (by decide +kernel)⟩
def lw_privs_3 : List (MethodName × Nat) := [(⟨"RatchetPostModel", "thing", "(IIII)I"⟩, 46), (⟨"RatchetPostModel", "next", "(I)I"⟩, 46), (⟨"RatchetPostModel", "meeting", "(II)I"⟩, 46), (⟨"RatchetPostModel", "publicOf", "(I)I"⟩, 46), (⟨"RatchetPostModel", "power", "(II)I"⟩, 46), (⟨"RatchetPostModel", "rootOf", "(II)I"⟩, 46), (⟨"RatchetPostModel", "mix", "(II)I"⟩, 46), (⟨"RatchetPostModel", "chainOf", "(I)I"⟩, 46), (⟨"RatchetPostModel", "keyOf", "(I)I"⟩, 46), (⟨"RatchetPostModel", "isLetter", "(I)Z"⟩, 46), (⟨"RatchetPostModel", "keptOf", "(II)I"⟩, 46), (⟨"RatchetPostModel", "isGood", "(II)Z"⟩, 46), (⟨"RatchetPostModel", "byteOf", "(II)I"⟩, 46), (⟨"RatchetPostModel", "further", "(II)I"⟩, 46), (⟨"RatchetPostModel", "keyBehind", "(II)I"⟩, 46), (⟨"RatchetPostModel", "skip", "(II)V"⟩, 46)]
theorem lw_r3 : ∀ q ∈ lw_privs_3, lw_okq q := List.forall_mem_cons.mpr ⟨lw_p32, List.forall_mem_cons.mpr ⟨lw_p33, List.forall_mem_cons.mpr ⟨lw_p34, List.forall_mem_cons.mpr ⟨lw_p35, List.forall_mem_cons.mpr ⟨lw_p36, List.forall_mem_cons.mpr ⟨lw_p37, List.forall_mem_cons.mpr ⟨lw_p38, List.forall_mem_cons.mpr ⟨lw_p39, List.forall_mem_cons.mpr ⟨lw_p40, List.forall_mem_cons.mpr ⟨lw_p41, List.forall_mem_cons.mpr ⟨lw_p42, List.forall_mem_cons.mpr ⟨lw_p43, List.forall_mem_cons.mpr ⟨lw_p44, List.forall_mem_cons.mpr ⟨lw_p45, List.forall_mem_cons.mpr ⟨lw_p46, List.forall_mem_cons.mpr ⟨lw_p47, fun _ h => absurd h List.not_mem_nil⟩⟩⟩⟩⟩⟩⟩⟩⟩⟩⟩⟩⟩⟩⟩⟩
theorem lw_p48 : lw_okq (⟨"RatchetPostModel", "keep", "(III)V"⟩, 46) := ⟨⟨by decide +kernel, by decide +kernel⟩, List.mem_of_getElem? (i := 729) (by decide +kernel), List.mem_of_getElem? (i := 994) (by decide +kernel), List.mem_of_getElem? (i := 995) (by decide +kernel)⟩
theorem lw_p49 : lw_okq (⟨"RatchetPostModel", "opened", "(I)V"⟩, 46) := ⟨⟨by decide +kernel, by decide +kernel⟩, List.mem_of_getElem? (i := 729) (by decide +kernel), List.mem_of_getElem? (i := 998) (by decide +kernel), List.mem_of_getElem? (i := 999) (by decide +kernel)⟩
theorem lw_p50 : lw_okq (⟨"RatchetPostModel", "anew", "(IIZ)I"⟩, 46) := ⟨⟨by decide +kernel, by decide +kernel⟩, List.mem_of_getElem? (i := 729) (by decide +kernel), List.mem_of_getElem? (i := 1002) (by decide +kernel), List.mem_of_getElem? (i := 1003) (by decide +kernel)⟩
theorem lw_p51 : lw_okq (⟨"RatchetPostModel", "hasLeft", "(II)Z"⟩, 46) := ⟨⟨by decide +kernel, by decide +kernel⟩, List.mem_of_getElem? (i := 729) (by decide +kernel), List.mem_of_getElem? (i := 1006) (by decide +kernel), List.mem_of_getElem? (i := 1007) (by decide +kernel)⟩
theorem lw_p52 : lw_okq (⟨"RatchetPostModel", "shows", "(I)V"⟩, 46) := ⟨⟨by decide +kernel, by decide +kernel⟩, List.mem_of_getElem? (i := 729) (by decide +kernel), List.mem_of_getElem? (i := 1014) (by decide +kernel), List.mem_of_getElem? (i := 1015) (by decide +kernel)⟩
theorem lw_p53 : lw_okq (⟨"RatchetPostModel", "know", "()V"⟩, 46) := ⟨⟨by decide +kernel, by decide +kernel⟩, List.mem_of_getElem? (i := 729) (by decide +kernel), List.mem_of_getElem? (i := 1022) (by decide +kernel), List.mem_of_getElem? (i := 1023) (by decide +kernel)⟩
theorem lw_p54 : lw_okq (⟨"RatchetPostModel", "worthOf", "(I)I"⟩, 46) := ⟨⟨by decide +kernel, by decide +kernel⟩, List.mem_of_getElem? (i := 729) (by decide +kernel), List.mem_of_getElem? (i := 1042) (by decide +kernel), List.mem_of_getElem? (i := 1043) (by decide +kernel)⟩
theorem lw_p55 : lw_okq (⟨"RatchetPostModel", "knownThings", "()I"⟩, 46) := ⟨⟨by decide +kernel, by decide +kernel⟩, List.mem_of_getElem? (i := 729) (by decide +kernel), List.mem_of_getElem? (i := 1058) (by decide +kernel), List.mem_of_getElem? (i := 1059) (by decide +kernel)⟩
theorem lw_p56 : lw_okq (⟨"RatchetPostModel", "puts", "(III)I"⟩, 46) := ⟨⟨by decide +kernel, by decide +kernel⟩, List.mem_of_getElem? (i := 729) (by decide +kernel), List.mem_of_getElem? (i := 1066) (by decide +kernel), List.mem_of_getElem? (i := 1067) (by decide +kernel)⟩
theorem lw_p57 : lw_okq (⟨"RatchetPostModel", "move", "(III)I"⟩, 46) := ⟨⟨by decide +kernel, by decide +kernel⟩, List.mem_of_getElem? (i := 729) (by decide +kernel), List.mem_of_getElem? (i := 1078) (by decide +kernel), List.mem_of_getElem? (i := 1079) (by decide +kernel)⟩
theorem lw_p58 : lw_okq (⟨"RatchetPostModel", "ran", "(I)V"⟩, 46) := ⟨⟨by decide +kernel, by decide +kernel⟩, List.mem_of_getElem? (i := 729) (by decide +kernel), List.mem_of_getElem? (i := 1085) (by decide +kernel), List.mem_of_getElem? (i := 1086) (by decide +kernel)⟩
theorem lw_p59 : lw_okq (⟨"RatchetPostModel", "mixed", "(III)I"⟩, 46) := ⟨⟨by decide +kernel, by decide +kernel⟩, List.mem_of_getElem? (i := 729) (by decide +kernel), List.mem_of_getElem? (i := 1089) (by decide +kernel), List.mem_of_getElem? (i := 1090) (by decide +kernel)⟩
theorem lw_p60 : lw_okq (⟨"RatchetPostModel", "ended", "(IIII)I"⟩, 46) := ⟨⟨by decide +kernel, by decide +kernel⟩, List.mem_of_getElem? (i := 729) (by decide +kernel), List.mem_of_getElem? (i := 1093) (by decide +kernel), List.mem_of_getElem? (i := 1094) (by decide +kernel)⟩
theorem lw_p61 : lw_okq (⟨"RatchetPostModel", "keyEnd", "(III)I"⟩, 46) := ⟨⟨by decide +kernel, by decide +kernel⟩, List.mem_of_getElem? (i := 729) (by decide +kernel), List.mem_of_getElem? (i := 1097) (by decide +kernel), List.mem_of_getElem? (i := 1098) (by decide +kernel)⟩
theorem lw_p62 : lw_okq (⟨"RatchetPostModel", "tell", "(III)I"⟩, 46) := ⟨⟨by decide +kernel, by decide +kernel⟩, List.mem_of_getElem? (i := 729) (by decide +kernel), List.mem_of_getElem? (i := 1101) (by decide +kernel), List.mem_of_getElem? (i := 1102) (by decide +kernel)⟩
theorem lw_p63 : lw_okq (⟨"RatchetPostModel", "header", "(II)I"⟩, 46) := ⟨⟨by decide +kernel, by decide +kernel⟩, List.mem_of_getElem? (i := 729) (by decide +kernel), List.mem_of_getElem? (i := 1116) (by decide +kernel), List.mem_of_getElem? (i := 1117) (by decide +kernel)⟩
def lw_privs_4 : List (MethodName × Nat) := [(⟨"RatchetPostModel", "keep", "(III)V"⟩, 46), (⟨"RatchetPostModel", "opened", "(I)V"⟩, 46), (⟨"RatchetPostModel", "anew", "(IIZ)I"⟩, 46), (⟨"RatchetPostModel", "hasLeft", "(II)Z"⟩, 46), (⟨"RatchetPostModel", "shows", "(I)V"⟩, 46), (⟨"RatchetPostModel", "know", "()V"⟩, 46), (⟨"RatchetPostModel", "worthOf", "(I)I"⟩, 46), (⟨"RatchetPostModel", "knownThings", "()I"⟩, 46), (⟨"RatchetPostModel", "puts", "(III)I"⟩, 46), (⟨"RatchetPostModel", "move", "(III)I"⟩, 46), (⟨"RatchetPostModel", "ran", "(I)V"⟩, 46), (⟨"RatchetPostModel", "mixed", "(III)I"⟩, 46), (⟨"RatchetPostModel", "ended", "(IIII)I"⟩, 46), (⟨"RatchetPostModel", "keyEnd", "(III)I"⟩, 46), (⟨"RatchetPostModel", "tell", "(III)I"⟩, 46), (⟨"RatchetPostModel", "header", "(II)I"⟩, 46)]
theorem lw_r4 : ∀ q ∈ lw_privs_4, lw_okq q := List.forall_mem_cons.mpr ⟨lw_p48, List.forall_mem_cons.mpr ⟨lw_p49, List.forall_mem_cons.mpr ⟨lw_p50, List.forall_mem_cons.mpr ⟨lw_p51, List.forall_mem_cons.mpr ⟨lw_p52, List.forall_mem_cons.mpr ⟨lw_p53, List.forall_mem_cons.mpr ⟨lw_p54, List.forall_mem_cons.mpr ⟨lw_p55, List.forall_mem_cons.mpr ⟨lw_p56, List.forall_mem_cons.mpr ⟨lw_p57, List.forall_mem_cons.mpr ⟨lw_p58, List.forall_mem_cons.mpr ⟨lw_p59, List.forall_mem_cons.mpr ⟨lw_p60, List.forall_mem_cons.mpr ⟨lw_p61, List.forall_mem_cons.mpr ⟨lw_p62, List.forall_mem_cons.mpr ⟨lw_p63, fun _ h => absurd h List.not_mem_nil⟩⟩⟩⟩⟩⟩⟩⟩⟩⟩⟩⟩⟩⟩⟩⟩
def lw_privs : List (MethodName × Nat) := lw_privs_1 ++ (lw_privs_2 ++ (lw_privs_3 ++ (lw_privs_4)))
def lw_tbl : List Cond := k2_sels lw_privs ++ tables_1
theorem lw_privs_ok : ∀ q ∈ lw_privs, lw_okq q := by
  show ∀ q ∈ lw_privs_1 ++ (lw_privs_2 ++ (lw_privs_3 ++ (lw_privs_4))), lw_okq q
  exact List.forall_mem_append.mpr ⟨lw_r1, List.forall_mem_append.mpr ⟨lw_r2, List.forall_mem_append.mpr ⟨lw_r3, lw_r4⟩⟩⟩
-- ===== end of PART A; then your names; then what follows =====
def RX0 : String := "RatchetPost$Arithmetic"
def TX0 : u_T := fun k => match k with
  | 0 => ("RatchetPost$Arithmetic", "modulus", "I", false)
  | _ => ("RatchetPost$Arithmetic", "base", "I", false)
def tyX0 : Nat → FieldType := fun k => match k with
  | 0 => .int
  | _ => .int
theorem nmX0 : ∀ a, a < 2 → ∀ b, b < 2 → a ≠ b → (TX0 a).2.1 ≠ (TX0 b).2.1 := by decide +kernel
theorem tyX0_ok : ∀ k, k < 2 → parseFieldDescriptor (TX0 k).2.2.1 = some (tyX0 k) := by decide +kernel
abbrev cX0_init : ByteArray := prog_2_method_1_code
def yX0_init : MethodName := ⟨RX0, "<init>", "()V"⟩
abbrev cX0_mix : ByteArray := prog_2_method_2_code
def yX0_mix : MethodName := ⟨RX0, "mix", "(II)I"⟩
abbrev cX0_power : ByteArray := prog_2_method_3_code
def yX0_power : MethodName := ⟨RX0, "power", "(II)I"⟩
abbrev cX0_publicOf : ByteArray := prog_2_method_4_code
def yX0_publicOf : MethodName := ⟨RX0, "publicOf", "(I)I"⟩
def RX1 : String := "RatchetPost$End"
def TX1 : u_T := fun k => match k with
  | 0 => ("RatchetPost$End", "number", "I", true)
  | 1 => ("RatchetPost$End", "row", "[LRatchetPost$Thing;", true)
  | 2 => ("RatchetPost$End", "rowCount", "I", false)
  | 3 => ("RatchetPost$End", "started", "Z", false)
  | 4 => ("RatchetPost$End", "own", "LRatchetPost$Thing;", false)
  | 5 => ("RatchetPost$End", "root", "LRatchetPost$Thing;", false)
  | 6 => ("RatchetPost$End", "sending", "LRatchetPost$Thing;", false)
  | 7 => ("RatchetPost$End", "taking", "LRatchetPost$Thing;", false)
  | 8 => ("RatchetPost$End", "from", "I", false)
  | 9 => ("RatchetPost$End", "sent", "I", false)
  | 10 => ("RatchetPost$End", "before", "I", false)
  | 11 => ("RatchetPost$End", "past", "I", false)
  | 12 => ("RatchetPost$End", "kept", "[LRatchetPost$Skipped;", true)
  | 13 => ("RatchetPost$End", "keptCount", "I", false)
  | 14 => ("RatchetPost$End", "left", "[I", true)
  | _ => ("RatchetPost$End", "leftCount", "I", false)
def tyX1 : Nat → FieldType := fun k => match k with
  | 0 => .int
  | 1 => .array (.object "RatchetPost$Thing")
  | 2 => .int
  | 3 => .boolean
  | 4 => .object "RatchetPost$Thing"
  | 5 => .object "RatchetPost$Thing"
  | 6 => .object "RatchetPost$Thing"
  | 7 => .object "RatchetPost$Thing"
  | 8 => .int
  | 9 => .int
  | 10 => .int
  | 11 => .int
  | 12 => .array (.object "RatchetPost$Skipped")
  | 13 => .int
  | 14 => .array .int
  | _ => .int
theorem nmX1 : ∀ a, a < 16 → ∀ b, b < 16 → a ≠ b → (TX1 a).2.1 ≠ (TX1 b).2.1 := by decide +kernel
theorem tyX1_ok : ∀ k, k < 16 → parseFieldDescriptor (TX1 k).2.2.1 = some (tyX1 k) := by decide +kernel
abbrev cX1_init : ByteArray := prog_3_method_1_code
def yX1_init : MethodName := ⟨RX1, "<init>", "(I)V"⟩
abbrev cX1_nextSecret : ByteArray := prog_3_method_2_code
def yX1_nextSecret : MethodName := ⟨RX1, "nextSecret", "()LRatchetPost$Thing;"⟩
abbrev cX1_leave : ByteArray := prog_3_method_3_code
def yX1_leave : MethodName := ⟨RX1, "leave", "()V"⟩
abbrev cX1_hasLeft : ByteArray := prog_3_method_4_code
def yX1_hasLeft : MethodName := ⟨RX1, "hasLeft", "(I)Z"⟩
abbrev cX1_keep : ByteArray := prog_3_method_5_code
def yX1_keep : MethodName := ⟨RX1, "keep", "(LRatchetPost$Skipped;)V"⟩
abbrev cX1_drop : ByteArray := prog_3_method_6_code
def yX1_drop : MethodName := ⟨RX1, "drop", "(I)V"⟩
abbrev cX1_keptFor : ByteArray := prog_3_method_7_code
def yX1_keptFor : MethodName := ⟨RX1, "keptFor", "(LRatchetPost$Letter;)I"⟩
abbrev cX1_endOld : ByteArray := prog_3_method_8_code
def yX1_endOld : MethodName := ⟨RX1, "endOld", "(II)V"⟩
def RX2 : String := "RatchetPost$Letter"
def TX2 : u_T := fun k => match k with
  | 0 => ("RatchetPost$Letter", "sender", "I", true)
  | 1 => ("RatchetPost$Letter", "secret", "LRatchetPost$Thing;", true)
  | 2 => ("RatchetPost$Letter", "key", "LRatchetPost$Thing;", true)
  | 3 => ("RatchetPost$Letter", "header", "[I", true)
  | 4 => ("RatchetPost$Letter", "text", "I", false)
  | _ => ("RatchetPost$Letter", "check", "I", false)
def tyX2 : Nat → FieldType := fun k => match k with
  | 0 => .int
  | 1 => .object "RatchetPost$Thing"
  | 2 => .object "RatchetPost$Thing"
  | 3 => .array .int
  | 4 => .int
  | _ => .int
theorem nmX2 : ∀ a, a < 6 → ∀ b, b < 6 → a ≠ b → (TX2 a).2.1 ≠ (TX2 b).2.1 := by decide +kernel
theorem tyX2_ok : ∀ k, k < 6 → parseFieldDescriptor (TX2 k).2.2.1 = some (tyX2 k) := by decide +kernel
abbrev cX2_init : ByteArray := prog_4_method_1_code
def yX2_init : MethodName := ⟨RX2, "<init>", "(LRatchetPost$End;LRatchetPost$Thing;)V"⟩
abbrev cX2_from : ByteArray := prog_4_method_2_code
def yX2_from : MethodName := ⟨RX2, "from", "()I"⟩
abbrev cX2_before : ByteArray := prog_4_method_3_code
def yX2_before : MethodName := ⟨RX2, "before", "()I"⟩
abbrev cX2_place : ByteArray := prog_4_method_4_code
def yX2_place : MethodName := ⟨RX2, "place", "()I"⟩
def RX3 : String := "RatchetPost$Skipped"
def TX3 : u_T := fun k => match k with
  | 0 => ("RatchetPost$Thing", "kind", "I", true)
  | 1 => ("RatchetPost$Thing", "value", "I", true)
  | 2 => ("RatchetPost$Thing", "of", "LRatchetPost$Thing;", true)
  | 3 => ("RatchetPost$Thing", "with", "LRatchetPost$Thing;", true)
  | 4 => ("RatchetPost$Thing", "firstOfIt", "LRatchetPost$Thing;", false)
  | 5 => ("RatchetPost$Thing", "beside", "LRatchetPost$Thing;", false)
  | 6 => ("RatchetPost$Thing", "shown", "Z", false)
  | 7 => ("RatchetPost$Thing", "stepCount", "I", false)
  | 8 => ("RatchetPost$Skipped", "key", "LRatchetPost$Thing;", true)
  | 9 => ("RatchetPost$Skipped", "from", "I", true)
  | 10 => ("RatchetPost$Skipped", "place", "I", true)
  | _ => ("RatchetPost$Skipped", "tick", "I", true)
def tyX3 : Nat → FieldType := fun k => match k with
  | 0 => .int
  | 1 => .int
  | 2 => .object "RatchetPost$Thing"
  | 3 => .object "RatchetPost$Thing"
  | 4 => .object "RatchetPost$Thing"
  | 5 => .object "RatchetPost$Thing"
  | 6 => .boolean
  | 7 => .int
  | 8 => .object "RatchetPost$Thing"
  | 9 => .int
  | 10 => .int
  | _ => .int
theorem nmX3 : ∀ a, a < 12 → ∀ b, b < 12 → a ≠ b → (TX3 a).2.1 ≠ (TX3 b).2.1 := by decide +kernel
theorem tyX3_ok : ∀ k, k < 12 → parseFieldDescriptor (TX3 k).2.2.1 = some (tyX3 k) := by decide +kernel
abbrev cX3_init : ByteArray := prog_5_method_1_code
def yX3_init : MethodName := ⟨RX3, "<init>", "(LRatchetPost$Thing;III)V"⟩
def RX4 : String := "RatchetPost$Thing"
def TX4 : u_T := fun k => match k with
  | 0 => ("RatchetPost$Thing", "kind", "I", true)
  | 1 => ("RatchetPost$Thing", "value", "I", true)
  | 2 => ("RatchetPost$Thing", "of", "LRatchetPost$Thing;", true)
  | 3 => ("RatchetPost$Thing", "with", "LRatchetPost$Thing;", true)
  | 4 => ("RatchetPost$Thing", "firstOfIt", "LRatchetPost$Thing;", false)
  | 5 => ("RatchetPost$Thing", "beside", "LRatchetPost$Thing;", false)
  | 6 => ("RatchetPost$Thing", "shown", "Z", false)
  | _ => ("RatchetPost$Thing", "stepCount", "I", false)
def tyX4 : Nat → FieldType := fun k => match k with
  | 0 => .int
  | 1 => .int
  | 2 => .object "RatchetPost$Thing"
  | 3 => .object "RatchetPost$Thing"
  | 4 => .object "RatchetPost$Thing"
  | 5 => .object "RatchetPost$Thing"
  | 6 => .boolean
  | _ => .int
theorem nmX4 : ∀ a, a < 8 → ∀ b, b < 8 → a ≠ b → (TX4 a).2.1 ≠ (TX4 b).2.1 := by decide +kernel
theorem tyX4_ok : ∀ k, k < 8 → parseFieldDescriptor (TX4 k).2.2.1 = some (tyX4 k) := by decide +kernel
abbrev cX4_init : ByteArray := prog_6_method_1_code
def yX4_init : MethodName := ⟨RX4, "<init>", "(IILRatchetPost$Thing;LRatchetPost$Thing;)V"⟩
abbrev cX4_stepsNow : ByteArray := prog_6_method_2_code
def yX4_stepsNow : MethodName := ⟨RX4, "stepsNow", "()I"⟩
def RX5 : String := "RatchetPost$Things"
def TX5 : u_T := fun k => match k with
  | 0 => ("RatchetPost$Things", "arithmetic", "LRatchetPost$Arithmetic;", true)
  | 1 => ("RatchetPost$Things", "came", "Ljava/util/ArrayList;", true)
  | _ => ("RatchetPost$Things", "knownOnes", "I", false)
def tyX5 : Nat → FieldType := fun k => match k with
  | 0 => .object "RatchetPost$Arithmetic"
  | 1 => .object "java/util/ArrayList"
  | _ => .int
theorem nmX5 : ∀ a, a < 3 → ∀ b, b < 3 → a ≠ b → (TX5 a).2.1 ≠ (TX5 b).2.1 := by decide +kernel
theorem tyX5_ok : ∀ k, k < 3 → parseFieldDescriptor (TX5 k).2.2.1 = some (tyX5 k) := by decide +kernel
abbrev cX5_init : ByteArray := prog_7_method_1_code
def yX5_init : MethodName := ⟨RX5, "<init>", "()V"⟩
abbrev cX5_newSecret : ByteArray := prog_7_method_2_code
def yX5_newSecret : MethodName := ⟨RX5, "newSecret", "(I)LRatchetPost$Thing;"⟩
abbrev cX5_meetingOf : ByteArray := prog_7_method_3_code
def yX5_meetingOf : MethodName := ⟨RX5, "meetingOf", "(LRatchetPost$Thing;LRatchetPost$Thing;)LRatchetPost$Thing;"⟩
abbrev cX5_firstRootOf : ByteArray := prog_7_method_4_code
def yX5_firstRootOf : MethodName := ⟨RX5, "firstRootOf", "(LRatchetPost$Thing;)LRatchetPost$Thing;"⟩
abbrev cX5_rootOf : ByteArray := prog_7_method_5_code
def yX5_rootOf : MethodName := ⟨RX5, "rootOf", "(LRatchetPost$Thing;LRatchetPost$Thing;)LRatchetPost$Thing;"⟩
abbrev cX5_chainOf : ByteArray := prog_7_method_6_code
def yX5_chainOf : MethodName := ⟨RX5, "chainOf", "(LRatchetPost$Thing;)LRatchetPost$Thing;"⟩
abbrev cX5_nextOf : ByteArray := prog_7_method_7_code
def yX5_nextOf : MethodName := ⟨RX5, "nextOf", "(LRatchetPost$Thing;)LRatchetPost$Thing;"⟩
abbrev cX5_keyOf : ByteArray := prog_7_method_8_code
def yX5_keyOf : MethodName := ⟨RX5, "keyOf", "(LRatchetPost$Thing;)LRatchetPost$Thing;"⟩
abbrev cX5_comeOf : ByteArray := prog_7_method_9_code
def yX5_comeOf : MethodName := ⟨RX5, "comeOf", "(LRatchetPost$Thing;ILRatchetPost$Thing;I)LRatchetPost$Thing;"⟩
abbrev cX5_show : ByteArray := prog_7_method_10_code
def yX5_show : MethodName := ⟨RX5, "show", "(LRatchetPost$Thing;)I"⟩
abbrev cX5_settle : ByteArray := prog_7_method_11_code
def yX5_settle : MethodName := ⟨RX5, "settle", "()V"⟩
def RX6 : String := "RatchetPost$Trace"
def TX6 : u_T := fun k => match k with
  | 0 => ("RatchetPost$Trace", "bodies", "[I", true)
  | _ => ("RatchetPost$Trace", "kept", "I", false)
def tyX6 : Nat → FieldType := fun k => match k with
  | 0 => .array .int
  | _ => .int
theorem nmX6 : ∀ a, a < 2 → ∀ b, b < 2 → a ≠ b → (TX6 a).2.1 ≠ (TX6 b).2.1 := by decide +kernel
theorem tyX6_ok : ∀ k, k < 2 → parseFieldDescriptor (TX6 k).2.2.1 = some (tyX6 k) := by decide +kernel
abbrev cX6_init : ByteArray := prog_8_method_1_code
def yX6_init : MethodName := ⟨RX6, "<init>", "()V"⟩
abbrev cX6_note : ByteArray := prog_8_method_2_code
def yX6_note : MethodName := ⟨RX6, "note", "(I)V"⟩
def RX7 : String := "RatchetPost$Tray"
def TX7 : u_T := fun k => match k with
  | 0 => ("RatchetPost$Tray", "thing", "LRatchetPost$Thing;", false)
  | _ => ("RatchetPost$Tray", "mail", "LRatchetPost$Letter;", false)
def tyX7 : Nat → FieldType := fun k => match k with
  | 0 => .object "RatchetPost$Thing"
  | _ => .object "RatchetPost$Letter"
theorem nmX7 : ∀ a, a < 2 → ∀ b, b < 2 → a ≠ b → (TX7 a).2.1 ≠ (TX7 b).2.1 := by decide +kernel
theorem tyX7_ok : ∀ k, k < 2 → parseFieldDescriptor (TX7 k).2.2.1 = some (tyX7 k) := by decide +kernel
abbrev cX7_init : ByteArray := prog_9_method_1_code
def yX7_init : MethodName := ⟨RX7, "<init>", "()V"⟩
abbrev cX7_put : ByteArray := prog_9_method_2_code
def yX7_put : MethodName := ⟨RX7, "put", "(LRatchetPost$Thing;LRatchetPost$Letter;)V"⟩
def RX8 : String := "RatchetPost"
def TX8 : u_T := fun k => match k with
  | 0 => ("RatchetPost", "arithmetic", "LRatchetPost$Arithmetic;", true)
  | 1 => ("RatchetPost", "things", "LRatchetPost$Things;", true)
  | 2 => ("RatchetPost", "ends", "[LRatchetPost$End;", true)
  | 3 => ("RatchetPost", "letters", "[LRatchetPost$Letter;", true)
  | 4 => ("RatchetPost", "trays", "[LRatchetPost$Tray;", true)
  | 5 => ("RatchetPost", "begun", "LRatchetPost$Trace;", true)
  | 6 => ("RatchetPost", "endCount", "I", false)
  | 7 => ("RatchetPost", "tick", "I", false)
  | 8 => ("RatchetPost", "most", "I", false)
  | 9 => ("RatchetPost", "life", "I", false)
  | _ => ("RatchetPost", "latest", "I", false)
def tyX8 : Nat → FieldType := fun k => match k with
  | 0 => .object "RatchetPost$Arithmetic"
  | 1 => .object "RatchetPost$Things"
  | 2 => .array (.object "RatchetPost$End")
  | 3 => .array (.object "RatchetPost$Letter")
  | 4 => .array (.object "RatchetPost$Tray")
  | 5 => .object "RatchetPost$Trace"
  | 6 => .int
  | 7 => .int
  | 8 => .int
  | 9 => .int
  | _ => .int
theorem nmX8 : ∀ a, a < 11 → ∀ b, b < 11 → a ≠ b → (TX8 a).2.1 ≠ (TX8 b).2.1 := by decide +kernel
theorem tyX8_ok : ∀ k, k < 11 → parseFieldDescriptor (TX8 k).2.2.1 = some (tyX8 k) := by decide +kernel
abbrev cX8_init : ByteArray := prog_1_method_1_code
def yX8_init : MethodName := ⟨RX8, "<init>", "()V"⟩
abbrev cX8_prime : ByteArray := prog_1_method_2_code
def yX8_prime : MethodName := ⟨RX8, "prime", "(II)I"⟩
abbrev cX8_limits : ByteArray := prog_1_method_3_code
def yX8_limits : MethodName := ⟨RX8, "limits", "(II)I"⟩
abbrev cX8_pair : ByteArray := prog_1_method_4_code
def yX8_pair : MethodName := ⟨RX8, "pair", "()I"⟩
abbrev cX8_secret : ByteArray := prog_1_method_5_code
def yX8_secret : MethodName := ⟨RX8, "secret", "(II)I"⟩
abbrev cX8_start : ByteArray := prog_1_method_6_code
def yX8_start : MethodName := ⟨RX8, "start", "(I)I"⟩
abbrev cX8_send : ByteArray := prog_1_method_7_code
def yX8_send : MethodName := ⟨RX8, "send", "(II)I"⟩
abbrev cX8_alter : ByteArray := prog_1_method_8_code
def yX8_alter : MethodName := ⟨RX8, "alter", "(II)I"⟩
abbrev cX8_take : ByteArray := prog_1_method_9_code
def yX8_take : MethodName := ⟨RX8, "take", "(II)I"⟩
abbrev cX8_see : ByteArray := prog_1_method_10_code
def yX8_see : MethodName := ⟨RX8, "see", "(I)I"⟩
abbrev cX8_known : ByteArray := prog_1_method_11_code
def yX8_known : MethodName := ⟨RX8, "known", "(I)I"⟩
abbrev cX8_steps : ByteArray := prog_1_method_12_code
def yX8_steps : MethodName := ⟨RX8, "steps", "(I)I"⟩
abbrev cX8_heals : ByteArray := prog_1_method_13_code
def yX8_heals : MethodName := ⟨RX8, "heals", "(I)I"⟩
abbrev cX8_same : ByteArray := prog_1_method_14_code
def yX8_same : MethodName := ⟨RX8, "same", "(I)I"⟩
abbrev cX8_told : ByteArray := prog_1_method_15_code
def yX8_told : MethodName := ⟨RX8, "told", "(II)I"⟩
abbrev cX8_skipped : ByteArray := prog_1_method_16_code
def yX8_skipped : MethodName := ⟨RX8, "skipped", "(III)I"⟩
abbrev cX8_letter : ByteArray := prog_1_method_17_code
def yX8_letter : MethodName := ⟨RX8, "letter", "(II)I"⟩
abbrev cX8_count : ByteArray := prog_1_method_18_code
def yX8_count : MethodName := ⟨RX8, "count", "(I)I"⟩
abbrev cX8_hold : ByteArray := prog_1_method_19_code
def yX8_hold : MethodName := ⟨RX8, "hold", "(III)I"⟩
abbrev cX8_tray : ByteArray := prog_1_method_20_code
def yX8_tray : MethodName := ⟨RX8, "tray", "(I)I"⟩
abbrev cX8_act : ByteArray := prog_1_method_21_code
def yX8_act : MethodName := ⟨RX8, "act", "(III)I"⟩
abbrev cX8_trace : ByteArray := prog_1_method_22_code
def yX8_trace : MethodName := ⟨RX8, "trace", "(I)I"⟩
abbrev cX8_forge : ByteArray := prog_1_method_23_code
def yX8_forge : MethodName := ⟨RX8, "forge", "(III)I"⟩
abbrev cX8_status : ByteArray := prog_1_method_24_code
def yX8_status : MethodName := ⟨RX8, "status", "()I"⟩
abbrev cX8_refuse : ByteArray := prog_1_method_25_code
def yX8_refuse : MethodName := ⟨RX8, "refuse", "(I)I"⟩
abbrev cX8_done : ByteArray := prog_1_method_26_code
def yX8_done : MethodName := ⟨RX8, "done", "(I)I"⟩
abbrev cX8_endAt : ByteArray := prog_1_method_27_code
def yX8_endAt : MethodName := ⟨RX8, "endAt", "(I)LRatchetPost$End;"⟩
abbrev cX8_lowerOf : ByteArray := prog_1_method_28_code
def yX8_lowerOf : MethodName := ⟨RX8, "lowerOf", "(I)LRatchetPost$End;"⟩
abbrev cX8_otherOf : ByteArray := prog_1_method_29_code
def yX8_otherOf : MethodName := ⟨RX8, "otherOf", "(I)LRatchetPost$End;"⟩
abbrev cX8_letterAt : ByteArray := prog_1_method_30_code
def yX8_letterAt : MethodName := ⟨RX8, "letterAt", "(I)LRatchetPost$Letter;"⟩
abbrev cX8_trayAt : ByteArray := prog_1_method_31_code
def yX8_trayAt : MethodName := ⟨RX8, "trayAt", "(I)LRatchetPost$Tray;"⟩
abbrev cX8_valueOf : ByteArray := prog_1_method_32_code
def yX8_valueOf : MethodName := ⟨RX8, "valueOf", "(LRatchetPost$Thing;)I"⟩
abbrev cX8_takeByKept : ByteArray := prog_1_method_33_code
def yX8_takeByKept : MethodName := ⟨RX8, "takeByKept", "(LRatchetPost$End;LRatchetPost$Letter;I)I"⟩
abbrev cX8_takeByChain : ByteArray := prog_1_method_34_code
def yX8_takeByChain : MethodName := ⟨RX8, "takeByChain", "(LRatchetPost$End;LRatchetPost$Letter;)I"⟩
abbrev cX8_takeNewPublic : ByteArray := prog_1_method_35_code
def yX8_takeNewPublic : MethodName := ⟨RX8, "takeNewPublic", "(LRatchetPost$End;LRatchetPost$Letter;)I"⟩
abbrev cX8_turn : ByteArray := prog_1_method_36_code
def yX8_turn : MethodName := ⟨RX8, "turn", "(LRatchetPost$End;LRatchetPost$Letter;)V"⟩
abbrev cX8_meetingAt : ByteArray := prog_1_method_37_code
def yX8_meetingAt : MethodName := ⟨RX8, "meetingAt", "(LRatchetPost$End;LRatchetPost$Thing;)LRatchetPost$Thing;"⟩
abbrev cX8_skipTo : ByteArray := prog_1_method_38_code
def yX8_skipTo : MethodName := ⟨RX8, "skipTo", "(LRatchetPost$End;I)V"⟩
abbrev cX8_passOne : ByteArray := prog_1_method_39_code
def yX8_passOne : MethodName := ⟨RX8, "passOne", "(LRatchetPost$End;)V"⟩
abbrev cX8_keyAhead : ByteArray := prog_1_method_40_code
def yX8_keyAhead : MethodName := ⟨RX8, "keyAhead", "(II)I"⟩
abbrev cX8_opened : ByteArray := prog_1_method_41_code
def yX8_opened : MethodName := ⟨RX8, "opened", "(LRatchetPost$Letter;I)I"⟩
abbrev cX8_endOldSkipped : ByteArray := prog_1_method_42_code
def yX8_endOldSkipped : MethodName := ⟨RX8, "endOldSkipped", "()V"⟩
abbrev cX8_holdOfLetter : ByteArray := prog_1_method_43_code
def yX8_holdOfLetter : MethodName := ⟨RX8, "holdOfLetter", "(LRatchetPost$Tray;ILRatchetPost$Letter;)I"⟩
abbrev cX8_holdOfEnd : ByteArray := prog_1_method_44_code
def yX8_holdOfEnd : MethodName := ⟨RX8, "holdOfEnd", "(LRatchetPost$Tray;ILRatchetPost$End;)I"⟩
abbrev cX8_forgeKind : ByteArray := prog_1_method_45_code
def yX8_forgeKind : MethodName := ⟨RX8, "forgeKind", "(LRatchetPost$Tray;I)I"⟩
abbrev cX8_forgeHeader : ByteArray := prog_1_method_46_code
def yX8_forgeHeader : MethodName := ⟨RX8, "forgeHeader", "(LRatchetPost$Tray;I)I"⟩
abbrev cX8_forgeCopy : ByteArray := prog_1_method_47_code
def yX8_forgeCopy : MethodName := ⟨RX8, "forgeCopy", "(LRatchetPost$Tray;I)I"⟩
abbrev cX8_forgeRow : ByteArray := prog_1_method_48_code
def yX8_forgeRow : MethodName := ⟨RX8, "forgeRow", "(LRatchetPost$Tray;)I"⟩
abbrev cX8_above : ByteArray := prog_1_method_49_code
def yX8_above : MethodName := ⟨RX8, "above", "(I)I"⟩
abbrev cX8_isUnder : ByteArray := prog_1_method_50_code
def yX8_isUnder : MethodName := ⟨RX8, "isUnder", "(II)Z"⟩
abbrev cX8_ownBody : ByteArray := prog_1_method_51_code
def yX8_ownBody : MethodName := ⟨RX8, "ownBody", "(II)I"⟩
abbrev cX8_run : ByteArray := prog_1_method_52_code
def yX8_run : MethodName := ⟨RX8, "run", "(LRatchetPost$Trace;LRatchetPost$Thing;IIII)I"⟩
abbrev cX8_tickOf : ByteArray := prog_1_method_53_code
def yX8_tickOf : MethodName := ⟨RX8, "tickOf", "(LRatchetPost$Thing;)I"⟩
def RX9 : String := "RatchetPostModel"
def TX9 : u_T := fun k => match k with
  | 0 => ("RatchetPostModel", "q", "I", false)
  | 1 => ("RatchetPostModel", "g", "I", false)
  | 2 => ("RatchetPostModel", "most", "I", false)
  | 3 => ("RatchetPostModel", "life", "I", false)
  | 4 => ("RatchetPostModel", "pairs", "I", false)
  | 5 => ("RatchetPostModel", "things", "I", false)
  | 6 => ("RatchetPostModel", "kind", "[I", true)
  | 7 => ("RatchetPostModel", "from", "[I", true)
  | 8 => ("RatchetPostModel", "with", "[I", true)
  | 9 => ("RatchetPostModel", "worth", "[I", true)
  | 10 => ("RatchetPostModel", "isShown", "[Z", true)
  | 11 => ("RatchetPostModel", "steps", "[I", true)
  | 12 => ("RatchetPostModel", "rowSize", "[I", true)
  | 13 => ("RatchetPostModel", "row", "[I", true)
  | 14 => ("RatchetPostModel", "isStarted", "[Z", true)
  | 15 => ("RatchetPostModel", "own", "[I", true)
  | 16 => ("RatchetPostModel", "root", "[I", true)
  | 17 => ("RatchetPostModel", "sending", "[I", true)
  | 18 => ("RatchetPostModel", "taking", "[I", true)
  | 19 => ("RatchetPostModel", "takes", "[I", true)
  | 20 => ("RatchetPostModel", "sent", "[I", true)
  | 21 => ("RatchetPostModel", "before", "[I", true)
  | 22 => ("RatchetPostModel", "past", "[I", true)
  | 23 => ("RatchetPostModel", "lefts", "[I", true)
  | 24 => ("RatchetPostModel", "left", "[I", true)
  | 25 => ("RatchetPostModel", "keeps", "[I", true)
  | 26 => ("RatchetPostModel", "keepPublic", "[I", true)
  | 27 => ("RatchetPostModel", "keepPlace", "[I", true)
  | 28 => ("RatchetPostModel", "keepKey", "[I", true)
  | 29 => ("RatchetPostModel", "keepTick", "[I", true)
  | 30 => ("RatchetPostModel", "letters", "I", false)
  | 31 => ("RatchetPostModel", "lEnd", "[I", true)
  | 32 => ("RatchetPostModel", "lPublic", "[I", true)
  | 33 => ("RatchetPostModel", "lBefore", "[I", true)
  | 34 => ("RatchetPostModel", "lPlace", "[I", true)
  | 35 => ("RatchetPostModel", "lText", "[I", true)
  | 36 => ("RatchetPostModel", "lCheck", "[I", true)
  | 37 => ("RatchetPostModel", "lKey", "[I", true)
  | 38 => ("RatchetPostModel", "lSecret", "[I", true)
  | 39 => ("RatchetPostModel", "tray", "[I", true)
  | 40 => ("RatchetPostModel", "trayOf", "[I", true)
  | 41 => ("RatchetPostModel", "trayTick", "[I", true)
  | 42 => ("RatchetPostModel", "status", "I", false)
  | 43 => ("RatchetPostModel", "traced", "[I", true)
  | 44 => ("RatchetPostModel", "traces", "I", false)
  | _ => ("RatchetPostModel", "shown", "I", false)
def tyX9 : Nat → FieldType := fun k => match k with
  | 0 => .int
  | 1 => .int
  | 2 => .int
  | 3 => .int
  | 4 => .int
  | 5 => .int
  | 6 => .array .int
  | 7 => .array .int
  | 8 => .array .int
  | 9 => .array .int
  | 10 => .array .boolean
  | 11 => .array .int
  | 12 => .array .int
  | 13 => .array .int
  | 14 => .array .boolean
  | 15 => .array .int
  | 16 => .array .int
  | 17 => .array .int
  | 18 => .array .int
  | 19 => .array .int
  | 20 => .array .int
  | 21 => .array .int
  | 22 => .array .int
  | 23 => .array .int
  | 24 => .array .int
  | 25 => .array .int
  | 26 => .array .int
  | 27 => .array .int
  | 28 => .array .int
  | 29 => .array .int
  | 30 => .int
  | 31 => .array .int
  | 32 => .array .int
  | 33 => .array .int
  | 34 => .array .int
  | 35 => .array .int
  | 36 => .array .int
  | 37 => .array .int
  | 38 => .array .int
  | 39 => .array .int
  | 40 => .array .int
  | 41 => .array .int
  | 42 => .int
  | 43 => .array .int
  | 44 => .int
  | _ => .int
theorem nmX9 : ∀ a, a < 46 → ∀ b, b < 46 → a ≠ b → (TX9 a).2.1 ≠ (TX9 b).2.1 := by decide +kernel
theorem tyX9_ok : ∀ k, k < 46 → parseFieldDescriptor (TX9 k).2.2.1 = some (tyX9 k) := by decide +kernel
abbrev cX9_init : ByteArray := prog_11_method_1_code
def yX9_init : MethodName := ⟨RX9, "<init>", "()V"⟩
abbrev cX9_in : ByteArray := prog_11_method_2_code
def yX9_in : MethodName := ⟨RX9, "in", "(III)Z"⟩
abbrev cX9_refused : ByteArray := prog_11_method_3_code
def yX9_refused : MethodName := ⟨RX9, "refused", "(I)I"⟩
abbrev cX9_done : ByteArray := prog_11_method_4_code
def yX9_done : MethodName := ⟨RX9, "done", "(I)I"⟩
abbrev cX9_isEnd : ByteArray := prog_11_method_5_code
def yX9_isEnd : MethodName := ⟨RX9, "isEnd", "(I)Z"⟩
abbrev cX9_isLetter : ByteArray := prog_11_method_6_code
def yX9_isLetter : MethodName := ⟨RX9, "isLetter", "(I)Z"⟩
abbrev cX9_mix : ByteArray := prog_11_method_7_code
def yX9_mix : MethodName := ⟨RX9, "mix", "(II)I"⟩
abbrev cX9_power : ByteArray := prog_11_method_8_code
def yX9_power : MethodName := ⟨RX9, "power", "(II)I"⟩
abbrev cX9_publicOf : ByteArray := prog_11_method_9_code
def yX9_publicOf : MethodName := ⟨RX9, "publicOf", "(I)I"⟩
abbrev cX9_thing : ByteArray := prog_11_method_10_code
def yX9_thing : MethodName := ⟨RX9, "thing", "(IIII)I"⟩
abbrev cX9_meeting : ByteArray := prog_11_method_11_code
def yX9_meeting : MethodName := ⟨RX9, "meeting", "(II)I"⟩
abbrev cX9_rootOf : ByteArray := prog_11_method_12_code
def yX9_rootOf : MethodName := ⟨RX9, "rootOf", "(II)I"⟩
abbrev cX9_chainOf : ByteArray := prog_11_method_13_code
def yX9_chainOf : MethodName := ⟨RX9, "chainOf", "(I)I"⟩
abbrev cX9_keyOf : ByteArray := prog_11_method_14_code
def yX9_keyOf : MethodName := ⟨RX9, "keyOf", "(I)I"⟩
abbrev cX9_prime : ByteArray := prog_11_method_15_code
def yX9_prime : MethodName := ⟨RX9, "prime", "(II)I"⟩
abbrev cX9_limits : ByteArray := prog_11_method_16_code
def yX9_limits : MethodName := ⟨RX9, "limits", "(II)I"⟩
abbrev cX9_pair : ByteArray := prog_11_method_17_code
def yX9_pair : MethodName := ⟨RX9, "pair", "()I"⟩
abbrev cX9_secret : ByteArray := prog_11_method_18_code
def yX9_secret : MethodName := ⟨RX9, "secret", "(II)I"⟩
abbrev cX9_next : ByteArray := prog_11_method_19_code
def yX9_next : MethodName := ⟨RX9, "next", "(I)I"⟩
abbrev cX9_start : ByteArray := prog_11_method_20_code
def yX9_start : MethodName := ⟨RX9, "start", "(I)I"⟩
abbrev cX9_send : ByteArray := prog_11_method_21_code
def yX9_send : MethodName := ⟨RX9, "send", "(II)I"⟩
abbrev cX9_alter : ByteArray := prog_11_method_22_code
def yX9_alter : MethodName := ⟨RX9, "alter", "(II)I"⟩
abbrev cX9_drops : ByteArray := prog_11_method_23_code
def yX9_drops : MethodName := ⟨RX9, "drops", "(II)V"⟩
abbrev cX9_expire : ByteArray := prog_11_method_24_code
def yX9_expire : MethodName := ⟨RX9, "expire", "()V"⟩
abbrev cX9_keep : ByteArray := prog_11_method_25_code
def yX9_keep : MethodName := ⟨RX9, "keep", "(III)V"⟩
abbrev cX9_keptOf : ByteArray := prog_11_method_26_code
def yX9_keptOf : MethodName := ⟨RX9, "keptOf", "(II)I"⟩
abbrev cX9_skip : ByteArray := prog_11_method_27_code
def yX9_skip : MethodName := ⟨RX9, "skip", "(II)V"⟩
abbrev cX9_byteOf : ByteArray := prog_11_method_28_code
def yX9_byteOf : MethodName := ⟨RX9, "byteOf", "(II)I"⟩
abbrev cX9_isGood : ByteArray := prog_11_method_29_code
def yX9_isGood : MethodName := ⟨RX9, "isGood", "(II)Z"⟩
abbrev cX9_keyBehind : ByteArray := prog_11_method_30_code
def yX9_keyBehind : MethodName := ⟨RX9, "keyBehind", "(II)I"⟩
abbrev cX9_hasLeft : ByteArray := prog_11_method_31_code
def yX9_hasLeft : MethodName := ⟨RX9, "hasLeft", "(II)Z"⟩
abbrev cX9_take : ByteArray := prog_11_method_32_code
def yX9_take : MethodName := ⟨RX9, "take", "(II)I"⟩
abbrev cX9_further : ByteArray := prog_11_method_33_code
def yX9_further : MethodName := ⟨RX9, "further", "(II)I"⟩
abbrev cX9_opened : ByteArray := prog_11_method_34_code
def yX9_opened : MethodName := ⟨RX9, "opened", "(I)V"⟩
abbrev cX9_anew : ByteArray := prog_11_method_35_code
def yX9_anew : MethodName := ⟨RX9, "anew", "(IIZ)I"⟩
abbrev cX9_shows : ByteArray := prog_11_method_36_code
def yX9_shows : MethodName := ⟨RX9, "shows", "(I)V"⟩
abbrev cX9_see : ByteArray := prog_11_method_37_code
def yX9_see : MethodName := ⟨RX9, "see", "(I)I"⟩
abbrev cX9_know : ByteArray := prog_11_method_38_code
def yX9_know : MethodName := ⟨RX9, "know", "()V"⟩
abbrev cX9_known : ByteArray := prog_11_method_39_code
def yX9_known : MethodName := ⟨RX9, "known", "(I)I"⟩
abbrev cX9_steps : ByteArray := prog_11_method_40_code
def yX9_steps : MethodName := ⟨RX9, "steps", "(I)I"⟩
abbrev cX9_heals : ByteArray := prog_11_method_41_code
def yX9_heals : MethodName := ⟨RX9, "heals", "(I)I"⟩
abbrev cX9_same : ByteArray := prog_11_method_42_code
def yX9_same : MethodName := ⟨RX9, "same", "(I)I"⟩
abbrev cX9_worthOf : ByteArray := prog_11_method_43_code
def yX9_worthOf : MethodName := ⟨RX9, "worthOf", "(I)I"⟩
abbrev cX9_told : ByteArray := prog_11_method_44_code
def yX9_told : MethodName := ⟨RX9, "told", "(II)I"⟩
abbrev cX9_skipped : ByteArray := prog_11_method_45_code
def yX9_skipped : MethodName := ⟨RX9, "skipped", "(III)I"⟩
abbrev cX9_letter : ByteArray := prog_11_method_46_code
def yX9_letter : MethodName := ⟨RX9, "letter", "(II)I"⟩
abbrev cX9_knownThings : ByteArray := prog_11_method_47_code
def yX9_knownThings : MethodName := ⟨RX9, "knownThings", "()I"⟩
abbrev cX9_count : ByteArray := prog_11_method_48_code
def yX9_count : MethodName := ⟨RX9, "count", "(I)I"⟩
abbrev cX9_puts : ByteArray := prog_11_method_49_code
def yX9_puts : MethodName := ⟨RX9, "puts", "(III)I"⟩
abbrev cX9_hold : ByteArray := prog_11_method_50_code
def yX9_hold : MethodName := ⟨RX9, "hold", "(III)I"⟩
abbrev cX9_tray : ByteArray := prog_11_method_51_code
def yX9_tray : MethodName := ⟨RX9, "tray", "(I)I"⟩
abbrev cX9_ran : ByteArray := prog_11_method_52_code
def yX9_ran : MethodName := ⟨RX9, "ran", "(I)V"⟩
abbrev cX9_isChain : ByteArray := prog_11_method_53_code
def yX9_isChain : MethodName := ⟨RX9, "isChain", "(I)Z"⟩
abbrev cX9_move : ByteArray := prog_11_method_54_code
def yX9_move : MethodName := ⟨RX9, "move", "(III)I"⟩
abbrev cX9_mixed : ByteArray := prog_11_method_55_code
def yX9_mixed : MethodName := ⟨RX9, "mixed", "(III)I"⟩
abbrev cX9_tell : ByteArray := prog_11_method_56_code
def yX9_tell : MethodName := ⟨RX9, "tell", "(III)I"⟩
abbrev cX9_keyEnd : ByteArray := prog_11_method_57_code
def yX9_keyEnd : MethodName := ⟨RX9, "keyEnd", "(III)I"⟩
abbrev cX9_ended : ByteArray := prog_11_method_58_code
def yX9_ended : MethodName := ⟨RX9, "ended", "(IIII)I"⟩
abbrev cX9_act : ByteArray := prog_11_method_59_code
def yX9_act : MethodName := ⟨RX9, "act", "(III)I"⟩
abbrev cX9_trace : ByteArray := prog_11_method_60_code
def yX9_trace : MethodName := ⟨RX9, "trace", "(I)I"⟩
abbrev cX9_isOf : ByteArray := prog_11_method_61_code
def yX9_isOf : MethodName := ⟨RX9, "isOf", "(II)Z"⟩
abbrev cX9_header : ByteArray := prog_11_method_62_code
def yX9_header : MethodName := ⟨RX9, "header", "(II)I"⟩
abbrev cX9_forge : ByteArray := prog_11_method_63_code
def yX9_forge : MethodName := ⟨RX9, "forge", "(III)I"⟩
abbrev cX9_status : ByteArray := prog_11_method_64_code
def yX9_status : MethodName := ⟨RX9, "status", "()I"⟩
def RJx145de : String := "java/io/Serializable"
def TJx145de : u_T := fun k => match k with
  | _ => ("", "", "", false)
def tyJx145de : Nat → FieldType := fun k => match k with
  | _ => .int
theorem nmJx145de : ∀ a, a < 0 → ∀ b, b < 0 → a ≠ b → (TJx145de a).2.1 ≠ (TJx145de b).2.1 := by decide +kernel
theorem tyJx145de_ok : ∀ k, k < 0 → parseFieldDescriptor (TJx145de k).2.2.1 = some (tyJx145de k) := by decide +kernel
def RJx8e188 : String := "java/lang/Cloneable"
def TJx8e188 : u_T := fun k => match k with
  | _ => ("", "", "", false)
def tyJx8e188 : Nat → FieldType := fun k => match k with
  | _ => .int
theorem nmJx8e188 : ∀ a, a < 0 → ∀ b, b < 0 → a ≠ b → (TJx8e188 a).2.1 ≠ (TJx8e188 b).2.1 := by decide +kernel
theorem tyJx8e188_ok : ∀ k, k < 0 → parseFieldDescriptor (TJx8e188 k).2.2.1 = some (tyJx8e188 k) := by decide +kernel
def RJxab1ab : String := "java/lang/Iterable"
def TJxab1ab : u_T := fun k => match k with
  | _ => ("", "", "", false)
def tyJxab1ab : Nat → FieldType := fun k => match k with
  | _ => .int
theorem nmJxab1ab : ∀ a, a < 0 → ∀ b, b < 0 → a ≠ b → (TJxab1ab a).2.1 ≠ (TJxab1ab b).2.1 := by decide +kernel
theorem tyJxab1ab_ok : ∀ k, k < 0 → parseFieldDescriptor (TJxab1ab k).2.2.1 = some (tyJxab1ab k) := by decide +kernel
def RJ9 : String := "java/lang/Math"
def TJ9 : u_T := fun k => match k with
  | _ => ("", "", "", false)
def tyJ9 : Nat → FieldType := fun k => match k with
  | _ => .int
theorem nmJ9 : ∀ a, a < 0 → ∀ b, b < 0 → a ≠ b → (TJ9 a).2.1 ≠ (TJ9 b).2.1 := by decide +kernel
theorem tyJ9_ok : ∀ k, k < 0 → parseFieldDescriptor (TJ9 k).2.2.1 = some (tyJ9 k) := by decide +kernel
abbrev cJ9_floorMod_7cf53 : ByteArray := prog_15_method_50_code
def yJ9_floorMod_7cf53 : MethodName := ⟨RJ9, "floorMod", "(II)I"⟩
abbrev cJ9_max_7cf53 : ByteArray := prog_15_method_65_code
def yJ9_max_7cf53 : MethodName := ⟨RJ9, "max", "(II)I"⟩
abbrev cJ9_min_7cf53 : ByteArray := prog_15_method_69_code
def yJ9_min_7cf53 : MethodName := ⟨RJ9, "min", "(II)I"⟩
def RJ10 : String := "java/lang/System"
def TJ10 : u_T := fun k => match k with
  | _ => ("", "", "", false)
def tyJ10 : Nat → FieldType := fun k => match k with
  | _ => .int
theorem nmJ10 : ∀ a, a < 0 → ∀ b, b < 0 → a ≠ b → (TJ10 a).2.1 ≠ (TJ10 b).2.1 := by decide +kernel
theorem tyJ10_ok : ∀ k, k < 0 → parseFieldDescriptor (TJ10 k).2.2.1 = some (tyJ10 k) := by decide +kernel
def RJxa1e45 : String := "java/util/AbstractCollection"
def TJxa1e45 : u_T := fun k => match k with
  | _ => ("", "", "", false)
def tyJxa1e45 : Nat → FieldType := fun k => match k with
  | _ => .int
theorem nmJxa1e45 : ∀ a, a < 0 → ∀ b, b < 0 → a ≠ b → (TJxa1e45 a).2.1 ≠ (TJxa1e45 b).2.1 := by decide +kernel
theorem tyJxa1e45_ok : ∀ k, k < 0 → parseFieldDescriptor (TJxa1e45 k).2.2.1 = some (tyJxa1e45 k) := by decide +kernel
abbrev cJxa1e45_init_da8c8 : ByteArray := prog_17_method_1_code
def yJxa1e45_init_da8c8 : MethodName := ⟨RJxa1e45, "<init>", "()V"⟩
def RJxc12de : String := "java/util/AbstractList"
def TJxc12de : u_T := fun k => match k with
  | _ => ("", "", "", false)
def tyJxc12de : Nat → FieldType := fun k => match k with
  | _ => .int
theorem nmJxc12de : ∀ a, a < 0 → ∀ b, b < 0 → a ≠ b → (TJxc12de a).2.1 ≠ (TJxc12de b).2.1 := by decide +kernel
theorem tyJxc12de_ok : ∀ k, k < 0 → parseFieldDescriptor (TJxc12de k).2.2.1 = some (tyJxc12de k) := by decide +kernel
abbrev cJxc12de_init_da8c8 : ByteArray := prog_18_method_1_code
def yJxc12de_init_da8c8 : MethodName := ⟨RJxc12de, "<init>", "()V"⟩
def RJx4a65c : String := "java/util/ArrayList"
def TJx4a65c : u_T := fun k => match k with
  | 0 => ("java/util/AbstractList", "modCount", "I", false)
  | 1 => ("java/util/ArrayList", "elementData", "[Ljava/lang/Object;", false)
  | _ => ("java/util/ArrayList", "size", "I", false)
def tyJx4a65c : Nat → FieldType := fun k => match k with
  | 0 => .int
  | 1 => .array (.object "java/lang/Object")
  | _ => .int
theorem nmJx4a65c : ∀ a, a < 3 → ∀ b, b < 3 → a ≠ b → (TJx4a65c a).2.1 ≠ (TJx4a65c b).2.1 := by decide +kernel
theorem tyJx4a65c_ok : ∀ k, k < 3 → parseFieldDescriptor (TJx4a65c k).2.2.1 = some (tyJx4a65c k) := by decide +kernel
abbrev cJx4a65c_init_da8c8 : ByteArray := prog_19_method_2_code
def yJx4a65c_init_da8c8 : MethodName := ⟨RJx4a65c, "<init>", "()V"⟩
abbrev cJx4a65c_grow_92f84 : ByteArray := prog_19_method_6_code
def yJx4a65c_grow_92f84 : MethodName := ⟨RJx4a65c, "grow", "(I)[Ljava/lang/Object;"⟩
abbrev cJx4a65c_grow_d5877 : ByteArray := prog_19_method_7_code
def yJx4a65c_grow_d5877 : MethodName := ⟨RJx4a65c, "grow", "()[Ljava/lang/Object;"⟩
abbrev cJx4a65c_size_8abf5 : ByteArray := prog_19_method_8_code
def yJx4a65c_size_8abf5 : MethodName := ⟨RJx4a65c, "size", "()I"⟩
abbrev cJx4a65c_elementData_915e3 : ByteArray := prog_19_method_18_code
def yJx4a65c_elementData_915e3 : MethodName := ⟨RJx4a65c, "elementData", "(I)Ljava/lang/Object;"⟩
abbrev cJx4a65c_get_915e3 : ByteArray := prog_19_method_20_code
def yJx4a65c_get_915e3 : MethodName := ⟨RJx4a65c, "get", "(I)Ljava/lang/Object;"⟩
abbrev cJx4a65c_add_72be8 : ByteArray := prog_19_method_24_code
def yJx4a65c_add_72be8 : MethodName := ⟨RJx4a65c, "add", "(Ljava/lang/Object;[Ljava/lang/Object;I)V"⟩
abbrev cJx4a65c_add_9ea2d : ByteArray := prog_19_method_25_code
def yJx4a65c_add_9ea2d : MethodName := ⟨RJx4a65c, "add", "(Ljava/lang/Object;)Z"⟩
def RJ7 : String := "java/util/Arrays"
def TJ7 : u_T := fun k => match k with
  | _ => ("", "", "", false)
def tyJ7 : Nat → FieldType := fun k => match k with
  | _ => .int
theorem nmJ7 : ∀ a, a < 0 → ∀ b, b < 0 → a ≠ b → (TJ7 a).2.1 ≠ (TJ7 b).2.1 := by decide +kernel
theorem tyJ7_ok : ∀ k, k < 0 → parseFieldDescriptor (TJ7 k).2.2.1 = some (tyJ7 k) := by decide +kernel
abbrev cJ7_copyOf_1904c : ByteArray := prog_20_method_119_code
def yJ7_copyOf_1904c : MethodName := ⟨RJ7, "copyOf", "([Ljava/lang/Object;I)[Ljava/lang/Object;"⟩
abbrev cJ7_copyOf_6403c : ByteArray := prog_20_method_120_code
def yJ7_copyOf_6403c : MethodName := ⟨RJ7, "copyOf", "([Ljava/lang/Object;ILjava/lang/Class;)[Ljava/lang/Object;"⟩
def RJx5ef63 : String := "java/util/Collection"
def TJx5ef63 : u_T := fun k => match k with
  | _ => ("", "", "", false)
def tyJx5ef63 : Nat → FieldType := fun k => match k with
  | _ => .int
theorem nmJx5ef63 : ∀ a, a < 0 → ∀ b, b < 0 → a ≠ b → (TJx5ef63 a).2.1 ≠ (TJx5ef63 b).2.1 := by decide +kernel
theorem tyJx5ef63_ok : ∀ k, k < 0 → parseFieldDescriptor (TJx5ef63 k).2.2.1 = some (tyJx5ef63 k) := by decide +kernel
def RJxbd725 : String := "java/util/List"
def TJxbd725 : u_T := fun k => match k with
  | _ => ("", "", "", false)
def tyJxbd725 : Nat → FieldType := fun k => match k with
  | _ => .int
theorem nmJxbd725 : ∀ a, a < 0 → ∀ b, b < 0 → a ≠ b → (TJxbd725 a).2.1 ≠ (TJxbd725 b).2.1 := by decide +kernel
theorem tyJxbd725_ok : ∀ k, k < 0 → parseFieldDescriptor (TJxbd725 k).2.2.1 = some (tyJxbd725 k) := by decide +kernel
def RJ15 : String := "java/util/Objects"
def TJ15 : u_T := fun k => match k with
  | _ => ("", "", "", false)
def tyJ15 : Nat → FieldType := fun k => match k with
  | _ => .int
theorem nmJ15 : ∀ a, a < 0 → ∀ b, b < 0 → a ≠ b → (TJ15 a).2.1 ≠ (TJ15 b).2.1 := by decide +kernel
theorem tyJ15_ok : ∀ k, k < 0 → parseFieldDescriptor (TJ15 k).2.2.1 = some (tyJ15 k) := by decide +kernel
abbrev cJ15_checkIndex_7cf53 : ByteArray := prog_23_method_17_code
def yJ15_checkIndex_7cf53 : MethodName := ⟨RJ15, "checkIndex", "(II)I"⟩
def RJxf0a74 : String := "java/util/RandomAccess"
def TJxf0a74 : u_T := fun k => match k with
  | _ => ("", "", "", false)
def tyJxf0a74 : Nat → FieldType := fun k => match k with
  | _ => .int
theorem nmJxf0a74 : ∀ a, a < 0 → ∀ b, b < 0 → a ≠ b → (TJxf0a74 a).2.1 ≠ (TJxf0a74 b).2.1 := by decide +kernel
theorem tyJxf0a74_ok : ∀ k, k < 0 → parseFieldDescriptor (TJxf0a74 k).2.2.1 = some (tyJxf0a74 k) := by decide +kernel
def RJxa66e6 : String := "java/util/SequencedCollection"
def TJxa66e6 : u_T := fun k => match k with
  | _ => ("", "", "", false)
def tyJxa66e6 : Nat → FieldType := fun k => match k with
  | _ => .int
theorem nmJxa66e6 : ∀ a, a < 0 → ∀ b, b < 0 → a ≠ b → (TJxa66e6 a).2.1 ≠ (TJxa66e6 b).2.1 := by decide +kernel
theorem tyJxa66e6_ok : ∀ k, k < 0 → parseFieldDescriptor (TJxa66e6 k).2.2.1 = some (tyJxa66e6 k) := by decide +kernel
def RJ8 : String := "jdk/internal/util/ArraysSupport"
def TJ8 : u_T := fun k => match k with
  | _ => ("", "", "", false)
def tyJ8 : Nat → FieldType := fun k => match k with
  | _ => .int
theorem nmJ8 : ∀ a, a < 0 → ∀ b, b < 0 → a ≠ b → (TJ8 a).2.1 ≠ (TJ8 b).2.1 := by decide +kernel
theorem tyJ8_ok : ∀ k, k < 0 → parseFieldDescriptor (TJ8 k).2.2.1 = some (tyJ8 k) := by decide +kernel
abbrev cJ8_newLength_cabcc : ByteArray := prog_26_method_27_code
def yJ8_newLength_cabcc : MethodName := ⟨RJ8, "newLength", "(III)I"⟩
abbrev cJ8_hugeLength_7cf53 : ByteArray := prog_26_method_28_code
def yJ8_hugeLength_7cf53 : MethodName := ⟨RJ8, "hugeLength", "(II)I"⟩
def RJ3 : String := "jdk/internal/util/Preconditions"
def TJ3 : u_T := fun k => match k with
  | _ => ("", "", "", false)
def tyJ3 : Nat → FieldType := fun k => match k with
  | _ => .int
theorem nmJ3 : ∀ a, a < 0 → ∀ b, b < 0 → a ≠ b → (TJ3 a).2.1 ≠ (TJ3 b).2.1 := by decide +kernel
theorem tyJ3_ok : ∀ k, k < 0 → parseFieldDescriptor (TJ3 k).2.2.1 = some (tyJ3 k) := by decide +kernel
abbrev cJ3_checkIndex_8e157 : ByteArray := prog_27_method_11_code
def yJ3_checkIndex_8e157 : MethodName := ⟨RJ3, "checkIndex", "(IILjava/util/function/BiFunction;)I"⟩
def RL : String := "RatchetPostLaw"
abbrev cL_law : ByteArray := code
def yL_law : MethodName := ⟨RL, "law", "([I)Z"⟩
theorem dX0_init_0 : decode cX0_init 0 = .ok (.aload_n 0, 1) := by decide +kernel
theorem dX0_init_1 : decode cX0_init 1 = .ok (.invokespecial 1, 3) := by decide +kernel
theorem dX0_init_4 : decode cX0_init 4 = .ok (.aload_n 0, 1) := by decide +kernel
theorem dX0_init_5 : decode cX0_init 5 = .ok (.bipush 101, 2) := by decide +kernel
theorem dX0_init_7 : decode cX0_init 7 = .ok (.putfield 7, 3) := by decide +kernel
theorem dX0_init_10 : decode cX0_init 10 = .ok (.aload_n 0, 1) := by decide +kernel
theorem dX0_init_11 : decode cX0_init 11 = .ok (.iconst 2, 1) := by decide +kernel
theorem dX0_init_12 : decode cX0_init 12 = .ok (.putfield 13, 3) := by decide +kernel
theorem dX0_init_15 : decode cX0_init 15 = .ok (.return_, 1) := by decide +kernel
theorem dX0_mix_0 : decode cX0_mix 0 = .ok (.aload_n 0, 1) := by decide +kernel
theorem dX0_mix_1 : decode cX0_mix 1 = .ok (.getfield 7, 3) := by decide +kernel
theorem dX0_mix_4 : decode cX0_mix 4 = .ok (.ifCond .le 27, 3) := by decide +kernel
theorem dX0_mix_7 : decode cX0_mix 7 = .ok (.bipush 31, 2) := by decide +kernel
theorem dX0_mix_9 : decode cX0_mix 9 = .ok (.iload_n 1, 1) := by decide +kernel
theorem dX0_mix_10 : decode cX0_mix 10 = .ok (.imul, 1) := by decide +kernel
theorem dX0_mix_11 : decode cX0_mix 11 = .ok (.bipush 17, 2) := by decide +kernel
theorem dX0_mix_13 : decode cX0_mix 13 = .ok (.iload_n 2, 1) := by decide +kernel
theorem dX0_mix_14 : decode cX0_mix 14 = .ok (.imul, 1) := by decide +kernel
theorem dX0_mix_15 : decode cX0_mix 15 = .ok (.iadd, 1) := by decide +kernel
theorem dX0_mix_16 : decode cX0_mix 16 = .ok (.iload_n 1, 1) := by decide +kernel
theorem dX0_mix_17 : decode cX0_mix 17 = .ok (.iload_n 2, 1) := by decide +kernel
theorem dX0_mix_18 : decode cX0_mix 18 = .ok (.imul, 1) := by decide +kernel
theorem dX0_mix_19 : decode cX0_mix 19 = .ok (.iadd, 1) := by decide +kernel
theorem dX0_mix_20 : decode cX0_mix 20 = .ok (.bipush 7, 2) := by decide +kernel
theorem dX0_mix_22 : decode cX0_mix 22 = .ok (.iadd, 1) := by decide +kernel
theorem dX0_mix_23 : decode cX0_mix 23 = .ok (.aload_n 0, 1) := by decide +kernel
theorem dX0_mix_24 : decode cX0_mix 24 = .ok (.getfield 7, 3) := by decide +kernel
theorem dX0_mix_27 : decode cX0_mix 27 = .ok (.irem, 1) := by decide +kernel
theorem dX0_mix_28 : decode cX0_mix 28 = .ok (.goto 4, 3) := by decide +kernel
theorem dX0_mix_31 : decode cX0_mix 31 = .ok (.iconst 0, 1) := by decide +kernel
theorem dX0_mix_32 : decode cX0_mix 32 = .ok (.ireturn, 1) := by decide +kernel
theorem dX0_power_0 : decode cX0_power 0 = .ok (.aload_n 0, 1) := by decide +kernel
theorem dX0_power_1 : decode cX0_power 1 = .ok (.getfield 7, 3) := by decide +kernel
theorem dX0_power_4 : decode cX0_power 4 = .ok (.ifCond .gt 5, 3) := by decide +kernel
theorem dX0_power_7 : decode cX0_power 7 = .ok (.iconst 0, 1) := by decide +kernel
theorem dX0_power_8 : decode cX0_power 8 = .ok (.ireturn, 1) := by decide +kernel
theorem dX0_power_9 : decode cX0_power 9 = .ok (.iconst 1, 1) := by decide +kernel
theorem dX0_power_10 : decode cX0_power 10 = .ok (.istore_n 3, 1) := by decide +kernel
theorem dX0_power_11 : decode cX0_power 11 = .ok (.iload_n 1, 1) := by decide +kernel
theorem dX0_power_12 : decode cX0_power 12 = .ok (.aload_n 0, 1) := by decide +kernel
theorem dX0_power_13 : decode cX0_power 13 = .ok (.getfield 7, 3) := by decide +kernel
theorem dX0_power_16 : decode cX0_power 16 = .ok (.irem, 1) := by decide +kernel
theorem dX0_power_17 : decode cX0_power 17 = .ok (.istore 4, 2) := by decide +kernel
theorem dX0_power_19 : decode cX0_power 19 = .ok (.iload_n 2, 1) := by decide +kernel
theorem dX0_power_20 : decode cX0_power 20 = .ok (.istore 5, 2) := by decide +kernel
theorem dX0_power_22 : decode cX0_power 22 = .ok (.iload 5, 2) := by decide +kernel
theorem dX0_power_24 : decode cX0_power 24 = .ok (.ifCond .le 42, 3) := by decide +kernel
theorem dX0_power_27 : decode cX0_power 27 = .ok (.iload 5, 2) := by decide +kernel
theorem dX0_power_29 : decode cX0_power 29 = .ok (.iconst 1, 1) := by decide +kernel
theorem dX0_power_30 : decode cX0_power 30 = .ok (.iand, 1) := by decide +kernel
theorem dX0_power_31 : decode cX0_power 31 = .ok (.iconst 1, 1) := by decide +kernel
theorem dX0_power_32 : decode cX0_power 32 = .ok (.if_icmp .ne 13, 3) := by decide +kernel
theorem dX0_power_35 : decode cX0_power 35 = .ok (.iload_n 3, 1) := by decide +kernel
theorem dX0_power_36 : decode cX0_power 36 = .ok (.iload 4, 2) := by decide +kernel
theorem dX0_power_38 : decode cX0_power 38 = .ok (.imul, 1) := by decide +kernel
theorem dX0_power_39 : decode cX0_power 39 = .ok (.aload_n 0, 1) := by decide +kernel
theorem dX0_power_40 : decode cX0_power 40 = .ok (.getfield 7, 3) := by decide +kernel
theorem dX0_power_43 : decode cX0_power 43 = .ok (.irem, 1) := by decide +kernel
theorem dX0_power_44 : decode cX0_power 44 = .ok (.istore_n 3, 1) := by decide +kernel
theorem dX0_power_45 : decode cX0_power 45 = .ok (.iload 4, 2) := by decide +kernel
theorem dX0_power_47 : decode cX0_power 47 = .ok (.iload 4, 2) := by decide +kernel
theorem dX0_power_49 : decode cX0_power 49 = .ok (.imul, 1) := by decide +kernel
theorem dX0_power_50 : decode cX0_power 50 = .ok (.aload_n 0, 1) := by decide +kernel
theorem dX0_power_51 : decode cX0_power 51 = .ok (.getfield 7, 3) := by decide +kernel
theorem dX0_power_54 : decode cX0_power 54 = .ok (.irem, 1) := by decide +kernel
theorem dX0_power_55 : decode cX0_power 55 = .ok (.istore 4, 2) := by decide +kernel
theorem dX0_power_57 : decode cX0_power 57 = .ok (.iload 5, 2) := by decide +kernel
theorem dX0_power_59 : decode cX0_power 59 = .ok (.iconst 1, 1) := by decide +kernel
theorem dX0_power_60 : decode cX0_power 60 = .ok (.ishr, 1) := by decide +kernel
theorem dX0_power_61 : decode cX0_power 61 = .ok (.istore 5, 2) := by decide +kernel
theorem dX0_power_63 : decode cX0_power 63 = .ok (.goto (-41), 3) := by decide +kernel
theorem dX0_power_66 : decode cX0_power 66 = .ok (.iload_n 3, 1) := by decide +kernel
theorem dX0_power_67 : decode cX0_power 67 = .ok (.ireturn, 1) := by decide +kernel
theorem dX0_publicOf_0 : decode cX0_publicOf 0 = .ok (.aload_n 0, 1) := by decide +kernel
theorem dX0_publicOf_1 : decode cX0_publicOf 1 = .ok (.aload_n 0, 1) := by decide +kernel
theorem dX0_publicOf_2 : decode cX0_publicOf 2 = .ok (.getfield 13, 3) := by decide +kernel
theorem dX0_publicOf_5 : decode cX0_publicOf 5 = .ok (.iload_n 1, 1) := by decide +kernel
theorem dX0_publicOf_6 : decode cX0_publicOf 6 = .ok (.invokevirtual 16, 3) := by decide +kernel
theorem dX0_publicOf_9 : decode cX0_publicOf 9 = .ok (.ireturn, 1) := by decide +kernel
theorem dX1_init_0 : decode cX1_init 0 = .ok (.aload_n 0, 1) := by decide +kernel
theorem dX1_init_1 : decode cX1_init 1 = .ok (.invokespecial 3, 3) := by decide +kernel
theorem dX1_init_4 : decode cX1_init 4 = .ok (.aload_n 0, 1) := by decide +kernel
theorem dX1_init_5 : decode cX1_init 5 = .ok (.bipush 12, 2) := by decide +kernel
theorem dX1_init_7 : decode cX1_init 7 = .ok (.anewarray 9, 3) := by decide +kernel
theorem dX1_init_10 : decode cX1_init 10 = .ok (.putfield 11, 3) := by decide +kernel
theorem dX1_init_13 : decode cX1_init 13 = .ok (.aload_n 0, 1) := by decide +kernel
theorem dX1_init_14 : decode cX1_init 14 = .ok (.iconst (-1), 1) := by decide +kernel
theorem dX1_init_15 : decode cX1_init 15 = .ok (.putfield 17, 3) := by decide +kernel
theorem dX1_init_18 : decode cX1_init 18 = .ok (.aload_n 0, 1) := by decide +kernel
theorem dX1_init_19 : decode cX1_init 19 = .ok (.bipush 12, 2) := by decide +kernel
theorem dX1_init_21 : decode cX1_init 21 = .ok (.anewarray 21, 3) := by decide +kernel
theorem dX1_init_24 : decode cX1_init 24 = .ok (.putfield 23, 3) := by decide +kernel
theorem dX1_init_27 : decode cX1_init 27 = .ok (.aload_n 0, 1) := by decide +kernel
theorem dX1_init_28 : decode cX1_init 28 = .ok (.sipush 300, 3) := by decide +kernel
theorem dX1_init_31 : decode cX1_init 31 = .ok (.newarray .int, 2) := by decide +kernel
theorem dX1_init_33 : decode cX1_init 33 = .ok (.putfield 27, 3) := by decide +kernel
theorem dX1_init_36 : decode cX1_init 36 = .ok (.aload_n 0, 1) := by decide +kernel
theorem dX1_init_37 : decode cX1_init 37 = .ok (.iload_n 1, 1) := by decide +kernel
theorem dX1_init_38 : decode cX1_init 38 = .ok (.putfield 31, 3) := by decide +kernel
theorem dX1_init_41 : decode cX1_init 41 = .ok (.return_, 1) := by decide +kernel
theorem dX1_nextSecret_0 : decode cX1_nextSecret 0 = .ok (.aload_n 0, 1) := by decide +kernel
theorem dX1_nextSecret_1 : decode cX1_nextSecret 1 = .ok (.getfield 11, 3) := by decide +kernel
theorem dX1_nextSecret_4 : decode cX1_nextSecret 4 = .ok (.iconst 0, 1) := by decide +kernel
theorem dX1_nextSecret_5 : decode cX1_nextSecret 5 = .ok (.aaload, 1) := by decide +kernel
theorem dX1_nextSecret_6 : decode cX1_nextSecret 6 = .ok (.astore_n 1, 1) := by decide +kernel
theorem dX1_nextSecret_7 : decode cX1_nextSecret 7 = .ok (.iconst 1, 1) := by decide +kernel
theorem dX1_nextSecret_8 : decode cX1_nextSecret 8 = .ok (.istore_n 2, 1) := by decide +kernel
theorem dX1_nextSecret_9 : decode cX1_nextSecret 9 = .ok (.iload_n 2, 1) := by decide +kernel
theorem dX1_nextSecret_10 : decode cX1_nextSecret 10 = .ok (.aload_n 0, 1) := by decide +kernel
theorem dX1_nextSecret_11 : decode cX1_nextSecret 11 = .ok (.getfield 34, 3) := by decide +kernel
theorem dX1_nextSecret_14 : decode cX1_nextSecret 14 = .ok (.if_icmp .ge 23, 3) := by decide +kernel
theorem dX1_nextSecret_17 : decode cX1_nextSecret 17 = .ok (.aload_n 0, 1) := by decide +kernel
theorem dX1_nextSecret_18 : decode cX1_nextSecret 18 = .ok (.getfield 11, 3) := by decide +kernel
theorem dX1_nextSecret_21 : decode cX1_nextSecret 21 = .ok (.iload_n 2, 1) := by decide +kernel
theorem dX1_nextSecret_22 : decode cX1_nextSecret 22 = .ok (.iconst 1, 1) := by decide +kernel
theorem dX1_nextSecret_23 : decode cX1_nextSecret 23 = .ok (.isub, 1) := by decide +kernel
theorem dX1_nextSecret_24 : decode cX1_nextSecret 24 = .ok (.aload_n 0, 1) := by decide +kernel
theorem dX1_nextSecret_25 : decode cX1_nextSecret 25 = .ok (.getfield 11, 3) := by decide +kernel
theorem dX1_nextSecret_28 : decode cX1_nextSecret 28 = .ok (.iload_n 2, 1) := by decide +kernel
theorem dX1_nextSecret_29 : decode cX1_nextSecret 29 = .ok (.aaload, 1) := by decide +kernel
theorem dX1_nextSecret_30 : decode cX1_nextSecret 30 = .ok (.aastore, 1) := by decide +kernel
theorem dX1_nextSecret_31 : decode cX1_nextSecret 31 = .ok (.iinc 2 1, 3) := by decide +kernel
theorem dX1_nextSecret_34 : decode cX1_nextSecret 34 = .ok (.goto (-25), 3) := by decide +kernel
theorem dX1_nextSecret_37 : decode cX1_nextSecret 37 = .ok (.aload_n 0, 1) := by decide +kernel
theorem dX1_nextSecret_38 : decode cX1_nextSecret 38 = .ok (.dup, 1) := by decide +kernel
theorem dX1_nextSecret_39 : decode cX1_nextSecret 39 = .ok (.getfield 34, 3) := by decide +kernel
theorem dX1_nextSecret_42 : decode cX1_nextSecret 42 = .ok (.iconst 1, 1) := by decide +kernel
theorem dX1_nextSecret_43 : decode cX1_nextSecret 43 = .ok (.isub, 1) := by decide +kernel
theorem dX1_nextSecret_44 : decode cX1_nextSecret 44 = .ok (.putfield 34, 3) := by decide +kernel
theorem dX1_nextSecret_47 : decode cX1_nextSecret 47 = .ok (.aload_n 0, 1) := by decide +kernel
theorem dX1_nextSecret_48 : decode cX1_nextSecret 48 = .ok (.getfield 11, 3) := by decide +kernel
theorem dX1_nextSecret_51 : decode cX1_nextSecret 51 = .ok (.aload_n 0, 1) := by decide +kernel
theorem dX1_nextSecret_52 : decode cX1_nextSecret 52 = .ok (.getfield 34, 3) := by decide +kernel
theorem dX1_nextSecret_55 : decode cX1_nextSecret 55 = .ok (.aconst_null, 1) := by decide +kernel
theorem dX1_nextSecret_56 : decode cX1_nextSecret 56 = .ok (.aastore, 1) := by decide +kernel
theorem dX1_nextSecret_57 : decode cX1_nextSecret 57 = .ok (.aload_n 1, 1) := by decide +kernel
theorem dX1_nextSecret_58 : decode cX1_nextSecret 58 = .ok (.areturn, 1) := by decide +kernel
theorem dX1_leave_0 : decode cX1_leave 0 = .ok (.aload_n 0, 1) := by decide +kernel
theorem dX1_leave_1 : decode cX1_leave 1 = .ok (.getfield 17, 3) := by decide +kernel
theorem dX1_leave_4 : decode cX1_leave 4 = .ok (.iconst (-1), 1) := by decide +kernel
theorem dX1_leave_5 : decode cX1_leave 5 = .ok (.if_icmp .eq 38, 3) := by decide +kernel
theorem dX1_leave_8 : decode cX1_leave 8 = .ok (.aload_n 0, 1) := by decide +kernel
theorem dX1_leave_9 : decode cX1_leave 9 = .ok (.getfield 37, 3) := by decide +kernel
theorem dX1_leave_12 : decode cX1_leave 12 = .ok (.aload_n 0, 1) := by decide +kernel
theorem dX1_leave_13 : decode cX1_leave 13 = .ok (.getfield 27, 3) := by decide +kernel
theorem dX1_leave_16 : decode cX1_leave 16 = .ok (.arraylength, 1) := by decide +kernel
theorem dX1_leave_17 : decode cX1_leave 17 = .ok (.if_icmp .ge 26, 3) := by decide +kernel
theorem dX1_leave_20 : decode cX1_leave 20 = .ok (.aload_n 0, 1) := by decide +kernel
theorem dX1_leave_21 : decode cX1_leave 21 = .ok (.getfield 27, 3) := by decide +kernel
theorem dX1_leave_24 : decode cX1_leave 24 = .ok (.aload_n 0, 1) := by decide +kernel
theorem dX1_leave_25 : decode cX1_leave 25 = .ok (.getfield 37, 3) := by decide +kernel
theorem dX1_leave_28 : decode cX1_leave 28 = .ok (.aload_n 0, 1) := by decide +kernel
theorem dX1_leave_29 : decode cX1_leave 29 = .ok (.getfield 17, 3) := by decide +kernel
theorem dX1_leave_32 : decode cX1_leave 32 = .ok (.iastore, 1) := by decide +kernel
theorem dX1_leave_33 : decode cX1_leave 33 = .ok (.aload_n 0, 1) := by decide +kernel
theorem dX1_leave_34 : decode cX1_leave 34 = .ok (.dup, 1) := by decide +kernel
theorem dX1_leave_35 : decode cX1_leave 35 = .ok (.getfield 37, 3) := by decide +kernel
theorem dX1_leave_38 : decode cX1_leave 38 = .ok (.iconst 1, 1) := by decide +kernel
theorem dX1_leave_39 : decode cX1_leave 39 = .ok (.iadd, 1) := by decide +kernel
theorem dX1_leave_40 : decode cX1_leave 40 = .ok (.putfield 37, 3) := by decide +kernel
theorem dX1_leave_43 : decode cX1_leave 43 = .ok (.return_, 1) := by decide +kernel
theorem dX1_hasLeft_0 : decode cX1_hasLeft 0 = .ok (.iconst 0, 1) := by decide +kernel
theorem dX1_hasLeft_1 : decode cX1_hasLeft 1 = .ok (.istore_n 2, 1) := by decide +kernel
theorem dX1_hasLeft_2 : decode cX1_hasLeft 2 = .ok (.iload_n 2, 1) := by decide +kernel
theorem dX1_hasLeft_3 : decode cX1_hasLeft 3 = .ok (.aload_n 0, 1) := by decide +kernel
theorem dX1_hasLeft_4 : decode cX1_hasLeft 4 = .ok (.getfield 37, 3) := by decide +kernel
theorem dX1_hasLeft_7 : decode cX1_hasLeft 7 = .ok (.if_icmp .ge 21, 3) := by decide +kernel
theorem dX1_hasLeft_10 : decode cX1_hasLeft 10 = .ok (.aload_n 0, 1) := by decide +kernel
theorem dX1_hasLeft_11 : decode cX1_hasLeft 11 = .ok (.getfield 27, 3) := by decide +kernel
theorem dX1_hasLeft_14 : decode cX1_hasLeft 14 = .ok (.iload_n 2, 1) := by decide +kernel
theorem dX1_hasLeft_15 : decode cX1_hasLeft 15 = .ok (.iaload, 1) := by decide +kernel
theorem dX1_hasLeft_16 : decode cX1_hasLeft 16 = .ok (.iload_n 1, 1) := by decide +kernel
theorem dX1_hasLeft_17 : decode cX1_hasLeft 17 = .ok (.if_icmp .ne 5, 3) := by decide +kernel
theorem dX1_hasLeft_20 : decode cX1_hasLeft 20 = .ok (.iconst 1, 1) := by decide +kernel
theorem dX1_hasLeft_21 : decode cX1_hasLeft 21 = .ok (.ireturn, 1) := by decide +kernel
theorem dX1_hasLeft_22 : decode cX1_hasLeft 22 = .ok (.iinc 2 1, 3) := by decide +kernel
theorem dX1_hasLeft_25 : decode cX1_hasLeft 25 = .ok (.goto (-23), 3) := by decide +kernel
theorem dX1_hasLeft_28 : decode cX1_hasLeft 28 = .ok (.iconst 0, 1) := by decide +kernel
theorem dX1_hasLeft_29 : decode cX1_hasLeft 29 = .ok (.ireturn, 1) := by decide +kernel
theorem dX1_keep_0 : decode cX1_keep 0 = .ok (.aload_n 0, 1) := by decide +kernel
theorem dX1_keep_1 : decode cX1_keep 1 = .ok (.getfield 40, 3) := by decide +kernel
theorem dX1_keep_4 : decode cX1_keep 4 = .ok (.bipush 12, 2) := by decide +kernel
theorem dX1_keep_6 : decode cX1_keep 6 = .ok (.if_icmp .lt 8, 3) := by decide +kernel
theorem dX1_keep_9 : decode cX1_keep 9 = .ok (.aload_n 0, 1) := by decide +kernel
theorem dX1_keep_10 : decode cX1_keep 10 = .ok (.iconst 0, 1) := by decide +kernel
theorem dX1_keep_11 : decode cX1_keep 11 = .ok (.invokevirtual 43, 3) := by decide +kernel
theorem dX1_keep_14 : decode cX1_keep 14 = .ok (.aload_n 0, 1) := by decide +kernel
theorem dX1_keep_15 : decode cX1_keep 15 = .ok (.getfield 23, 3) := by decide +kernel
theorem dX1_keep_18 : decode cX1_keep 18 = .ok (.aload_n 0, 1) := by decide +kernel
theorem dX1_keep_19 : decode cX1_keep 19 = .ok (.getfield 40, 3) := by decide +kernel
theorem dX1_keep_22 : decode cX1_keep 22 = .ok (.aload_n 1, 1) := by decide +kernel
theorem dX1_keep_23 : decode cX1_keep 23 = .ok (.aastore, 1) := by decide +kernel
theorem dX1_keep_24 : decode cX1_keep 24 = .ok (.aload_n 0, 1) := by decide +kernel
theorem dX1_keep_25 : decode cX1_keep 25 = .ok (.dup, 1) := by decide +kernel
theorem dX1_keep_26 : decode cX1_keep 26 = .ok (.getfield 40, 3) := by decide +kernel
theorem dX1_keep_29 : decode cX1_keep 29 = .ok (.iconst 1, 1) := by decide +kernel
theorem dX1_keep_30 : decode cX1_keep 30 = .ok (.iadd, 1) := by decide +kernel
theorem dX1_keep_31 : decode cX1_keep 31 = .ok (.putfield 40, 3) := by decide +kernel
theorem dX1_keep_34 : decode cX1_keep 34 = .ok (.return_, 1) := by decide +kernel
theorem dX1_drop_0 : decode cX1_drop 0 = .ok (.iload_n 1, 1) := by decide +kernel
theorem dX1_drop_1 : decode cX1_drop 1 = .ok (.iconst 1, 1) := by decide +kernel
theorem dX1_drop_2 : decode cX1_drop 2 = .ok (.iadd, 1) := by decide +kernel
theorem dX1_drop_3 : decode cX1_drop 3 = .ok (.istore_n 2, 1) := by decide +kernel
theorem dX1_drop_4 : decode cX1_drop 4 = .ok (.iload_n 2, 1) := by decide +kernel
theorem dX1_drop_5 : decode cX1_drop 5 = .ok (.aload_n 0, 1) := by decide +kernel
theorem dX1_drop_6 : decode cX1_drop 6 = .ok (.getfield 40, 3) := by decide +kernel
theorem dX1_drop_9 : decode cX1_drop 9 = .ok (.if_icmp .ge 23, 3) := by decide +kernel
theorem dX1_drop_12 : decode cX1_drop 12 = .ok (.aload_n 0, 1) := by decide +kernel
theorem dX1_drop_13 : decode cX1_drop 13 = .ok (.getfield 23, 3) := by decide +kernel
theorem dX1_drop_16 : decode cX1_drop 16 = .ok (.iload_n 2, 1) := by decide +kernel
theorem dX1_drop_17 : decode cX1_drop 17 = .ok (.iconst 1, 1) := by decide +kernel
theorem dX1_drop_18 : decode cX1_drop 18 = .ok (.isub, 1) := by decide +kernel
theorem dX1_drop_19 : decode cX1_drop 19 = .ok (.aload_n 0, 1) := by decide +kernel
theorem dX1_drop_20 : decode cX1_drop 20 = .ok (.getfield 23, 3) := by decide +kernel
theorem dX1_drop_23 : decode cX1_drop 23 = .ok (.iload_n 2, 1) := by decide +kernel
theorem dX1_drop_24 : decode cX1_drop 24 = .ok (.aaload, 1) := by decide +kernel
theorem dX1_drop_25 : decode cX1_drop 25 = .ok (.aastore, 1) := by decide +kernel
theorem dX1_drop_26 : decode cX1_drop 26 = .ok (.iinc 2 1, 3) := by decide +kernel
theorem dX1_drop_29 : decode cX1_drop 29 = .ok (.goto (-25), 3) := by decide +kernel
theorem dX1_drop_32 : decode cX1_drop 32 = .ok (.aload_n 0, 1) := by decide +kernel
theorem dX1_drop_33 : decode cX1_drop 33 = .ok (.dup, 1) := by decide +kernel
theorem dX1_drop_34 : decode cX1_drop 34 = .ok (.getfield 40, 3) := by decide +kernel
theorem dX1_drop_37 : decode cX1_drop 37 = .ok (.iconst 1, 1) := by decide +kernel
theorem dX1_drop_38 : decode cX1_drop 38 = .ok (.isub, 1) := by decide +kernel
theorem dX1_drop_39 : decode cX1_drop 39 = .ok (.putfield 40, 3) := by decide +kernel
theorem dX1_drop_42 : decode cX1_drop 42 = .ok (.aload_n 0, 1) := by decide +kernel
theorem dX1_drop_43 : decode cX1_drop 43 = .ok (.getfield 23, 3) := by decide +kernel
theorem dX1_drop_46 : decode cX1_drop 46 = .ok (.aload_n 0, 1) := by decide +kernel
theorem dX1_drop_47 : decode cX1_drop 47 = .ok (.getfield 40, 3) := by decide +kernel
theorem dX1_drop_50 : decode cX1_drop 50 = .ok (.aconst_null, 1) := by decide +kernel
theorem dX1_drop_51 : decode cX1_drop 51 = .ok (.aastore, 1) := by decide +kernel
theorem dX1_drop_52 : decode cX1_drop 52 = .ok (.return_, 1) := by decide +kernel
theorem dX1_keptFor_0 : decode cX1_keptFor 0 = .ok (.iconst 0, 1) := by decide +kernel
theorem dX1_keptFor_1 : decode cX1_keptFor 1 = .ok (.istore_n 2, 1) := by decide +kernel
theorem dX1_keptFor_2 : decode cX1_keptFor 2 = .ok (.iload_n 2, 1) := by decide +kernel
theorem dX1_keptFor_3 : decode cX1_keptFor 3 = .ok (.aload_n 0, 1) := by decide +kernel
theorem dX1_keptFor_4 : decode cX1_keptFor 4 = .ok (.getfield 40, 3) := by decide +kernel
theorem dX1_keptFor_7 : decode cX1_keptFor 7 = .ok (.if_icmp .ge 43, 3) := by decide +kernel
theorem dX1_keptFor_10 : decode cX1_keptFor 10 = .ok (.aload_n 0, 1) := by decide +kernel
theorem dX1_keptFor_11 : decode cX1_keptFor 11 = .ok (.getfield 23, 3) := by decide +kernel
theorem dX1_keptFor_14 : decode cX1_keptFor 14 = .ok (.iload_n 2, 1) := by decide +kernel
theorem dX1_keptFor_15 : decode cX1_keptFor 15 = .ok (.aaload, 1) := by decide +kernel
theorem dX1_keptFor_16 : decode cX1_keptFor 16 = .ok (.getfield 47, 3) := by decide +kernel
theorem dX1_keptFor_19 : decode cX1_keptFor 19 = .ok (.aload_n 1, 1) := by decide +kernel
theorem dX1_keptFor_20 : decode cX1_keptFor 20 = .ok (.invokevirtual 48, 3) := by decide +kernel
theorem dX1_keptFor_23 : decode cX1_keptFor 23 = .ok (.if_icmp .ne 21, 3) := by decide +kernel
theorem dX1_keptFor_26 : decode cX1_keptFor 26 = .ok (.aload_n 0, 1) := by decide +kernel
theorem dX1_keptFor_27 : decode cX1_keptFor 27 = .ok (.getfield 23, 3) := by decide +kernel
theorem dX1_keptFor_30 : decode cX1_keptFor 30 = .ok (.iload_n 2, 1) := by decide +kernel
theorem dX1_keptFor_31 : decode cX1_keptFor 31 = .ok (.aaload, 1) := by decide +kernel
theorem dX1_keptFor_32 : decode cX1_keptFor 32 = .ok (.getfield 53, 3) := by decide +kernel
theorem dX1_keptFor_35 : decode cX1_keptFor 35 = .ok (.aload_n 1, 1) := by decide +kernel
theorem dX1_keptFor_36 : decode cX1_keptFor 36 = .ok (.invokevirtual 56, 3) := by decide +kernel
theorem dX1_keptFor_39 : decode cX1_keptFor 39 = .ok (.if_icmp .ne 5, 3) := by decide +kernel
theorem dX1_keptFor_42 : decode cX1_keptFor 42 = .ok (.iload_n 2, 1) := by decide +kernel
theorem dX1_keptFor_43 : decode cX1_keptFor 43 = .ok (.ireturn, 1) := by decide +kernel
theorem dX1_keptFor_44 : decode cX1_keptFor 44 = .ok (.iinc 2 1, 3) := by decide +kernel
theorem dX1_keptFor_47 : decode cX1_keptFor 47 = .ok (.goto (-45), 3) := by decide +kernel
theorem dX1_keptFor_50 : decode cX1_keptFor 50 = .ok (.iconst (-1), 1) := by decide +kernel
theorem dX1_keptFor_51 : decode cX1_keptFor 51 = .ok (.ireturn, 1) := by decide +kernel
theorem dX1_endOld_0 : decode cX1_endOld 0 = .ok (.aload_n 0, 1) := by decide +kernel
theorem dX1_endOld_1 : decode cX1_endOld 1 = .ok (.getfield 40, 3) := by decide +kernel
theorem dX1_endOld_4 : decode cX1_endOld 4 = .ok (.istore_n 3, 1) := by decide +kernel
theorem dX1_endOld_5 : decode cX1_endOld 5 = .ok (.iload_n 3, 1) := by decide +kernel
theorem dX1_endOld_6 : decode cX1_endOld 6 = .ok (.ifCond .le 29, 3) := by decide +kernel
theorem dX1_endOld_9 : decode cX1_endOld 9 = .ok (.iload_n 1, 1) := by decide +kernel
theorem dX1_endOld_10 : decode cX1_endOld 10 = .ok (.aload_n 0, 1) := by decide +kernel
theorem dX1_endOld_11 : decode cX1_endOld 11 = .ok (.getfield 23, 3) := by decide +kernel
theorem dX1_endOld_14 : decode cX1_endOld 14 = .ok (.iconst 0, 1) := by decide +kernel
theorem dX1_endOld_15 : decode cX1_endOld 15 = .ok (.aaload, 1) := by decide +kernel
theorem dX1_endOld_16 : decode cX1_endOld 16 = .ok (.getfield 58, 3) := by decide +kernel
theorem dX1_endOld_19 : decode cX1_endOld 19 = .ok (.isub, 1) := by decide +kernel
theorem dX1_endOld_20 : decode cX1_endOld 20 = .ok (.iload_n 2, 1) := by decide +kernel
theorem dX1_endOld_21 : decode cX1_endOld 21 = .ok (.if_icmp .le 14, 3) := by decide +kernel
theorem dX1_endOld_24 : decode cX1_endOld 24 = .ok (.aload_n 0, 1) := by decide +kernel
theorem dX1_endOld_25 : decode cX1_endOld 25 = .ok (.iconst 0, 1) := by decide +kernel
theorem dX1_endOld_26 : decode cX1_endOld 26 = .ok (.invokevirtual 43, 3) := by decide +kernel
theorem dX1_endOld_29 : decode cX1_endOld 29 = .ok (.iinc 3 (-1), 3) := by decide +kernel
theorem dX1_endOld_32 : decode cX1_endOld 32 = .ok (.goto (-27), 3) := by decide +kernel
theorem dX1_endOld_35 : decode cX1_endOld 35 = .ok (.return_, 1) := by decide +kernel
theorem dX2_init_0 : decode cX2_init 0 = .ok (.aload_n 0, 1) := by decide +kernel
theorem dX2_init_1 : decode cX2_init 1 = .ok (.invokespecial 1, 3) := by decide +kernel
theorem dX2_init_4 : decode cX2_init 4 = .ok (.aload_n 0, 1) := by decide +kernel
theorem dX2_init_5 : decode cX2_init 5 = .ok (.iconst 3, 1) := by decide +kernel
theorem dX2_init_6 : decode cX2_init 6 = .ok (.newarray .int, 2) := by decide +kernel
theorem dX2_init_8 : decode cX2_init 8 = .ok (.putfield 7, 3) := by decide +kernel
theorem dX2_init_11 : decode cX2_init 11 = .ok (.aload_n 0, 1) := by decide +kernel
theorem dX2_init_12 : decode cX2_init 12 = .ok (.aload_n 1, 1) := by decide +kernel
theorem dX2_init_13 : decode cX2_init 13 = .ok (.getfield 13, 3) := by decide +kernel
theorem dX2_init_16 : decode cX2_init 16 = .ok (.putfield 19, 3) := by decide +kernel
theorem dX2_init_19 : decode cX2_init 19 = .ok (.aload_n 0, 1) := by decide +kernel
theorem dX2_init_20 : decode cX2_init 20 = .ok (.aload_n 1, 1) := by decide +kernel
theorem dX2_init_21 : decode cX2_init 21 = .ok (.getfield 22, 3) := by decide +kernel
theorem dX2_init_24 : decode cX2_init 24 = .ok (.putfield 26, 3) := by decide +kernel
theorem dX2_init_27 : decode cX2_init 27 = .ok (.aload_n 0, 1) := by decide +kernel
theorem dX2_init_28 : decode cX2_init 28 = .ok (.aload_n 2, 1) := by decide +kernel
theorem dX2_init_29 : decode cX2_init 29 = .ok (.putfield 29, 3) := by decide +kernel
theorem dX2_init_32 : decode cX2_init 32 = .ok (.aload_n 0, 1) := by decide +kernel
theorem dX2_init_33 : decode cX2_init 33 = .ok (.getfield 7, 3) := by decide +kernel
theorem dX2_init_36 : decode cX2_init 36 = .ok (.iconst 1, 1) := by decide +kernel
theorem dX2_init_37 : decode cX2_init 37 = .ok (.aload_n 1, 1) := by decide +kernel
theorem dX2_init_38 : decode cX2_init 38 = .ok (.getfield 32, 3) := by decide +kernel
theorem dX2_init_41 : decode cX2_init 41 = .ok (.iastore, 1) := by decide +kernel
theorem dX2_init_42 : decode cX2_init 42 = .ok (.aload_n 0, 1) := by decide +kernel
theorem dX2_init_43 : decode cX2_init 43 = .ok (.getfield 7, 3) := by decide +kernel
theorem dX2_init_46 : decode cX2_init 46 = .ok (.iconst 2, 1) := by decide +kernel
theorem dX2_init_47 : decode cX2_init 47 = .ok (.aload_n 1, 1) := by decide +kernel
theorem dX2_init_48 : decode cX2_init 48 = .ok (.getfield 35, 3) := by decide +kernel
theorem dX2_init_51 : decode cX2_init 51 = .ok (.iastore, 1) := by decide +kernel
theorem dX2_init_52 : decode cX2_init 52 = .ok (.return_, 1) := by decide +kernel
theorem dX2_from_0 : decode cX2_from 0 = .ok (.aload_n 0, 1) := by decide +kernel
theorem dX2_from_1 : decode cX2_from 1 = .ok (.getfield 7, 3) := by decide +kernel
theorem dX2_from_4 : decode cX2_from 4 = .ok (.iconst 0, 1) := by decide +kernel
theorem dX2_from_5 : decode cX2_from 5 = .ok (.iaload, 1) := by decide +kernel
theorem dX2_from_6 : decode cX2_from 6 = .ok (.ireturn, 1) := by decide +kernel
theorem dX2_before_0 : decode cX2_before 0 = .ok (.aload_n 0, 1) := by decide +kernel
theorem dX2_before_1 : decode cX2_before 1 = .ok (.getfield 7, 3) := by decide +kernel
theorem dX2_before_4 : decode cX2_before 4 = .ok (.iconst 1, 1) := by decide +kernel
theorem dX2_before_5 : decode cX2_before 5 = .ok (.iaload, 1) := by decide +kernel
theorem dX2_before_6 : decode cX2_before 6 = .ok (.ireturn, 1) := by decide +kernel
theorem dX2_place_0 : decode cX2_place 0 = .ok (.aload_n 0, 1) := by decide +kernel
theorem dX2_place_1 : decode cX2_place 1 = .ok (.getfield 7, 3) := by decide +kernel
theorem dX2_place_4 : decode cX2_place 4 = .ok (.iconst 2, 1) := by decide +kernel
theorem dX2_place_5 : decode cX2_place 5 = .ok (.iaload, 1) := by decide +kernel
theorem dX2_place_6 : decode cX2_place 6 = .ok (.ireturn, 1) := by decide +kernel
theorem dX3_init_0 : decode cX3_init 0 = .ok (.aload_n 0, 1) := by decide +kernel
theorem dX3_init_1 : decode cX3_init 1 = .ok (.iconst 4, 1) := by decide +kernel
theorem dX3_init_2 : decode cX3_init 2 = .ok (.aload_n 1, 1) := by decide +kernel
theorem dX3_init_3 : decode cX3_init 3 = .ok (.getfield 3, 3) := by decide +kernel
theorem dX3_init_6 : decode cX3_init 6 = .ok (.aload_n 1, 1) := by decide +kernel
theorem dX3_init_7 : decode cX3_init 7 = .ok (.aconst_null, 1) := by decide +kernel
theorem dX3_init_8 : decode cX3_init 8 = .ok (.invokespecial 9, 3) := by decide +kernel
theorem dX3_init_11 : decode cX3_init 11 = .ok (.aload_n 0, 1) := by decide +kernel
theorem dX3_init_12 : decode cX3_init 12 = .ok (.aload_n 1, 1) := by decide +kernel
theorem dX3_init_13 : decode cX3_init 13 = .ok (.putfield 13, 3) := by decide +kernel
theorem dX3_init_16 : decode cX3_init 16 = .ok (.aload_n 0, 1) := by decide +kernel
theorem dX3_init_17 : decode cX3_init 17 = .ok (.iload_n 2, 1) := by decide +kernel
theorem dX3_init_18 : decode cX3_init 18 = .ok (.putfield 19, 3) := by decide +kernel
theorem dX3_init_21 : decode cX3_init 21 = .ok (.aload_n 0, 1) := by decide +kernel
theorem dX3_init_22 : decode cX3_init 22 = .ok (.iload_n 3, 1) := by decide +kernel
theorem dX3_init_23 : decode cX3_init 23 = .ok (.putfield 22, 3) := by decide +kernel
theorem dX3_init_26 : decode cX3_init 26 = .ok (.aload_n 0, 1) := by decide +kernel
theorem dX3_init_27 : decode cX3_init 27 = .ok (.iload 4, 2) := by decide +kernel
theorem dX3_init_29 : decode cX3_init 29 = .ok (.putfield 25, 3) := by decide +kernel
theorem dX3_init_32 : decode cX3_init 32 = .ok (.return_, 1) := by decide +kernel
theorem dX4_init_0 : decode cX4_init 0 = .ok (.aload_n 0, 1) := by decide +kernel
theorem dX4_init_1 : decode cX4_init 1 = .ok (.invokespecial 3, 3) := by decide +kernel
theorem dX4_init_4 : decode cX4_init 4 = .ok (.aload_n 0, 1) := by decide +kernel
theorem dX4_init_5 : decode cX4_init 5 = .ok (.iconst (-1), 1) := by decide +kernel
theorem dX4_init_6 : decode cX4_init 6 = .ok (.putfield 9, 3) := by decide +kernel
theorem dX4_init_9 : decode cX4_init 9 = .ok (.aload_n 0, 1) := by decide +kernel
theorem dX4_init_10 : decode cX4_init 10 = .ok (.iload_n 1, 1) := by decide +kernel
theorem dX4_init_11 : decode cX4_init 11 = .ok (.putfield 15, 3) := by decide +kernel
theorem dX4_init_14 : decode cX4_init 14 = .ok (.aload_n 0, 1) := by decide +kernel
theorem dX4_init_15 : decode cX4_init 15 = .ok (.iload_n 2, 1) := by decide +kernel
theorem dX4_init_16 : decode cX4_init 16 = .ok (.putfield 18, 3) := by decide +kernel
theorem dX4_init_19 : decode cX4_init 19 = .ok (.aload_n 0, 1) := by decide +kernel
theorem dX4_init_20 : decode cX4_init 20 = .ok (.aload_n 3, 1) := by decide +kernel
theorem dX4_init_21 : decode cX4_init 21 = .ok (.putfield 21, 3) := by decide +kernel
theorem dX4_init_24 : decode cX4_init 24 = .ok (.aload_n 0, 1) := by decide +kernel
theorem dX4_init_25 : decode cX4_init 25 = .ok (.aload 4, 2) := by decide +kernel
theorem dX4_init_27 : decode cX4_init 27 = .ok (.putfield 25, 3) := by decide +kernel
theorem dX4_init_30 : decode cX4_init 30 = .ok (.return_, 1) := by decide +kernel
theorem dX4_stepsNow_0 : decode cX4_stepsNow 0 = .ok (.aload_n 0, 1) := by decide +kernel
theorem dX4_stepsNow_1 : decode cX4_stepsNow 1 = .ok (.getfield 28, 3) := by decide +kernel
theorem dX4_stepsNow_4 : decode cX4_stepsNow 4 = .ok (.ifCond .eq 5, 3) := by decide +kernel
theorem dX4_stepsNow_7 : decode cX4_stepsNow 7 = .ok (.iconst 0, 1) := by decide +kernel
theorem dX4_stepsNow_8 : decode cX4_stepsNow 8 = .ok (.ireturn, 1) := by decide +kernel
theorem dX4_stepsNow_9 : decode cX4_stepsNow 9 = .ok (.aload_n 0, 1) := by decide +kernel
theorem dX4_stepsNow_10 : decode cX4_stepsNow 10 = .ok (.getfield 21, 3) := by decide +kernel
theorem dX4_stepsNow_13 : decode cX4_stepsNow 13 = .ok (.ifnonnull 5, 3) := by decide +kernel
theorem dX4_stepsNow_16 : decode cX4_stepsNow 16 = .ok (.iconst (-1), 1) := by decide +kernel
theorem dX4_stepsNow_17 : decode cX4_stepsNow 17 = .ok (.ireturn, 1) := by decide +kernel
theorem dX4_stepsNow_18 : decode cX4_stepsNow 18 = .ok (.aload_n 0, 1) := by decide +kernel
theorem dX4_stepsNow_19 : decode cX4_stepsNow 19 = .ok (.getfield 25, 3) := by decide +kernel
theorem dX4_stepsNow_22 : decode cX4_stepsNow 22 = .ok (.ifnonnull 28, 3) := by decide +kernel
theorem dX4_stepsNow_25 : decode cX4_stepsNow 25 = .ok (.aload_n 0, 1) := by decide +kernel
theorem dX4_stepsNow_26 : decode cX4_stepsNow 26 = .ok (.getfield 21, 3) := by decide +kernel
theorem dX4_stepsNow_29 : decode cX4_stepsNow 29 = .ok (.getfield 9, 3) := by decide +kernel
theorem dX4_stepsNow_32 : decode cX4_stepsNow 32 = .ok (.iconst (-1), 1) := by decide +kernel
theorem dX4_stepsNow_33 : decode cX4_stepsNow 33 = .ok (.if_icmp .ne 7, 3) := by decide +kernel
theorem dX4_stepsNow_36 : decode cX4_stepsNow 36 = .ok (.iconst (-1), 1) := by decide +kernel
theorem dX4_stepsNow_37 : decode cX4_stepsNow 37 = .ok (.goto 12, 3) := by decide +kernel
theorem dX4_stepsNow_40 : decode cX4_stepsNow 40 = .ok (.aload_n 0, 1) := by decide +kernel
theorem dX4_stepsNow_41 : decode cX4_stepsNow 41 = .ok (.getfield 21, 3) := by decide +kernel
theorem dX4_stepsNow_44 : decode cX4_stepsNow 44 = .ok (.getfield 9, 3) := by decide +kernel
theorem dX4_stepsNow_47 : decode cX4_stepsNow 47 = .ok (.iconst 1, 1) := by decide +kernel
theorem dX4_stepsNow_48 : decode cX4_stepsNow 48 = .ok (.iadd, 1) := by decide +kernel
theorem dX4_stepsNow_49 : decode cX4_stepsNow 49 = .ok (.ireturn, 1) := by decide +kernel
theorem dX4_stepsNow_50 : decode cX4_stepsNow 50 = .ok (.aload_n 0, 1) := by decide +kernel
theorem dX4_stepsNow_51 : decode cX4_stepsNow 51 = .ok (.getfield 21, 3) := by decide +kernel
theorem dX4_stepsNow_54 : decode cX4_stepsNow 54 = .ok (.getfield 9, 3) := by decide +kernel
theorem dX4_stepsNow_57 : decode cX4_stepsNow 57 = .ok (.aload_n 0, 1) := by decide +kernel
theorem dX4_stepsNow_58 : decode cX4_stepsNow 58 = .ok (.getfield 25, 3) := by decide +kernel
theorem dX4_stepsNow_61 : decode cX4_stepsNow 61 = .ok (.getfield 9, 3) := by decide +kernel
theorem dX4_stepsNow_64 : decode cX4_stepsNow 64 = .ok (.invokestatic 32, 3) := by decide +kernel
theorem dX4_stepsNow_67 : decode cX4_stepsNow 67 = .ok (.istore_n 1, 1) := by decide +kernel
theorem dX4_stepsNow_68 : decode cX4_stepsNow 68 = .ok (.aload_n 0, 1) := by decide +kernel
theorem dX4_stepsNow_69 : decode cX4_stepsNow 69 = .ok (.getfield 21, 3) := by decide +kernel
theorem dX4_stepsNow_72 : decode cX4_stepsNow 72 = .ok (.getfield 9, 3) := by decide +kernel
theorem dX4_stepsNow_75 : decode cX4_stepsNow 75 = .ok (.aload_n 0, 1) := by decide +kernel
theorem dX4_stepsNow_76 : decode cX4_stepsNow 76 = .ok (.getfield 25, 3) := by decide +kernel
theorem dX4_stepsNow_79 : decode cX4_stepsNow 79 = .ok (.getfield 9, 3) := by decide +kernel
theorem dX4_stepsNow_82 : decode cX4_stepsNow 82 = .ok (.invokestatic 38, 3) := by decide +kernel
theorem dX4_stepsNow_85 : decode cX4_stepsNow 85 = .ok (.istore_n 2, 1) := by decide +kernel
theorem dX4_stepsNow_86 : decode cX4_stepsNow 86 = .ok (.aload_n 0, 1) := by decide +kernel
theorem dX4_stepsNow_87 : decode cX4_stepsNow 87 = .ok (.getfield 15, 3) := by decide +kernel
theorem dX4_stepsNow_90 : decode cX4_stepsNow 90 = .ok (.iconst 5, 1) := by decide +kernel
theorem dX4_stepsNow_91 : decode cX4_stepsNow 91 = .ok (.if_icmp .ne 25, 3) := by decide +kernel
theorem dX4_stepsNow_94 : decode cX4_stepsNow 94 = .ok (.iload_n 2, 1) := by decide +kernel
theorem dX4_stepsNow_95 : decode cX4_stepsNow 95 = .ok (.iconst (-1), 1) := by decide +kernel
theorem dX4_stepsNow_96 : decode cX4_stepsNow 96 = .ok (.if_icmp .ne 7, 3) := by decide +kernel
theorem dX4_stepsNow_99 : decode cX4_stepsNow 99 = .ok (.iconst (-1), 1) := by decide +kernel
theorem dX4_stepsNow_100 : decode cX4_stepsNow 100 = .ok (.goto 15, 3) := by decide +kernel
theorem dX4_stepsNow_103 : decode cX4_stepsNow 103 = .ok (.iconst 1, 1) := by decide +kernel
theorem dX4_stepsNow_104 : decode cX4_stepsNow 104 = .ok (.iload_n 1, 1) := by decide +kernel
theorem dX4_stepsNow_105 : decode cX4_stepsNow 105 = .ok (.iconst (-1), 1) := by decide +kernel
theorem dX4_stepsNow_106 : decode cX4_stepsNow 106 = .ok (.if_icmp .ne 7, 3) := by decide +kernel
theorem dX4_stepsNow_109 : decode cX4_stepsNow 109 = .ok (.iload_n 2, 1) := by decide +kernel
theorem dX4_stepsNow_110 : decode cX4_stepsNow 110 = .ok (.goto 4, 3) := by decide +kernel
theorem dX4_stepsNow_113 : decode cX4_stepsNow 113 = .ok (.iload_n 1, 1) := by decide +kernel
theorem dX4_stepsNow_114 : decode cX4_stepsNow 114 = .ok (.iadd, 1) := by decide +kernel
theorem dX4_stepsNow_115 : decode cX4_stepsNow 115 = .ok (.ireturn, 1) := by decide +kernel
theorem dX4_stepsNow_116 : decode cX4_stepsNow 116 = .ok (.iload_n 1, 1) := by decide +kernel
theorem dX4_stepsNow_117 : decode cX4_stepsNow 117 = .ok (.iconst (-1), 1) := by decide +kernel
theorem dX4_stepsNow_118 : decode cX4_stepsNow 118 = .ok (.if_icmp .ne 7, 3) := by decide +kernel
theorem dX4_stepsNow_121 : decode cX4_stepsNow 121 = .ok (.iconst (-1), 1) := by decide +kernel
theorem dX4_stepsNow_122 : decode cX4_stepsNow 122 = .ok (.goto 6, 3) := by decide +kernel
theorem dX4_stepsNow_125 : decode cX4_stepsNow 125 = .ok (.iload_n 2, 1) := by decide +kernel
theorem dX4_stepsNow_126 : decode cX4_stepsNow 126 = .ok (.iconst 1, 1) := by decide +kernel
theorem dX4_stepsNow_127 : decode cX4_stepsNow 127 = .ok (.iadd, 1) := by decide +kernel
theorem dX4_stepsNow_128 : decode cX4_stepsNow 128 = .ok (.ireturn, 1) := by decide +kernel
theorem dX5_init_0 : decode cX5_init 0 = .ok (.aload_n 0, 1) := by decide +kernel
theorem dX5_init_1 : decode cX5_init 1 = .ok (.invokespecial 3, 3) := by decide +kernel
theorem dX5_init_4 : decode cX5_init 4 = .ok (.aload_n 0, 1) := by decide +kernel
theorem dX5_init_5 : decode cX5_init 5 = .ok (.new 9, 3) := by decide +kernel
theorem dX5_init_8 : decode cX5_init 8 = .ok (.dup, 1) := by decide +kernel
theorem dX5_init_9 : decode cX5_init 9 = .ok (.invokespecial 11, 3) := by decide +kernel
theorem dX5_init_12 : decode cX5_init 12 = .ok (.putfield 12, 3) := by decide +kernel
theorem dX5_init_15 : decode cX5_init 15 = .ok (.aload_n 0, 1) := by decide +kernel
theorem dX5_init_16 : decode cX5_init 16 = .ok (.new 18, 3) := by decide +kernel
theorem dX5_init_19 : decode cX5_init 19 = .ok (.dup, 1) := by decide +kernel
theorem dX5_init_20 : decode cX5_init 20 = .ok (.invokespecial 20, 3) := by decide +kernel
theorem dX5_init_23 : decode cX5_init 23 = .ok (.putfield 21, 3) := by decide +kernel
theorem dX5_init_26 : decode cX5_init 26 = .ok (.return_, 1) := by decide +kernel
theorem dX5_newSecret_0 : decode cX5_newSecret 0 = .ok (.new 25, 3) := by decide +kernel
theorem dX5_newSecret_3 : decode cX5_newSecret 3 = .ok (.dup, 1) := by decide +kernel
theorem dX5_newSecret_4 : decode cX5_newSecret 4 = .ok (.iconst 3, 1) := by decide +kernel
theorem dX5_newSecret_5 : decode cX5_newSecret 5 = .ok (.iload_n 1, 1) := by decide +kernel
theorem dX5_newSecret_6 : decode cX5_newSecret 6 = .ok (.aconst_null, 1) := by decide +kernel
theorem dX5_newSecret_7 : decode cX5_newSecret 7 = .ok (.aconst_null, 1) := by decide +kernel
theorem dX5_newSecret_8 : decode cX5_newSecret 8 = .ok (.invokespecial 27, 3) := by decide +kernel
theorem dX5_newSecret_11 : decode cX5_newSecret 11 = .ok (.astore_n 2, 1) := by decide +kernel
theorem dX5_newSecret_12 : decode cX5_newSecret 12 = .ok (.aload_n 0, 1) := by decide +kernel
theorem dX5_newSecret_13 : decode cX5_newSecret 13 = .ok (.getfield 21, 3) := by decide +kernel
theorem dX5_newSecret_16 : decode cX5_newSecret 16 = .ok (.aload_n 2, 1) := by decide +kernel
theorem dX5_newSecret_17 : decode cX5_newSecret 17 = .ok (.invokevirtual 30, 3) := by decide +kernel
theorem dX5_newSecret_20 : decode cX5_newSecret 20 = .ok (.pop, 1) := by decide +kernel
theorem dX5_newSecret_21 : decode cX5_newSecret 21 = .ok (.aload_n 2, 1) := by decide +kernel
theorem dX5_newSecret_22 : decode cX5_newSecret 22 = .ok (.areturn, 1) := by decide +kernel
theorem dX5_meetingOf_0 : decode cX5_meetingOf 0 = .ok (.aload_n 0, 1) := by decide +kernel
theorem dX5_meetingOf_1 : decode cX5_meetingOf 1 = .ok (.getfield 12, 3) := by decide +kernel
theorem dX5_meetingOf_4 : decode cX5_meetingOf 4 = .ok (.aload_n 0, 1) := by decide +kernel
theorem dX5_meetingOf_5 : decode cX5_meetingOf 5 = .ok (.getfield 12, 3) := by decide +kernel
theorem dX5_meetingOf_8 : decode cX5_meetingOf 8 = .ok (.aload_n 2, 1) := by decide +kernel
theorem dX5_meetingOf_9 : decode cX5_meetingOf 9 = .ok (.getfield 34, 3) := by decide +kernel
theorem dX5_meetingOf_12 : decode cX5_meetingOf 12 = .ok (.invokevirtual 38, 3) := by decide +kernel
theorem dX5_meetingOf_15 : decode cX5_meetingOf 15 = .ok (.aload_n 1, 1) := by decide +kernel
theorem dX5_meetingOf_16 : decode cX5_meetingOf 16 = .ok (.getfield 34, 3) := by decide +kernel
theorem dX5_meetingOf_19 : decode cX5_meetingOf 19 = .ok (.invokevirtual 42, 3) := by decide +kernel
theorem dX5_meetingOf_22 : decode cX5_meetingOf 22 = .ok (.istore_n 3, 1) := by decide +kernel
theorem dX5_meetingOf_23 : decode cX5_meetingOf 23 = .ok (.aload_n 0, 1) := by decide +kernel
theorem dX5_meetingOf_24 : decode cX5_meetingOf 24 = .ok (.aload_n 1, 1) := by decide +kernel
theorem dX5_meetingOf_25 : decode cX5_meetingOf 25 = .ok (.iconst 5, 1) := by decide +kernel
theorem dX5_meetingOf_26 : decode cX5_meetingOf 26 = .ok (.aload_n 2, 1) := by decide +kernel
theorem dX5_meetingOf_27 : decode cX5_meetingOf 27 = .ok (.iload_n 3, 1) := by decide +kernel
theorem dX5_meetingOf_28 : decode cX5_meetingOf 28 = .ok (.invokevirtual 46, 3) := by decide +kernel
theorem dX5_meetingOf_31 : decode cX5_meetingOf 31 = .ok (.areturn, 1) := by decide +kernel
theorem dX5_firstRootOf_0 : decode cX5_firstRootOf 0 = .ok (.aload_n 0, 1) := by decide +kernel
theorem dX5_firstRootOf_1 : decode cX5_firstRootOf 1 = .ok (.aload_n 1, 1) := by decide +kernel
theorem dX5_firstRootOf_2 : decode cX5_firstRootOf 2 = .ok (.iconst 2, 1) := by decide +kernel
theorem dX5_firstRootOf_3 : decode cX5_firstRootOf 3 = .ok (.aconst_null, 1) := by decide +kernel
theorem dX5_firstRootOf_4 : decode cX5_firstRootOf 4 = .ok (.aload_n 1, 1) := by decide +kernel
theorem dX5_firstRootOf_5 : decode cX5_firstRootOf 5 = .ok (.getfield 34, 3) := by decide +kernel
theorem dX5_firstRootOf_8 : decode cX5_firstRootOf 8 = .ok (.invokevirtual 46, 3) := by decide +kernel
theorem dX5_firstRootOf_11 : decode cX5_firstRootOf 11 = .ok (.areturn, 1) := by decide +kernel
theorem dX5_rootOf_0 : decode cX5_rootOf 0 = .ok (.aload_n 0, 1) := by decide +kernel
theorem dX5_rootOf_1 : decode cX5_rootOf 1 = .ok (.aload_n 1, 1) := by decide +kernel
theorem dX5_rootOf_2 : decode cX5_rootOf 2 = .ok (.iconst 2, 1) := by decide +kernel
theorem dX5_rootOf_3 : decode cX5_rootOf 3 = .ok (.aload_n 2, 1) := by decide +kernel
theorem dX5_rootOf_4 : decode cX5_rootOf 4 = .ok (.aload_n 0, 1) := by decide +kernel
theorem dX5_rootOf_5 : decode cX5_rootOf 5 = .ok (.getfield 12, 3) := by decide +kernel
theorem dX5_rootOf_8 : decode cX5_rootOf 8 = .ok (.aload_n 1, 1) := by decide +kernel
theorem dX5_rootOf_9 : decode cX5_rootOf 9 = .ok (.getfield 34, 3) := by decide +kernel
theorem dX5_rootOf_12 : decode cX5_rootOf 12 = .ok (.aload_n 2, 1) := by decide +kernel
theorem dX5_rootOf_13 : decode cX5_rootOf 13 = .ok (.getfield 34, 3) := by decide +kernel
theorem dX5_rootOf_16 : decode cX5_rootOf 16 = .ok (.invokevirtual 50, 3) := by decide +kernel
theorem dX5_rootOf_19 : decode cX5_rootOf 19 = .ok (.invokevirtual 46, 3) := by decide +kernel
theorem dX5_rootOf_22 : decode cX5_rootOf 22 = .ok (.areturn, 1) := by decide +kernel
theorem dX5_chainOf_0 : decode cX5_chainOf 0 = .ok (.aload_n 0, 1) := by decide +kernel
theorem dX5_chainOf_1 : decode cX5_chainOf 1 = .ok (.aload_n 1, 1) := by decide +kernel
theorem dX5_chainOf_2 : decode cX5_chainOf 2 = .ok (.iconst 1, 1) := by decide +kernel
theorem dX5_chainOf_3 : decode cX5_chainOf 3 = .ok (.aconst_null, 1) := by decide +kernel
theorem dX5_chainOf_4 : decode cX5_chainOf 4 = .ok (.aload_n 0, 1) := by decide +kernel
theorem dX5_chainOf_5 : decode cX5_chainOf 5 = .ok (.getfield 12, 3) := by decide +kernel
theorem dX5_chainOf_8 : decode cX5_chainOf 8 = .ok (.aload_n 1, 1) := by decide +kernel
theorem dX5_chainOf_9 : decode cX5_chainOf 9 = .ok (.getfield 34, 3) := by decide +kernel
theorem dX5_chainOf_12 : decode cX5_chainOf 12 = .ok (.iconst 3, 1) := by decide +kernel
theorem dX5_chainOf_13 : decode cX5_chainOf 13 = .ok (.invokevirtual 50, 3) := by decide +kernel
theorem dX5_chainOf_16 : decode cX5_chainOf 16 = .ok (.invokevirtual 46, 3) := by decide +kernel
theorem dX5_chainOf_19 : decode cX5_chainOf 19 = .ok (.areturn, 1) := by decide +kernel
theorem dX5_nextOf_0 : decode cX5_nextOf 0 = .ok (.aload_n 0, 1) := by decide +kernel
theorem dX5_nextOf_1 : decode cX5_nextOf 1 = .ok (.aload_n 1, 1) := by decide +kernel
theorem dX5_nextOf_2 : decode cX5_nextOf 2 = .ok (.iconst 1, 1) := by decide +kernel
theorem dX5_nextOf_3 : decode cX5_nextOf 3 = .ok (.aconst_null, 1) := by decide +kernel
theorem dX5_nextOf_4 : decode cX5_nextOf 4 = .ok (.aload_n 0, 1) := by decide +kernel
theorem dX5_nextOf_5 : decode cX5_nextOf 5 = .ok (.getfield 12, 3) := by decide +kernel
theorem dX5_nextOf_8 : decode cX5_nextOf 8 = .ok (.aload_n 1, 1) := by decide +kernel
theorem dX5_nextOf_9 : decode cX5_nextOf 9 = .ok (.getfield 34, 3) := by decide +kernel
theorem dX5_nextOf_12 : decode cX5_nextOf 12 = .ok (.iconst 2, 1) := by decide +kernel
theorem dX5_nextOf_13 : decode cX5_nextOf 13 = .ok (.invokevirtual 50, 3) := by decide +kernel
theorem dX5_nextOf_16 : decode cX5_nextOf 16 = .ok (.invokevirtual 46, 3) := by decide +kernel
theorem dX5_nextOf_19 : decode cX5_nextOf 19 = .ok (.areturn, 1) := by decide +kernel
theorem dX5_keyOf_0 : decode cX5_keyOf 0 = .ok (.aload_n 0, 1) := by decide +kernel
theorem dX5_keyOf_1 : decode cX5_keyOf 1 = .ok (.aload_n 1, 1) := by decide +kernel
theorem dX5_keyOf_2 : decode cX5_keyOf 2 = .ok (.iconst 0, 1) := by decide +kernel
theorem dX5_keyOf_3 : decode cX5_keyOf 3 = .ok (.aconst_null, 1) := by decide +kernel
theorem dX5_keyOf_4 : decode cX5_keyOf 4 = .ok (.aload_n 0, 1) := by decide +kernel
theorem dX5_keyOf_5 : decode cX5_keyOf 5 = .ok (.getfield 12, 3) := by decide +kernel
theorem dX5_keyOf_8 : decode cX5_keyOf 8 = .ok (.aload_n 1, 1) := by decide +kernel
theorem dX5_keyOf_9 : decode cX5_keyOf 9 = .ok (.getfield 34, 3) := by decide +kernel
theorem dX5_keyOf_12 : decode cX5_keyOf 12 = .ok (.iconst 1, 1) := by decide +kernel
theorem dX5_keyOf_13 : decode cX5_keyOf 13 = .ok (.invokevirtual 50, 3) := by decide +kernel
theorem dX5_keyOf_16 : decode cX5_keyOf 16 = .ok (.invokevirtual 46, 3) := by decide +kernel
theorem dX5_keyOf_19 : decode cX5_keyOf 19 = .ok (.areturn, 1) := by decide +kernel
theorem dX5_comeOf_0 : decode cX5_comeOf 0 = .ok (.aload_n 1, 1) := by decide +kernel
theorem dX5_comeOf_1 : decode cX5_comeOf 1 = .ok (.getfield 53, 3) := by decide +kernel
theorem dX5_comeOf_4 : decode cX5_comeOf 4 = .ok (.astore 5, 2) := by decide +kernel
theorem dX5_comeOf_6 : decode cX5_comeOf 6 = .ok (.aload 5, 2) := by decide +kernel
theorem dX5_comeOf_8 : decode cX5_comeOf 8 = .ok (.ifnull 34, 3) := by decide +kernel
theorem dX5_comeOf_11 : decode cX5_comeOf 11 = .ok (.aload 5, 2) := by decide +kernel
theorem dX5_comeOf_13 : decode cX5_comeOf 13 = .ok (.getfield 57, 3) := by decide +kernel
theorem dX5_comeOf_16 : decode cX5_comeOf 16 = .ok (.iload_n 2, 1) := by decide +kernel
theorem dX5_comeOf_17 : decode cX5_comeOf 17 = .ok (.if_icmp .ne 15, 3) := by decide +kernel
theorem dX5_comeOf_20 : decode cX5_comeOf 20 = .ok (.aload 5, 2) := by decide +kernel
theorem dX5_comeOf_22 : decode cX5_comeOf 22 = .ok (.getfield 60, 3) := by decide +kernel
theorem dX5_comeOf_25 : decode cX5_comeOf 25 = .ok (.aload_n 3, 1) := by decide +kernel
theorem dX5_comeOf_26 : decode cX5_comeOf 26 = .ok (.if_acmp .ne 6, 3) := by decide +kernel
theorem dX5_comeOf_29 : decode cX5_comeOf 29 = .ok (.aload 5, 2) := by decide +kernel
theorem dX5_comeOf_31 : decode cX5_comeOf 31 = .ok (.areturn, 1) := by decide +kernel
theorem dX5_comeOf_32 : decode cX5_comeOf 32 = .ok (.aload 5, 2) := by decide +kernel
theorem dX5_comeOf_34 : decode cX5_comeOf 34 = .ok (.getfield 63, 3) := by decide +kernel
theorem dX5_comeOf_37 : decode cX5_comeOf 37 = .ok (.astore 5, 2) := by decide +kernel
theorem dX5_comeOf_39 : decode cX5_comeOf 39 = .ok (.goto (-33), 3) := by decide +kernel
theorem dX5_comeOf_42 : decode cX5_comeOf 42 = .ok (.new 25, 3) := by decide +kernel
theorem dX5_comeOf_45 : decode cX5_comeOf 45 = .ok (.dup, 1) := by decide +kernel
theorem dX5_comeOf_46 : decode cX5_comeOf 46 = .ok (.iload_n 2, 1) := by decide +kernel
theorem dX5_comeOf_47 : decode cX5_comeOf 47 = .ok (.iload 4, 2) := by decide +kernel
theorem dX5_comeOf_49 : decode cX5_comeOf 49 = .ok (.aload_n 1, 1) := by decide +kernel
theorem dX5_comeOf_50 : decode cX5_comeOf 50 = .ok (.aload_n 3, 1) := by decide +kernel
theorem dX5_comeOf_51 : decode cX5_comeOf 51 = .ok (.invokespecial 27, 3) := by decide +kernel
theorem dX5_comeOf_54 : decode cX5_comeOf 54 = .ok (.astore 5, 2) := by decide +kernel
theorem dX5_comeOf_56 : decode cX5_comeOf 56 = .ok (.aload 5, 2) := by decide +kernel
theorem dX5_comeOf_58 : decode cX5_comeOf 58 = .ok (.aload_n 1, 1) := by decide +kernel
theorem dX5_comeOf_59 : decode cX5_comeOf 59 = .ok (.getfield 53, 3) := by decide +kernel
theorem dX5_comeOf_62 : decode cX5_comeOf 62 = .ok (.putfield 63, 3) := by decide +kernel
theorem dX5_comeOf_65 : decode cX5_comeOf 65 = .ok (.aload_n 1, 1) := by decide +kernel
theorem dX5_comeOf_66 : decode cX5_comeOf 66 = .ok (.aload 5, 2) := by decide +kernel
theorem dX5_comeOf_68 : decode cX5_comeOf 68 = .ok (.putfield 53, 3) := by decide +kernel
theorem dX5_comeOf_71 : decode cX5_comeOf 71 = .ok (.aload 5, 2) := by decide +kernel
theorem dX5_comeOf_73 : decode cX5_comeOf 73 = .ok (.aload 5, 2) := by decide +kernel
theorem dX5_comeOf_75 : decode cX5_comeOf 75 = .ok (.invokevirtual 66, 3) := by decide +kernel
theorem dX5_comeOf_78 : decode cX5_comeOf 78 = .ok (.putfield 70, 3) := by decide +kernel
theorem dX5_comeOf_81 : decode cX5_comeOf 81 = .ok (.aload 5, 2) := by decide +kernel
theorem dX5_comeOf_83 : decode cX5_comeOf 83 = .ok (.getfield 70, 3) := by decide +kernel
theorem dX5_comeOf_86 : decode cX5_comeOf 86 = .ok (.iconst (-1), 1) := by decide +kernel
theorem dX5_comeOf_87 : decode cX5_comeOf 87 = .ok (.if_icmp .eq 13, 3) := by decide +kernel
theorem dX5_comeOf_90 : decode cX5_comeOf 90 = .ok (.aload_n 0, 1) := by decide +kernel
theorem dX5_comeOf_91 : decode cX5_comeOf 91 = .ok (.dup, 1) := by decide +kernel
theorem dX5_comeOf_92 : decode cX5_comeOf 92 = .ok (.getfield 73, 3) := by decide +kernel
theorem dX5_comeOf_95 : decode cX5_comeOf 95 = .ok (.iconst 1, 1) := by decide +kernel
theorem dX5_comeOf_96 : decode cX5_comeOf 96 = .ok (.iadd, 1) := by decide +kernel
theorem dX5_comeOf_97 : decode cX5_comeOf 97 = .ok (.putfield 73, 3) := by decide +kernel
theorem dX5_comeOf_100 : decode cX5_comeOf 100 = .ok (.aload_n 0, 1) := by decide +kernel
theorem dX5_comeOf_101 : decode cX5_comeOf 101 = .ok (.getfield 21, 3) := by decide +kernel
theorem dX5_comeOf_104 : decode cX5_comeOf 104 = .ok (.aload 5, 2) := by decide +kernel
theorem dX5_comeOf_106 : decode cX5_comeOf 106 = .ok (.invokevirtual 30, 3) := by decide +kernel
theorem dX5_comeOf_109 : decode cX5_comeOf 109 = .ok (.pop, 1) := by decide +kernel
theorem dX5_comeOf_110 : decode cX5_comeOf 110 = .ok (.aload 5, 2) := by decide +kernel
theorem dX5_comeOf_112 : decode cX5_comeOf 112 = .ok (.areturn, 1) := by decide +kernel
theorem dX5_show_0 : decode cX5_show 0 = .ok (.aload_n 1, 1) := by decide +kernel
theorem dX5_show_1 : decode cX5_show 1 = .ok (.ifnull 10, 3) := by decide +kernel
theorem dX5_show_4 : decode cX5_show 4 = .ok (.aload_n 1, 1) := by decide +kernel
theorem dX5_show_5 : decode cX5_show 5 = .ok (.getfield 76, 3) := by decide +kernel
theorem dX5_show_8 : decode cX5_show 8 = .ok (.ifCond .eq 5, 3) := by decide +kernel
theorem dX5_show_11 : decode cX5_show 11 = .ok (.iconst 0, 1) := by decide +kernel
theorem dX5_show_12 : decode cX5_show 12 = .ok (.ireturn, 1) := by decide +kernel
theorem dX5_show_13 : decode cX5_show 13 = .ok (.aload_n 1, 1) := by decide +kernel
theorem dX5_show_14 : decode cX5_show 14 = .ok (.iconst 1, 1) := by decide +kernel
theorem dX5_show_15 : decode cX5_show 15 = .ok (.putfield 76, 3) := by decide +kernel
theorem dX5_show_18 : decode cX5_show 18 = .ok (.iconst 1, 1) := by decide +kernel
theorem dX5_show_19 : decode cX5_show 19 = .ok (.ireturn, 1) := by decide +kernel
theorem dX5_settle_0 : decode cX5_settle 0 = .ok (.aload_n 0, 1) := by decide +kernel
theorem dX5_settle_1 : decode cX5_settle 1 = .ok (.iconst 0, 1) := by decide +kernel
theorem dX5_settle_2 : decode cX5_settle 2 = .ok (.putfield 73, 3) := by decide +kernel
theorem dX5_settle_5 : decode cX5_settle 5 = .ok (.iconst 0, 1) := by decide +kernel
theorem dX5_settle_6 : decode cX5_settle 6 = .ok (.istore_n 1, 1) := by decide +kernel
theorem dX5_settle_7 : decode cX5_settle 7 = .ok (.iload_n 1, 1) := by decide +kernel
theorem dX5_settle_8 : decode cX5_settle 8 = .ok (.aload_n 0, 1) := by decide +kernel
theorem dX5_settle_9 : decode cX5_settle 9 = .ok (.getfield 21, 3) := by decide +kernel
theorem dX5_settle_12 : decode cX5_settle 12 = .ok (.invokevirtual 80, 3) := by decide +kernel
theorem dX5_settle_15 : decode cX5_settle 15 = .ok (.if_icmp .ge 47, 3) := by decide +kernel
theorem dX5_settle_18 : decode cX5_settle 18 = .ok (.aload_n 0, 1) := by decide +kernel
theorem dX5_settle_19 : decode cX5_settle 19 = .ok (.getfield 21, 3) := by decide +kernel
theorem dX5_settle_22 : decode cX5_settle 22 = .ok (.iload_n 1, 1) := by decide +kernel
theorem dX5_settle_23 : decode cX5_settle 23 = .ok (.invokevirtual 83, 3) := by decide +kernel
theorem dX5_settle_26 : decode cX5_settle 26 = .ok (.checkcast 25, 3) := by decide +kernel
theorem dX5_settle_29 : decode cX5_settle 29 = .ok (.astore_n 2, 1) := by decide +kernel
theorem dX5_settle_30 : decode cX5_settle 30 = .ok (.aload_n 2, 1) := by decide +kernel
theorem dX5_settle_31 : decode cX5_settle 31 = .ok (.aload_n 2, 1) := by decide +kernel
theorem dX5_settle_32 : decode cX5_settle 32 = .ok (.invokevirtual 66, 3) := by decide +kernel
theorem dX5_settle_35 : decode cX5_settle 35 = .ok (.putfield 70, 3) := by decide +kernel
theorem dX5_settle_38 : decode cX5_settle 38 = .ok (.aload_n 2, 1) := by decide +kernel
theorem dX5_settle_39 : decode cX5_settle 39 = .ok (.getfield 70, 3) := by decide +kernel
theorem dX5_settle_42 : decode cX5_settle 42 = .ok (.iconst (-1), 1) := by decide +kernel
theorem dX5_settle_43 : decode cX5_settle 43 = .ok (.if_icmp .eq 13, 3) := by decide +kernel
theorem dX5_settle_46 : decode cX5_settle 46 = .ok (.aload_n 0, 1) := by decide +kernel
theorem dX5_settle_47 : decode cX5_settle 47 = .ok (.dup, 1) := by decide +kernel
theorem dX5_settle_48 : decode cX5_settle 48 = .ok (.getfield 73, 3) := by decide +kernel
theorem dX5_settle_51 : decode cX5_settle 51 = .ok (.iconst 1, 1) := by decide +kernel
theorem dX5_settle_52 : decode cX5_settle 52 = .ok (.iadd, 1) := by decide +kernel
theorem dX5_settle_53 : decode cX5_settle 53 = .ok (.putfield 73, 3) := by decide +kernel
theorem dX5_settle_56 : decode cX5_settle 56 = .ok (.iinc 1 1, 3) := by decide +kernel
theorem dX5_settle_59 : decode cX5_settle 59 = .ok (.goto (-52), 3) := by decide +kernel
theorem dX5_settle_62 : decode cX5_settle 62 = .ok (.return_, 1) := by decide +kernel
theorem dX6_init_0 : decode cX6_init 0 = .ok (.aload_n 0, 1) := by decide +kernel
theorem dX6_init_1 : decode cX6_init 1 = .ok (.invokespecial 3, 3) := by decide +kernel
theorem dX6_init_4 : decode cX6_init 4 = .ok (.aload_n 0, 1) := by decide +kernel
theorem dX6_init_5 : decode cX6_init 5 = .ok (.bipush 40, 2) := by decide +kernel
theorem dX6_init_7 : decode cX6_init 7 = .ok (.newarray .int, 2) := by decide +kernel
theorem dX6_init_9 : decode cX6_init 9 = .ok (.putfield 9, 3) := by decide +kernel
theorem dX6_init_12 : decode cX6_init 12 = .ok (.return_, 1) := by decide +kernel
theorem dX6_note_0 : decode cX6_note 0 = .ok (.aload_n 0, 1) := by decide +kernel
theorem dX6_note_1 : decode cX6_note 1 = .ok (.getfield 15, 3) := by decide +kernel
theorem dX6_note_4 : decode cX6_note 4 = .ok (.aload_n 0, 1) := by decide +kernel
theorem dX6_note_5 : decode cX6_note 5 = .ok (.getfield 9, 3) := by decide +kernel
theorem dX6_note_8 : decode cX6_note 8 = .ok (.arraylength, 1) := by decide +kernel
theorem dX6_note_9 : decode cX6_note 9 = .ok (.if_icmp .ge 23, 3) := by decide +kernel
theorem dX6_note_12 : decode cX6_note 12 = .ok (.aload_n 0, 1) := by decide +kernel
theorem dX6_note_13 : decode cX6_note 13 = .ok (.getfield 9, 3) := by decide +kernel
theorem dX6_note_16 : decode cX6_note 16 = .ok (.aload_n 0, 1) := by decide +kernel
theorem dX6_note_17 : decode cX6_note 17 = .ok (.getfield 15, 3) := by decide +kernel
theorem dX6_note_20 : decode cX6_note 20 = .ok (.iload_n 1, 1) := by decide +kernel
theorem dX6_note_21 : decode cX6_note 21 = .ok (.iastore, 1) := by decide +kernel
theorem dX6_note_22 : decode cX6_note 22 = .ok (.aload_n 0, 1) := by decide +kernel
theorem dX6_note_23 : decode cX6_note 23 = .ok (.dup, 1) := by decide +kernel
theorem dX6_note_24 : decode cX6_note 24 = .ok (.getfield 15, 3) := by decide +kernel
theorem dX6_note_27 : decode cX6_note 27 = .ok (.iconst 1, 1) := by decide +kernel
theorem dX6_note_28 : decode cX6_note 28 = .ok (.iadd, 1) := by decide +kernel
theorem dX6_note_29 : decode cX6_note 29 = .ok (.putfield 15, 3) := by decide +kernel
theorem dX6_note_32 : decode cX6_note 32 = .ok (.return_, 1) := by decide +kernel
theorem dX7_init_0 : decode cX7_init 0 = .ok (.aload_n 0, 1) := by decide +kernel
theorem dX7_init_1 : decode cX7_init 1 = .ok (.invokespecial 1, 3) := by decide +kernel
theorem dX7_init_4 : decode cX7_init 4 = .ok (.return_, 1) := by decide +kernel
theorem dX7_put_0 : decode cX7_put 0 = .ok (.aload_n 0, 1) := by decide +kernel
theorem dX7_put_1 : decode cX7_put 1 = .ok (.aload_n 1, 1) := by decide +kernel
theorem dX7_put_2 : decode cX7_put 2 = .ok (.putfield 7, 3) := by decide +kernel
theorem dX7_put_5 : decode cX7_put 5 = .ok (.aload_n 0, 1) := by decide +kernel
theorem dX7_put_6 : decode cX7_put 6 = .ok (.aload_n 2, 1) := by decide +kernel
theorem dX7_put_7 : decode cX7_put 7 = .ok (.putfield 13, 3) := by decide +kernel
theorem dX7_put_10 : decode cX7_put 10 = .ok (.return_, 1) := by decide +kernel
theorem dX8_init_0 : decode cX8_init 0 = .ok (.aload_n 0, 1) := by decide +kernel
theorem dX8_init_1 : decode cX8_init 1 = .ok (.invokespecial 1, 3) := by decide +kernel
theorem dX8_init_4 : decode cX8_init 4 = .ok (.aload_n 0, 1) := by decide +kernel
theorem dX8_init_5 : decode cX8_init 5 = .ok (.new 7, 3) := by decide +kernel
theorem dX8_init_8 : decode cX8_init 8 = .ok (.dup, 1) := by decide +kernel
theorem dX8_init_9 : decode cX8_init 9 = .ok (.invokespecial 9, 3) := by decide +kernel
theorem dX8_init_12 : decode cX8_init 12 = .ok (.putfield 10, 3) := by decide +kernel
theorem dX8_init_15 : decode cX8_init 15 = .ok (.aload_n 0, 1) := by decide +kernel
theorem dX8_init_16 : decode cX8_init 16 = .ok (.aload_n 0, 1) := by decide +kernel
theorem dX8_init_17 : decode cX8_init 17 = .ok (.getfield 10, 3) := by decide +kernel
theorem dX8_init_20 : decode cX8_init 20 = .ok (.getfield 16, 3) := by decide +kernel
theorem dX8_init_23 : decode cX8_init 23 = .ok (.putfield 20, 3) := by decide +kernel
theorem dX8_init_26 : decode cX8_init 26 = .ok (.aload_n 0, 1) := by decide +kernel
theorem dX8_init_27 : decode cX8_init 27 = .ok (.bipush 12, 2) := by decide +kernel
theorem dX8_init_29 : decode cX8_init 29 = .ok (.anewarray 21, 3) := by decide +kernel
theorem dX8_init_32 : decode cX8_init 32 = .ok (.putfield 23, 3) := by decide +kernel
theorem dX8_init_35 : decode cX8_init 35 = .ok (.aload_n 0, 1) := by decide +kernel
theorem dX8_init_36 : decode cX8_init 36 = .ok (.sipush 300, 3) := by decide +kernel
theorem dX8_init_39 : decode cX8_init 39 = .ok (.anewarray 27, 3) := by decide +kernel
theorem dX8_init_42 : decode cX8_init 42 = .ok (.putfield 29, 3) := by decide +kernel
theorem dX8_init_45 : decode cX8_init 45 = .ok (.aload_n 0, 1) := by decide +kernel
theorem dX8_init_46 : decode cX8_init 46 = .ok (.bipush 8, 2) := by decide +kernel
theorem dX8_init_48 : decode cX8_init 48 = .ok (.anewarray 33, 3) := by decide +kernel
theorem dX8_init_51 : decode cX8_init 51 = .ok (.putfield 35, 3) := by decide +kernel
theorem dX8_init_54 : decode cX8_init 54 = .ok (.iconst 0, 1) := by decide +kernel
theorem dX8_init_55 : decode cX8_init 55 = .ok (.istore_n 1, 1) := by decide +kernel
theorem dX8_init_56 : decode cX8_init 56 = .ok (.iload_n 1, 1) := by decide +kernel
theorem dX8_init_57 : decode cX8_init 57 = .ok (.bipush 8, 2) := by decide +kernel
theorem dX8_init_59 : decode cX8_init 59 = .ok (.if_icmp .ge 22, 3) := by decide +kernel
theorem dX8_init_62 : decode cX8_init 62 = .ok (.aload_n 0, 1) := by decide +kernel
theorem dX8_init_63 : decode cX8_init 63 = .ok (.getfield 35, 3) := by decide +kernel
theorem dX8_init_66 : decode cX8_init 66 = .ok (.iload_n 1, 1) := by decide +kernel
theorem dX8_init_67 : decode cX8_init 67 = .ok (.new 33, 3) := by decide +kernel
theorem dX8_init_70 : decode cX8_init 70 = .ok (.dup, 1) := by decide +kernel
theorem dX8_init_71 : decode cX8_init 71 = .ok (.invokespecial 39, 3) := by decide +kernel
theorem dX8_init_74 : decode cX8_init 74 = .ok (.aastore, 1) := by decide +kernel
theorem dX8_init_75 : decode cX8_init 75 = .ok (.iinc 1 1, 3) := by decide +kernel
theorem dX8_init_78 : decode cX8_init 78 = .ok (.goto (-22), 3) := by decide +kernel
theorem dX8_init_81 : decode cX8_init 81 = .ok (.aload_n 0, 1) := by decide +kernel
theorem dX8_init_82 : decode cX8_init 82 = .ok (.new 40, 3) := by decide +kernel
theorem dX8_init_85 : decode cX8_init 85 = .ok (.dup, 1) := by decide +kernel
theorem dX8_init_86 : decode cX8_init 86 = .ok (.invokespecial 42, 3) := by decide +kernel
theorem dX8_init_89 : decode cX8_init 89 = .ok (.putfield 43, 3) := by decide +kernel
theorem dX8_init_92 : decode cX8_init 92 = .ok (.aload_n 0, 1) := by decide +kernel
theorem dX8_init_93 : decode cX8_init 93 = .ok (.bipush 6, 2) := by decide +kernel
theorem dX8_init_95 : decode cX8_init 95 = .ok (.putfield 47, 3) := by decide +kernel
theorem dX8_init_98 : decode cX8_init 98 = .ok (.aload_n 0, 1) := by decide +kernel
theorem dX8_init_99 : decode cX8_init 99 = .ok (.bipush 50, 2) := by decide +kernel
theorem dX8_init_101 : decode cX8_init 101 = .ok (.putfield 51, 3) := by decide +kernel
theorem dX8_init_104 : decode cX8_init 104 = .ok (.return_, 1) := by decide +kernel
theorem dX8_prime_0 : decode cX8_prime 0 = .ok (.iload_n 1, 1) := by decide +kernel
theorem dX8_prime_1 : decode cX8_prime 1 = .ok (.iconst 3, 1) := by decide +kernel
theorem dX8_prime_2 : decode cX8_prime 2 = .ok (.if_icmp .lt 20, 3) := by decide +kernel
theorem dX8_prime_5 : decode cX8_prime 5 = .ok (.iload_n 1, 1) := by decide +kernel
theorem dX8_prime_6 : decode cX8_prime 6 = .ok (.sipush 10007, 3) := by decide +kernel
theorem dX8_prime_9 : decode cX8_prime 9 = .ok (.if_icmp .gt 13, 3) := by decide +kernel
theorem dX8_prime_12 : decode cX8_prime 12 = .ok (.iload_n 2, 1) := by decide +kernel
theorem dX8_prime_13 : decode cX8_prime 13 = .ok (.iconst 2, 1) := by decide +kernel
theorem dX8_prime_14 : decode cX8_prime 14 = .ok (.if_icmp .lt 8, 3) := by decide +kernel
theorem dX8_prime_17 : decode cX8_prime 17 = .ok (.iload_n 2, 1) := by decide +kernel
theorem dX8_prime_18 : decode cX8_prime 18 = .ok (.iload_n 1, 1) := by decide +kernel
theorem dX8_prime_19 : decode cX8_prime 19 = .ok (.if_icmp .lt 9, 3) := by decide +kernel
theorem dX8_prime_22 : decode cX8_prime 22 = .ok (.aload_n 0, 1) := by decide +kernel
theorem dX8_prime_23 : decode cX8_prime 23 = .ok (.iconst 1, 1) := by decide +kernel
theorem dX8_prime_24 : decode cX8_prime 24 = .ok (.invokevirtual 54, 3) := by decide +kernel
theorem dX8_prime_27 : decode cX8_prime 27 = .ok (.ireturn, 1) := by decide +kernel
theorem dX8_prime_28 : decode cX8_prime 28 = .ok (.aload_n 0, 1) := by decide +kernel
theorem dX8_prime_29 : decode cX8_prime 29 = .ok (.getfield 58, 3) := by decide +kernel
theorem dX8_prime_32 : decode cX8_prime 32 = .ok (.ifCond .le 9, 3) := by decide +kernel
theorem dX8_prime_35 : decode cX8_prime 35 = .ok (.aload_n 0, 1) := by decide +kernel
theorem dX8_prime_36 : decode cX8_prime 36 = .ok (.iconst 3, 1) := by decide +kernel
theorem dX8_prime_37 : decode cX8_prime 37 = .ok (.invokevirtual 54, 3) := by decide +kernel
theorem dX8_prime_40 : decode cX8_prime 40 = .ok (.ireturn, 1) := by decide +kernel
theorem dX8_prime_41 : decode cX8_prime 41 = .ok (.aload_n 0, 1) := by decide +kernel
theorem dX8_prime_42 : decode cX8_prime 42 = .ok (.getfield 20, 3) := by decide +kernel
theorem dX8_prime_45 : decode cX8_prime 45 = .ok (.iload_n 1, 1) := by decide +kernel
theorem dX8_prime_46 : decode cX8_prime 46 = .ok (.putfield 61, 3) := by decide +kernel
theorem dX8_prime_49 : decode cX8_prime 49 = .ok (.aload_n 0, 1) := by decide +kernel
theorem dX8_prime_50 : decode cX8_prime 50 = .ok (.getfield 20, 3) := by decide +kernel
theorem dX8_prime_53 : decode cX8_prime 53 = .ok (.iload_n 2, 1) := by decide +kernel
theorem dX8_prime_54 : decode cX8_prime 54 = .ok (.putfield 66, 3) := by decide +kernel
theorem dX8_prime_57 : decode cX8_prime 57 = .ok (.aload_n 0, 1) := by decide +kernel
theorem dX8_prime_58 : decode cX8_prime 58 = .ok (.iload_n 1, 1) := by decide +kernel
theorem dX8_prime_59 : decode cX8_prime 59 = .ok (.invokevirtual 69, 3) := by decide +kernel
theorem dX8_prime_62 : decode cX8_prime 62 = .ok (.ireturn, 1) := by decide +kernel
theorem dX8_limits_0 : decode cX8_limits 0 = .ok (.iload_n 1, 1) := by decide +kernel
theorem dX8_limits_1 : decode cX8_limits 1 = .ok (.ifCond .lt 20, 3) := by decide +kernel
theorem dX8_limits_4 : decode cX8_limits 4 = .ok (.iload_n 1, 1) := by decide +kernel
theorem dX8_limits_5 : decode cX8_limits 5 = .ok (.bipush 12, 2) := by decide +kernel
theorem dX8_limits_7 : decode cX8_limits 7 = .ok (.if_icmp .gt 14, 3) := by decide +kernel
theorem dX8_limits_10 : decode cX8_limits 10 = .ok (.iload_n 2, 1) := by decide +kernel
theorem dX8_limits_11 : decode cX8_limits 11 = .ok (.ifCond .lt 10, 3) := by decide +kernel
theorem dX8_limits_14 : decode cX8_limits 14 = .ok (.iload_n 2, 1) := by decide +kernel
theorem dX8_limits_15 : decode cX8_limits 15 = .ok (.sipush 300, 3) := by decide +kernel
theorem dX8_limits_18 : decode cX8_limits 18 = .ok (.if_icmp .le 9, 3) := by decide +kernel
theorem dX8_limits_21 : decode cX8_limits 21 = .ok (.aload_n 0, 1) := by decide +kernel
theorem dX8_limits_22 : decode cX8_limits 22 = .ok (.iconst 1, 1) := by decide +kernel
theorem dX8_limits_23 : decode cX8_limits 23 = .ok (.invokevirtual 54, 3) := by decide +kernel
theorem dX8_limits_26 : decode cX8_limits 26 = .ok (.ireturn, 1) := by decide +kernel
theorem dX8_limits_27 : decode cX8_limits 27 = .ok (.aload_n 0, 1) := by decide +kernel
theorem dX8_limits_28 : decode cX8_limits 28 = .ok (.iload_n 1, 1) := by decide +kernel
theorem dX8_limits_29 : decode cX8_limits 29 = .ok (.putfield 47, 3) := by decide +kernel
theorem dX8_limits_32 : decode cX8_limits 32 = .ok (.aload_n 0, 1) := by decide +kernel
theorem dX8_limits_33 : decode cX8_limits 33 = .ok (.iload_n 2, 1) := by decide +kernel
theorem dX8_limits_34 : decode cX8_limits 34 = .ok (.putfield 51, 3) := by decide +kernel
theorem dX8_limits_37 : decode cX8_limits 37 = .ok (.aload_n 0, 1) := by decide +kernel
theorem dX8_limits_38 : decode cX8_limits 38 = .ok (.invokevirtual 72, 3) := by decide +kernel
theorem dX8_limits_41 : decode cX8_limits 41 = .ok (.aload_n 0, 1) := by decide +kernel
theorem dX8_limits_42 : decode cX8_limits 42 = .ok (.iconst 1, 1) := by decide +kernel
theorem dX8_limits_43 : decode cX8_limits 43 = .ok (.invokevirtual 69, 3) := by decide +kernel
theorem dX8_limits_46 : decode cX8_limits 46 = .ok (.ireturn, 1) := by decide +kernel
theorem dX8_pair_0 : decode cX8_pair 0 = .ok (.aload_n 0, 1) := by decide +kernel
theorem dX8_pair_1 : decode cX8_pair 1 = .ok (.getfield 58, 3) := by decide +kernel
theorem dX8_pair_4 : decode cX8_pair 4 = .ok (.bipush 12, 2) := by decide +kernel
theorem dX8_pair_6 : decode cX8_pair 6 = .ok (.if_icmp .lt 9, 3) := by decide +kernel
theorem dX8_pair_9 : decode cX8_pair 9 = .ok (.aload_n 0, 1) := by decide +kernel
theorem dX8_pair_10 : decode cX8_pair 10 = .ok (.iconst 2, 1) := by decide +kernel
theorem dX8_pair_11 : decode cX8_pair 11 = .ok (.invokevirtual 54, 3) := by decide +kernel
theorem dX8_pair_14 : decode cX8_pair 14 = .ok (.ireturn, 1) := by decide +kernel
theorem dX8_pair_15 : decode cX8_pair 15 = .ok (.aload_n 0, 1) := by decide +kernel
theorem dX8_pair_16 : decode cX8_pair 16 = .ok (.getfield 23, 3) := by decide +kernel
theorem dX8_pair_19 : decode cX8_pair 19 = .ok (.aload_n 0, 1) := by decide +kernel
theorem dX8_pair_20 : decode cX8_pair 20 = .ok (.getfield 58, 3) := by decide +kernel
theorem dX8_pair_23 : decode cX8_pair 23 = .ok (.new 21, 3) := by decide +kernel
theorem dX8_pair_26 : decode cX8_pair 26 = .ok (.dup, 1) := by decide +kernel
theorem dX8_pair_27 : decode cX8_pair 27 = .ok (.aload_n 0, 1) := by decide +kernel
theorem dX8_pair_28 : decode cX8_pair 28 = .ok (.getfield 58, 3) := by decide +kernel
theorem dX8_pair_31 : decode cX8_pair 31 = .ok (.invokespecial 75, 3) := by decide +kernel
theorem dX8_pair_34 : decode cX8_pair 34 = .ok (.aastore, 1) := by decide +kernel
theorem dX8_pair_35 : decode cX8_pair 35 = .ok (.aload_n 0, 1) := by decide +kernel
theorem dX8_pair_36 : decode cX8_pair 36 = .ok (.getfield 23, 3) := by decide +kernel
theorem dX8_pair_39 : decode cX8_pair 39 = .ok (.aload_n 0, 1) := by decide +kernel
theorem dX8_pair_40 : decode cX8_pair 40 = .ok (.getfield 58, 3) := by decide +kernel
theorem dX8_pair_43 : decode cX8_pair 43 = .ok (.iconst 1, 1) := by decide +kernel
theorem dX8_pair_44 : decode cX8_pair 44 = .ok (.iadd, 1) := by decide +kernel
theorem dX8_pair_45 : decode cX8_pair 45 = .ok (.new 21, 3) := by decide +kernel
theorem dX8_pair_48 : decode cX8_pair 48 = .ok (.dup, 1) := by decide +kernel
theorem dX8_pair_49 : decode cX8_pair 49 = .ok (.aload_n 0, 1) := by decide +kernel
theorem dX8_pair_50 : decode cX8_pair 50 = .ok (.getfield 58, 3) := by decide +kernel
theorem dX8_pair_53 : decode cX8_pair 53 = .ok (.iconst 1, 1) := by decide +kernel
theorem dX8_pair_54 : decode cX8_pair 54 = .ok (.iadd, 1) := by decide +kernel
theorem dX8_pair_55 : decode cX8_pair 55 = .ok (.invokespecial 75, 3) := by decide +kernel
theorem dX8_pair_58 : decode cX8_pair 58 = .ok (.aastore, 1) := by decide +kernel
theorem dX8_pair_59 : decode cX8_pair 59 = .ok (.aload_n 0, 1) := by decide +kernel
theorem dX8_pair_60 : decode cX8_pair 60 = .ok (.dup, 1) := by decide +kernel
theorem dX8_pair_61 : decode cX8_pair 61 = .ok (.getfield 58, 3) := by decide +kernel
theorem dX8_pair_64 : decode cX8_pair 64 = .ok (.iconst 2, 1) := by decide +kernel
theorem dX8_pair_65 : decode cX8_pair 65 = .ok (.iadd, 1) := by decide +kernel
theorem dX8_pair_66 : decode cX8_pair 66 = .ok (.putfield 58, 3) := by decide +kernel
theorem dX8_pair_69 : decode cX8_pair 69 = .ok (.aload_n 0, 1) := by decide +kernel
theorem dX8_pair_70 : decode cX8_pair 70 = .ok (.aload_n 0, 1) := by decide +kernel
theorem dX8_pair_71 : decode cX8_pair 71 = .ok (.getfield 58, 3) := by decide +kernel
theorem dX8_pair_74 : decode cX8_pair 74 = .ok (.iconst 2, 1) := by decide +kernel
theorem dX8_pair_75 : decode cX8_pair 75 = .ok (.idiv, 1) := by decide +kernel
theorem dX8_pair_76 : decode cX8_pair 76 = .ok (.iconst 1, 1) := by decide +kernel
theorem dX8_pair_77 : decode cX8_pair 77 = .ok (.isub, 1) := by decide +kernel
theorem dX8_pair_78 : decode cX8_pair 78 = .ok (.invokevirtual 69, 3) := by decide +kernel
theorem dX8_pair_81 : decode cX8_pair 81 = .ok (.ireturn, 1) := by decide +kernel
theorem dX8_secret_0 : decode cX8_secret 0 = .ok (.aload_n 0, 1) := by decide +kernel
theorem dX8_secret_1 : decode cX8_secret 1 = .ok (.iload_n 1, 1) := by decide +kernel
theorem dX8_secret_2 : decode cX8_secret 2 = .ok (.invokevirtual 78, 3) := by decide +kernel
theorem dX8_secret_5 : decode cX8_secret 5 = .ok (.astore_n 3, 1) := by decide +kernel
theorem dX8_secret_6 : decode cX8_secret 6 = .ok (.aload_n 3, 1) := by decide +kernel
theorem dX8_secret_7 : decode cX8_secret 7 = .ok (.ifnull 15, 3) := by decide +kernel
theorem dX8_secret_10 : decode cX8_secret 10 = .ok (.iload_n 2, 1) := by decide +kernel
theorem dX8_secret_11 : decode cX8_secret 11 = .ok (.iconst 1, 1) := by decide +kernel
theorem dX8_secret_12 : decode cX8_secret 12 = .ok (.if_icmp .lt 10, 3) := by decide +kernel
theorem dX8_secret_15 : decode cX8_secret 15 = .ok (.iload_n 2, 1) := by decide +kernel
theorem dX8_secret_16 : decode cX8_secret 16 = .ok (.sipush 10000, 3) := by decide +kernel
theorem dX8_secret_19 : decode cX8_secret 19 = .ok (.if_icmp .le 9, 3) := by decide +kernel
theorem dX8_secret_22 : decode cX8_secret 22 = .ok (.aload_n 0, 1) := by decide +kernel
theorem dX8_secret_23 : decode cX8_secret 23 = .ok (.iconst 1, 1) := by decide +kernel
theorem dX8_secret_24 : decode cX8_secret 24 = .ok (.invokevirtual 54, 3) := by decide +kernel
theorem dX8_secret_27 : decode cX8_secret 27 = .ok (.ireturn, 1) := by decide +kernel
theorem dX8_secret_28 : decode cX8_secret 28 = .ok (.aload_n 3, 1) := by decide +kernel
theorem dX8_secret_29 : decode cX8_secret 29 = .ok (.getfield 82, 3) := by decide +kernel
theorem dX8_secret_32 : decode cX8_secret 32 = .ok (.bipush 12, 2) := by decide +kernel
theorem dX8_secret_34 : decode cX8_secret 34 = .ok (.if_icmp .lt 9, 3) := by decide +kernel
theorem dX8_secret_37 : decode cX8_secret 37 = .ok (.aload_n 0, 1) := by decide +kernel
theorem dX8_secret_38 : decode cX8_secret 38 = .ok (.iconst 2, 1) := by decide +kernel
theorem dX8_secret_39 : decode cX8_secret 39 = .ok (.invokevirtual 54, 3) := by decide +kernel
theorem dX8_secret_42 : decode cX8_secret 42 = .ok (.ireturn, 1) := by decide +kernel
theorem dX8_secret_43 : decode cX8_secret 43 = .ok (.aload_n 3, 1) := by decide +kernel
theorem dX8_secret_44 : decode cX8_secret 44 = .ok (.getfield 85, 3) := by decide +kernel
theorem dX8_secret_47 : decode cX8_secret 47 = .ok (.aload_n 3, 1) := by decide +kernel
theorem dX8_secret_48 : decode cX8_secret 48 = .ok (.getfield 82, 3) := by decide +kernel
theorem dX8_secret_51 : decode cX8_secret 51 = .ok (.aload_n 0, 1) := by decide +kernel
theorem dX8_secret_52 : decode cX8_secret 52 = .ok (.getfield 10, 3) := by decide +kernel
theorem dX8_secret_55 : decode cX8_secret 55 = .ok (.iload_n 2, 1) := by decide +kernel
theorem dX8_secret_56 : decode cX8_secret 56 = .ok (.invokevirtual 89, 3) := by decide +kernel
theorem dX8_secret_59 : decode cX8_secret 59 = .ok (.aastore, 1) := by decide +kernel
theorem dX8_secret_60 : decode cX8_secret 60 = .ok (.aload_n 3, 1) := by decide +kernel
theorem dX8_secret_61 : decode cX8_secret 61 = .ok (.dup, 1) := by decide +kernel
theorem dX8_secret_62 : decode cX8_secret 62 = .ok (.getfield 82, 3) := by decide +kernel
theorem dX8_secret_65 : decode cX8_secret 65 = .ok (.iconst 1, 1) := by decide +kernel
theorem dX8_secret_66 : decode cX8_secret 66 = .ok (.iadd, 1) := by decide +kernel
theorem dX8_secret_67 : decode cX8_secret 67 = .ok (.putfield 82, 3) := by decide +kernel
theorem dX8_secret_70 : decode cX8_secret 70 = .ok (.aload_n 0, 1) := by decide +kernel
theorem dX8_secret_71 : decode cX8_secret 71 = .ok (.aload_n 3, 1) := by decide +kernel
theorem dX8_secret_72 : decode cX8_secret 72 = .ok (.getfield 82, 3) := by decide +kernel
theorem dX8_secret_75 : decode cX8_secret 75 = .ok (.invokevirtual 69, 3) := by decide +kernel
theorem dX8_secret_78 : decode cX8_secret 78 = .ok (.ireturn, 1) := by decide +kernel
theorem dX8_start_0 : decode cX8_start 0 = .ok (.aload_n 0, 1) := by decide +kernel
theorem dX8_start_1 : decode cX8_start 1 = .ok (.iload_n 1, 1) := by decide +kernel
theorem dX8_start_2 : decode cX8_start 2 = .ok (.invokevirtual 93, 3) := by decide +kernel
theorem dX8_start_5 : decode cX8_start 5 = .ok (.astore_n 2, 1) := by decide +kernel
theorem dX8_start_6 : decode cX8_start 6 = .ok (.aload_n 0, 1) := by decide +kernel
theorem dX8_start_7 : decode cX8_start 7 = .ok (.iload_n 1, 1) := by decide +kernel
theorem dX8_start_8 : decode cX8_start 8 = .ok (.invokevirtual 96, 3) := by decide +kernel
theorem dX8_start_11 : decode cX8_start 11 = .ok (.astore_n 3, 1) := by decide +kernel
theorem dX8_start_12 : decode cX8_start 12 = .ok (.aload_n 2, 1) := by decide +kernel
theorem dX8_start_13 : decode cX8_start 13 = .ok (.ifnull 7, 3) := by decide +kernel
theorem dX8_start_16 : decode cX8_start 16 = .ok (.aload_n 3, 1) := by decide +kernel
theorem dX8_start_17 : decode cX8_start 17 = .ok (.ifnonnull 9, 3) := by decide +kernel
theorem dX8_start_20 : decode cX8_start 20 = .ok (.aload_n 0, 1) := by decide +kernel
theorem dX8_start_21 : decode cX8_start 21 = .ok (.iconst 1, 1) := by decide +kernel
theorem dX8_start_22 : decode cX8_start 22 = .ok (.invokevirtual 54, 3) := by decide +kernel
theorem dX8_start_25 : decode cX8_start 25 = .ok (.ireturn, 1) := by decide +kernel
theorem dX8_start_26 : decode cX8_start 26 = .ok (.aload_n 2, 1) := by decide +kernel
theorem dX8_start_27 : decode cX8_start 27 = .ok (.getfield 99, 3) := by decide +kernel
theorem dX8_start_30 : decode cX8_start 30 = .ok (.ifCond .ne 19, 3) := by decide +kernel
theorem dX8_start_33 : decode cX8_start 33 = .ok (.aload_n 2, 1) := by decide +kernel
theorem dX8_start_34 : decode cX8_start 34 = .ok (.getfield 82, 3) := by decide +kernel
theorem dX8_start_37 : decode cX8_start 37 = .ok (.iconst 2, 1) := by decide +kernel
theorem dX8_start_38 : decode cX8_start 38 = .ok (.if_icmp .lt 11, 3) := by decide +kernel
theorem dX8_start_41 : decode cX8_start 41 = .ok (.aload_n 3, 1) := by decide +kernel
theorem dX8_start_42 : decode cX8_start 42 = .ok (.getfield 82, 3) := by decide +kernel
theorem dX8_start_45 : decode cX8_start 45 = .ok (.iconst 1, 1) := by decide +kernel
theorem dX8_start_46 : decode cX8_start 46 = .ok (.if_icmp .ge 9, 3) := by decide +kernel
theorem dX8_start_49 : decode cX8_start 49 = .ok (.aload_n 0, 1) := by decide +kernel
theorem dX8_start_50 : decode cX8_start 50 = .ok (.iconst 3, 1) := by decide +kernel
theorem dX8_start_51 : decode cX8_start 51 = .ok (.invokevirtual 54, 3) := by decide +kernel
theorem dX8_start_54 : decode cX8_start 54 = .ok (.ireturn, 1) := by decide +kernel
theorem dX8_start_55 : decode cX8_start 55 = .ok (.aload_n 2, 1) := by decide +kernel
theorem dX8_start_56 : decode cX8_start 56 = .ok (.invokevirtual 103, 3) := by decide +kernel
theorem dX8_start_59 : decode cX8_start 59 = .ok (.astore 4, 2) := by decide +kernel
theorem dX8_start_61 : decode cX8_start 61 = .ok (.aload_n 3, 1) := by decide +kernel
theorem dX8_start_62 : decode cX8_start 62 = .ok (.invokevirtual 103, 3) := by decide +kernel
theorem dX8_start_65 : decode cX8_start 65 = .ok (.astore 5, 2) := by decide +kernel
theorem dX8_start_67 : decode cX8_start 67 = .ok (.aload_n 0, 1) := by decide +kernel
theorem dX8_start_68 : decode cX8_start 68 = .ok (.getfield 10, 3) := by decide +kernel
theorem dX8_start_71 : decode cX8_start 71 = .ok (.aload_n 0, 1) := by decide +kernel
theorem dX8_start_72 : decode cX8_start 72 = .ok (.getfield 10, 3) := by decide +kernel
theorem dX8_start_75 : decode cX8_start 75 = .ok (.aload 4, 2) := by decide +kernel
theorem dX8_start_77 : decode cX8_start 77 = .ok (.aload 5, 2) := by decide +kernel
theorem dX8_start_79 : decode cX8_start 79 = .ok (.invokevirtual 107, 3) := by decide +kernel
theorem dX8_start_82 : decode cX8_start 82 = .ok (.invokevirtual 111, 3) := by decide +kernel
theorem dX8_start_85 : decode cX8_start 85 = .ok (.astore 6, 2) := by decide +kernel
theorem dX8_start_87 : decode cX8_start 87 = .ok (.aload_n 3, 1) := by decide +kernel
theorem dX8_start_88 : decode cX8_start 88 = .ok (.iconst 1, 1) := by decide +kernel
theorem dX8_start_89 : decode cX8_start 89 = .ok (.putfield 99, 3) := by decide +kernel
theorem dX8_start_92 : decode cX8_start 92 = .ok (.aload_n 3, 1) := by decide +kernel
theorem dX8_start_93 : decode cX8_start 93 = .ok (.aload 5, 2) := by decide +kernel
theorem dX8_start_95 : decode cX8_start 95 = .ok (.putfield 115, 3) := by decide +kernel
theorem dX8_start_98 : decode cX8_start 98 = .ok (.aload_n 3, 1) := by decide +kernel
theorem dX8_start_99 : decode cX8_start 99 = .ok (.aload 6, 2) := by decide +kernel
theorem dX8_start_101 : decode cX8_start 101 = .ok (.putfield 119, 3) := by decide +kernel
theorem dX8_start_104 : decode cX8_start 104 = .ok (.aload_n 2, 1) := by decide +kernel
theorem dX8_start_105 : decode cX8_start 105 = .ok (.iconst 1, 1) := by decide +kernel
theorem dX8_start_106 : decode cX8_start 106 = .ok (.putfield 99, 3) := by decide +kernel
theorem dX8_start_109 : decode cX8_start 109 = .ok (.aload_n 2, 1) := by decide +kernel
theorem dX8_start_110 : decode cX8_start 110 = .ok (.aload_n 2, 1) := by decide +kernel
theorem dX8_start_111 : decode cX8_start 111 = .ok (.invokevirtual 103, 3) := by decide +kernel
theorem dX8_start_114 : decode cX8_start 114 = .ok (.putfield 115, 3) := by decide +kernel
theorem dX8_start_117 : decode cX8_start 117 = .ok (.aload_n 2, 1) := by decide +kernel
theorem dX8_start_118 : decode cX8_start 118 = .ok (.aload_n 0, 1) := by decide +kernel
theorem dX8_start_119 : decode cX8_start 119 = .ok (.getfield 10, 3) := by decide +kernel
theorem dX8_start_122 : decode cX8_start 122 = .ok (.aload 6, 2) := by decide +kernel
theorem dX8_start_124 : decode cX8_start 124 = .ok (.aload_n 0, 1) := by decide +kernel
theorem dX8_start_125 : decode cX8_start 125 = .ok (.getfield 10, 3) := by decide +kernel
theorem dX8_start_128 : decode cX8_start 128 = .ok (.aload_n 2, 1) := by decide +kernel
theorem dX8_start_129 : decode cX8_start 129 = .ok (.getfield 115, 3) := by decide +kernel
theorem dX8_start_132 : decode cX8_start 132 = .ok (.aload 5, 2) := by decide +kernel
theorem dX8_start_134 : decode cX8_start 134 = .ok (.invokevirtual 107, 3) := by decide +kernel
theorem dX8_start_137 : decode cX8_start 137 = .ok (.invokevirtual 122, 3) := by decide +kernel
theorem dX8_start_140 : decode cX8_start 140 = .ok (.putfield 119, 3) := by decide +kernel
theorem dX8_start_143 : decode cX8_start 143 = .ok (.aload_n 2, 1) := by decide +kernel
theorem dX8_start_144 : decode cX8_start 144 = .ok (.aload_n 0, 1) := by decide +kernel
theorem dX8_start_145 : decode cX8_start 145 = .ok (.getfield 10, 3) := by decide +kernel
theorem dX8_start_148 : decode cX8_start 148 = .ok (.aload_n 2, 1) := by decide +kernel
theorem dX8_start_149 : decode cX8_start 149 = .ok (.getfield 119, 3) := by decide +kernel
theorem dX8_start_152 : decode cX8_start 152 = .ok (.invokevirtual 125, 3) := by decide +kernel
theorem dX8_start_155 : decode cX8_start 155 = .ok (.putfield 128, 3) := by decide +kernel
theorem dX8_start_158 : decode cX8_start 158 = .ok (.aload_n 2, 1) := by decide +kernel
theorem dX8_start_159 : decode cX8_start 159 = .ok (.aload_n 0, 1) := by decide +kernel
theorem dX8_start_160 : decode cX8_start 160 = .ok (.getfield 20, 3) := by decide +kernel
theorem dX8_start_163 : decode cX8_start 163 = .ok (.aload 5, 2) := by decide +kernel
theorem dX8_start_165 : decode cX8_start 165 = .ok (.getfield 131, 3) := by decide +kernel
theorem dX8_start_168 : decode cX8_start 168 = .ok (.invokevirtual 136, 3) := by decide +kernel
theorem dX8_start_171 : decode cX8_start 171 = .ok (.putfield 139, 3) := by decide +kernel
theorem dX8_start_174 : decode cX8_start 174 = .ok (.aload_n 0, 1) := by decide +kernel
theorem dX8_start_175 : decode cX8_start 175 = .ok (.iconst 1, 1) := by decide +kernel
theorem dX8_start_176 : decode cX8_start 176 = .ok (.invokevirtual 69, 3) := by decide +kernel
theorem dX8_start_179 : decode cX8_start 179 = .ok (.ireturn, 1) := by decide +kernel
theorem dX8_send_0 : decode cX8_send 0 = .ok (.aload_n 0, 1) := by decide +kernel
theorem dX8_send_1 : decode cX8_send 1 = .ok (.iload_n 1, 1) := by decide +kernel
theorem dX8_send_2 : decode cX8_send 2 = .ok (.invokevirtual 78, 3) := by decide +kernel
theorem dX8_send_5 : decode cX8_send 5 = .ok (.astore_n 3, 1) := by decide +kernel
theorem dX8_send_6 : decode cX8_send 6 = .ok (.aload_n 3, 1) := by decide +kernel
theorem dX8_send_7 : decode cX8_send 7 = .ok (.ifnull 14, 3) := by decide +kernel
theorem dX8_send_10 : decode cX8_send 10 = .ok (.iload_n 2, 1) := by decide +kernel
theorem dX8_send_11 : decode cX8_send 11 = .ok (.ifCond .lt 10, 3) := by decide +kernel
theorem dX8_send_14 : decode cX8_send 14 = .ok (.iload_n 2, 1) := by decide +kernel
theorem dX8_send_15 : decode cX8_send 15 = .ok (.sipush 255, 3) := by decide +kernel
theorem dX8_send_18 : decode cX8_send 18 = .ok (.if_icmp .le 9, 3) := by decide +kernel
theorem dX8_send_21 : decode cX8_send 21 = .ok (.aload_n 0, 1) := by decide +kernel
theorem dX8_send_22 : decode cX8_send 22 = .ok (.iconst 1, 1) := by decide +kernel
theorem dX8_send_23 : decode cX8_send 23 = .ok (.invokevirtual 54, 3) := by decide +kernel
theorem dX8_send_26 : decode cX8_send 26 = .ok (.ireturn, 1) := by decide +kernel
theorem dX8_send_27 : decode cX8_send 27 = .ok (.aload_n 0, 1) := by decide +kernel
theorem dX8_send_28 : decode cX8_send 28 = .ok (.getfield 142, 3) := by decide +kernel
theorem dX8_send_31 : decode cX8_send 31 = .ok (.sipush 300, 3) := by decide +kernel
theorem dX8_send_34 : decode cX8_send 34 = .ok (.if_icmp .lt 9, 3) := by decide +kernel
theorem dX8_send_37 : decode cX8_send 37 = .ok (.aload_n 0, 1) := by decide +kernel
theorem dX8_send_38 : decode cX8_send 38 = .ok (.iconst 2, 1) := by decide +kernel
theorem dX8_send_39 : decode cX8_send 39 = .ok (.invokevirtual 54, 3) := by decide +kernel
theorem dX8_send_42 : decode cX8_send 42 = .ok (.ireturn, 1) := by decide +kernel
theorem dX8_send_43 : decode cX8_send 43 = .ok (.aload_n 3, 1) := by decide +kernel
theorem dX8_send_44 : decode cX8_send 44 = .ok (.getfield 99, 3) := by decide +kernel
theorem dX8_send_47 : decode cX8_send 47 = .ok (.ifCond .eq 10, 3) := by decide +kernel
theorem dX8_send_50 : decode cX8_send 50 = .ok (.aload_n 3, 1) := by decide +kernel
theorem dX8_send_51 : decode cX8_send 51 = .ok (.getfield 128, 3) := by decide +kernel
theorem dX8_send_54 : decode cX8_send 54 = .ok (.ifnonnull 9, 3) := by decide +kernel
theorem dX8_send_57 : decode cX8_send 57 = .ok (.aload_n 0, 1) := by decide +kernel
theorem dX8_send_58 : decode cX8_send 58 = .ok (.iconst 3, 1) := by decide +kernel
theorem dX8_send_59 : decode cX8_send 59 = .ok (.invokevirtual 54, 3) := by decide +kernel
theorem dX8_send_62 : decode cX8_send 62 = .ok (.ireturn, 1) := by decide +kernel
theorem dX8_send_63 : decode cX8_send 63 = .ok (.aload_n 0, 1) := by decide +kernel
theorem dX8_send_64 : decode cX8_send 64 = .ok (.getfield 10, 3) := by decide +kernel
theorem dX8_send_67 : decode cX8_send 67 = .ok (.aload_n 3, 1) := by decide +kernel
theorem dX8_send_68 : decode cX8_send 68 = .ok (.getfield 128, 3) := by decide +kernel
theorem dX8_send_71 : decode cX8_send 71 = .ok (.invokevirtual 145, 3) := by decide +kernel
theorem dX8_send_74 : decode cX8_send 74 = .ok (.astore 4, 2) := by decide +kernel
theorem dX8_send_76 : decode cX8_send 76 = .ok (.new 27, 3) := by decide +kernel
theorem dX8_send_79 : decode cX8_send 79 = .ok (.dup, 1) := by decide +kernel
theorem dX8_send_80 : decode cX8_send 80 = .ok (.aload_n 3, 1) := by decide +kernel
theorem dX8_send_81 : decode cX8_send 81 = .ok (.aload 4, 2) := by decide +kernel
theorem dX8_send_83 : decode cX8_send 83 = .ok (.invokespecial 148, 3) := by decide +kernel
theorem dX8_send_86 : decode cX8_send 86 = .ok (.astore 5, 2) := by decide +kernel
theorem dX8_send_88 : decode cX8_send 88 = .ok (.aload 5, 2) := by decide +kernel
theorem dX8_send_90 : decode cX8_send 90 = .ok (.getfield 151, 3) := by decide +kernel
theorem dX8_send_93 : decode cX8_send 93 = .ok (.iconst 0, 1) := by decide +kernel
theorem dX8_send_94 : decode cX8_send 94 = .ok (.aload_n 0, 1) := by decide +kernel
theorem dX8_send_95 : decode cX8_send 95 = .ok (.getfield 20, 3) := by decide +kernel
theorem dX8_send_98 : decode cX8_send 98 = .ok (.aload_n 3, 1) := by decide +kernel
theorem dX8_send_99 : decode cX8_send 99 = .ok (.getfield 115, 3) := by decide +kernel
theorem dX8_send_102 : decode cX8_send 102 = .ok (.getfield 131, 3) := by decide +kernel
theorem dX8_send_105 : decode cX8_send 105 = .ok (.invokevirtual 136, 3) := by decide +kernel
theorem dX8_send_108 : decode cX8_send 108 = .ok (.iastore, 1) := by decide +kernel
theorem dX8_send_109 : decode cX8_send 109 = .ok (.aload 5, 2) := by decide +kernel
theorem dX8_send_111 : decode cX8_send 111 = .ok (.iload_n 2, 1) := by decide +kernel
theorem dX8_send_112 : decode cX8_send 112 = .ok (.aload 4, 2) := by decide +kernel
theorem dX8_send_114 : decode cX8_send 114 = .ok (.getfield 131, 3) := by decide +kernel
theorem dX8_send_117 : decode cX8_send 117 = .ok (.iadd, 1) := by decide +kernel
theorem dX8_send_118 : decode cX8_send 118 = .ok (.sipush 255, 3) := by decide +kernel
theorem dX8_send_121 : decode cX8_send 121 = .ok (.iand, 1) := by decide +kernel
theorem dX8_send_122 : decode cX8_send 122 = .ok (.putfield 155, 3) := by decide +kernel
theorem dX8_send_125 : decode cX8_send 125 = .ok (.aload 5, 2) := by decide +kernel
theorem dX8_send_127 : decode cX8_send 127 = .ok (.aload_n 0, 1) := by decide +kernel
theorem dX8_send_128 : decode cX8_send 128 = .ok (.getfield 20, 3) := by decide +kernel
theorem dX8_send_131 : decode cX8_send 131 = .ok (.aload 4, 2) := by decide +kernel
theorem dX8_send_133 : decode cX8_send 133 = .ok (.getfield 131, 3) := by decide +kernel
theorem dX8_send_136 : decode cX8_send 136 = .ok (.iload_n 2, 1) := by decide +kernel
theorem dX8_send_137 : decode cX8_send 137 = .ok (.invokevirtual 158, 3) := by decide +kernel
theorem dX8_send_140 : decode cX8_send 140 = .ok (.putfield 162, 3) := by decide +kernel
theorem dX8_send_143 : decode cX8_send 143 = .ok (.aload_n 0, 1) := by decide +kernel
theorem dX8_send_144 : decode cX8_send 144 = .ok (.getfield 29, 3) := by decide +kernel
theorem dX8_send_147 : decode cX8_send 147 = .ok (.aload_n 0, 1) := by decide +kernel
theorem dX8_send_148 : decode cX8_send 148 = .ok (.getfield 142, 3) := by decide +kernel
theorem dX8_send_151 : decode cX8_send 151 = .ok (.aload 5, 2) := by decide +kernel
theorem dX8_send_153 : decode cX8_send 153 = .ok (.aastore, 1) := by decide +kernel
theorem dX8_send_154 : decode cX8_send 154 = .ok (.aload_n 0, 1) := by decide +kernel
theorem dX8_send_155 : decode cX8_send 155 = .ok (.dup, 1) := by decide +kernel
theorem dX8_send_156 : decode cX8_send 156 = .ok (.getfield 142, 3) := by decide +kernel
theorem dX8_send_159 : decode cX8_send 159 = .ok (.iconst 1, 1) := by decide +kernel
theorem dX8_send_160 : decode cX8_send 160 = .ok (.iadd, 1) := by decide +kernel
theorem dX8_send_161 : decode cX8_send 161 = .ok (.putfield 142, 3) := by decide +kernel
theorem dX8_send_164 : decode cX8_send 164 = .ok (.aload_n 3, 1) := by decide +kernel
theorem dX8_send_165 : decode cX8_send 165 = .ok (.aload_n 0, 1) := by decide +kernel
theorem dX8_send_166 : decode cX8_send 166 = .ok (.getfield 10, 3) := by decide +kernel
theorem dX8_send_169 : decode cX8_send 169 = .ok (.aload_n 3, 1) := by decide +kernel
theorem dX8_send_170 : decode cX8_send 170 = .ok (.getfield 128, 3) := by decide +kernel
theorem dX8_send_173 : decode cX8_send 173 = .ok (.invokevirtual 165, 3) := by decide +kernel
theorem dX8_send_176 : decode cX8_send 176 = .ok (.putfield 128, 3) := by decide +kernel
theorem dX8_send_179 : decode cX8_send 179 = .ok (.aload_n 3, 1) := by decide +kernel
theorem dX8_send_180 : decode cX8_send 180 = .ok (.dup, 1) := by decide +kernel
theorem dX8_send_181 : decode cX8_send 181 = .ok (.getfield 168, 3) := by decide +kernel
theorem dX8_send_184 : decode cX8_send 184 = .ok (.iconst 1, 1) := by decide +kernel
theorem dX8_send_185 : decode cX8_send 185 = .ok (.iadd, 1) := by decide +kernel
theorem dX8_send_186 : decode cX8_send 186 = .ok (.putfield 168, 3) := by decide +kernel
theorem dX8_send_189 : decode cX8_send 189 = .ok (.aload_n 0, 1) := by decide +kernel
theorem dX8_send_190 : decode cX8_send 190 = .ok (.invokevirtual 72, 3) := by decide +kernel
theorem dX8_send_193 : decode cX8_send 193 = .ok (.aload_n 0, 1) := by decide +kernel
theorem dX8_send_194 : decode cX8_send 194 = .ok (.aload_n 0, 1) := by decide +kernel
theorem dX8_send_195 : decode cX8_send 195 = .ok (.getfield 142, 3) := by decide +kernel
theorem dX8_send_198 : decode cX8_send 198 = .ok (.iconst 1, 1) := by decide +kernel
theorem dX8_send_199 : decode cX8_send 199 = .ok (.isub, 1) := by decide +kernel
theorem dX8_send_200 : decode cX8_send 200 = .ok (.invokevirtual 69, 3) := by decide +kernel
theorem dX8_send_203 : decode cX8_send 203 = .ok (.ireturn, 1) := by decide +kernel
theorem dX8_alter_0 : decode cX8_alter 0 = .ok (.aload_n 0, 1) := by decide +kernel
theorem dX8_alter_1 : decode cX8_alter 1 = .ok (.iload_n 1, 1) := by decide +kernel
theorem dX8_alter_2 : decode cX8_alter 2 = .ok (.invokevirtual 171, 3) := by decide +kernel
theorem dX8_alter_5 : decode cX8_alter 5 = .ok (.astore_n 3, 1) := by decide +kernel
theorem dX8_alter_6 : decode cX8_alter 6 = .ok (.aload_n 3, 1) := by decide +kernel
theorem dX8_alter_7 : decode cX8_alter 7 = .ok (.ifnull 15, 3) := by decide +kernel
theorem dX8_alter_10 : decode cX8_alter 10 = .ok (.iload_n 2, 1) := by decide +kernel
theorem dX8_alter_11 : decode cX8_alter 11 = .ok (.iconst 1, 1) := by decide +kernel
theorem dX8_alter_12 : decode cX8_alter 12 = .ok (.if_icmp .lt 10, 3) := by decide +kernel
theorem dX8_alter_15 : decode cX8_alter 15 = .ok (.iload_n 2, 1) := by decide +kernel
theorem dX8_alter_16 : decode cX8_alter 16 = .ok (.sipush 255, 3) := by decide +kernel
theorem dX8_alter_19 : decode cX8_alter 19 = .ok (.if_icmp .le 9, 3) := by decide +kernel
theorem dX8_alter_22 : decode cX8_alter 22 = .ok (.aload_n 0, 1) := by decide +kernel
theorem dX8_alter_23 : decode cX8_alter 23 = .ok (.iconst 1, 1) := by decide +kernel
theorem dX8_alter_24 : decode cX8_alter 24 = .ok (.invokevirtual 54, 3) := by decide +kernel
theorem dX8_alter_27 : decode cX8_alter 27 = .ok (.ireturn, 1) := by decide +kernel
theorem dX8_alter_28 : decode cX8_alter 28 = .ok (.aload_n 3, 1) := by decide +kernel
theorem dX8_alter_29 : decode cX8_alter 29 = .ok (.dup, 1) := by decide +kernel
theorem dX8_alter_30 : decode cX8_alter 30 = .ok (.getfield 155, 3) := by decide +kernel
theorem dX8_alter_33 : decode cX8_alter 33 = .ok (.iload_n 2, 1) := by decide +kernel
theorem dX8_alter_34 : decode cX8_alter 34 = .ok (.ixor, 1) := by decide +kernel
theorem dX8_alter_35 : decode cX8_alter 35 = .ok (.putfield 155, 3) := by decide +kernel
theorem dX8_alter_38 : decode cX8_alter 38 = .ok (.aload_n 0, 1) := by decide +kernel
theorem dX8_alter_39 : decode cX8_alter 39 = .ok (.iconst 1, 1) := by decide +kernel
theorem dX8_alter_40 : decode cX8_alter 40 = .ok (.invokevirtual 69, 3) := by decide +kernel
theorem dX8_alter_43 : decode cX8_alter 43 = .ok (.ireturn, 1) := by decide +kernel
theorem dX8_take_0 : decode cX8_take 0 = .ok (.aload_n 0, 1) := by decide +kernel
theorem dX8_take_1 : decode cX8_take 1 = .ok (.iload_n 1, 1) := by decide +kernel
theorem dX8_take_2 : decode cX8_take 2 = .ok (.invokevirtual 78, 3) := by decide +kernel
theorem dX8_take_5 : decode cX8_take 5 = .ok (.astore_n 3, 1) := by decide +kernel
theorem dX8_take_6 : decode cX8_take 6 = .ok (.aload_n 0, 1) := by decide +kernel
theorem dX8_take_7 : decode cX8_take 7 = .ok (.iload_n 2, 1) := by decide +kernel
theorem dX8_take_8 : decode cX8_take 8 = .ok (.invokevirtual 171, 3) := by decide +kernel
theorem dX8_take_11 : decode cX8_take 11 = .ok (.astore 4, 2) := by decide +kernel
theorem dX8_take_13 : decode cX8_take 13 = .ok (.aload_n 3, 1) := by decide +kernel
theorem dX8_take_14 : decode cX8_take 14 = .ok (.ifnull 8, 3) := by decide +kernel
theorem dX8_take_17 : decode cX8_take 17 = .ok (.aload 4, 2) := by decide +kernel
theorem dX8_take_19 : decode cX8_take 19 = .ok (.ifnonnull 9, 3) := by decide +kernel
theorem dX8_take_22 : decode cX8_take 22 = .ok (.aload_n 0, 1) := by decide +kernel
theorem dX8_take_23 : decode cX8_take 23 = .ok (.iconst 1, 1) := by decide +kernel
theorem dX8_take_24 : decode cX8_take 24 = .ok (.invokevirtual 54, 3) := by decide +kernel
theorem dX8_take_27 : decode cX8_take 27 = .ok (.ireturn, 1) := by decide +kernel
theorem dX8_take_28 : decode cX8_take 28 = .ok (.aload 4, 2) := by decide +kernel
theorem dX8_take_30 : decode cX8_take 30 = .ok (.getfield 175, 3) := by decide +kernel
theorem dX8_take_33 : decode cX8_take 33 = .ok (.aload_n 3, 1) := by decide +kernel
theorem dX8_take_34 : decode cX8_take 34 = .ok (.getfield 178, 3) := by decide +kernel
theorem dX8_take_37 : decode cX8_take 37 = .ok (.iconst 1, 1) := by decide +kernel
theorem dX8_take_38 : decode cX8_take 38 = .ok (.ixor, 1) := by decide +kernel
theorem dX8_take_39 : decode cX8_take 39 = .ok (.if_icmp .eq 9, 3) := by decide +kernel
theorem dX8_take_42 : decode cX8_take 42 = .ok (.aload_n 0, 1) := by decide +kernel
theorem dX8_take_43 : decode cX8_take 43 = .ok (.iconst 3, 1) := by decide +kernel
theorem dX8_take_44 : decode cX8_take 44 = .ok (.invokevirtual 54, 3) := by decide +kernel
theorem dX8_take_47 : decode cX8_take 47 = .ok (.ireturn, 1) := by decide +kernel
theorem dX8_take_48 : decode cX8_take 48 = .ok (.aload_n 3, 1) := by decide +kernel
theorem dX8_take_49 : decode cX8_take 49 = .ok (.aload 4, 2) := by decide +kernel
theorem dX8_take_51 : decode cX8_take 51 = .ok (.invokevirtual 181, 3) := by decide +kernel
theorem dX8_take_54 : decode cX8_take 54 = .ok (.istore 5, 2) := by decide +kernel
theorem dX8_take_56 : decode cX8_take 56 = .ok (.iload 5, 2) := by decide +kernel
theorem dX8_take_58 : decode cX8_take 58 = .ok (.iconst (-1), 1) := by decide +kernel
theorem dX8_take_59 : decode cX8_take 59 = .ok (.if_icmp .eq 13, 3) := by decide +kernel
theorem dX8_take_62 : decode cX8_take 62 = .ok (.aload_n 0, 1) := by decide +kernel
theorem dX8_take_63 : decode cX8_take 63 = .ok (.aload_n 3, 1) := by decide +kernel
theorem dX8_take_64 : decode cX8_take 64 = .ok (.aload 4, 2) := by decide +kernel
theorem dX8_take_66 : decode cX8_take 66 = .ok (.iload 5, 2) := by decide +kernel
theorem dX8_take_68 : decode cX8_take 68 = .ok (.invokevirtual 185, 3) := by decide +kernel
theorem dX8_take_71 : decode cX8_take 71 = .ok (.ireturn, 1) := by decide +kernel
theorem dX8_take_72 : decode cX8_take 72 = .ok (.aload 4, 2) := by decide +kernel
theorem dX8_take_74 : decode cX8_take 74 = .ok (.invokevirtual 189, 3) := by decide +kernel
theorem dX8_take_77 : decode cX8_take 77 = .ok (.aload_n 3, 1) := by decide +kernel
theorem dX8_take_78 : decode cX8_take 78 = .ok (.getfield 139, 3) := by decide +kernel
theorem dX8_take_81 : decode cX8_take 81 = .ok (.if_icmp .ne 18, 3) := by decide +kernel
theorem dX8_take_84 : decode cX8_take 84 = .ok (.aload_n 3, 1) := by decide +kernel
theorem dX8_take_85 : decode cX8_take 85 = .ok (.getfield 192, 3) := by decide +kernel
theorem dX8_take_88 : decode cX8_take 88 = .ok (.ifnull 11, 3) := by decide +kernel
theorem dX8_take_91 : decode cX8_take 91 = .ok (.aload_n 0, 1) := by decide +kernel
theorem dX8_take_92 : decode cX8_take 92 = .ok (.aload_n 3, 1) := by decide +kernel
theorem dX8_take_93 : decode cX8_take 93 = .ok (.aload 4, 2) := by decide +kernel
theorem dX8_take_95 : decode cX8_take 95 = .ok (.invokevirtual 195, 3) := by decide +kernel
theorem dX8_take_98 : decode cX8_take 98 = .ok (.ireturn, 1) := by decide +kernel
theorem dX8_take_99 : decode cX8_take 99 = .ok (.aload_n 0, 1) := by decide +kernel
theorem dX8_take_100 : decode cX8_take 100 = .ok (.aload_n 3, 1) := by decide +kernel
theorem dX8_take_101 : decode cX8_take 101 = .ok (.aload 4, 2) := by decide +kernel
theorem dX8_take_103 : decode cX8_take 103 = .ok (.invokevirtual 199, 3) := by decide +kernel
theorem dX8_take_106 : decode cX8_take 106 = .ok (.ireturn, 1) := by decide +kernel
theorem dX8_see_0 : decode cX8_see 0 = .ok (.aload_n 0, 1) := by decide +kernel
theorem dX8_see_1 : decode cX8_see 1 = .ok (.iload_n 1, 1) := by decide +kernel
theorem dX8_see_2 : decode cX8_see 2 = .ok (.invokevirtual 78, 3) := by decide +kernel
theorem dX8_see_5 : decode cX8_see 5 = .ok (.astore_n 2, 1) := by decide +kernel
theorem dX8_see_6 : decode cX8_see 6 = .ok (.aload_n 2, 1) := by decide +kernel
theorem dX8_see_7 : decode cX8_see 7 = .ok (.ifnonnull 9, 3) := by decide +kernel
theorem dX8_see_10 : decode cX8_see 10 = .ok (.aload_n 0, 1) := by decide +kernel
theorem dX8_see_11 : decode cX8_see 11 = .ok (.iconst 1, 1) := by decide +kernel
theorem dX8_see_12 : decode cX8_see 12 = .ok (.invokevirtual 54, 3) := by decide +kernel
theorem dX8_see_15 : decode cX8_see 15 = .ok (.ireturn, 1) := by decide +kernel
theorem dX8_see_16 : decode cX8_see 16 = .ok (.aload_n 2, 1) := by decide +kernel
theorem dX8_see_17 : decode cX8_see 17 = .ok (.getfield 99, 3) := by decide +kernel
theorem dX8_see_20 : decode cX8_see 20 = .ok (.ifCond .ne 9, 3) := by decide +kernel
theorem dX8_see_23 : decode cX8_see 23 = .ok (.aload_n 0, 1) := by decide +kernel
theorem dX8_see_24 : decode cX8_see 24 = .ok (.iconst 3, 1) := by decide +kernel
theorem dX8_see_25 : decode cX8_see 25 = .ok (.invokevirtual 54, 3) := by decide +kernel
theorem dX8_see_28 : decode cX8_see 28 = .ok (.ireturn, 1) := by decide +kernel
theorem dX8_see_29 : decode cX8_see 29 = .ok (.aload_n 0, 1) := by decide +kernel
theorem dX8_see_30 : decode cX8_see 30 = .ok (.getfield 10, 3) := by decide +kernel
theorem dX8_see_33 : decode cX8_see 33 = .ok (.aload_n 2, 1) := by decide +kernel
theorem dX8_see_34 : decode cX8_see 34 = .ok (.getfield 115, 3) := by decide +kernel
theorem dX8_see_37 : decode cX8_see 37 = .ok (.invokevirtual 202, 3) := by decide +kernel
theorem dX8_see_40 : decode cX8_see 40 = .ok (.aload_n 0, 1) := by decide +kernel
theorem dX8_see_41 : decode cX8_see 41 = .ok (.getfield 10, 3) := by decide +kernel
theorem dX8_see_44 : decode cX8_see 44 = .ok (.aload_n 2, 1) := by decide +kernel
theorem dX8_see_45 : decode cX8_see 45 = .ok (.getfield 119, 3) := by decide +kernel
theorem dX8_see_48 : decode cX8_see 48 = .ok (.invokevirtual 202, 3) := by decide +kernel
theorem dX8_see_51 : decode cX8_see 51 = .ok (.iadd, 1) := by decide +kernel
theorem dX8_see_52 : decode cX8_see 52 = .ok (.aload_n 0, 1) := by decide +kernel
theorem dX8_see_53 : decode cX8_see 53 = .ok (.getfield 10, 3) := by decide +kernel
theorem dX8_see_56 : decode cX8_see 56 = .ok (.aload_n 2, 1) := by decide +kernel
theorem dX8_see_57 : decode cX8_see 57 = .ok (.getfield 128, 3) := by decide +kernel
theorem dX8_see_60 : decode cX8_see 60 = .ok (.invokevirtual 202, 3) := by decide +kernel
theorem dX8_see_63 : decode cX8_see 63 = .ok (.iadd, 1) := by decide +kernel
theorem dX8_see_64 : decode cX8_see 64 = .ok (.aload_n 0, 1) := by decide +kernel
theorem dX8_see_65 : decode cX8_see 65 = .ok (.getfield 10, 3) := by decide +kernel
theorem dX8_see_68 : decode cX8_see 68 = .ok (.aload_n 2, 1) := by decide +kernel
theorem dX8_see_69 : decode cX8_see 69 = .ok (.getfield 192, 3) := by decide +kernel
theorem dX8_see_72 : decode cX8_see 72 = .ok (.invokevirtual 202, 3) := by decide +kernel
theorem dX8_see_75 : decode cX8_see 75 = .ok (.iadd, 1) := by decide +kernel
theorem dX8_see_76 : decode cX8_see 76 = .ok (.istore_n 3, 1) := by decide +kernel
theorem dX8_see_77 : decode cX8_see 77 = .ok (.iconst 0, 1) := by decide +kernel
theorem dX8_see_78 : decode cX8_see 78 = .ok (.istore 4, 2) := by decide +kernel
theorem dX8_see_80 : decode cX8_see 80 = .ok (.iload 4, 2) := by decide +kernel
theorem dX8_see_82 : decode cX8_see 82 = .ok (.aload_n 2, 1) := by decide +kernel
theorem dX8_see_83 : decode cX8_see 83 = .ok (.getfield 206, 3) := by decide +kernel
theorem dX8_see_86 : decode cX8_see 86 = .ok (.if_icmp .ge 29, 3) := by decide +kernel
theorem dX8_see_89 : decode cX8_see 89 = .ok (.iload_n 3, 1) := by decide +kernel
theorem dX8_see_90 : decode cX8_see 90 = .ok (.aload_n 0, 1) := by decide +kernel
theorem dX8_see_91 : decode cX8_see 91 = .ok (.getfield 10, 3) := by decide +kernel
theorem dX8_see_94 : decode cX8_see 94 = .ok (.aload_n 2, 1) := by decide +kernel
theorem dX8_see_95 : decode cX8_see 95 = .ok (.getfield 209, 3) := by decide +kernel
theorem dX8_see_98 : decode cX8_see 98 = .ok (.iload 4, 2) := by decide +kernel
theorem dX8_see_100 : decode cX8_see 100 = .ok (.aaload, 1) := by decide +kernel
theorem dX8_see_101 : decode cX8_see 101 = .ok (.getfield 213, 3) := by decide +kernel
theorem dX8_see_104 : decode cX8_see 104 = .ok (.invokevirtual 202, 3) := by decide +kernel
theorem dX8_see_107 : decode cX8_see 107 = .ok (.iadd, 1) := by decide +kernel
theorem dX8_see_108 : decode cX8_see 108 = .ok (.istore_n 3, 1) := by decide +kernel
theorem dX8_see_109 : decode cX8_see 109 = .ok (.iinc 4 1, 3) := by decide +kernel
theorem dX8_see_112 : decode cX8_see 112 = .ok (.goto (-32), 3) := by decide +kernel
theorem dX8_see_115 : decode cX8_see 115 = .ok (.aload_n 0, 1) := by decide +kernel
theorem dX8_see_116 : decode cX8_see 116 = .ok (.getfield 10, 3) := by decide +kernel
theorem dX8_see_119 : decode cX8_see 119 = .ok (.invokevirtual 218, 3) := by decide +kernel
theorem dX8_see_122 : decode cX8_see 122 = .ok (.aload_n 0, 1) := by decide +kernel
theorem dX8_see_123 : decode cX8_see 123 = .ok (.iload_n 3, 1) := by decide +kernel
theorem dX8_see_124 : decode cX8_see 124 = .ok (.invokevirtual 69, 3) := by decide +kernel
theorem dX8_see_127 : decode cX8_see 127 = .ok (.ireturn, 1) := by decide +kernel
theorem dX8_known_0 : decode cX8_known 0 = .ok (.aload_n 0, 1) := by decide +kernel
theorem dX8_known_1 : decode cX8_known 1 = .ok (.iload_n 1, 1) := by decide +kernel
theorem dX8_known_2 : decode cX8_known 2 = .ok (.invokevirtual 171, 3) := by decide +kernel
theorem dX8_known_5 : decode cX8_known 5 = .ok (.astore_n 2, 1) := by decide +kernel
theorem dX8_known_6 : decode cX8_known 6 = .ok (.aload_n 2, 1) := by decide +kernel
theorem dX8_known_7 : decode cX8_known 7 = .ok (.ifnonnull 5, 3) := by decide +kernel
theorem dX8_known_10 : decode cX8_known 10 = .ok (.iconst (-1), 1) := by decide +kernel
theorem dX8_known_11 : decode cX8_known 11 = .ok (.ireturn, 1) := by decide +kernel
theorem dX8_known_12 : decode cX8_known 12 = .ok (.aload_n 2, 1) := by decide +kernel
theorem dX8_known_13 : decode cX8_known 13 = .ok (.getfield 221, 3) := by decide +kernel
theorem dX8_known_16 : decode cX8_known 16 = .ok (.getfield 222, 3) := by decide +kernel
theorem dX8_known_19 : decode cX8_known 19 = .ok (.iconst (-1), 1) := by decide +kernel
theorem dX8_known_20 : decode cX8_known 20 = .ok (.if_icmp .ne 7, 3) := by decide +kernel
theorem dX8_known_23 : decode cX8_known 23 = .ok (.iconst 0, 1) := by decide +kernel
theorem dX8_known_24 : decode cX8_known 24 = .ok (.goto 4, 3) := by decide +kernel
theorem dX8_known_27 : decode cX8_known 27 = .ok (.iconst 1, 1) := by decide +kernel
theorem dX8_known_28 : decode cX8_known 28 = .ok (.ireturn, 1) := by decide +kernel
theorem dX8_steps_0 : decode cX8_steps 0 = .ok (.aload_n 0, 1) := by decide +kernel
theorem dX8_steps_1 : decode cX8_steps 1 = .ok (.iload_n 1, 1) := by decide +kernel
theorem dX8_steps_2 : decode cX8_steps 2 = .ok (.invokevirtual 171, 3) := by decide +kernel
theorem dX8_steps_5 : decode cX8_steps 5 = .ok (.astore_n 2, 1) := by decide +kernel
theorem dX8_steps_6 : decode cX8_steps 6 = .ok (.aload_n 2, 1) := by decide +kernel
theorem dX8_steps_7 : decode cX8_steps 7 = .ok (.ifnonnull 7, 3) := by decide +kernel
theorem dX8_steps_10 : decode cX8_steps 10 = .ok (.iconst (-1), 1) := by decide +kernel
theorem dX8_steps_11 : decode cX8_steps 11 = .ok (.goto 10, 3) := by decide +kernel
theorem dX8_steps_14 : decode cX8_steps 14 = .ok (.aload_n 2, 1) := by decide +kernel
theorem dX8_steps_15 : decode cX8_steps 15 = .ok (.getfield 221, 3) := by decide +kernel
theorem dX8_steps_18 : decode cX8_steps 18 = .ok (.getfield 222, 3) := by decide +kernel
theorem dX8_steps_21 : decode cX8_steps 21 = .ok (.ireturn, 1) := by decide +kernel
theorem dX8_heals_0 : decode cX8_heals 0 = .ok (.aload_n 0, 1) := by decide +kernel
theorem dX8_heals_1 : decode cX8_heals 1 = .ok (.iload_n 1, 1) := by decide +kernel
theorem dX8_heals_2 : decode cX8_heals 2 = .ok (.invokevirtual 93, 3) := by decide +kernel
theorem dX8_heals_5 : decode cX8_heals 5 = .ok (.ifnonnull 5, 3) := by decide +kernel
theorem dX8_heals_8 : decode cX8_heals 8 = .ok (.iconst (-1), 1) := by decide +kernel
theorem dX8_heals_9 : decode cX8_heals 9 = .ok (.ireturn, 1) := by decide +kernel
theorem dX8_heals_10 : decode cX8_heals 10 = .ok (.iconst (-1), 1) := by decide +kernel
theorem dX8_heals_11 : decode cX8_heals 11 = .ok (.istore_n 2, 1) := by decide +kernel
theorem dX8_heals_12 : decode cX8_heals 12 = .ok (.aload_n 0, 1) := by decide +kernel
theorem dX8_heals_13 : decode cX8_heals 13 = .ok (.getfield 142, 3) := by decide +kernel
theorem dX8_heals_16 : decode cX8_heals 16 = .ok (.iconst 1, 1) := by decide +kernel
theorem dX8_heals_17 : decode cX8_heals 17 = .ok (.isub, 1) := by decide +kernel
theorem dX8_heals_18 : decode cX8_heals 18 = .ok (.istore_n 3, 1) := by decide +kernel
theorem dX8_heals_19 : decode cX8_heals 19 = .ok (.iload_n 3, 1) := by decide +kernel
theorem dX8_heals_20 : decode cX8_heals 20 = .ok (.ifCond .lt 44, 3) := by decide +kernel
theorem dX8_heals_23 : decode cX8_heals 23 = .ok (.aload_n 0, 1) := by decide +kernel
theorem dX8_heals_24 : decode cX8_heals 24 = .ok (.getfield 29, 3) := by decide +kernel
theorem dX8_heals_27 : decode cX8_heals 27 = .ok (.iload_n 3, 1) := by decide +kernel
theorem dX8_heals_28 : decode cX8_heals 28 = .ok (.aaload, 1) := by decide +kernel
theorem dX8_heals_29 : decode cX8_heals 29 = .ok (.getfield 175, 3) := by decide +kernel
theorem dX8_heals_32 : decode cX8_heals 32 = .ok (.iconst 2, 1) := by decide +kernel
theorem dX8_heals_33 : decode cX8_heals 33 = .ok (.idiv, 1) := by decide +kernel
theorem dX8_heals_34 : decode cX8_heals 34 = .ok (.iload_n 1, 1) := by decide +kernel
theorem dX8_heals_35 : decode cX8_heals 35 = .ok (.if_icmp .ne 23, 3) := by decide +kernel
theorem dX8_heals_38 : decode cX8_heals 38 = .ok (.aload_n 0, 1) := by decide +kernel
theorem dX8_heals_39 : decode cX8_heals 39 = .ok (.getfield 29, 3) := by decide +kernel
theorem dX8_heals_42 : decode cX8_heals 42 = .ok (.iload_n 3, 1) := by decide +kernel
theorem dX8_heals_43 : decode cX8_heals 43 = .ok (.aaload, 1) := by decide +kernel
theorem dX8_heals_44 : decode cX8_heals 44 = .ok (.getfield 221, 3) := by decide +kernel
theorem dX8_heals_47 : decode cX8_heals 47 = .ok (.getfield 222, 3) := by decide +kernel
theorem dX8_heals_50 : decode cX8_heals 50 = .ok (.iconst (-1), 1) := by decide +kernel
theorem dX8_heals_51 : decode cX8_heals 51 = .ok (.if_icmp .eq 5, 3) := by decide +kernel
theorem dX8_heals_54 : decode cX8_heals 54 = .ok (.iload_n 2, 1) := by decide +kernel
theorem dX8_heals_55 : decode cX8_heals 55 = .ok (.ireturn, 1) := by decide +kernel
theorem dX8_heals_56 : decode cX8_heals 56 = .ok (.iload_n 3, 1) := by decide +kernel
theorem dX8_heals_57 : decode cX8_heals 57 = .ok (.istore_n 2, 1) := by decide +kernel
theorem dX8_heals_58 : decode cX8_heals 58 = .ok (.iinc 3 (-1), 3) := by decide +kernel
theorem dX8_heals_61 : decode cX8_heals 61 = .ok (.goto (-42), 3) := by decide +kernel
theorem dX8_heals_64 : decode cX8_heals 64 = .ok (.iload_n 2, 1) := by decide +kernel
theorem dX8_heals_65 : decode cX8_heals 65 = .ok (.ireturn, 1) := by decide +kernel
theorem dX8_same_0 : decode cX8_same 0 = .ok (.aload_n 0, 1) := by decide +kernel
theorem dX8_same_1 : decode cX8_same 1 = .ok (.iload_n 1, 1) := by decide +kernel
theorem dX8_same_2 : decode cX8_same 2 = .ok (.invokevirtual 93, 3) := by decide +kernel
theorem dX8_same_5 : decode cX8_same 5 = .ok (.astore_n 2, 1) := by decide +kernel
theorem dX8_same_6 : decode cX8_same 6 = .ok (.aload_n 0, 1) := by decide +kernel
theorem dX8_same_7 : decode cX8_same 7 = .ok (.iload_n 1, 1) := by decide +kernel
theorem dX8_same_8 : decode cX8_same 8 = .ok (.invokevirtual 96, 3) := by decide +kernel
theorem dX8_same_11 : decode cX8_same 11 = .ok (.astore_n 3, 1) := by decide +kernel
theorem dX8_same_12 : decode cX8_same 12 = .ok (.aload_n 2, 1) := by decide +kernel
theorem dX8_same_13 : decode cX8_same 13 = .ok (.ifnull 14, 3) := by decide +kernel
theorem dX8_same_16 : decode cX8_same 16 = .ok (.aload_n 3, 1) := by decide +kernel
theorem dX8_same_17 : decode cX8_same 17 = .ok (.ifnull 10, 3) := by decide +kernel
theorem dX8_same_20 : decode cX8_same 20 = .ok (.aload_n 2, 1) := by decide +kernel
theorem dX8_same_21 : decode cX8_same 21 = .ok (.getfield 99, 3) := by decide +kernel
theorem dX8_same_24 : decode cX8_same 24 = .ok (.ifCond .ne 5, 3) := by decide +kernel
theorem dX8_same_27 : decode cX8_same 27 = .ok (.iconst (-1), 1) := by decide +kernel
theorem dX8_same_28 : decode cX8_same 28 = .ok (.ireturn, 1) := by decide +kernel
theorem dX8_same_29 : decode cX8_same 29 = .ok (.aload_n 2, 1) := by decide +kernel
theorem dX8_same_30 : decode cX8_same 30 = .ok (.getfield 119, 3) := by decide +kernel
theorem dX8_same_33 : decode cX8_same 33 = .ok (.aload_n 3, 1) := by decide +kernel
theorem dX8_same_34 : decode cX8_same 34 = .ok (.getfield 119, 3) := by decide +kernel
theorem dX8_same_37 : decode cX8_same 37 = .ok (.if_acmp .ne 7, 3) := by decide +kernel
theorem dX8_same_40 : decode cX8_same 40 = .ok (.iconst 1, 1) := by decide +kernel
theorem dX8_same_41 : decode cX8_same 41 = .ok (.goto 4, 3) := by decide +kernel
theorem dX8_same_44 : decode cX8_same 44 = .ok (.iconst 0, 1) := by decide +kernel
theorem dX8_same_45 : decode cX8_same 45 = .ok (.aload_n 2, 1) := by decide +kernel
theorem dX8_same_46 : decode cX8_same 46 = .ok (.getfield 128, 3) := by decide +kernel
theorem dX8_same_49 : decode cX8_same 49 = .ok (.aload_n 3, 1) := by decide +kernel
theorem dX8_same_50 : decode cX8_same 50 = .ok (.getfield 192, 3) := by decide +kernel
theorem dX8_same_53 : decode cX8_same 53 = .ok (.if_acmp .ne 7, 3) := by decide +kernel
theorem dX8_same_56 : decode cX8_same 56 = .ok (.iconst 2, 1) := by decide +kernel
theorem dX8_same_57 : decode cX8_same 57 = .ok (.goto 4, 3) := by decide +kernel
theorem dX8_same_60 : decode cX8_same 60 = .ok (.iconst 0, 1) := by decide +kernel
theorem dX8_same_61 : decode cX8_same 61 = .ok (.iadd, 1) := by decide +kernel
theorem dX8_same_62 : decode cX8_same 62 = .ok (.aload_n 3, 1) := by decide +kernel
theorem dX8_same_63 : decode cX8_same 63 = .ok (.getfield 128, 3) := by decide +kernel
theorem dX8_same_66 : decode cX8_same 66 = .ok (.aload_n 2, 1) := by decide +kernel
theorem dX8_same_67 : decode cX8_same 67 = .ok (.getfield 192, 3) := by decide +kernel
theorem dX8_same_70 : decode cX8_same 70 = .ok (.if_acmp .ne 7, 3) := by decide +kernel
theorem dX8_same_73 : decode cX8_same 73 = .ok (.iconst 4, 1) := by decide +kernel
theorem dX8_same_74 : decode cX8_same 74 = .ok (.goto 4, 3) := by decide +kernel
theorem dX8_same_77 : decode cX8_same 77 = .ok (.iconst 0, 1) := by decide +kernel
theorem dX8_same_78 : decode cX8_same 78 = .ok (.iadd, 1) := by decide +kernel
theorem dX8_same_79 : decode cX8_same 79 = .ok (.ireturn, 1) := by decide +kernel
theorem dX8_told_0 : decode cX8_told 0 = .ok (.aload_n 0, 1) := by decide +kernel
theorem dX8_told_1 : decode cX8_told 1 = .ok (.iload_n 1, 1) := by decide +kernel
theorem dX8_told_2 : decode cX8_told 2 = .ok (.invokevirtual 78, 3) := by decide +kernel
theorem dX8_told_5 : decode cX8_told 5 = .ok (.astore_n 3, 1) := by decide +kernel
theorem dX8_told_6 : decode cX8_told 6 = .ok (.aload_n 3, 1) := by decide +kernel
theorem dX8_told_7 : decode cX8_told 7 = .ok (.ifnonnull 5, 3) := by decide +kernel
theorem dX8_told_10 : decode cX8_told 10 = .ok (.iconst (-1), 1) := by decide +kernel
theorem dX8_told_11 : decode cX8_told 11 = .ok (.ireturn, 1) := by decide +kernel
theorem dX8_told_12 : decode cX8_told 12 = .ok (.iload_n 2, 1) := by decide +kernel
theorem dX8_told_13 : decode cX8_told 13 = .ok (.ifCond .ne 8, 3) := by decide +kernel
theorem dX8_told_16 : decode cX8_told 16 = .ok (.aload_n 3, 1) := by decide +kernel
theorem dX8_told_17 : decode cX8_told 17 = .ok (.getfield 82, 3) := by decide +kernel
theorem dX8_told_20 : decode cX8_told 20 = .ok (.ireturn, 1) := by decide +kernel
theorem dX8_told_21 : decode cX8_told 21 = .ok (.aload_n 3, 1) := by decide +kernel
theorem dX8_told_22 : decode cX8_told 22 = .ok (.getfield 99, 3) := by decide +kernel
theorem dX8_told_25 : decode cX8_told 25 = .ok (.ifCond .ne 5, 3) := by decide +kernel
theorem dX8_told_28 : decode cX8_told 28 = .ok (.iconst (-1), 1) := by decide +kernel
theorem dX8_told_29 : decode cX8_told 29 = .ok (.ireturn, 1) := by decide +kernel
theorem dX8_told_30 : decode cX8_told 30 = .ok (.iload_n 2, 1) := by decide +kernel
theorem dX8_told_31 : decode cX8_told 31 = .ok (.tableswitch 113 1 9 #[49, 64, 72, 80, 88, 93, 98, 103, 108], 49) := by decide +kernel
theorem dX8_told_80 : decode cX8_told 80 = .ok (.aload_n 0, 1) := by decide +kernel
theorem dX8_told_81 : decode cX8_told 81 = .ok (.getfield 20, 3) := by decide +kernel
theorem dX8_told_84 : decode cX8_told 84 = .ok (.aload_n 3, 1) := by decide +kernel
theorem dX8_told_85 : decode cX8_told 85 = .ok (.getfield 115, 3) := by decide +kernel
theorem dX8_told_88 : decode cX8_told 88 = .ok (.getfield 131, 3) := by decide +kernel
theorem dX8_told_91 : decode cX8_told 91 = .ok (.invokevirtual 136, 3) := by decide +kernel
theorem dX8_told_94 : decode cX8_told 94 = .ok (.ireturn, 1) := by decide +kernel
theorem dX8_told_95 : decode cX8_told 95 = .ok (.aload_n 3, 1) := by decide +kernel
theorem dX8_told_96 : decode cX8_told 96 = .ok (.getfield 119, 3) := by decide +kernel
theorem dX8_told_99 : decode cX8_told 99 = .ok (.invokestatic 225, 3) := by decide +kernel
theorem dX8_told_102 : decode cX8_told 102 = .ok (.ireturn, 1) := by decide +kernel
theorem dX8_told_103 : decode cX8_told 103 = .ok (.aload_n 3, 1) := by decide +kernel
theorem dX8_told_104 : decode cX8_told 104 = .ok (.getfield 128, 3) := by decide +kernel
theorem dX8_told_107 : decode cX8_told 107 = .ok (.invokestatic 225, 3) := by decide +kernel
theorem dX8_told_110 : decode cX8_told 110 = .ok (.ireturn, 1) := by decide +kernel
theorem dX8_told_111 : decode cX8_told 111 = .ok (.aload_n 3, 1) := by decide +kernel
theorem dX8_told_112 : decode cX8_told 112 = .ok (.getfield 192, 3) := by decide +kernel
theorem dX8_told_115 : decode cX8_told 115 = .ok (.invokestatic 225, 3) := by decide +kernel
theorem dX8_told_118 : decode cX8_told 118 = .ok (.ireturn, 1) := by decide +kernel
theorem dX8_told_119 : decode cX8_told 119 = .ok (.aload_n 3, 1) := by decide +kernel
theorem dX8_told_120 : decode cX8_told 120 = .ok (.getfield 139, 3) := by decide +kernel
theorem dX8_told_123 : decode cX8_told 123 = .ok (.ireturn, 1) := by decide +kernel
theorem dX8_told_124 : decode cX8_told 124 = .ok (.aload_n 3, 1) := by decide +kernel
theorem dX8_told_125 : decode cX8_told 125 = .ok (.getfield 168, 3) := by decide +kernel
theorem dX8_told_128 : decode cX8_told 128 = .ok (.ireturn, 1) := by decide +kernel
theorem dX8_told_129 : decode cX8_told 129 = .ok (.aload_n 3, 1) := by decide +kernel
theorem dX8_told_130 : decode cX8_told 130 = .ok (.getfield 228, 3) := by decide +kernel
theorem dX8_told_133 : decode cX8_told 133 = .ok (.ireturn, 1) := by decide +kernel
theorem dX8_told_134 : decode cX8_told 134 = .ok (.aload_n 3, 1) := by decide +kernel
theorem dX8_told_135 : decode cX8_told 135 = .ok (.getfield 231, 3) := by decide +kernel
theorem dX8_told_138 : decode cX8_told 138 = .ok (.ireturn, 1) := by decide +kernel
theorem dX8_told_139 : decode cX8_told 139 = .ok (.aload_n 3, 1) := by decide +kernel
theorem dX8_told_140 : decode cX8_told 140 = .ok (.getfield 206, 3) := by decide +kernel
theorem dX8_told_143 : decode cX8_told 143 = .ok (.ireturn, 1) := by decide +kernel
theorem dX8_told_144 : decode cX8_told 144 = .ok (.iconst (-1), 1) := by decide +kernel
theorem dX8_told_145 : decode cX8_told 145 = .ok (.ireturn, 1) := by decide +kernel
theorem dX8_skipped_0 : decode cX8_skipped 0 = .ok (.aload_n 0, 1) := by decide +kernel
theorem dX8_skipped_1 : decode cX8_skipped 1 = .ok (.iload_n 1, 1) := by decide +kernel
theorem dX8_skipped_2 : decode cX8_skipped 2 = .ok (.invokevirtual 78, 3) := by decide +kernel
theorem dX8_skipped_5 : decode cX8_skipped 5 = .ok (.astore 4, 2) := by decide +kernel
theorem dX8_skipped_7 : decode cX8_skipped 7 = .ok (.aload 4, 2) := by decide +kernel
theorem dX8_skipped_9 : decode cX8_skipped 9 = .ok (.ifnull 16, 3) := by decide +kernel
theorem dX8_skipped_12 : decode cX8_skipped 12 = .ok (.iload_n 2, 1) := by decide +kernel
theorem dX8_skipped_13 : decode cX8_skipped 13 = .ok (.ifCond .lt 12, 3) := by decide +kernel
theorem dX8_skipped_16 : decode cX8_skipped 16 = .ok (.iload_n 2, 1) := by decide +kernel
theorem dX8_skipped_17 : decode cX8_skipped 17 = .ok (.aload 4, 2) := by decide +kernel
theorem dX8_skipped_19 : decode cX8_skipped 19 = .ok (.getfield 206, 3) := by decide +kernel
theorem dX8_skipped_22 : decode cX8_skipped 22 = .ok (.if_icmp .lt 5, 3) := by decide +kernel
theorem dX8_skipped_25 : decode cX8_skipped 25 = .ok (.iconst (-1), 1) := by decide +kernel
theorem dX8_skipped_26 : decode cX8_skipped 26 = .ok (.ireturn, 1) := by decide +kernel
theorem dX8_skipped_27 : decode cX8_skipped 27 = .ok (.aload 4, 2) := by decide +kernel
theorem dX8_skipped_29 : decode cX8_skipped 29 = .ok (.getfield 209, 3) := by decide +kernel
theorem dX8_skipped_32 : decode cX8_skipped 32 = .ok (.iload_n 2, 1) := by decide +kernel
theorem dX8_skipped_33 : decode cX8_skipped 33 = .ok (.aaload, 1) := by decide +kernel
theorem dX8_skipped_34 : decode cX8_skipped 34 = .ok (.astore 5, 2) := by decide +kernel
theorem dX8_skipped_36 : decode cX8_skipped 36 = .ok (.iload_n 3, 1) := by decide +kernel
theorem dX8_skipped_37 : decode cX8_skipped 37 = .ok (.tableswitch 55 0 3 #[31, 37, 43, 49], 31) := by decide +kernel
theorem dX8_skipped_68 : decode cX8_skipped 68 = .ok (.aload 5, 2) := by decide +kernel
theorem dX8_skipped_70 : decode cX8_skipped 70 = .ok (.getfield 234, 3) := by decide +kernel
theorem dX8_skipped_73 : decode cX8_skipped 73 = .ok (.ireturn, 1) := by decide +kernel
theorem dX8_skipped_74 : decode cX8_skipped 74 = .ok (.aload 5, 2) := by decide +kernel
theorem dX8_skipped_76 : decode cX8_skipped 76 = .ok (.getfield 235, 3) := by decide +kernel
theorem dX8_skipped_79 : decode cX8_skipped 79 = .ok (.ireturn, 1) := by decide +kernel
theorem dX8_skipped_80 : decode cX8_skipped 80 = .ok (.aload 5, 2) := by decide +kernel
theorem dX8_skipped_82 : decode cX8_skipped 82 = .ok (.getfield 238, 3) := by decide +kernel
theorem dX8_skipped_85 : decode cX8_skipped 85 = .ok (.ireturn, 1) := by decide +kernel
theorem dX8_skipped_86 : decode cX8_skipped 86 = .ok (.aload 5, 2) := by decide +kernel
theorem dX8_skipped_88 : decode cX8_skipped 88 = .ok (.getfield 239, 3) := by decide +kernel
theorem dX8_skipped_91 : decode cX8_skipped 91 = .ok (.ireturn, 1) := by decide +kernel
theorem dX8_skipped_92 : decode cX8_skipped 92 = .ok (.iconst (-1), 1) := by decide +kernel
theorem dX8_skipped_93 : decode cX8_skipped 93 = .ok (.ireturn, 1) := by decide +kernel
theorem dX8_letter_0 : decode cX8_letter 0 = .ok (.aload_n 0, 1) := by decide +kernel
theorem dX8_letter_1 : decode cX8_letter 1 = .ok (.iload_n 1, 1) := by decide +kernel
theorem dX8_letter_2 : decode cX8_letter 2 = .ok (.invokevirtual 171, 3) := by decide +kernel
theorem dX8_letter_5 : decode cX8_letter 5 = .ok (.astore_n 3, 1) := by decide +kernel
theorem dX8_letter_6 : decode cX8_letter 6 = .ok (.aload_n 3, 1) := by decide +kernel
theorem dX8_letter_7 : decode cX8_letter 7 = .ok (.ifnonnull 5, 3) := by decide +kernel
theorem dX8_letter_10 : decode cX8_letter 10 = .ok (.iconst (-1), 1) := by decide +kernel
theorem dX8_letter_11 : decode cX8_letter 11 = .ok (.ireturn, 1) := by decide +kernel
theorem dX8_letter_12 : decode cX8_letter 12 = .ok (.iload_n 2, 1) := by decide +kernel
theorem dX8_letter_13 : decode cX8_letter 13 = .ok (.tableswitch 69 0 5 #[39, 44, 49, 54, 59, 64], 39) := by decide +kernel
theorem dX8_letter_52 : decode cX8_letter 52 = .ok (.aload_n 3, 1) := by decide +kernel
theorem dX8_letter_53 : decode cX8_letter 53 = .ok (.getfield 175, 3) := by decide +kernel
theorem dX8_letter_56 : decode cX8_letter 56 = .ok (.ireturn, 1) := by decide +kernel
theorem dX8_letter_57 : decode cX8_letter 57 = .ok (.aload_n 3, 1) := by decide +kernel
theorem dX8_letter_58 : decode cX8_letter 58 = .ok (.invokevirtual 189, 3) := by decide +kernel
theorem dX8_letter_61 : decode cX8_letter 61 = .ok (.ireturn, 1) := by decide +kernel
theorem dX8_letter_62 : decode cX8_letter 62 = .ok (.aload_n 3, 1) := by decide +kernel
theorem dX8_letter_63 : decode cX8_letter 63 = .ok (.invokevirtual 240, 3) := by decide +kernel
theorem dX8_letter_66 : decode cX8_letter 66 = .ok (.ireturn, 1) := by decide +kernel
theorem dX8_letter_67 : decode cX8_letter 67 = .ok (.aload_n 3, 1) := by decide +kernel
theorem dX8_letter_68 : decode cX8_letter 68 = .ok (.invokevirtual 242, 3) := by decide +kernel
theorem dX8_letter_71 : decode cX8_letter 71 = .ok (.ireturn, 1) := by decide +kernel
theorem dX8_letter_72 : decode cX8_letter 72 = .ok (.aload_n 3, 1) := by decide +kernel
theorem dX8_letter_73 : decode cX8_letter 73 = .ok (.getfield 155, 3) := by decide +kernel
theorem dX8_letter_76 : decode cX8_letter 76 = .ok (.ireturn, 1) := by decide +kernel
theorem dX8_letter_77 : decode cX8_letter 77 = .ok (.aload_n 3, 1) := by decide +kernel
theorem dX8_letter_78 : decode cX8_letter 78 = .ok (.getfield 162, 3) := by decide +kernel
theorem dX8_letter_81 : decode cX8_letter 81 = .ok (.ireturn, 1) := by decide +kernel
theorem dX8_letter_82 : decode cX8_letter 82 = .ok (.iconst (-1), 1) := by decide +kernel
theorem dX8_letter_83 : decode cX8_letter 83 = .ok (.ireturn, 1) := by decide +kernel
theorem dX8_count_0 : decode cX8_count 0 = .ok (.iload_n 1, 1) := by decide +kernel
theorem dX8_count_1 : decode cX8_count 1 = .ok (.tableswitch 74 0 4 #[35, 42, 47, 58, 66], 35) := by decide +kernel
theorem dX8_count_36 : decode cX8_count 36 = .ok (.aload_n 0, 1) := by decide +kernel
theorem dX8_count_37 : decode cX8_count 37 = .ok (.getfield 58, 3) := by decide +kernel
theorem dX8_count_40 : decode cX8_count 40 = .ok (.iconst 2, 1) := by decide +kernel
theorem dX8_count_41 : decode cX8_count 41 = .ok (.idiv, 1) := by decide +kernel
theorem dX8_count_42 : decode cX8_count 42 = .ok (.ireturn, 1) := by decide +kernel
theorem dX8_count_43 : decode cX8_count 43 = .ok (.aload_n 0, 1) := by decide +kernel
theorem dX8_count_44 : decode cX8_count 44 = .ok (.getfield 142, 3) := by decide +kernel
theorem dX8_count_47 : decode cX8_count 47 = .ok (.ireturn, 1) := by decide +kernel
theorem dX8_count_48 : decode cX8_count 48 = .ok (.aload_n 0, 1) := by decide +kernel
theorem dX8_count_49 : decode cX8_count 49 = .ok (.getfield 10, 3) := by decide +kernel
theorem dX8_count_52 : decode cX8_count 52 = .ok (.getfield 244, 3) := by decide +kernel
theorem dX8_count_55 : decode cX8_count 55 = .ok (.invokevirtual 248, 3) := by decide +kernel
theorem dX8_count_58 : decode cX8_count 58 = .ok (.ireturn, 1) := by decide +kernel
theorem dX8_count_59 : decode cX8_count 59 = .ok (.aload_n 0, 1) := by decide +kernel
theorem dX8_count_60 : decode cX8_count 60 = .ok (.getfield 10, 3) := by decide +kernel
theorem dX8_count_63 : decode cX8_count 63 = .ok (.getfield 253, 3) := by decide +kernel
theorem dX8_count_66 : decode cX8_count 66 = .ok (.ireturn, 1) := by decide +kernel
theorem dX8_count_67 : decode cX8_count 67 = .ok (.aload_n 0, 1) := by decide +kernel
theorem dX8_count_68 : decode cX8_count 68 = .ok (.getfield 43, 3) := by decide +kernel
theorem dX8_count_71 : decode cX8_count 71 = .ok (.getfield 256, 3) := by decide +kernel
theorem dX8_count_74 : decode cX8_count 74 = .ok (.ireturn, 1) := by decide +kernel
theorem dX8_count_75 : decode cX8_count 75 = .ok (.iconst (-1), 1) := by decide +kernel
theorem dX8_count_76 : decode cX8_count 76 = .ok (.ireturn, 1) := by decide +kernel
theorem dX8_hold_0 : decode cX8_hold 0 = .ok (.aload_n 0, 1) := by decide +kernel
theorem dX8_hold_1 : decode cX8_hold 1 = .ok (.iload_n 1, 1) := by decide +kernel
theorem dX8_hold_2 : decode cX8_hold 2 = .ok (.invokevirtual 258, 3) := by decide +kernel
theorem dX8_hold_5 : decode cX8_hold 5 = .ok (.astore 4, 2) := by decide +kernel
theorem dX8_hold_7 : decode cX8_hold 7 = .ok (.aload 4, 2) := by decide +kernel
theorem dX8_hold_9 : decode cX8_hold 9 = .ok (.ifnull 13, 3) := by decide +kernel
theorem dX8_hold_12 : decode cX8_hold 12 = .ok (.iload_n 2, 1) := by decide +kernel
theorem dX8_hold_13 : decode cX8_hold 13 = .ok (.ifCond .lt 9, 3) := by decide +kernel
theorem dX8_hold_16 : decode cX8_hold 16 = .ok (.iload_n 2, 1) := by decide +kernel
theorem dX8_hold_17 : decode cX8_hold 17 = .ok (.bipush 7, 2) := by decide +kernel
theorem dX8_hold_19 : decode cX8_hold 19 = .ok (.if_icmp .le 9, 3) := by decide +kernel
theorem dX8_hold_22 : decode cX8_hold 22 = .ok (.aload_n 0, 1) := by decide +kernel
theorem dX8_hold_23 : decode cX8_hold 23 = .ok (.iconst 1, 1) := by decide +kernel
theorem dX8_hold_24 : decode cX8_hold 24 = .ok (.invokevirtual 54, 3) := by decide +kernel
theorem dX8_hold_27 : decode cX8_hold 27 = .ok (.ireturn, 1) := by decide +kernel
theorem dX8_hold_28 : decode cX8_hold 28 = .ok (.iload_n 2, 1) := by decide +kernel
theorem dX8_hold_29 : decode cX8_hold 29 = .ok (.ifCond .ne 16, 3) := by decide +kernel
theorem dX8_hold_32 : decode cX8_hold 32 = .ok (.aload 4, 2) := by decide +kernel
theorem dX8_hold_34 : decode cX8_hold 34 = .ok (.aconst_null, 1) := by decide +kernel
theorem dX8_hold_35 : decode cX8_hold 35 = .ok (.aconst_null, 1) := by decide +kernel
theorem dX8_hold_36 : decode cX8_hold 36 = .ok (.invokevirtual 262, 3) := by decide +kernel
theorem dX8_hold_39 : decode cX8_hold 39 = .ok (.aload_n 0, 1) := by decide +kernel
theorem dX8_hold_40 : decode cX8_hold 40 = .ok (.iconst 1, 1) := by decide +kernel
theorem dX8_hold_41 : decode cX8_hold 41 = .ok (.invokevirtual 69, 3) := by decide +kernel
theorem dX8_hold_44 : decode cX8_hold 44 = .ok (.ireturn, 1) := by decide +kernel
theorem dX8_hold_45 : decode cX8_hold 45 = .ok (.iload_n 2, 1) := by decide +kernel
theorem dX8_hold_46 : decode cX8_hold 46 = .ok (.iconst 2, 1) := by decide +kernel
theorem dX8_hold_47 : decode cX8_hold 47 = .ok (.if_icmp .gt 18, 3) := by decide +kernel
theorem dX8_hold_50 : decode cX8_hold 50 = .ok (.aload_n 0, 1) := by decide +kernel
theorem dX8_hold_51 : decode cX8_hold 51 = .ok (.aload 4, 2) := by decide +kernel
theorem dX8_hold_53 : decode cX8_hold 53 = .ok (.iload_n 2, 1) := by decide +kernel
theorem dX8_hold_54 : decode cX8_hold 54 = .ok (.aload_n 0, 1) := by decide +kernel
theorem dX8_hold_55 : decode cX8_hold 55 = .ok (.iload_n 3, 1) := by decide +kernel
theorem dX8_hold_56 : decode cX8_hold 56 = .ok (.invokevirtual 171, 3) := by decide +kernel
theorem dX8_hold_59 : decode cX8_hold 59 = .ok (.invokevirtual 266, 3) := by decide +kernel
theorem dX8_hold_62 : decode cX8_hold 62 = .ok (.goto 15, 3) := by decide +kernel
theorem dX8_hold_65 : decode cX8_hold 65 = .ok (.aload_n 0, 1) := by decide +kernel
theorem dX8_hold_66 : decode cX8_hold 66 = .ok (.aload 4, 2) := by decide +kernel
theorem dX8_hold_68 : decode cX8_hold 68 = .ok (.iload_n 2, 1) := by decide +kernel
theorem dX8_hold_69 : decode cX8_hold 69 = .ok (.aload_n 0, 1) := by decide +kernel
theorem dX8_hold_70 : decode cX8_hold 70 = .ok (.iload_n 3, 1) := by decide +kernel
theorem dX8_hold_71 : decode cX8_hold 71 = .ok (.invokevirtual 78, 3) := by decide +kernel
theorem dX8_hold_74 : decode cX8_hold 74 = .ok (.invokevirtual 270, 3) := by decide +kernel
theorem dX8_hold_77 : decode cX8_hold 77 = .ok (.ireturn, 1) := by decide +kernel
theorem dX8_tray_0 : decode cX8_tray 0 = .ok (.aload_n 0, 1) := by decide +kernel
theorem dX8_tray_1 : decode cX8_tray 1 = .ok (.iload_n 1, 1) := by decide +kernel
theorem dX8_tray_2 : decode cX8_tray 2 = .ok (.invokevirtual 258, 3) := by decide +kernel
theorem dX8_tray_5 : decode cX8_tray 5 = .ok (.astore_n 2, 1) := by decide +kernel
theorem dX8_tray_6 : decode cX8_tray 6 = .ok (.aload_n 2, 1) := by decide +kernel
theorem dX8_tray_7 : decode cX8_tray 7 = .ok (.ifnonnull 5, 3) := by decide +kernel
theorem dX8_tray_10 : decode cX8_tray 10 = .ok (.iconst (-1), 1) := by decide +kernel
theorem dX8_tray_11 : decode cX8_tray 11 = .ok (.ireturn, 1) := by decide +kernel
theorem dX8_tray_12 : decode cX8_tray 12 = .ok (.aload_n 2, 1) := by decide +kernel
theorem dX8_tray_13 : decode cX8_tray 13 = .ok (.getfield 274, 3) := by decide +kernel
theorem dX8_tray_16 : decode cX8_tray 16 = .ok (.ifnull 5, 3) := by decide +kernel
theorem dX8_tray_19 : decode cX8_tray 19 = .ok (.iconst 1, 1) := by decide +kernel
theorem dX8_tray_20 : decode cX8_tray 20 = .ok (.ireturn, 1) := by decide +kernel
theorem dX8_tray_21 : decode cX8_tray 21 = .ok (.aload_n 2, 1) := by decide +kernel
theorem dX8_tray_22 : decode cX8_tray 22 = .ok (.getfield 278, 3) := by decide +kernel
theorem dX8_tray_25 : decode cX8_tray 25 = .ok (.ifnonnull 7, 3) := by decide +kernel
theorem dX8_tray_28 : decode cX8_tray 28 = .ok (.iconst 0, 1) := by decide +kernel
theorem dX8_tray_29 : decode cX8_tray 29 = .ok (.goto 12, 3) := by decide +kernel
theorem dX8_tray_32 : decode cX8_tray 32 = .ok (.iconst 2, 1) := by decide +kernel
theorem dX8_tray_33 : decode cX8_tray 33 = .ok (.aload_n 2, 1) := by decide +kernel
theorem dX8_tray_34 : decode cX8_tray 34 = .ok (.getfield 278, 3) := by decide +kernel
theorem dX8_tray_37 : decode cX8_tray 37 = .ok (.getfield 281, 3) := by decide +kernel
theorem dX8_tray_40 : decode cX8_tray 40 = .ok (.iadd, 1) := by decide +kernel
theorem dX8_tray_41 : decode cX8_tray 41 = .ok (.ireturn, 1) := by decide +kernel
theorem dX8_act_0 : decode cX8_act 0 = .ok (.aload_n 0, 1) := by decide +kernel
theorem dX8_act_1 : decode cX8_act 1 = .ok (.iload_n 1, 1) := by decide +kernel
theorem dX8_act_2 : decode cX8_act 2 = .ok (.invokevirtual 258, 3) := by decide +kernel
theorem dX8_act_5 : decode cX8_act 5 = .ok (.astore 4, 2) := by decide +kernel
theorem dX8_act_7 : decode cX8_act 7 = .ok (.aload 4, 2) := by decide +kernel
theorem dX8_act_9 : decode cX8_act 9 = .ok (.ifnull 12, 3) := by decide +kernel
theorem dX8_act_12 : decode cX8_act 12 = .ok (.iload_n 2, 1) := by decide +kernel
theorem dX8_act_13 : decode cX8_act 13 = .ok (.ifCond .lt 8, 3) := by decide +kernel
theorem dX8_act_16 : decode cX8_act 16 = .ok (.iload_n 2, 1) := by decide +kernel
theorem dX8_act_17 : decode cX8_act 17 = .ok (.iconst 4, 1) := by decide +kernel
theorem dX8_act_18 : decode cX8_act 18 = .ok (.if_icmp .lt 9, 3) := by decide +kernel
theorem dX8_act_21 : decode cX8_act 21 = .ok (.aload_n 0, 1) := by decide +kernel
theorem dX8_act_22 : decode cX8_act 22 = .ok (.iconst 1, 1) := by decide +kernel
theorem dX8_act_23 : decode cX8_act 23 = .ok (.invokevirtual 54, 3) := by decide +kernel
theorem dX8_act_26 : decode cX8_act 26 = .ok (.ireturn, 1) := by decide +kernel
theorem dX8_act_27 : decode cX8_act 27 = .ok (.aload 4, 2) := by decide +kernel
theorem dX8_act_29 : decode cX8_act 29 = .ok (.getfield 278, 3) := by decide +kernel
theorem dX8_act_32 : decode cX8_act 32 = .ok (.ifnonnull 9, 3) := by decide +kernel
theorem dX8_act_35 : decode cX8_act 35 = .ok (.aload_n 0, 1) := by decide +kernel
theorem dX8_act_36 : decode cX8_act 36 = .ok (.iconst 3, 1) := by decide +kernel
theorem dX8_act_37 : decode cX8_act 37 = .ok (.invokevirtual 54, 3) := by decide +kernel
theorem dX8_act_40 : decode cX8_act 40 = .ok (.ireturn, 1) := by decide +kernel
theorem dX8_act_41 : decode cX8_act 41 = .ok (.aload_n 0, 1) := by decide +kernel
theorem dX8_act_42 : decode cX8_act 42 = .ok (.getfield 43, 3) := by decide +kernel
theorem dX8_act_45 : decode cX8_act 45 = .ok (.iconst 0, 1) := by decide +kernel
theorem dX8_act_46 : decode cX8_act 46 = .ok (.putfield 256, 3) := by decide +kernel
theorem dX8_act_49 : decode cX8_act 49 = .ok (.aload_n 0, 1) := by decide +kernel
theorem dX8_act_50 : decode cX8_act 50 = .ok (.aload_n 0, 1) := by decide +kernel
theorem dX8_act_51 : decode cX8_act 51 = .ok (.getfield 43, 3) := by decide +kernel
theorem dX8_act_54 : decode cX8_act 54 = .ok (.aload 4, 2) := by decide +kernel
theorem dX8_act_56 : decode cX8_act 56 = .ok (.getfield 278, 3) := by decide +kernel
theorem dX8_act_59 : decode cX8_act 59 = .ok (.aload 4, 2) := by decide +kernel
theorem dX8_act_61 : decode cX8_act 61 = .ok (.getfield 278, 3) := by decide +kernel
theorem dX8_act_64 : decode cX8_act 64 = .ok (.getfield 281, 3) := by decide +kernel
theorem dX8_act_67 : decode cX8_act 67 = .ok (.iload_n 2, 1) := by decide +kernel
theorem dX8_act_68 : decode cX8_act 68 = .ok (.iload_n 3, 1) := by decide +kernel
theorem dX8_act_69 : decode cX8_act 69 = .ok (.iconst 0, 1) := by decide +kernel
theorem dX8_act_70 : decode cX8_act 70 = .ok (.invokestatic 284, 3) := by decide +kernel
theorem dX8_act_73 : decode cX8_act 73 = .ok (.invokevirtual 69, 3) := by decide +kernel
theorem dX8_act_76 : decode cX8_act 76 = .ok (.ireturn, 1) := by decide +kernel
theorem dX8_trace_0 : decode cX8_trace 0 = .ok (.iload_n 1, 1) := by decide +kernel
theorem dX8_trace_1 : decode cX8_trace 1 = .ok (.ifCond .lt 26, 3) := by decide +kernel
theorem dX8_trace_4 : decode cX8_trace 4 = .ok (.iload_n 1, 1) := by decide +kernel
theorem dX8_trace_5 : decode cX8_trace 5 = .ok (.aload_n 0, 1) := by decide +kernel
theorem dX8_trace_6 : decode cX8_trace 6 = .ok (.getfield 43, 3) := by decide +kernel
theorem dX8_trace_9 : decode cX8_trace 9 = .ok (.getfield 256, 3) := by decide +kernel
theorem dX8_trace_12 : decode cX8_trace 12 = .ok (.if_icmp .ge 15, 3) := by decide +kernel
theorem dX8_trace_15 : decode cX8_trace 15 = .ok (.aload_n 0, 1) := by decide +kernel
theorem dX8_trace_16 : decode cX8_trace 16 = .ok (.getfield 43, 3) := by decide +kernel
theorem dX8_trace_19 : decode cX8_trace 19 = .ok (.getfield 288, 3) := by decide +kernel
theorem dX8_trace_22 : decode cX8_trace 22 = .ok (.iload_n 1, 1) := by decide +kernel
theorem dX8_trace_23 : decode cX8_trace 23 = .ok (.iaload, 1) := by decide +kernel
theorem dX8_trace_24 : decode cX8_trace 24 = .ok (.goto 4, 3) := by decide +kernel
theorem dX8_trace_27 : decode cX8_trace 27 = .ok (.iconst (-1), 1) := by decide +kernel
theorem dX8_trace_28 : decode cX8_trace 28 = .ok (.ireturn, 1) := by decide +kernel
theorem dX8_forge_0 : decode cX8_forge 0 = .ok (.aload_n 0, 1) := by decide +kernel
theorem dX8_forge_1 : decode cX8_forge 1 = .ok (.iload_n 1, 1) := by decide +kernel
theorem dX8_forge_2 : decode cX8_forge 2 = .ok (.invokevirtual 258, 3) := by decide +kernel
theorem dX8_forge_5 : decode cX8_forge 5 = .ok (.astore 4, 2) := by decide +kernel
theorem dX8_forge_7 : decode cX8_forge 7 = .ok (.aload 4, 2) := by decide +kernel
theorem dX8_forge_9 : decode cX8_forge 9 = .ok (.ifnull 15, 3) := by decide +kernel
theorem dX8_forge_12 : decode cX8_forge 12 = .ok (.iload_n 3, 1) := by decide +kernel
theorem dX8_forge_13 : decode cX8_forge 13 = .ok (.bipush (-100), 2) := by decide +kernel
theorem dX8_forge_15 : decode cX8_forge 15 = .ok (.if_icmp .lt 9, 3) := by decide +kernel
theorem dX8_forge_18 : decode cX8_forge 18 = .ok (.iload_n 3, 1) := by decide +kernel
theorem dX8_forge_19 : decode cX8_forge 19 = .ok (.bipush 100, 2) := by decide +kernel
theorem dX8_forge_21 : decode cX8_forge 21 = .ok (.if_icmp .le 9, 3) := by decide +kernel
theorem dX8_forge_24 : decode cX8_forge 24 = .ok (.aload_n 0, 1) := by decide +kernel
theorem dX8_forge_25 : decode cX8_forge 25 = .ok (.iconst 1, 1) := by decide +kernel
theorem dX8_forge_26 : decode cX8_forge 26 = .ok (.invokevirtual 54, 3) := by decide +kernel
theorem dX8_forge_29 : decode cX8_forge 29 = .ok (.ireturn, 1) := by decide +kernel
theorem dX8_forge_30 : decode cX8_forge 30 = .ok (.iload_n 2, 1) := by decide +kernel
theorem dX8_forge_31 : decode cX8_forge 31 = .ok (.tableswitch 141 0 6 #[41, 54, 62, 81, 89, 96, 118], 41) := by decide +kernel
theorem dX8_forge_72 : decode cX8_forge 72 = .ok (.aload_n 0, 1) := by decide +kernel
theorem dX8_forge_73 : decode cX8_forge 73 = .ok (.aload 4, 2) := by decide +kernel
theorem dX8_forge_75 : decode cX8_forge 75 = .ok (.iload_n 3, 1) := by decide +kernel
theorem dX8_forge_76 : decode cX8_forge 76 = .ok (.bipush 6, 2) := by decide +kernel
theorem dX8_forge_78 : decode cX8_forge 78 = .ok (.invokestatic 291, 3) := by decide +kernel
theorem dX8_forge_81 : decode cX8_forge 81 = .ok (.invokevirtual 296, 3) := by decide +kernel
theorem dX8_forge_84 : decode cX8_forge 84 = .ok (.ireturn, 1) := by decide +kernel
theorem dX8_forge_85 : decode cX8_forge 85 = .ok (.aload_n 0, 1) := by decide +kernel
theorem dX8_forge_86 : decode cX8_forge 86 = .ok (.aload 4, 2) := by decide +kernel
theorem dX8_forge_88 : decode cX8_forge 88 = .ok (.iload_n 3, 1) := by decide +kernel
theorem dX8_forge_89 : decode cX8_forge 89 = .ok (.invokevirtual 300, 3) := by decide +kernel
theorem dX8_forge_92 : decode cX8_forge 92 = .ok (.ireturn, 1) := by decide +kernel
theorem dX8_forge_93 : decode cX8_forge 93 = .ok (.iload_n 3, 1) := by decide +kernel
theorem dX8_forge_94 : decode cX8_forge 94 = .ok (.ifCond .ge 12, 3) := by decide +kernel
theorem dX8_forge_97 : decode cX8_forge 97 = .ok (.aload_n 0, 1) := by decide +kernel
theorem dX8_forge_98 : decode cX8_forge 98 = .ok (.bipush 13, 2) := by decide +kernel
theorem dX8_forge_100 : decode cX8_forge 100 = .ok (.invokevirtual 54, 3) := by decide +kernel
theorem dX8_forge_103 : decode cX8_forge 103 = .ok (.goto 8, 3) := by decide +kernel
theorem dX8_forge_106 : decode cX8_forge 106 = .ok (.aload_n 0, 1) := by decide +kernel
theorem dX8_forge_107 : decode cX8_forge 107 = .ok (.iload_n 3, 1) := by decide +kernel
theorem dX8_forge_108 : decode cX8_forge 108 = .ok (.invokevirtual 69, 3) := by decide +kernel
theorem dX8_forge_111 : decode cX8_forge 111 = .ok (.ireturn, 1) := by decide +kernel
theorem dX8_forge_112 : decode cX8_forge 112 = .ok (.aload_n 0, 1) := by decide +kernel
theorem dX8_forge_113 : decode cX8_forge 113 = .ok (.aload 4, 2) := by decide +kernel
theorem dX8_forge_115 : decode cX8_forge 115 = .ok (.iload_n 3, 1) := by decide +kernel
theorem dX8_forge_116 : decode cX8_forge 116 = .ok (.invokevirtual 303, 3) := by decide +kernel
theorem dX8_forge_119 : decode cX8_forge 119 = .ok (.ireturn, 1) := by decide +kernel
theorem dX8_forge_120 : decode cX8_forge 120 = .ok (.aload_n 0, 1) := by decide +kernel
theorem dX8_forge_121 : decode cX8_forge 121 = .ok (.aload 4, 2) := by decide +kernel
theorem dX8_forge_123 : decode cX8_forge 123 = .ok (.invokevirtual 306, 3) := by decide +kernel
theorem dX8_forge_126 : decode cX8_forge 126 = .ok (.ireturn, 1) := by decide +kernel
theorem dX8_forge_127 : decode cX8_forge 127 = .ok (.iload_n 3, 1) := by decide +kernel
theorem dX8_forge_128 : decode cX8_forge 128 = .ok (.ifCond .ne 12, 3) := by decide +kernel
theorem dX8_forge_131 : decode cX8_forge 131 = .ok (.aload_n 0, 1) := by decide +kernel
theorem dX8_forge_132 : decode cX8_forge 132 = .ok (.bipush 15, 2) := by decide +kernel
theorem dX8_forge_134 : decode cX8_forge 134 = .ok (.invokevirtual 54, 3) := by decide +kernel
theorem dX8_forge_137 : decode cX8_forge 137 = .ok (.goto 11, 3) := by decide +kernel
theorem dX8_forge_140 : decode cX8_forge 140 = .ok (.aload_n 0, 1) := by decide +kernel
theorem dX8_forge_141 : decode cX8_forge 141 = .ok (.bipush 100, 2) := by decide +kernel
theorem dX8_forge_143 : decode cX8_forge 143 = .ok (.iload_n 3, 1) := by decide +kernel
theorem dX8_forge_144 : decode cX8_forge 144 = .ok (.idiv, 1) := by decide +kernel
theorem dX8_forge_145 : decode cX8_forge 145 = .ok (.invokevirtual 69, 3) := by decide +kernel
theorem dX8_forge_148 : decode cX8_forge 148 = .ok (.ireturn, 1) := by decide +kernel
theorem dX8_forge_149 : decode cX8_forge 149 = .ok (.iload_n 3, 1) := by decide +kernel
theorem dX8_forge_150 : decode cX8_forge 150 = .ok (.iconst 2, 1) := by decide +kernel
theorem dX8_forge_151 : decode cX8_forge 151 = .ok (.invokestatic 291, 3) := by decide +kernel
theorem dX8_forge_154 : decode cX8_forge 154 = .ok (.ifCond .ne 12, 3) := by decide +kernel
theorem dX8_forge_157 : decode cX8_forge 157 = .ok (.aload_n 0, 1) := by decide +kernel
theorem dX8_forge_158 : decode cX8_forge 158 = .ok (.bipush 10, 2) := by decide +kernel
theorem dX8_forge_160 : decode cX8_forge 160 = .ok (.invokevirtual 54, 3) := by decide +kernel
theorem dX8_forge_163 : decode cX8_forge 163 = .ok (.goto 8, 3) := by decide +kernel
theorem dX8_forge_166 : decode cX8_forge 166 = .ok (.aload_n 0, 1) := by decide +kernel
theorem dX8_forge_167 : decode cX8_forge 167 = .ok (.iconst 1, 1) := by decide +kernel
theorem dX8_forge_168 : decode cX8_forge 168 = .ok (.invokevirtual 69, 3) := by decide +kernel
theorem dX8_forge_171 : decode cX8_forge 171 = .ok (.ireturn, 1) := by decide +kernel
theorem dX8_forge_172 : decode cX8_forge 172 = .ok (.aload_n 0, 1) := by decide +kernel
theorem dX8_forge_173 : decode cX8_forge 173 = .ok (.iconst 1, 1) := by decide +kernel
theorem dX8_forge_174 : decode cX8_forge 174 = .ok (.invokevirtual 54, 3) := by decide +kernel
theorem dX8_forge_177 : decode cX8_forge 177 = .ok (.ireturn, 1) := by decide +kernel
theorem dX8_status_0 : decode cX8_status 0 = .ok (.aload_n 0, 1) := by decide +kernel
theorem dX8_status_1 : decode cX8_status 1 = .ok (.getfield 310, 3) := by decide +kernel
theorem dX8_status_4 : decode cX8_status 4 = .ok (.ireturn, 1) := by decide +kernel
theorem dX8_refuse_0 : decode cX8_refuse 0 = .ok (.aload_n 0, 1) := by decide +kernel
theorem dX8_refuse_1 : decode cX8_refuse 1 = .ok (.iload_n 1, 1) := by decide +kernel
theorem dX8_refuse_2 : decode cX8_refuse 2 = .ok (.putfield 310, 3) := by decide +kernel
theorem dX8_refuse_5 : decode cX8_refuse 5 = .ok (.iconst (-1), 1) := by decide +kernel
theorem dX8_refuse_6 : decode cX8_refuse 6 = .ok (.ireturn, 1) := by decide +kernel
theorem dX8_done_0 : decode cX8_done 0 = .ok (.aload_n 0, 1) := by decide +kernel
theorem dX8_done_1 : decode cX8_done 1 = .ok (.iconst 0, 1) := by decide +kernel
theorem dX8_done_2 : decode cX8_done 2 = .ok (.putfield 310, 3) := by decide +kernel
theorem dX8_done_5 : decode cX8_done 5 = .ok (.iload_n 1, 1) := by decide +kernel
theorem dX8_done_6 : decode cX8_done 6 = .ok (.ireturn, 1) := by decide +kernel
theorem dX8_endAt_0 : decode cX8_endAt 0 = .ok (.iload_n 1, 1) := by decide +kernel
theorem dX8_endAt_1 : decode cX8_endAt 1 = .ok (.ifCond .lt 20, 3) := by decide +kernel
theorem dX8_endAt_4 : decode cX8_endAt 4 = .ok (.iload_n 1, 1) := by decide +kernel
theorem dX8_endAt_5 : decode cX8_endAt 5 = .ok (.aload_n 0, 1) := by decide +kernel
theorem dX8_endAt_6 : decode cX8_endAt 6 = .ok (.getfield 58, 3) := by decide +kernel
theorem dX8_endAt_9 : decode cX8_endAt 9 = .ok (.if_icmp .ge 12, 3) := by decide +kernel
theorem dX8_endAt_12 : decode cX8_endAt 12 = .ok (.aload_n 0, 1) := by decide +kernel
theorem dX8_endAt_13 : decode cX8_endAt 13 = .ok (.getfield 23, 3) := by decide +kernel
theorem dX8_endAt_16 : decode cX8_endAt 16 = .ok (.iload_n 1, 1) := by decide +kernel
theorem dX8_endAt_17 : decode cX8_endAt 17 = .ok (.aaload, 1) := by decide +kernel
theorem dX8_endAt_18 : decode cX8_endAt 18 = .ok (.goto 4, 3) := by decide +kernel
theorem dX8_endAt_21 : decode cX8_endAt 21 = .ok (.aconst_null, 1) := by decide +kernel
theorem dX8_endAt_22 : decode cX8_endAt 22 = .ok (.areturn, 1) := by decide +kernel
theorem dX8_lowerOf_0 : decode cX8_lowerOf 0 = .ok (.iload_n 1, 1) := by decide +kernel
theorem dX8_lowerOf_1 : decode cX8_lowerOf 1 = .ok (.ifCond .lt 19, 3) := by decide +kernel
theorem dX8_lowerOf_4 : decode cX8_lowerOf 4 = .ok (.iload_n 1, 1) := by decide +kernel
theorem dX8_lowerOf_5 : decode cX8_lowerOf 5 = .ok (.bipush 6, 2) := by decide +kernel
theorem dX8_lowerOf_7 : decode cX8_lowerOf 7 = .ok (.if_icmp .ge 13, 3) := by decide +kernel
theorem dX8_lowerOf_10 : decode cX8_lowerOf 10 = .ok (.aload_n 0, 1) := by decide +kernel
theorem dX8_lowerOf_11 : decode cX8_lowerOf 11 = .ok (.iconst 2, 1) := by decide +kernel
theorem dX8_lowerOf_12 : decode cX8_lowerOf 12 = .ok (.iload_n 1, 1) := by decide +kernel
theorem dX8_lowerOf_13 : decode cX8_lowerOf 13 = .ok (.imul, 1) := by decide +kernel
theorem dX8_lowerOf_14 : decode cX8_lowerOf 14 = .ok (.invokevirtual 78, 3) := by decide +kernel
theorem dX8_lowerOf_17 : decode cX8_lowerOf 17 = .ok (.goto 4, 3) := by decide +kernel
theorem dX8_lowerOf_20 : decode cX8_lowerOf 20 = .ok (.aconst_null, 1) := by decide +kernel
theorem dX8_lowerOf_21 : decode cX8_lowerOf 21 = .ok (.areturn, 1) := by decide +kernel
theorem dX8_otherOf_0 : decode cX8_otherOf 0 = .ok (.iload_n 1, 1) := by decide +kernel
theorem dX8_otherOf_1 : decode cX8_otherOf 1 = .ok (.ifCond .lt 21, 3) := by decide +kernel
theorem dX8_otherOf_4 : decode cX8_otherOf 4 = .ok (.iload_n 1, 1) := by decide +kernel
theorem dX8_otherOf_5 : decode cX8_otherOf 5 = .ok (.bipush 6, 2) := by decide +kernel
theorem dX8_otherOf_7 : decode cX8_otherOf 7 = .ok (.if_icmp .ge 15, 3) := by decide +kernel
theorem dX8_otherOf_10 : decode cX8_otherOf 10 = .ok (.aload_n 0, 1) := by decide +kernel
theorem dX8_otherOf_11 : decode cX8_otherOf 11 = .ok (.iconst 2, 1) := by decide +kernel
theorem dX8_otherOf_12 : decode cX8_otherOf 12 = .ok (.iload_n 1, 1) := by decide +kernel
theorem dX8_otherOf_13 : decode cX8_otherOf 13 = .ok (.imul, 1) := by decide +kernel
theorem dX8_otherOf_14 : decode cX8_otherOf 14 = .ok (.iconst 1, 1) := by decide +kernel
theorem dX8_otherOf_15 : decode cX8_otherOf 15 = .ok (.iadd, 1) := by decide +kernel
theorem dX8_otherOf_16 : decode cX8_otherOf 16 = .ok (.invokevirtual 78, 3) := by decide +kernel
theorem dX8_otherOf_19 : decode cX8_otherOf 19 = .ok (.goto 4, 3) := by decide +kernel
theorem dX8_otherOf_22 : decode cX8_otherOf 22 = .ok (.aconst_null, 1) := by decide +kernel
theorem dX8_otherOf_23 : decode cX8_otherOf 23 = .ok (.areturn, 1) := by decide +kernel
theorem dX8_letterAt_0 : decode cX8_letterAt 0 = .ok (.iload_n 1, 1) := by decide +kernel
theorem dX8_letterAt_1 : decode cX8_letterAt 1 = .ok (.ifCond .lt 20, 3) := by decide +kernel
theorem dX8_letterAt_4 : decode cX8_letterAt 4 = .ok (.iload_n 1, 1) := by decide +kernel
theorem dX8_letterAt_5 : decode cX8_letterAt 5 = .ok (.aload_n 0, 1) := by decide +kernel
theorem dX8_letterAt_6 : decode cX8_letterAt 6 = .ok (.getfield 142, 3) := by decide +kernel
theorem dX8_letterAt_9 : decode cX8_letterAt 9 = .ok (.if_icmp .ge 12, 3) := by decide +kernel
theorem dX8_letterAt_12 : decode cX8_letterAt 12 = .ok (.aload_n 0, 1) := by decide +kernel
theorem dX8_letterAt_13 : decode cX8_letterAt 13 = .ok (.getfield 29, 3) := by decide +kernel
theorem dX8_letterAt_16 : decode cX8_letterAt 16 = .ok (.iload_n 1, 1) := by decide +kernel
theorem dX8_letterAt_17 : decode cX8_letterAt 17 = .ok (.aaload, 1) := by decide +kernel
theorem dX8_letterAt_18 : decode cX8_letterAt 18 = .ok (.goto 4, 3) := by decide +kernel
theorem dX8_letterAt_21 : decode cX8_letterAt 21 = .ok (.aconst_null, 1) := by decide +kernel
theorem dX8_letterAt_22 : decode cX8_letterAt 22 = .ok (.areturn, 1) := by decide +kernel
theorem dX8_trayAt_0 : decode cX8_trayAt 0 = .ok (.iload_n 1, 1) := by decide +kernel
theorem dX8_trayAt_1 : decode cX8_trayAt 1 = .ok (.ifCond .lt 18, 3) := by decide +kernel
theorem dX8_trayAt_4 : decode cX8_trayAt 4 = .ok (.iload_n 1, 1) := by decide +kernel
theorem dX8_trayAt_5 : decode cX8_trayAt 5 = .ok (.bipush 8, 2) := by decide +kernel
theorem dX8_trayAt_7 : decode cX8_trayAt 7 = .ok (.if_icmp .ge 12, 3) := by decide +kernel
theorem dX8_trayAt_10 : decode cX8_trayAt 10 = .ok (.aload_n 0, 1) := by decide +kernel
theorem dX8_trayAt_11 : decode cX8_trayAt 11 = .ok (.getfield 35, 3) := by decide +kernel
theorem dX8_trayAt_14 : decode cX8_trayAt 14 = .ok (.iload_n 1, 1) := by decide +kernel
theorem dX8_trayAt_15 : decode cX8_trayAt 15 = .ok (.aaload, 1) := by decide +kernel
theorem dX8_trayAt_16 : decode cX8_trayAt 16 = .ok (.goto 4, 3) := by decide +kernel
theorem dX8_trayAt_19 : decode cX8_trayAt 19 = .ok (.aconst_null, 1) := by decide +kernel
theorem dX8_trayAt_20 : decode cX8_trayAt 20 = .ok (.areturn, 1) := by decide +kernel
theorem dX8_valueOf_0 : decode cX8_valueOf 0 = .ok (.aload_n 0, 1) := by decide +kernel
theorem dX8_valueOf_1 : decode cX8_valueOf 1 = .ok (.ifnonnull 7, 3) := by decide +kernel
theorem dX8_valueOf_4 : decode cX8_valueOf 4 = .ok (.iconst (-1), 1) := by decide +kernel
theorem dX8_valueOf_5 : decode cX8_valueOf 5 = .ok (.goto 7, 3) := by decide +kernel
theorem dX8_valueOf_8 : decode cX8_valueOf 8 = .ok (.aload_n 0, 1) := by decide +kernel
theorem dX8_valueOf_9 : decode cX8_valueOf 9 = .ok (.getfield 131, 3) := by decide +kernel
theorem dX8_valueOf_12 : decode cX8_valueOf 12 = .ok (.ireturn, 1) := by decide +kernel
theorem dX8_takeByKept_0 : decode cX8_takeByKept 0 = .ok (.aload_n 0, 1) := by decide +kernel
theorem dX8_takeByKept_1 : decode cX8_takeByKept 1 = .ok (.aload_n 2, 1) := by decide +kernel
theorem dX8_takeByKept_2 : decode cX8_takeByKept 2 = .ok (.aload_n 1, 1) := by decide +kernel
theorem dX8_takeByKept_3 : decode cX8_takeByKept 3 = .ok (.getfield 209, 3) := by decide +kernel
theorem dX8_takeByKept_6 : decode cX8_takeByKept 6 = .ok (.iload_n 3, 1) := by decide +kernel
theorem dX8_takeByKept_7 : decode cX8_takeByKept 7 = .ok (.aaload, 1) := by decide +kernel
theorem dX8_takeByKept_8 : decode cX8_takeByKept 8 = .ok (.getfield 238, 3) := by decide +kernel
theorem dX8_takeByKept_11 : decode cX8_takeByKept 11 = .ok (.invokevirtual 313, 3) := by decide +kernel
theorem dX8_takeByKept_14 : decode cX8_takeByKept 14 = .ok (.istore 4, 2) := by decide +kernel
theorem dX8_takeByKept_16 : decode cX8_takeByKept 16 = .ok (.iload 4, 2) := by decide +kernel
theorem dX8_takeByKept_18 : decode cX8_takeByKept 18 = .ok (.iconst (-1), 1) := by decide +kernel
theorem dX8_takeByKept_19 : decode cX8_takeByKept 19 = .ok (.if_icmp .ne 10, 3) := by decide +kernel
theorem dX8_takeByKept_22 : decode cX8_takeByKept 22 = .ok (.aload_n 0, 1) := by decide +kernel
theorem dX8_takeByKept_23 : decode cX8_takeByKept 23 = .ok (.bipush 7, 2) := by decide +kernel
theorem dX8_takeByKept_25 : decode cX8_takeByKept 25 = .ok (.invokevirtual 54, 3) := by decide +kernel
theorem dX8_takeByKept_28 : decode cX8_takeByKept 28 = .ok (.ireturn, 1) := by decide +kernel
theorem dX8_takeByKept_29 : decode cX8_takeByKept 29 = .ok (.aload_n 1, 1) := by decide +kernel
theorem dX8_takeByKept_30 : decode cX8_takeByKept 30 = .ok (.iload_n 3, 1) := by decide +kernel
theorem dX8_takeByKept_31 : decode cX8_takeByKept 31 = .ok (.invokevirtual 317, 3) := by decide +kernel
theorem dX8_takeByKept_34 : decode cX8_takeByKept 34 = .ok (.aload_n 0, 1) := by decide +kernel
theorem dX8_takeByKept_35 : decode cX8_takeByKept 35 = .ok (.iload 4, 2) := by decide +kernel
theorem dX8_takeByKept_37 : decode cX8_takeByKept 37 = .ok (.invokevirtual 69, 3) := by decide +kernel
theorem dX8_takeByKept_40 : decode cX8_takeByKept 40 = .ok (.ireturn, 1) := by decide +kernel
theorem dX8_takeByChain_0 : decode cX8_takeByChain 0 = .ok (.aload_n 2, 1) := by decide +kernel
theorem dX8_takeByChain_1 : decode cX8_takeByChain 1 = .ok (.invokevirtual 242, 3) := by decide +kernel
theorem dX8_takeByChain_4 : decode cX8_takeByChain 4 = .ok (.aload_n 1, 1) := by decide +kernel
theorem dX8_takeByChain_5 : decode cX8_takeByChain 5 = .ok (.getfield 231, 3) := by decide +kernel
theorem dX8_takeByChain_8 : decode cX8_takeByChain 8 = .ok (.if_icmp .ge 9, 3) := by decide +kernel
theorem dX8_takeByChain_11 : decode cX8_takeByChain 11 = .ok (.aload_n 0, 1) := by decide +kernel
theorem dX8_takeByChain_12 : decode cX8_takeByChain 12 = .ok (.iconst 4, 1) := by decide +kernel
theorem dX8_takeByChain_13 : decode cX8_takeByChain 13 = .ok (.invokevirtual 54, 3) := by decide +kernel
theorem dX8_takeByChain_16 : decode cX8_takeByChain 16 = .ok (.ireturn, 1) := by decide +kernel
theorem dX8_takeByChain_17 : decode cX8_takeByChain 17 = .ok (.aload_n 2, 1) := by decide +kernel
theorem dX8_takeByChain_18 : decode cX8_takeByChain 18 = .ok (.invokevirtual 242, 3) := by decide +kernel
theorem dX8_takeByChain_21 : decode cX8_takeByChain 21 = .ok (.aload_n 1, 1) := by decide +kernel
theorem dX8_takeByChain_22 : decode cX8_takeByChain 22 = .ok (.getfield 231, 3) := by decide +kernel
theorem dX8_takeByChain_25 : decode cX8_takeByChain 25 = .ok (.isub, 1) := by decide +kernel
theorem dX8_takeByChain_26 : decode cX8_takeByChain 26 = .ok (.istore_n 3, 1) := by decide +kernel
theorem dX8_takeByChain_27 : decode cX8_takeByChain 27 = .ok (.iload_n 3, 1) := by decide +kernel
theorem dX8_takeByChain_28 : decode cX8_takeByChain 28 = .ok (.aload_n 0, 1) := by decide +kernel
theorem dX8_takeByChain_29 : decode cX8_takeByChain 29 = .ok (.getfield 47, 3) := by decide +kernel
theorem dX8_takeByChain_32 : decode cX8_takeByChain 32 = .ok (.if_icmp .le 9, 3) := by decide +kernel
theorem dX8_takeByChain_35 : decode cX8_takeByChain 35 = .ok (.aload_n 0, 1) := by decide +kernel
theorem dX8_takeByChain_36 : decode cX8_takeByChain 36 = .ok (.iconst 5, 1) := by decide +kernel
theorem dX8_takeByChain_37 : decode cX8_takeByChain 37 = .ok (.invokevirtual 54, 3) := by decide +kernel
theorem dX8_takeByChain_40 : decode cX8_takeByChain 40 = .ok (.ireturn, 1) := by decide +kernel
theorem dX8_takeByChain_41 : decode cX8_takeByChain 41 = .ok (.aload_n 0, 1) := by decide +kernel
theorem dX8_takeByChain_42 : decode cX8_takeByChain 42 = .ok (.aload_n 2, 1) := by decide +kernel
theorem dX8_takeByChain_43 : decode cX8_takeByChain 43 = .ok (.aload_n 0, 1) := by decide +kernel
theorem dX8_takeByChain_44 : decode cX8_takeByChain 44 = .ok (.aload_n 1, 1) := by decide +kernel
theorem dX8_takeByChain_45 : decode cX8_takeByChain 45 = .ok (.getfield 192, 3) := by decide +kernel
theorem dX8_takeByChain_48 : decode cX8_takeByChain 48 = .ok (.getfield 131, 3) := by decide +kernel
theorem dX8_takeByChain_51 : decode cX8_takeByChain 51 = .ok (.iload_n 3, 1) := by decide +kernel
theorem dX8_takeByChain_52 : decode cX8_takeByChain 52 = .ok (.invokevirtual 320, 3) := by decide +kernel
theorem dX8_takeByChain_55 : decode cX8_takeByChain 55 = .ok (.invokevirtual 313, 3) := by decide +kernel
theorem dX8_takeByChain_58 : decode cX8_takeByChain 58 = .ok (.istore 4, 2) := by decide +kernel
theorem dX8_takeByChain_60 : decode cX8_takeByChain 60 = .ok (.iload 4, 2) := by decide +kernel
theorem dX8_takeByChain_62 : decode cX8_takeByChain 62 = .ok (.iconst (-1), 1) := by decide +kernel
theorem dX8_takeByChain_63 : decode cX8_takeByChain 63 = .ok (.if_icmp .ne 10, 3) := by decide +kernel
theorem dX8_takeByChain_66 : decode cX8_takeByChain 66 = .ok (.aload_n 0, 1) := by decide +kernel
theorem dX8_takeByChain_67 : decode cX8_takeByChain 67 = .ok (.bipush 7, 2) := by decide +kernel
theorem dX8_takeByChain_69 : decode cX8_takeByChain 69 = .ok (.invokevirtual 54, 3) := by decide +kernel
theorem dX8_takeByChain_72 : decode cX8_takeByChain 72 = .ok (.ireturn, 1) := by decide +kernel
theorem dX8_takeByChain_73 : decode cX8_takeByChain 73 = .ok (.aload_n 0, 1) := by decide +kernel
theorem dX8_takeByChain_74 : decode cX8_takeByChain 74 = .ok (.aload_n 1, 1) := by decide +kernel
theorem dX8_takeByChain_75 : decode cX8_takeByChain 75 = .ok (.aload_n 2, 1) := by decide +kernel
theorem dX8_takeByChain_76 : decode cX8_takeByChain 76 = .ok (.invokevirtual 242, 3) := by decide +kernel
theorem dX8_takeByChain_79 : decode cX8_takeByChain 79 = .ok (.invokevirtual 323, 3) := by decide +kernel
theorem dX8_takeByChain_82 : decode cX8_takeByChain 82 = .ok (.aload_n 0, 1) := by decide +kernel
theorem dX8_takeByChain_83 : decode cX8_takeByChain 83 = .ok (.aload_n 1, 1) := by decide +kernel
theorem dX8_takeByChain_84 : decode cX8_takeByChain 84 = .ok (.invokevirtual 327, 3) := by decide +kernel
theorem dX8_takeByChain_87 : decode cX8_takeByChain 87 = .ok (.aload_n 0, 1) := by decide +kernel
theorem dX8_takeByChain_88 : decode cX8_takeByChain 88 = .ok (.iload 4, 2) := by decide +kernel
theorem dX8_takeByChain_90 : decode cX8_takeByChain 90 = .ok (.invokevirtual 69, 3) := by decide +kernel
theorem dX8_takeByChain_93 : decode cX8_takeByChain 93 = .ok (.ireturn, 1) := by decide +kernel
theorem dX8_takeNewPublic_0 : decode cX8_takeNewPublic 0 = .ok (.aload_n 2, 1) := by decide +kernel
theorem dX8_takeNewPublic_1 : decode cX8_takeNewPublic 1 = .ok (.invokevirtual 189, 3) := by decide +kernel
theorem dX8_takeNewPublic_4 : decode cX8_takeNewPublic 4 = .ok (.aload_n 1, 1) := by decide +kernel
theorem dX8_takeNewPublic_5 : decode cX8_takeNewPublic 5 = .ok (.getfield 139, 3) := by decide +kernel
theorem dX8_takeNewPublic_8 : decode cX8_takeNewPublic 8 = .ok (.if_icmp .eq 14, 3) := by decide +kernel
theorem dX8_takeNewPublic_11 : decode cX8_takeNewPublic 11 = .ok (.aload_n 1, 1) := by decide +kernel
theorem dX8_takeNewPublic_12 : decode cX8_takeNewPublic 12 = .ok (.aload_n 2, 1) := by decide +kernel
theorem dX8_takeNewPublic_13 : decode cX8_takeNewPublic 13 = .ok (.invokevirtual 189, 3) := by decide +kernel
theorem dX8_takeNewPublic_16 : decode cX8_takeNewPublic 16 = .ok (.invokevirtual 331, 3) := by decide +kernel
theorem dX8_takeNewPublic_19 : decode cX8_takeNewPublic 19 = .ok (.ifCond .eq 9, 3) := by decide +kernel
theorem dX8_takeNewPublic_22 : decode cX8_takeNewPublic 22 = .ok (.aload_n 0, 1) := by decide +kernel
theorem dX8_takeNewPublic_23 : decode cX8_takeNewPublic 23 = .ok (.iconst 4, 1) := by decide +kernel
theorem dX8_takeNewPublic_24 : decode cX8_takeNewPublic 24 = .ok (.invokevirtual 54, 3) := by decide +kernel
theorem dX8_takeNewPublic_27 : decode cX8_takeNewPublic 27 = .ok (.ireturn, 1) := by decide +kernel
theorem dX8_takeNewPublic_28 : decode cX8_takeNewPublic 28 = .ok (.aload_n 1, 1) := by decide +kernel
theorem dX8_takeNewPublic_29 : decode cX8_takeNewPublic 29 = .ok (.getfield 192, 3) := by decide +kernel
theorem dX8_takeNewPublic_32 : decode cX8_takeNewPublic 32 = .ok (.ifnonnull 7, 3) := by decide +kernel
theorem dX8_takeNewPublic_35 : decode cX8_takeNewPublic 35 = .ok (.iconst 0, 1) := by decide +kernel
theorem dX8_takeNewPublic_36 : decode cX8_takeNewPublic 36 = .ok (.goto 16, 3) := by decide +kernel
theorem dX8_takeNewPublic_39 : decode cX8_takeNewPublic 39 = .ok (.iconst 0, 1) := by decide +kernel
theorem dX8_takeNewPublic_40 : decode cX8_takeNewPublic 40 = .ok (.aload_n 2, 1) := by decide +kernel
theorem dX8_takeNewPublic_41 : decode cX8_takeNewPublic 41 = .ok (.invokevirtual 240, 3) := by decide +kernel
theorem dX8_takeNewPublic_44 : decode cX8_takeNewPublic 44 = .ok (.aload_n 1, 1) := by decide +kernel
theorem dX8_takeNewPublic_45 : decode cX8_takeNewPublic 45 = .ok (.getfield 231, 3) := by decide +kernel
theorem dX8_takeNewPublic_48 : decode cX8_takeNewPublic 48 = .ok (.isub, 1) := by decide +kernel
theorem dX8_takeNewPublic_49 : decode cX8_takeNewPublic 49 = .ok (.invokestatic 335, 3) := by decide +kernel
theorem dX8_takeNewPublic_52 : decode cX8_takeNewPublic 52 = .ok (.istore_n 3, 1) := by decide +kernel
theorem dX8_takeNewPublic_53 : decode cX8_takeNewPublic 53 = .ok (.iload_n 3, 1) := by decide +kernel
theorem dX8_takeNewPublic_54 : decode cX8_takeNewPublic 54 = .ok (.aload_n 2, 1) := by decide +kernel
theorem dX8_takeNewPublic_55 : decode cX8_takeNewPublic 55 = .ok (.invokevirtual 242, 3) := by decide +kernel
theorem dX8_takeNewPublic_58 : decode cX8_takeNewPublic 58 = .ok (.iadd, 1) := by decide +kernel
theorem dX8_takeNewPublic_59 : decode cX8_takeNewPublic 59 = .ok (.aload_n 0, 1) := by decide +kernel
theorem dX8_takeNewPublic_60 : decode cX8_takeNewPublic 60 = .ok (.getfield 47, 3) := by decide +kernel
theorem dX8_takeNewPublic_63 : decode cX8_takeNewPublic 63 = .ok (.if_icmp .le 9, 3) := by decide +kernel
theorem dX8_takeNewPublic_66 : decode cX8_takeNewPublic 66 = .ok (.aload_n 0, 1) := by decide +kernel
theorem dX8_takeNewPublic_67 : decode cX8_takeNewPublic 67 = .ok (.iconst 5, 1) := by decide +kernel
theorem dX8_takeNewPublic_68 : decode cX8_takeNewPublic 68 = .ok (.invokevirtual 54, 3) := by decide +kernel
theorem dX8_takeNewPublic_71 : decode cX8_takeNewPublic 71 = .ok (.ireturn, 1) := by decide +kernel
theorem dX8_takeNewPublic_72 : decode cX8_takeNewPublic 72 = .ok (.aload_n 1, 1) := by decide +kernel
theorem dX8_takeNewPublic_73 : decode cX8_takeNewPublic 73 = .ok (.getfield 82, 3) := by decide +kernel
theorem dX8_takeNewPublic_76 : decode cX8_takeNewPublic 76 = .ok (.ifCond .ne 10, 3) := by decide +kernel
theorem dX8_takeNewPublic_79 : decode cX8_takeNewPublic 79 = .ok (.aload_n 0, 1) := by decide +kernel
theorem dX8_takeNewPublic_80 : decode cX8_takeNewPublic 80 = .ok (.bipush 6, 2) := by decide +kernel
theorem dX8_takeNewPublic_82 : decode cX8_takeNewPublic 82 = .ok (.invokevirtual 54, 3) := by decide +kernel
theorem dX8_takeNewPublic_85 : decode cX8_takeNewPublic 85 = .ok (.ireturn, 1) := by decide +kernel
theorem dX8_takeNewPublic_86 : decode cX8_takeNewPublic 86 = .ok (.aload_n 0, 1) := by decide +kernel
theorem dX8_takeNewPublic_87 : decode cX8_takeNewPublic 87 = .ok (.getfield 20, 3) := by decide +kernel
theorem dX8_takeNewPublic_90 : decode cX8_takeNewPublic 90 = .ok (.aload_n 2, 1) := by decide +kernel
theorem dX8_takeNewPublic_91 : decode cX8_takeNewPublic 91 = .ok (.invokevirtual 189, 3) := by decide +kernel
theorem dX8_takeNewPublic_94 : decode cX8_takeNewPublic 94 = .ok (.aload_n 1, 1) := by decide +kernel
theorem dX8_takeNewPublic_95 : decode cX8_takeNewPublic 95 = .ok (.getfield 115, 3) := by decide +kernel
theorem dX8_takeNewPublic_98 : decode cX8_takeNewPublic 98 = .ok (.getfield 131, 3) := by decide +kernel
theorem dX8_takeNewPublic_101 : decode cX8_takeNewPublic 101 = .ok (.invokevirtual 338, 3) := by decide +kernel
theorem dX8_takeNewPublic_104 : decode cX8_takeNewPublic 104 = .ok (.istore 4, 2) := by decide +kernel
theorem dX8_takeNewPublic_106 : decode cX8_takeNewPublic 106 = .ok (.aload_n 0, 1) := by decide +kernel
theorem dX8_takeNewPublic_107 : decode cX8_takeNewPublic 107 = .ok (.getfield 20, 3) := by decide +kernel
theorem dX8_takeNewPublic_110 : decode cX8_takeNewPublic 110 = .ok (.aload_n 0, 1) := by decide +kernel
theorem dX8_takeNewPublic_111 : decode cX8_takeNewPublic 111 = .ok (.getfield 20, 3) := by decide +kernel
theorem dX8_takeNewPublic_114 : decode cX8_takeNewPublic 114 = .ok (.aload_n 1, 1) := by decide +kernel
theorem dX8_takeNewPublic_115 : decode cX8_takeNewPublic 115 = .ok (.getfield 119, 3) := by decide +kernel
theorem dX8_takeNewPublic_118 : decode cX8_takeNewPublic 118 = .ok (.getfield 131, 3) := by decide +kernel
theorem dX8_takeNewPublic_121 : decode cX8_takeNewPublic 121 = .ok (.iload 4, 2) := by decide +kernel
theorem dX8_takeNewPublic_123 : decode cX8_takeNewPublic 123 = .ok (.invokevirtual 158, 3) := by decide +kernel
theorem dX8_takeNewPublic_126 : decode cX8_takeNewPublic 126 = .ok (.iconst 3, 1) := by decide +kernel
theorem dX8_takeNewPublic_127 : decode cX8_takeNewPublic 127 = .ok (.invokevirtual 158, 3) := by decide +kernel
theorem dX8_takeNewPublic_130 : decode cX8_takeNewPublic 130 = .ok (.istore 5, 2) := by decide +kernel
theorem dX8_takeNewPublic_132 : decode cX8_takeNewPublic 132 = .ok (.aload_n 0, 1) := by decide +kernel
theorem dX8_takeNewPublic_133 : decode cX8_takeNewPublic 133 = .ok (.aload_n 2, 1) := by decide +kernel
theorem dX8_takeNewPublic_134 : decode cX8_takeNewPublic 134 = .ok (.aload_n 0, 1) := by decide +kernel
theorem dX8_takeNewPublic_135 : decode cX8_takeNewPublic 135 = .ok (.iload 5, 2) := by decide +kernel
theorem dX8_takeNewPublic_137 : decode cX8_takeNewPublic 137 = .ok (.aload_n 2, 1) := by decide +kernel
theorem dX8_takeNewPublic_138 : decode cX8_takeNewPublic 138 = .ok (.invokevirtual 242, 3) := by decide +kernel
theorem dX8_takeNewPublic_141 : decode cX8_takeNewPublic 141 = .ok (.invokevirtual 320, 3) := by decide +kernel
theorem dX8_takeNewPublic_144 : decode cX8_takeNewPublic 144 = .ok (.invokevirtual 313, 3) := by decide +kernel
theorem dX8_takeNewPublic_147 : decode cX8_takeNewPublic 147 = .ok (.istore 6, 2) := by decide +kernel
theorem dX8_takeNewPublic_149 : decode cX8_takeNewPublic 149 = .ok (.iload 6, 2) := by decide +kernel
theorem dX8_takeNewPublic_151 : decode cX8_takeNewPublic 151 = .ok (.iconst (-1), 1) := by decide +kernel
theorem dX8_takeNewPublic_152 : decode cX8_takeNewPublic 152 = .ok (.if_icmp .ne 10, 3) := by decide +kernel
theorem dX8_takeNewPublic_155 : decode cX8_takeNewPublic 155 = .ok (.aload_n 0, 1) := by decide +kernel
theorem dX8_takeNewPublic_156 : decode cX8_takeNewPublic 156 = .ok (.bipush 7, 2) := by decide +kernel
theorem dX8_takeNewPublic_158 : decode cX8_takeNewPublic 158 = .ok (.invokevirtual 54, 3) := by decide +kernel
theorem dX8_takeNewPublic_161 : decode cX8_takeNewPublic 161 = .ok (.ireturn, 1) := by decide +kernel
theorem dX8_takeNewPublic_162 : decode cX8_takeNewPublic 162 = .ok (.iload_n 3, 1) := by decide +kernel
theorem dX8_takeNewPublic_163 : decode cX8_takeNewPublic 163 = .ok (.ifCond .le 12, 3) := by decide +kernel
theorem dX8_takeNewPublic_166 : decode cX8_takeNewPublic 166 = .ok (.aload_n 0, 1) := by decide +kernel
theorem dX8_takeNewPublic_167 : decode cX8_takeNewPublic 167 = .ok (.aload_n 1, 1) := by decide +kernel
theorem dX8_takeNewPublic_168 : decode cX8_takeNewPublic 168 = .ok (.aload_n 2, 1) := by decide +kernel
theorem dX8_takeNewPublic_169 : decode cX8_takeNewPublic 169 = .ok (.invokevirtual 240, 3) := by decide +kernel
theorem dX8_takeNewPublic_172 : decode cX8_takeNewPublic 172 = .ok (.invokevirtual 323, 3) := by decide +kernel
theorem dX8_takeNewPublic_175 : decode cX8_takeNewPublic 175 = .ok (.aload_n 0, 1) := by decide +kernel
theorem dX8_takeNewPublic_176 : decode cX8_takeNewPublic 176 = .ok (.aload_n 1, 1) := by decide +kernel
theorem dX8_takeNewPublic_177 : decode cX8_takeNewPublic 177 = .ok (.aload_n 2, 1) := by decide +kernel
theorem dX8_takeNewPublic_178 : decode cX8_takeNewPublic 178 = .ok (.invokevirtual 341, 3) := by decide +kernel
theorem dX8_takeNewPublic_181 : decode cX8_takeNewPublic 181 = .ok (.aload_n 0, 1) := by decide +kernel
theorem dX8_takeNewPublic_182 : decode cX8_takeNewPublic 182 = .ok (.iload 6, 2) := by decide +kernel
theorem dX8_takeNewPublic_184 : decode cX8_takeNewPublic 184 = .ok (.invokevirtual 69, 3) := by decide +kernel
theorem dX8_takeNewPublic_187 : decode cX8_takeNewPublic 187 = .ok (.ireturn, 1) := by decide +kernel
theorem dX8_turn_0 : decode cX8_turn 0 = .ok (.aload_n 0, 1) := by decide +kernel
theorem dX8_turn_1 : decode cX8_turn 1 = .ok (.getfield 10, 3) := by decide +kernel
theorem dX8_turn_4 : decode cX8_turn 4 = .ok (.aload_n 1, 1) := by decide +kernel
theorem dX8_turn_5 : decode cX8_turn 5 = .ok (.getfield 119, 3) := by decide +kernel
theorem dX8_turn_8 : decode cX8_turn 8 = .ok (.aload_n 0, 1) := by decide +kernel
theorem dX8_turn_9 : decode cX8_turn 9 = .ok (.aload_n 1, 1) := by decide +kernel
theorem dX8_turn_10 : decode cX8_turn 10 = .ok (.aload_n 2, 1) := by decide +kernel
theorem dX8_turn_11 : decode cX8_turn 11 = .ok (.getfield 345, 3) := by decide +kernel
theorem dX8_turn_14 : decode cX8_turn 14 = .ok (.invokevirtual 348, 3) := by decide +kernel
theorem dX8_turn_17 : decode cX8_turn 17 = .ok (.invokevirtual 122, 3) := by decide +kernel
theorem dX8_turn_20 : decode cX8_turn 20 = .ok (.astore_n 3, 1) := by decide +kernel
theorem dX8_turn_21 : decode cX8_turn 21 = .ok (.aload_n 1, 1) := by decide +kernel
theorem dX8_turn_22 : decode cX8_turn 22 = .ok (.invokevirtual 352, 3) := by decide +kernel
theorem dX8_turn_25 : decode cX8_turn 25 = .ok (.aload_n 1, 1) := by decide +kernel
theorem dX8_turn_26 : decode cX8_turn 26 = .ok (.aload_n 2, 1) := by decide +kernel
theorem dX8_turn_27 : decode cX8_turn 27 = .ok (.invokevirtual 189, 3) := by decide +kernel
theorem dX8_turn_30 : decode cX8_turn 30 = .ok (.putfield 139, 3) := by decide +kernel
theorem dX8_turn_33 : decode cX8_turn 33 = .ok (.aload_n 1, 1) := by decide +kernel
theorem dX8_turn_34 : decode cX8_turn 34 = .ok (.aload_n 0, 1) := by decide +kernel
theorem dX8_turn_35 : decode cX8_turn 35 = .ok (.getfield 10, 3) := by decide +kernel
theorem dX8_turn_38 : decode cX8_turn 38 = .ok (.aload_n 3, 1) := by decide +kernel
theorem dX8_turn_39 : decode cX8_turn 39 = .ok (.invokevirtual 125, 3) := by decide +kernel
theorem dX8_turn_42 : decode cX8_turn 42 = .ok (.putfield 192, 3) := by decide +kernel
theorem dX8_turn_45 : decode cX8_turn 45 = .ok (.aload_n 1, 1) := by decide +kernel
theorem dX8_turn_46 : decode cX8_turn 46 = .ok (.iconst 0, 1) := by decide +kernel
theorem dX8_turn_47 : decode cX8_turn 47 = .ok (.putfield 231, 3) := by decide +kernel
theorem dX8_turn_50 : decode cX8_turn 50 = .ok (.aload_n 0, 1) := by decide +kernel
theorem dX8_turn_51 : decode cX8_turn 51 = .ok (.aload_n 1, 1) := by decide +kernel
theorem dX8_turn_52 : decode cX8_turn 52 = .ok (.aload_n 2, 1) := by decide +kernel
theorem dX8_turn_53 : decode cX8_turn 53 = .ok (.invokevirtual 242, 3) := by decide +kernel
theorem dX8_turn_56 : decode cX8_turn 56 = .ok (.invokevirtual 323, 3) := by decide +kernel
theorem dX8_turn_59 : decode cX8_turn 59 = .ok (.aload_n 0, 1) := by decide +kernel
theorem dX8_turn_60 : decode cX8_turn 60 = .ok (.aload_n 1, 1) := by decide +kernel
theorem dX8_turn_61 : decode cX8_turn 61 = .ok (.invokevirtual 327, 3) := by decide +kernel
theorem dX8_turn_64 : decode cX8_turn 64 = .ok (.aload_n 1, 1) := by decide +kernel
theorem dX8_turn_65 : decode cX8_turn 65 = .ok (.aload_n 1, 1) := by decide +kernel
theorem dX8_turn_66 : decode cX8_turn 66 = .ok (.invokevirtual 103, 3) := by decide +kernel
theorem dX8_turn_69 : decode cX8_turn 69 = .ok (.putfield 115, 3) := by decide +kernel
theorem dX8_turn_72 : decode cX8_turn 72 = .ok (.aload_n 1, 1) := by decide +kernel
theorem dX8_turn_73 : decode cX8_turn 73 = .ok (.aload_n 0, 1) := by decide +kernel
theorem dX8_turn_74 : decode cX8_turn 74 = .ok (.getfield 10, 3) := by decide +kernel
theorem dX8_turn_77 : decode cX8_turn 77 = .ok (.aload_n 3, 1) := by decide +kernel
theorem dX8_turn_78 : decode cX8_turn 78 = .ok (.aload_n 0, 1) := by decide +kernel
theorem dX8_turn_79 : decode cX8_turn 79 = .ok (.aload_n 1, 1) := by decide +kernel
theorem dX8_turn_80 : decode cX8_turn 80 = .ok (.aload_n 2, 1) := by decide +kernel
theorem dX8_turn_81 : decode cX8_turn 81 = .ok (.getfield 345, 3) := by decide +kernel
theorem dX8_turn_84 : decode cX8_turn 84 = .ok (.invokevirtual 348, 3) := by decide +kernel
theorem dX8_turn_87 : decode cX8_turn 87 = .ok (.invokevirtual 122, 3) := by decide +kernel
theorem dX8_turn_90 : decode cX8_turn 90 = .ok (.putfield 119, 3) := by decide +kernel
theorem dX8_turn_93 : decode cX8_turn 93 = .ok (.aload_n 1, 1) := by decide +kernel
theorem dX8_turn_94 : decode cX8_turn 94 = .ok (.aload_n 0, 1) := by decide +kernel
theorem dX8_turn_95 : decode cX8_turn 95 = .ok (.getfield 10, 3) := by decide +kernel
theorem dX8_turn_98 : decode cX8_turn 98 = .ok (.aload_n 1, 1) := by decide +kernel
theorem dX8_turn_99 : decode cX8_turn 99 = .ok (.getfield 119, 3) := by decide +kernel
theorem dX8_turn_102 : decode cX8_turn 102 = .ok (.invokevirtual 125, 3) := by decide +kernel
theorem dX8_turn_105 : decode cX8_turn 105 = .ok (.putfield 128, 3) := by decide +kernel
theorem dX8_turn_108 : decode cX8_turn 108 = .ok (.aload_n 1, 1) := by decide +kernel
theorem dX8_turn_109 : decode cX8_turn 109 = .ok (.aload_n 1, 1) := by decide +kernel
theorem dX8_turn_110 : decode cX8_turn 110 = .ok (.getfield 168, 3) := by decide +kernel
theorem dX8_turn_113 : decode cX8_turn 113 = .ok (.putfield 228, 3) := by decide +kernel
theorem dX8_turn_116 : decode cX8_turn 116 = .ok (.aload_n 1, 1) := by decide +kernel
theorem dX8_turn_117 : decode cX8_turn 117 = .ok (.iconst 0, 1) := by decide +kernel
theorem dX8_turn_118 : decode cX8_turn 118 = .ok (.putfield 168, 3) := by decide +kernel
theorem dX8_turn_121 : decode cX8_turn 121 = .ok (.return_, 1) := by decide +kernel
theorem dX8_meetingAt_0 : decode cX8_meetingAt 0 = .ok (.aload_n 1, 1) := by decide +kernel
theorem dX8_meetingAt_1 : decode cX8_meetingAt 1 = .ok (.getfield 178, 3) := by decide +kernel
theorem dX8_meetingAt_4 : decode cX8_meetingAt 4 = .ok (.iconst 2, 1) := by decide +kernel
theorem dX8_meetingAt_5 : decode cX8_meetingAt 5 = .ok (.irem, 1) := by decide +kernel
theorem dX8_meetingAt_6 : decode cX8_meetingAt 6 = .ok (.ifCond .ne 18, 3) := by decide +kernel
theorem dX8_meetingAt_9 : decode cX8_meetingAt 9 = .ok (.aload_n 0, 1) := by decide +kernel
theorem dX8_meetingAt_10 : decode cX8_meetingAt 10 = .ok (.getfield 10, 3) := by decide +kernel
theorem dX8_meetingAt_13 : decode cX8_meetingAt 13 = .ok (.aload_n 1, 1) := by decide +kernel
theorem dX8_meetingAt_14 : decode cX8_meetingAt 14 = .ok (.getfield 115, 3) := by decide +kernel
theorem dX8_meetingAt_17 : decode cX8_meetingAt 17 = .ok (.aload_n 2, 1) := by decide +kernel
theorem dX8_meetingAt_18 : decode cX8_meetingAt 18 = .ok (.invokevirtual 107, 3) := by decide +kernel
theorem dX8_meetingAt_21 : decode cX8_meetingAt 21 = .ok (.goto 15, 3) := by decide +kernel
theorem dX8_meetingAt_24 : decode cX8_meetingAt 24 = .ok (.aload_n 0, 1) := by decide +kernel
theorem dX8_meetingAt_25 : decode cX8_meetingAt 25 = .ok (.getfield 10, 3) := by decide +kernel
theorem dX8_meetingAt_28 : decode cX8_meetingAt 28 = .ok (.aload_n 2, 1) := by decide +kernel
theorem dX8_meetingAt_29 : decode cX8_meetingAt 29 = .ok (.aload_n 1, 1) := by decide +kernel
theorem dX8_meetingAt_30 : decode cX8_meetingAt 30 = .ok (.getfield 115, 3) := by decide +kernel
theorem dX8_meetingAt_33 : decode cX8_meetingAt 33 = .ok (.invokevirtual 107, 3) := by decide +kernel
theorem dX8_meetingAt_36 : decode cX8_meetingAt 36 = .ok (.areturn, 1) := by decide +kernel
theorem dX8_skipTo_0 : decode cX8_skipTo 0 = .ok (.aload_n 1, 1) := by decide +kernel
theorem dX8_skipTo_1 : decode cX8_skipTo 1 = .ok (.getfield 231, 3) := by decide +kernel
theorem dX8_skipTo_4 : decode cX8_skipTo 4 = .ok (.istore_n 3, 1) := by decide +kernel
theorem dX8_skipTo_5 : decode cX8_skipTo 5 = .ok (.iload_n 3, 1) := by decide +kernel
theorem dX8_skipTo_6 : decode cX8_skipTo 6 = .ok (.iload_n 2, 1) := by decide +kernel
theorem dX8_skipTo_7 : decode cX8_skipTo 7 = .ok (.if_icmp .ge 65, 3) := by decide +kernel
theorem dX8_skipTo_10 : decode cX8_skipTo 10 = .ok (.aload_n 1, 1) := by decide +kernel
theorem dX8_skipTo_11 : decode cX8_skipTo 11 = .ok (.new 214, 3) := by decide +kernel
theorem dX8_skipTo_14 : decode cX8_skipTo 14 = .ok (.dup, 1) := by decide +kernel
theorem dX8_skipTo_15 : decode cX8_skipTo 15 = .ok (.aload_n 0, 1) := by decide +kernel
theorem dX8_skipTo_16 : decode cX8_skipTo 16 = .ok (.getfield 10, 3) := by decide +kernel
theorem dX8_skipTo_19 : decode cX8_skipTo 19 = .ok (.aload_n 1, 1) := by decide +kernel
theorem dX8_skipTo_20 : decode cX8_skipTo 20 = .ok (.getfield 192, 3) := by decide +kernel
theorem dX8_skipTo_23 : decode cX8_skipTo 23 = .ok (.invokevirtual 145, 3) := by decide +kernel
theorem dX8_skipTo_26 : decode cX8_skipTo 26 = .ok (.aload_n 1, 1) := by decide +kernel
theorem dX8_skipTo_27 : decode cX8_skipTo 27 = .ok (.getfield 139, 3) := by decide +kernel
theorem dX8_skipTo_30 : decode cX8_skipTo 30 = .ok (.iload_n 3, 1) := by decide +kernel
theorem dX8_skipTo_31 : decode cX8_skipTo 31 = .ok (.aload_n 0, 1) := by decide +kernel
theorem dX8_skipTo_32 : decode cX8_skipTo 32 = .ok (.getfield 142, 3) := by decide +kernel
theorem dX8_skipTo_35 : decode cX8_skipTo 35 = .ok (.invokespecial 355, 3) := by decide +kernel
theorem dX8_skipTo_38 : decode cX8_skipTo 38 = .ok (.invokevirtual 358, 3) := by decide +kernel
theorem dX8_skipTo_41 : decode cX8_skipTo 41 = .ok (.aload_n 1, 1) := by decide +kernel
theorem dX8_skipTo_42 : decode cX8_skipTo 42 = .ok (.aload_n 0, 1) := by decide +kernel
theorem dX8_skipTo_43 : decode cX8_skipTo 43 = .ok (.getfield 10, 3) := by decide +kernel
theorem dX8_skipTo_46 : decode cX8_skipTo 46 = .ok (.aload_n 1, 1) := by decide +kernel
theorem dX8_skipTo_47 : decode cX8_skipTo 47 = .ok (.getfield 192, 3) := by decide +kernel
theorem dX8_skipTo_50 : decode cX8_skipTo 50 = .ok (.invokevirtual 165, 3) := by decide +kernel
theorem dX8_skipTo_53 : decode cX8_skipTo 53 = .ok (.putfield 192, 3) := by decide +kernel
theorem dX8_skipTo_56 : decode cX8_skipTo 56 = .ok (.aload_n 1, 1) := by decide +kernel
theorem dX8_skipTo_57 : decode cX8_skipTo 57 = .ok (.dup, 1) := by decide +kernel
theorem dX8_skipTo_58 : decode cX8_skipTo 58 = .ok (.getfield 231, 3) := by decide +kernel
theorem dX8_skipTo_61 : decode cX8_skipTo 61 = .ok (.iconst 1, 1) := by decide +kernel
theorem dX8_skipTo_62 : decode cX8_skipTo 62 = .ok (.iadd, 1) := by decide +kernel
theorem dX8_skipTo_63 : decode cX8_skipTo 63 = .ok (.putfield 231, 3) := by decide +kernel
theorem dX8_skipTo_66 : decode cX8_skipTo 66 = .ok (.iinc 3 1, 3) := by decide +kernel
theorem dX8_skipTo_69 : decode cX8_skipTo 69 = .ok (.goto (-64), 3) := by decide +kernel
theorem dX8_skipTo_72 : decode cX8_skipTo 72 = .ok (.return_, 1) := by decide +kernel
theorem dX8_passOne_0 : decode cX8_passOne 0 = .ok (.aload_n 0, 1) := by decide +kernel
theorem dX8_passOne_1 : decode cX8_passOne 1 = .ok (.getfield 10, 3) := by decide +kernel
theorem dX8_passOne_4 : decode cX8_passOne 4 = .ok (.aload_n 1, 1) := by decide +kernel
theorem dX8_passOne_5 : decode cX8_passOne 5 = .ok (.getfield 192, 3) := by decide +kernel
theorem dX8_passOne_8 : decode cX8_passOne 8 = .ok (.invokevirtual 145, 3) := by decide +kernel
theorem dX8_passOne_11 : decode cX8_passOne 11 = .ok (.pop, 1) := by decide +kernel
theorem dX8_passOne_12 : decode cX8_passOne 12 = .ok (.aload_n 1, 1) := by decide +kernel
theorem dX8_passOne_13 : decode cX8_passOne 13 = .ok (.aload_n 0, 1) := by decide +kernel
theorem dX8_passOne_14 : decode cX8_passOne 14 = .ok (.getfield 10, 3) := by decide +kernel
theorem dX8_passOne_17 : decode cX8_passOne 17 = .ok (.aload_n 1, 1) := by decide +kernel
theorem dX8_passOne_18 : decode cX8_passOne 18 = .ok (.getfield 192, 3) := by decide +kernel
theorem dX8_passOne_21 : decode cX8_passOne 21 = .ok (.invokevirtual 165, 3) := by decide +kernel
theorem dX8_passOne_24 : decode cX8_passOne 24 = .ok (.putfield 192, 3) := by decide +kernel
theorem dX8_passOne_27 : decode cX8_passOne 27 = .ok (.aload_n 1, 1) := by decide +kernel
theorem dX8_passOne_28 : decode cX8_passOne 28 = .ok (.dup, 1) := by decide +kernel
theorem dX8_passOne_29 : decode cX8_passOne 29 = .ok (.getfield 231, 3) := by decide +kernel
theorem dX8_passOne_32 : decode cX8_passOne 32 = .ok (.iconst 1, 1) := by decide +kernel
theorem dX8_passOne_33 : decode cX8_passOne 33 = .ok (.iadd, 1) := by decide +kernel
theorem dX8_passOne_34 : decode cX8_passOne 34 = .ok (.putfield 231, 3) := by decide +kernel
theorem dX8_passOne_37 : decode cX8_passOne 37 = .ok (.return_, 1) := by decide +kernel
theorem dX8_keyAhead_0 : decode cX8_keyAhead 0 = .ok (.iload_n 1, 1) := by decide +kernel
theorem dX8_keyAhead_1 : decode cX8_keyAhead 1 = .ok (.istore_n 3, 1) := by decide +kernel
theorem dX8_keyAhead_2 : decode cX8_keyAhead 2 = .ok (.iconst 0, 1) := by decide +kernel
theorem dX8_keyAhead_3 : decode cX8_keyAhead 3 = .ok (.istore 4, 2) := by decide +kernel
theorem dX8_keyAhead_5 : decode cX8_keyAhead 5 = .ok (.iload 4, 2) := by decide +kernel
theorem dX8_keyAhead_7 : decode cX8_keyAhead 7 = .ok (.iload_n 2, 1) := by decide +kernel
theorem dX8_keyAhead_8 : decode cX8_keyAhead 8 = .ok (.if_icmp .ge 19, 3) := by decide +kernel
theorem dX8_keyAhead_11 : decode cX8_keyAhead 11 = .ok (.aload_n 0, 1) := by decide +kernel
theorem dX8_keyAhead_12 : decode cX8_keyAhead 12 = .ok (.getfield 20, 3) := by decide +kernel
theorem dX8_keyAhead_15 : decode cX8_keyAhead 15 = .ok (.iload_n 3, 1) := by decide +kernel
theorem dX8_keyAhead_16 : decode cX8_keyAhead 16 = .ok (.iconst 2, 1) := by decide +kernel
theorem dX8_keyAhead_17 : decode cX8_keyAhead 17 = .ok (.invokevirtual 158, 3) := by decide +kernel
theorem dX8_keyAhead_20 : decode cX8_keyAhead 20 = .ok (.istore_n 3, 1) := by decide +kernel
theorem dX8_keyAhead_21 : decode cX8_keyAhead 21 = .ok (.iinc 4 1, 3) := by decide +kernel
theorem dX8_keyAhead_24 : decode cX8_keyAhead 24 = .ok (.goto (-19), 3) := by decide +kernel
theorem dX8_keyAhead_27 : decode cX8_keyAhead 27 = .ok (.aload_n 0, 1) := by decide +kernel
theorem dX8_keyAhead_28 : decode cX8_keyAhead 28 = .ok (.getfield 20, 3) := by decide +kernel
theorem dX8_keyAhead_31 : decode cX8_keyAhead 31 = .ok (.iload_n 3, 1) := by decide +kernel
theorem dX8_keyAhead_32 : decode cX8_keyAhead 32 = .ok (.iconst 1, 1) := by decide +kernel
theorem dX8_keyAhead_33 : decode cX8_keyAhead 33 = .ok (.invokevirtual 158, 3) := by decide +kernel
theorem dX8_keyAhead_36 : decode cX8_keyAhead 36 = .ok (.ireturn, 1) := by decide +kernel
theorem dX8_opened_0 : decode cX8_opened 0 = .ok (.aload_n 1, 1) := by decide +kernel
theorem dX8_opened_1 : decode cX8_opened 1 = .ok (.getfield 155, 3) := by decide +kernel
theorem dX8_opened_4 : decode cX8_opened 4 = .ok (.iload_n 2, 1) := by decide +kernel
theorem dX8_opened_5 : decode cX8_opened 5 = .ok (.isub, 1) := by decide +kernel
theorem dX8_opened_6 : decode cX8_opened 6 = .ok (.sipush 255, 3) := by decide +kernel
theorem dX8_opened_9 : decode cX8_opened 9 = .ok (.iand, 1) := by decide +kernel
theorem dX8_opened_10 : decode cX8_opened 10 = .ok (.istore_n 3, 1) := by decide +kernel
theorem dX8_opened_11 : decode cX8_opened 11 = .ok (.aload_n 0, 1) := by decide +kernel
theorem dX8_opened_12 : decode cX8_opened 12 = .ok (.getfield 20, 3) := by decide +kernel
theorem dX8_opened_15 : decode cX8_opened 15 = .ok (.iload_n 2, 1) := by decide +kernel
theorem dX8_opened_16 : decode cX8_opened 16 = .ok (.iload_n 3, 1) := by decide +kernel
theorem dX8_opened_17 : decode cX8_opened 17 = .ok (.invokevirtual 158, 3) := by decide +kernel
theorem dX8_opened_20 : decode cX8_opened 20 = .ok (.aload_n 1, 1) := by decide +kernel
theorem dX8_opened_21 : decode cX8_opened 21 = .ok (.getfield 162, 3) := by decide +kernel
theorem dX8_opened_24 : decode cX8_opened 24 = .ok (.if_icmp .ne 7, 3) := by decide +kernel
theorem dX8_opened_27 : decode cX8_opened 27 = .ok (.iload_n 3, 1) := by decide +kernel
theorem dX8_opened_28 : decode cX8_opened 28 = .ok (.goto 4, 3) := by decide +kernel
theorem dX8_opened_31 : decode cX8_opened 31 = .ok (.iconst (-1), 1) := by decide +kernel
theorem dX8_opened_32 : decode cX8_opened 32 = .ok (.ireturn, 1) := by decide +kernel
theorem dX8_endOldSkipped_0 : decode cX8_endOldSkipped 0 = .ok (.iconst 0, 1) := by decide +kernel
theorem dX8_endOldSkipped_1 : decode cX8_endOldSkipped 1 = .ok (.istore_n 1, 1) := by decide +kernel
theorem dX8_endOldSkipped_2 : decode cX8_endOldSkipped 2 = .ok (.iload_n 1, 1) := by decide +kernel
theorem dX8_endOldSkipped_3 : decode cX8_endOldSkipped 3 = .ok (.aload_n 0, 1) := by decide +kernel
theorem dX8_endOldSkipped_4 : decode cX8_endOldSkipped 4 = .ok (.getfield 58, 3) := by decide +kernel
theorem dX8_endOldSkipped_7 : decode cX8_endOldSkipped 7 = .ok (.if_icmp .ge 26, 3) := by decide +kernel
theorem dX8_endOldSkipped_10 : decode cX8_endOldSkipped 10 = .ok (.aload_n 0, 1) := by decide +kernel
theorem dX8_endOldSkipped_11 : decode cX8_endOldSkipped 11 = .ok (.getfield 23, 3) := by decide +kernel
theorem dX8_endOldSkipped_14 : decode cX8_endOldSkipped 14 = .ok (.iload_n 1, 1) := by decide +kernel
theorem dX8_endOldSkipped_15 : decode cX8_endOldSkipped 15 = .ok (.aaload, 1) := by decide +kernel
theorem dX8_endOldSkipped_16 : decode cX8_endOldSkipped 16 = .ok (.aload_n 0, 1) := by decide +kernel
theorem dX8_endOldSkipped_17 : decode cX8_endOldSkipped 17 = .ok (.getfield 142, 3) := by decide +kernel
theorem dX8_endOldSkipped_20 : decode cX8_endOldSkipped 20 = .ok (.aload_n 0, 1) := by decide +kernel
theorem dX8_endOldSkipped_21 : decode cX8_endOldSkipped 21 = .ok (.getfield 51, 3) := by decide +kernel
theorem dX8_endOldSkipped_24 : decode cX8_endOldSkipped 24 = .ok (.invokevirtual 362, 3) := by decide +kernel
theorem dX8_endOldSkipped_27 : decode cX8_endOldSkipped 27 = .ok (.iinc 1 1, 3) := by decide +kernel
theorem dX8_endOldSkipped_30 : decode cX8_endOldSkipped 30 = .ok (.goto (-28), 3) := by decide +kernel
theorem dX8_endOldSkipped_33 : decode cX8_endOldSkipped 33 = .ok (.return_, 1) := by decide +kernel
theorem dX8_holdOfLetter_0 : decode cX8_holdOfLetter 0 = .ok (.aload_n 3, 1) := by decide +kernel
theorem dX8_holdOfLetter_1 : decode cX8_holdOfLetter 1 = .ok (.ifnonnull 9, 3) := by decide +kernel
theorem dX8_holdOfLetter_4 : decode cX8_holdOfLetter 4 = .ok (.aload_n 0, 1) := by decide +kernel
theorem dX8_holdOfLetter_5 : decode cX8_holdOfLetter 5 = .ok (.iconst 1, 1) := by decide +kernel
theorem dX8_holdOfLetter_6 : decode cX8_holdOfLetter 6 = .ok (.invokevirtual 54, 3) := by decide +kernel
theorem dX8_holdOfLetter_9 : decode cX8_holdOfLetter 9 = .ok (.ireturn, 1) := by decide +kernel
theorem dX8_holdOfLetter_10 : decode cX8_holdOfLetter 10 = .ok (.iload_n 2, 1) := by decide +kernel
theorem dX8_holdOfLetter_11 : decode cX8_holdOfLetter 11 = .ok (.iconst 1, 1) := by decide +kernel
theorem dX8_holdOfLetter_12 : decode cX8_holdOfLetter 12 = .ok (.if_icmp .ne 15, 3) := by decide +kernel
theorem dX8_holdOfLetter_15 : decode cX8_holdOfLetter 15 = .ok (.aload_n 1, 1) := by decide +kernel
theorem dX8_holdOfLetter_16 : decode cX8_holdOfLetter 16 = .ok (.aload_n 3, 1) := by decide +kernel
theorem dX8_holdOfLetter_17 : decode cX8_holdOfLetter 17 = .ok (.getfield 221, 3) := by decide +kernel
theorem dX8_holdOfLetter_20 : decode cX8_holdOfLetter 20 = .ok (.aconst_null, 1) := by decide +kernel
theorem dX8_holdOfLetter_21 : decode cX8_holdOfLetter 21 = .ok (.invokevirtual 262, 3) := by decide +kernel
theorem dX8_holdOfLetter_24 : decode cX8_holdOfLetter 24 = .ok (.goto 9, 3) := by decide +kernel
theorem dX8_holdOfLetter_27 : decode cX8_holdOfLetter 27 = .ok (.aload_n 1, 1) := by decide +kernel
theorem dX8_holdOfLetter_28 : decode cX8_holdOfLetter 28 = .ok (.aconst_null, 1) := by decide +kernel
theorem dX8_holdOfLetter_29 : decode cX8_holdOfLetter 29 = .ok (.aload_n 3, 1) := by decide +kernel
theorem dX8_holdOfLetter_30 : decode cX8_holdOfLetter 30 = .ok (.invokevirtual 262, 3) := by decide +kernel
theorem dX8_holdOfLetter_33 : decode cX8_holdOfLetter 33 = .ok (.aload_n 0, 1) := by decide +kernel
theorem dX8_holdOfLetter_34 : decode cX8_holdOfLetter 34 = .ok (.iconst 1, 1) := by decide +kernel
theorem dX8_holdOfLetter_35 : decode cX8_holdOfLetter 35 = .ok (.invokevirtual 69, 3) := by decide +kernel
theorem dX8_holdOfLetter_38 : decode cX8_holdOfLetter 38 = .ok (.ireturn, 1) := by decide +kernel
theorem dX8_holdOfEnd_0 : decode cX8_holdOfEnd 0 = .ok (.aload_n 3, 1) := by decide +kernel
theorem dX8_holdOfEnd_1 : decode cX8_holdOfEnd 1 = .ok (.ifnonnull 9, 3) := by decide +kernel
theorem dX8_holdOfEnd_4 : decode cX8_holdOfEnd 4 = .ok (.aload_n 0, 1) := by decide +kernel
theorem dX8_holdOfEnd_5 : decode cX8_holdOfEnd 5 = .ok (.iconst 1, 1) := by decide +kernel
theorem dX8_holdOfEnd_6 : decode cX8_holdOfEnd 6 = .ok (.invokevirtual 54, 3) := by decide +kernel
theorem dX8_holdOfEnd_9 : decode cX8_holdOfEnd 9 = .ok (.ireturn, 1) := by decide +kernel
theorem dX8_holdOfEnd_10 : decode cX8_holdOfEnd 10 = .ok (.aload_n 3, 1) := by decide +kernel
theorem dX8_holdOfEnd_11 : decode cX8_holdOfEnd 11 = .ok (.getfield 99, 3) := by decide +kernel
theorem dX8_holdOfEnd_14 : decode cX8_holdOfEnd 14 = .ok (.ifCond .ne 9, 3) := by decide +kernel
theorem dX8_holdOfEnd_17 : decode cX8_holdOfEnd 17 = .ok (.aload_n 0, 1) := by decide +kernel
theorem dX8_holdOfEnd_18 : decode cX8_holdOfEnd 18 = .ok (.iconst 3, 1) := by decide +kernel
theorem dX8_holdOfEnd_19 : decode cX8_holdOfEnd 19 = .ok (.invokevirtual 54, 3) := by decide +kernel
theorem dX8_holdOfEnd_22 : decode cX8_holdOfEnd 22 = .ok (.ireturn, 1) := by decide +kernel
theorem dX8_holdOfEnd_23 : decode cX8_holdOfEnd 23 = .ok (.iload_n 2, 1) := by decide +kernel
theorem dX8_holdOfEnd_24 : decode cX8_holdOfEnd 24 = .ok (.tableswitch 80 3 6 #[32, 44, 56, 68], 32) := by decide +kernel
theorem dX8_holdOfEnd_56 : decode cX8_holdOfEnd 56 = .ok (.aload_n 1, 1) := by decide +kernel
theorem dX8_holdOfEnd_57 : decode cX8_holdOfEnd 57 = .ok (.aload_n 3, 1) := by decide +kernel
theorem dX8_holdOfEnd_58 : decode cX8_holdOfEnd 58 = .ok (.getfield 119, 3) := by decide +kernel
theorem dX8_holdOfEnd_61 : decode cX8_holdOfEnd 61 = .ok (.aconst_null, 1) := by decide +kernel
theorem dX8_holdOfEnd_62 : decode cX8_holdOfEnd 62 = .ok (.invokevirtual 262, 3) := by decide +kernel
theorem dX8_holdOfEnd_65 : decode cX8_holdOfEnd 65 = .ok (.goto 61, 3) := by decide +kernel
theorem dX8_holdOfEnd_68 : decode cX8_holdOfEnd 68 = .ok (.aload_n 1, 1) := by decide +kernel
theorem dX8_holdOfEnd_69 : decode cX8_holdOfEnd 69 = .ok (.aload_n 3, 1) := by decide +kernel
theorem dX8_holdOfEnd_70 : decode cX8_holdOfEnd 70 = .ok (.getfield 128, 3) := by decide +kernel
theorem dX8_holdOfEnd_73 : decode cX8_holdOfEnd 73 = .ok (.aconst_null, 1) := by decide +kernel
theorem dX8_holdOfEnd_74 : decode cX8_holdOfEnd 74 = .ok (.invokevirtual 262, 3) := by decide +kernel
theorem dX8_holdOfEnd_77 : decode cX8_holdOfEnd 77 = .ok (.goto 49, 3) := by decide +kernel
theorem dX8_holdOfEnd_80 : decode cX8_holdOfEnd 80 = .ok (.aload_n 1, 1) := by decide +kernel
theorem dX8_holdOfEnd_81 : decode cX8_holdOfEnd 81 = .ok (.aload_n 3, 1) := by decide +kernel
theorem dX8_holdOfEnd_82 : decode cX8_holdOfEnd 82 = .ok (.getfield 192, 3) := by decide +kernel
theorem dX8_holdOfEnd_85 : decode cX8_holdOfEnd 85 = .ok (.aconst_null, 1) := by decide +kernel
theorem dX8_holdOfEnd_86 : decode cX8_holdOfEnd 86 = .ok (.invokevirtual 262, 3) := by decide +kernel
theorem dX8_holdOfEnd_89 : decode cX8_holdOfEnd 89 = .ok (.goto 37, 3) := by decide +kernel
theorem dX8_holdOfEnd_92 : decode cX8_holdOfEnd 92 = .ok (.aload_n 1, 1) := by decide +kernel
theorem dX8_holdOfEnd_93 : decode cX8_holdOfEnd 93 = .ok (.aload_n 3, 1) := by decide +kernel
theorem dX8_holdOfEnd_94 : decode cX8_holdOfEnd 94 = .ok (.getfield 115, 3) := by decide +kernel
theorem dX8_holdOfEnd_97 : decode cX8_holdOfEnd 97 = .ok (.aconst_null, 1) := by decide +kernel
theorem dX8_holdOfEnd_98 : decode cX8_holdOfEnd 98 = .ok (.invokevirtual 262, 3) := by decide +kernel
theorem dX8_holdOfEnd_101 : decode cX8_holdOfEnd 101 = .ok (.goto 25, 3) := by decide +kernel
theorem dX8_holdOfEnd_104 : decode cX8_holdOfEnd 104 = .ok (.aload_n 1, 1) := by decide +kernel
theorem dX8_holdOfEnd_105 : decode cX8_holdOfEnd 105 = .ok (.aload_n 3, 1) := by decide +kernel
theorem dX8_holdOfEnd_106 : decode cX8_holdOfEnd 106 = .ok (.getfield 206, 3) := by decide +kernel
theorem dX8_holdOfEnd_109 : decode cX8_holdOfEnd 109 = .ok (.ifCond .le 12, 3) := by decide +kernel
theorem dX8_holdOfEnd_112 : decode cX8_holdOfEnd 112 = .ok (.aload_n 3, 1) := by decide +kernel
theorem dX8_holdOfEnd_113 : decode cX8_holdOfEnd 113 = .ok (.getfield 209, 3) := by decide +kernel
theorem dX8_holdOfEnd_116 : decode cX8_holdOfEnd 116 = .ok (.iconst 0, 1) := by decide +kernel
theorem dX8_holdOfEnd_117 : decode cX8_holdOfEnd 117 = .ok (.aaload, 1) := by decide +kernel
theorem dX8_holdOfEnd_118 : decode cX8_holdOfEnd 118 = .ok (.goto 4, 3) := by decide +kernel
theorem dX8_holdOfEnd_121 : decode cX8_holdOfEnd 121 = .ok (.aconst_null, 1) := by decide +kernel
theorem dX8_holdOfEnd_122 : decode cX8_holdOfEnd 122 = .ok (.aconst_null, 1) := by decide +kernel
theorem dX8_holdOfEnd_123 : decode cX8_holdOfEnd 123 = .ok (.invokevirtual 262, 3) := by decide +kernel
theorem dX8_holdOfEnd_126 : decode cX8_holdOfEnd 126 = .ok (.aload_n 0, 1) := by decide +kernel
theorem dX8_holdOfEnd_127 : decode cX8_holdOfEnd 127 = .ok (.iconst 1, 1) := by decide +kernel
theorem dX8_holdOfEnd_128 : decode cX8_holdOfEnd 128 = .ok (.invokevirtual 69, 3) := by decide +kernel
theorem dX8_holdOfEnd_131 : decode cX8_holdOfEnd 131 = .ok (.ireturn, 1) := by decide +kernel
theorem dX8_forgeKind_0 : decode cX8_forgeKind 0 = .ok (.aload_n 1, 1) := by decide +kernel
theorem dX8_forgeKind_1 : decode cX8_forgeKind 1 = .ok (.getfield 274, 3) := by decide +kernel
theorem dX8_forgeKind_4 : decode cX8_forgeKind 4 = .ok (.ifnull 10, 3) := by decide +kernel
theorem dX8_forgeKind_7 : decode cX8_forgeKind 7 = .ok (.aload_n 0, 1) := by decide +kernel
theorem dX8_forgeKind_8 : decode cX8_forgeKind 8 = .ok (.bipush 11, 2) := by decide +kernel
theorem dX8_forgeKind_10 : decode cX8_forgeKind 10 = .ok (.invokevirtual 54, 3) := by decide +kernel
theorem dX8_forgeKind_13 : decode cX8_forgeKind 13 = .ok (.ireturn, 1) := by decide +kernel
theorem dX8_forgeKind_14 : decode cX8_forgeKind 14 = .ok (.aload_n 1, 1) := by decide +kernel
theorem dX8_forgeKind_15 : decode cX8_forgeKind 15 = .ok (.getfield 278, 3) := by decide +kernel
theorem dX8_forgeKind_18 : decode cX8_forgeKind 18 = .ok (.ifnonnull 10, 3) := by decide +kernel
theorem dX8_forgeKind_21 : decode cX8_forgeKind 21 = .ok (.aload_n 0, 1) := by decide +kernel
theorem dX8_forgeKind_22 : decode cX8_forgeKind 22 = .ok (.bipush 10, 2) := by decide +kernel
theorem dX8_forgeKind_24 : decode cX8_forgeKind 24 = .ok (.invokevirtual 54, 3) := by decide +kernel
theorem dX8_forgeKind_27 : decode cX8_forgeKind 27 = .ok (.ireturn, 1) := by decide +kernel
theorem dX8_forgeKind_28 : decode cX8_forgeKind 28 = .ok (.aload_n 1, 1) := by decide +kernel
theorem dX8_forgeKind_29 : decode cX8_forgeKind 29 = .ok (.getfield 278, 3) := by decide +kernel
theorem dX8_forgeKind_32 : decode cX8_forgeKind 32 = .ok (.getfield 281, 3) := by decide +kernel
theorem dX8_forgeKind_35 : decode cX8_forgeKind 35 = .ok (.iload_n 2, 1) := by decide +kernel
theorem dX8_forgeKind_36 : decode cX8_forgeKind 36 = .ok (.invokestatic 366, 3) := by decide +kernel
theorem dX8_forgeKind_39 : decode cX8_forgeKind 39 = .ok (.ifCond .eq 17, 3) := by decide +kernel
theorem dX8_forgeKind_42 : decode cX8_forgeKind 42 = .ok (.aload_n 0, 1) := by decide +kernel
theorem dX8_forgeKind_43 : decode cX8_forgeKind 43 = .ok (.aload_n 1, 1) := by decide +kernel
theorem dX8_forgeKind_44 : decode cX8_forgeKind 44 = .ok (.getfield 278, 3) := by decide +kernel
theorem dX8_forgeKind_47 : decode cX8_forgeKind 47 = .ok (.getfield 131, 3) := by decide +kernel
theorem dX8_forgeKind_50 : decode cX8_forgeKind 50 = .ok (.invokevirtual 69, 3) := by decide +kernel
theorem dX8_forgeKind_53 : decode cX8_forgeKind 53 = .ok (.goto 9, 3) := by decide +kernel
theorem dX8_forgeKind_56 : decode cX8_forgeKind 56 = .ok (.aload_n 0, 1) := by decide +kernel
theorem dX8_forgeKind_57 : decode cX8_forgeKind 57 = .ok (.bipush 11, 2) := by decide +kernel
theorem dX8_forgeKind_59 : decode cX8_forgeKind 59 = .ok (.invokevirtual 54, 3) := by decide +kernel
theorem dX8_forgeKind_62 : decode cX8_forgeKind 62 = .ok (.ireturn, 1) := by decide +kernel
theorem dX8_forgeHeader_0 : decode cX8_forgeHeader 0 = .ok (.aload_n 1, 1) := by decide +kernel
theorem dX8_forgeHeader_1 : decode cX8_forgeHeader 1 = .ok (.getfield 278, 3) := by decide +kernel
theorem dX8_forgeHeader_4 : decode cX8_forgeHeader 4 = .ok (.ifnull 10, 3) := by decide +kernel
theorem dX8_forgeHeader_7 : decode cX8_forgeHeader 7 = .ok (.aload_n 0, 1) := by decide +kernel
theorem dX8_forgeHeader_8 : decode cX8_forgeHeader 8 = .ok (.bipush 11, 2) := by decide +kernel
theorem dX8_forgeHeader_10 : decode cX8_forgeHeader 10 = .ok (.invokevirtual 54, 3) := by decide +kernel
theorem dX8_forgeHeader_13 : decode cX8_forgeHeader 13 = .ok (.ireturn, 1) := by decide +kernel
theorem dX8_forgeHeader_14 : decode cX8_forgeHeader 14 = .ok (.aload_n 1, 1) := by decide +kernel
theorem dX8_forgeHeader_15 : decode cX8_forgeHeader 15 = .ok (.getfield 274, 3) := by decide +kernel
theorem dX8_forgeHeader_18 : decode cX8_forgeHeader 18 = .ok (.ifnonnull 10, 3) := by decide +kernel
theorem dX8_forgeHeader_21 : decode cX8_forgeHeader 21 = .ok (.aload_n 0, 1) := by decide +kernel
theorem dX8_forgeHeader_22 : decode cX8_forgeHeader 22 = .ok (.bipush 10, 2) := by decide +kernel
theorem dX8_forgeHeader_24 : decode cX8_forgeHeader 24 = .ok (.invokevirtual 54, 3) := by decide +kernel
theorem dX8_forgeHeader_27 : decode cX8_forgeHeader 27 = .ok (.ireturn, 1) := by decide +kernel
theorem dX8_forgeHeader_28 : decode cX8_forgeHeader 28 = .ok (.aload_n 1, 1) := by decide +kernel
theorem dX8_forgeHeader_29 : decode cX8_forgeHeader 29 = .ok (.getfield 274, 3) := by decide +kernel
theorem dX8_forgeHeader_32 : decode cX8_forgeHeader 32 = .ok (.getfield 151, 3) := by decide +kernel
theorem dX8_forgeHeader_35 : decode cX8_forgeHeader 35 = .ok (.astore_n 3, 1) := by decide +kernel
theorem dX8_forgeHeader_36 : decode cX8_forgeHeader 36 = .ok (.iload_n 2, 1) := by decide +kernel
theorem dX8_forgeHeader_37 : decode cX8_forgeHeader 37 = .ok (.ifCond .lt 19, 3) := by decide +kernel
theorem dX8_forgeHeader_40 : decode cX8_forgeHeader 40 = .ok (.iload_n 2, 1) := by decide +kernel
theorem dX8_forgeHeader_41 : decode cX8_forgeHeader 41 = .ok (.aload_n 3, 1) := by decide +kernel
theorem dX8_forgeHeader_42 : decode cX8_forgeHeader 42 = .ok (.arraylength, 1) := by decide +kernel
theorem dX8_forgeHeader_43 : decode cX8_forgeHeader 43 = .ok (.if_icmp .ge 13, 3) := by decide +kernel
theorem dX8_forgeHeader_46 : decode cX8_forgeHeader 46 = .ok (.aload_n 0, 1) := by decide +kernel
theorem dX8_forgeHeader_47 : decode cX8_forgeHeader 47 = .ok (.aload_n 3, 1) := by decide +kernel
theorem dX8_forgeHeader_48 : decode cX8_forgeHeader 48 = .ok (.iload_n 2, 1) := by decide +kernel
theorem dX8_forgeHeader_49 : decode cX8_forgeHeader 49 = .ok (.iaload, 1) := by decide +kernel
theorem dX8_forgeHeader_50 : decode cX8_forgeHeader 50 = .ok (.invokevirtual 69, 3) := by decide +kernel
theorem dX8_forgeHeader_53 : decode cX8_forgeHeader 53 = .ok (.goto 9, 3) := by decide +kernel
theorem dX8_forgeHeader_56 : decode cX8_forgeHeader 56 = .ok (.aload_n 0, 1) := by decide +kernel
theorem dX8_forgeHeader_57 : decode cX8_forgeHeader 57 = .ok (.bipush 12, 2) := by decide +kernel
theorem dX8_forgeHeader_59 : decode cX8_forgeHeader 59 = .ok (.invokevirtual 54, 3) := by decide +kernel
theorem dX8_forgeHeader_62 : decode cX8_forgeHeader 62 = .ok (.ireturn, 1) := by decide +kernel
theorem dX8_forgeCopy_0 : decode cX8_forgeCopy 0 = .ok (.aload_n 1, 1) := by decide +kernel
theorem dX8_forgeCopy_1 : decode cX8_forgeCopy 1 = .ok (.getfield 278, 3) := by decide +kernel
theorem dX8_forgeCopy_4 : decode cX8_forgeCopy 4 = .ok (.ifnull 10, 3) := by decide +kernel
theorem dX8_forgeCopy_7 : decode cX8_forgeCopy 7 = .ok (.aload_n 0, 1) := by decide +kernel
theorem dX8_forgeCopy_8 : decode cX8_forgeCopy 8 = .ok (.bipush 11, 2) := by decide +kernel
theorem dX8_forgeCopy_10 : decode cX8_forgeCopy 10 = .ok (.invokevirtual 54, 3) := by decide +kernel
theorem dX8_forgeCopy_13 : decode cX8_forgeCopy 13 = .ok (.ireturn, 1) := by decide +kernel
theorem dX8_forgeCopy_14 : decode cX8_forgeCopy 14 = .ok (.aload_n 1, 1) := by decide +kernel
theorem dX8_forgeCopy_15 : decode cX8_forgeCopy 15 = .ok (.getfield 274, 3) := by decide +kernel
theorem dX8_forgeCopy_18 : decode cX8_forgeCopy 18 = .ok (.ifnonnull 10, 3) := by decide +kernel
theorem dX8_forgeCopy_21 : decode cX8_forgeCopy 21 = .ok (.aload_n 0, 1) := by decide +kernel
theorem dX8_forgeCopy_22 : decode cX8_forgeCopy 22 = .ok (.bipush 10, 2) := by decide +kernel
theorem dX8_forgeCopy_24 : decode cX8_forgeCopy 24 = .ok (.invokevirtual 54, 3) := by decide +kernel
theorem dX8_forgeCopy_27 : decode cX8_forgeCopy 27 = .ok (.ireturn, 1) := by decide +kernel
theorem dX8_forgeCopy_28 : decode cX8_forgeCopy 28 = .ok (.aload_n 1, 1) := by decide +kernel
theorem dX8_forgeCopy_29 : decode cX8_forgeCopy 29 = .ok (.getfield 274, 3) := by decide +kernel
theorem dX8_forgeCopy_32 : decode cX8_forgeCopy 32 = .ok (.getfield 151, 3) := by decide +kernel
theorem dX8_forgeCopy_35 : decode cX8_forgeCopy 35 = .ok (.astore_n 3, 1) := by decide +kernel
theorem dX8_forgeCopy_36 : decode cX8_forgeCopy 36 = .ok (.iload_n 2, 1) := by decide +kernel
theorem dX8_forgeCopy_37 : decode cX8_forgeCopy 37 = .ok (.ifCond .lt 18, 3) := by decide +kernel
theorem dX8_forgeCopy_40 : decode cX8_forgeCopy 40 = .ok (.iconst 1, 1) := by decide +kernel
theorem dX8_forgeCopy_41 : decode cX8_forgeCopy 41 = .ok (.iload_n 2, 1) := by decide +kernel
theorem dX8_forgeCopy_42 : decode cX8_forgeCopy 42 = .ok (.iadd, 1) := by decide +kernel
theorem dX8_forgeCopy_43 : decode cX8_forgeCopy 43 = .ok (.aload_n 3, 1) := by decide +kernel
theorem dX8_forgeCopy_44 : decode cX8_forgeCopy 44 = .ok (.arraylength, 1) := by decide +kernel
theorem dX8_forgeCopy_45 : decode cX8_forgeCopy 45 = .ok (.if_icmp .gt 10, 3) := by decide +kernel
theorem dX8_forgeCopy_48 : decode cX8_forgeCopy 48 = .ok (.iload_n 2, 1) := by decide +kernel
theorem dX8_forgeCopy_49 : decode cX8_forgeCopy 49 = .ok (.iload_n 2, 1) := by decide +kernel
theorem dX8_forgeCopy_50 : decode cX8_forgeCopy 50 = .ok (.iadd, 1) := by decide +kernel
theorem dX8_forgeCopy_51 : decode cX8_forgeCopy 51 = .ok (.iconst 5, 1) := by decide +kernel
theorem dX8_forgeCopy_52 : decode cX8_forgeCopy 52 = .ok (.if_icmp .le 10, 3) := by decide +kernel
theorem dX8_forgeCopy_55 : decode cX8_forgeCopy 55 = .ok (.aload_n 0, 1) := by decide +kernel
theorem dX8_forgeCopy_56 : decode cX8_forgeCopy 56 = .ok (.bipush 12, 2) := by decide +kernel
theorem dX8_forgeCopy_58 : decode cX8_forgeCopy 58 = .ok (.invokevirtual 54, 3) := by decide +kernel
theorem dX8_forgeCopy_61 : decode cX8_forgeCopy 61 = .ok (.ireturn, 1) := by decide +kernel
theorem dX8_forgeCopy_62 : decode cX8_forgeCopy 62 = .ok (.iconst 0, 1) := by decide +kernel
theorem dX8_forgeCopy_63 : decode cX8_forgeCopy 63 = .ok (.istore 4, 2) := by decide +kernel
theorem dX8_forgeCopy_65 : decode cX8_forgeCopy 65 = .ok (.iconst 1, 1) := by decide +kernel
theorem dX8_forgeCopy_66 : decode cX8_forgeCopy 66 = .ok (.istore 5, 2) := by decide +kernel
theorem dX8_forgeCopy_68 : decode cX8_forgeCopy 68 = .ok (.iload 5, 2) := by decide +kernel
theorem dX8_forgeCopy_70 : decode cX8_forgeCopy 70 = .ok (.iload_n 2, 1) := by decide +kernel
theorem dX8_forgeCopy_71 : decode cX8_forgeCopy 71 = .ok (.if_icmp .gt 18, 3) := by decide +kernel
theorem dX8_forgeCopy_74 : decode cX8_forgeCopy 74 = .ok (.iload 4, 2) := by decide +kernel
theorem dX8_forgeCopy_76 : decode cX8_forgeCopy 76 = .ok (.aload_n 3, 1) := by decide +kernel
theorem dX8_forgeCopy_77 : decode cX8_forgeCopy 77 = .ok (.iload 5, 2) := by decide +kernel
theorem dX8_forgeCopy_79 : decode cX8_forgeCopy 79 = .ok (.iaload, 1) := by decide +kernel
theorem dX8_forgeCopy_80 : decode cX8_forgeCopy 80 = .ok (.iadd, 1) := by decide +kernel
theorem dX8_forgeCopy_81 : decode cX8_forgeCopy 81 = .ok (.istore 4, 2) := by decide +kernel
theorem dX8_forgeCopy_83 : decode cX8_forgeCopy 83 = .ok (.iinc 5 1, 3) := by decide +kernel
theorem dX8_forgeCopy_86 : decode cX8_forgeCopy 86 = .ok (.goto (-18), 3) := by decide +kernel
theorem dX8_forgeCopy_89 : decode cX8_forgeCopy 89 = .ok (.aload_n 0, 1) := by decide +kernel
theorem dX8_forgeCopy_90 : decode cX8_forgeCopy 90 = .ok (.iload 4, 2) := by decide +kernel
theorem dX8_forgeCopy_92 : decode cX8_forgeCopy 92 = .ok (.invokevirtual 69, 3) := by decide +kernel
theorem dX8_forgeCopy_95 : decode cX8_forgeCopy 95 = .ok (.ireturn, 1) := by decide +kernel
theorem dX8_forgeRow_0 : decode cX8_forgeRow 0 = .ok (.aload_n 1, 1) := by decide +kernel
theorem dX8_forgeRow_1 : decode cX8_forgeRow 1 = .ok (.getfield 274, 3) := by decide +kernel
theorem dX8_forgeRow_4 : decode cX8_forgeRow 4 = .ok (.ifnull 10, 3) := by decide +kernel
theorem dX8_forgeRow_7 : decode cX8_forgeRow 7 = .ok (.aload_n 0, 1) := by decide +kernel
theorem dX8_forgeRow_8 : decode cX8_forgeRow 8 = .ok (.bipush 11, 2) := by decide +kernel
theorem dX8_forgeRow_10 : decode cX8_forgeRow 10 = .ok (.invokevirtual 54, 3) := by decide +kernel
theorem dX8_forgeRow_13 : decode cX8_forgeRow 13 = .ok (.ireturn, 1) := by decide +kernel
theorem dX8_forgeRow_14 : decode cX8_forgeRow 14 = .ok (.aload_n 1, 1) := by decide +kernel
theorem dX8_forgeRow_15 : decode cX8_forgeRow 15 = .ok (.getfield 278, 3) := by decide +kernel
theorem dX8_forgeRow_18 : decode cX8_forgeRow 18 = .ok (.ifnonnull 9, 3) := by decide +kernel
theorem dX8_forgeRow_21 : decode cX8_forgeRow 21 = .ok (.aload_n 0, 1) := by decide +kernel
theorem dX8_forgeRow_22 : decode cX8_forgeRow 22 = .ok (.iconst 0, 1) := by decide +kernel
theorem dX8_forgeRow_23 : decode cX8_forgeRow 23 = .ok (.invokevirtual 69, 3) := by decide +kernel
theorem dX8_forgeRow_26 : decode cX8_forgeRow 26 = .ok (.ireturn, 1) := by decide +kernel
theorem dX8_forgeRow_27 : decode cX8_forgeRow 27 = .ok (.aload_n 1, 1) := by decide +kernel
theorem dX8_forgeRow_28 : decode cX8_forgeRow 28 = .ok (.getfield 278, 3) := by decide +kernel
theorem dX8_forgeRow_31 : decode cX8_forgeRow 31 = .ok (.getfield 281, 3) := by decide +kernel
theorem dX8_forgeRow_34 : decode cX8_forgeRow 34 = .ok (.iconst 1, 1) := by decide +kernel
theorem dX8_forgeRow_35 : decode cX8_forgeRow 35 = .ok (.invokestatic 366, 3) := by decide +kernel
theorem dX8_forgeRow_38 : decode cX8_forgeRow 38 = .ok (.ifCond .eq 11, 3) := by decide +kernel
theorem dX8_forgeRow_41 : decode cX8_forgeRow 41 = .ok (.aload_n 0, 1) := by decide +kernel
theorem dX8_forgeRow_42 : decode cX8_forgeRow 42 = .ok (.iconst 1, 1) := by decide +kernel
theorem dX8_forgeRow_43 : decode cX8_forgeRow 43 = .ok (.invokevirtual 69, 3) := by decide +kernel
theorem dX8_forgeRow_46 : decode cX8_forgeRow 46 = .ok (.goto 9, 3) := by decide +kernel
theorem dX8_forgeRow_49 : decode cX8_forgeRow 49 = .ok (.aload_n 0, 1) := by decide +kernel
theorem dX8_forgeRow_50 : decode cX8_forgeRow 50 = .ok (.bipush 14, 2) := by decide +kernel
theorem dX8_forgeRow_52 : decode cX8_forgeRow 52 = .ok (.invokevirtual 54, 3) := by decide +kernel
theorem dX8_forgeRow_55 : decode cX8_forgeRow 55 = .ok (.ireturn, 1) := by decide +kernel
theorem dX8_above_0 : decode cX8_above 0 = .ok (.iload_n 0, 1) := by decide +kernel
theorem dX8_above_1 : decode cX8_above 1 = .ok (.tableswitch 41 1 5 #[35, 37, 35, 35, 39], 35) := by decide +kernel
theorem dX8_above_36 : decode cX8_above 36 = .ok (.iconst 0, 1) := by decide +kernel
theorem dX8_above_37 : decode cX8_above 37 = .ok (.ireturn, 1) := by decide +kernel
theorem dX8_above_38 : decode cX8_above 38 = .ok (.iconst 1, 1) := by decide +kernel
theorem dX8_above_39 : decode cX8_above 39 = .ok (.ireturn, 1) := by decide +kernel
theorem dX8_above_40 : decode cX8_above 40 = .ok (.iconst 3, 1) := by decide +kernel
theorem dX8_above_41 : decode cX8_above 41 = .ok (.ireturn, 1) := by decide +kernel
theorem dX8_above_42 : decode cX8_above 42 = .ok (.iconst (-1), 1) := by decide +kernel
theorem dX8_above_43 : decode cX8_above 43 = .ok (.ireturn, 1) := by decide +kernel
theorem dX8_isUnder_0 : decode cX8_isUnder 0 = .ok (.iload_n 0, 1) := by decide +kernel
theorem dX8_isUnder_1 : decode cX8_isUnder 1 = .ok (.istore_n 2, 1) := by decide +kernel
theorem dX8_isUnder_2 : decode cX8_isUnder 2 = .ok (.iconst 0, 1) := by decide +kernel
theorem dX8_isUnder_3 : decode cX8_isUnder 3 = .ok (.istore_n 3, 1) := by decide +kernel
theorem dX8_isUnder_4 : decode cX8_isUnder 4 = .ok (.iload_n 3, 1) := by decide +kernel
theorem dX8_isUnder_5 : decode cX8_isUnder 5 = .ok (.bipush 6, 2) := by decide +kernel
theorem dX8_isUnder_7 : decode cX8_isUnder 7 = .ok (.if_icmp .ge 19, 3) := by decide +kernel
theorem dX8_isUnder_10 : decode cX8_isUnder 10 = .ok (.iload_n 2, 1) := by decide +kernel
theorem dX8_isUnder_11 : decode cX8_isUnder 11 = .ok (.iload_n 1, 1) := by decide +kernel
theorem dX8_isUnder_12 : decode cX8_isUnder 12 = .ok (.if_icmp .eq 14, 3) := by decide +kernel
theorem dX8_isUnder_15 : decode cX8_isUnder 15 = .ok (.iload_n 2, 1) := by decide +kernel
theorem dX8_isUnder_16 : decode cX8_isUnder 16 = .ok (.invokestatic 370, 3) := by decide +kernel
theorem dX8_isUnder_19 : decode cX8_isUnder 19 = .ok (.istore_n 2, 1) := by decide +kernel
theorem dX8_isUnder_20 : decode cX8_isUnder 20 = .ok (.iinc 3 1, 3) := by decide +kernel
theorem dX8_isUnder_23 : decode cX8_isUnder 23 = .ok (.goto (-19), 3) := by decide +kernel
theorem dX8_isUnder_26 : decode cX8_isUnder 26 = .ok (.iload_n 2, 1) := by decide +kernel
theorem dX8_isUnder_27 : decode cX8_isUnder 27 = .ok (.iload_n 1, 1) := by decide +kernel
theorem dX8_isUnder_28 : decode cX8_isUnder 28 = .ok (.if_icmp .ne 7, 3) := by decide +kernel
theorem dX8_isUnder_31 : decode cX8_isUnder 31 = .ok (.iconst 1, 1) := by decide +kernel
theorem dX8_isUnder_32 : decode cX8_isUnder 32 = .ok (.goto 4, 3) := by decide +kernel
theorem dX8_isUnder_35 : decode cX8_isUnder 35 = .ok (.iconst 0, 1) := by decide +kernel
theorem dX8_isUnder_36 : decode cX8_isUnder 36 = .ok (.ireturn, 1) := by decide +kernel
theorem dX8_ownBody_0 : decode cX8_ownBody 0 = .ok (.iload_n 0, 1) := by decide +kernel
theorem dX8_ownBody_1 : decode cX8_ownBody 1 = .ok (.iconst 4, 1) := by decide +kernel
theorem dX8_ownBody_2 : decode cX8_ownBody 2 = .ok (.imul, 1) := by decide +kernel
theorem dX8_ownBody_3 : decode cX8_ownBody 3 = .ok (.iload_n 1, 1) := by decide +kernel
theorem dX8_ownBody_4 : decode cX8_ownBody 4 = .ok (.iadd, 1) := by decide +kernel
theorem dX8_ownBody_5 : decode cX8_ownBody 5 = .ok (.tableswitch 144 0 23 #[111, 114, 117, 120, 123, 144, 126, 144, 144, 144, 144, 129, 144, 132, 144, 144, 144, 144, 135, 144, 144, 141, 144, 138], 111) := by decide +kernel
theorem dX8_ownBody_116 : decode cX8_ownBody 116 = .ok (.bipush 10, 2) := by decide +kernel
theorem dX8_ownBody_118 : decode cX8_ownBody 118 = .ok (.ireturn, 1) := by decide +kernel
theorem dX8_ownBody_119 : decode cX8_ownBody 119 = .ok (.bipush 11, 2) := by decide +kernel
theorem dX8_ownBody_121 : decode cX8_ownBody 121 = .ok (.ireturn, 1) := by decide +kernel
theorem dX8_ownBody_122 : decode cX8_ownBody 122 = .ok (.bipush 12, 2) := by decide +kernel
theorem dX8_ownBody_124 : decode cX8_ownBody 124 = .ok (.ireturn, 1) := by decide +kernel
theorem dX8_ownBody_125 : decode cX8_ownBody 125 = .ok (.bipush 13, 2) := by decide +kernel
theorem dX8_ownBody_127 : decode cX8_ownBody 127 = .ok (.ireturn, 1) := by decide +kernel
theorem dX8_ownBody_128 : decode cX8_ownBody 128 = .ok (.bipush 20, 2) := by decide +kernel
theorem dX8_ownBody_130 : decode cX8_ownBody 130 = .ok (.ireturn, 1) := by decide +kernel
theorem dX8_ownBody_131 : decode cX8_ownBody 131 = .ok (.bipush 21, 2) := by decide +kernel
theorem dX8_ownBody_133 : decode cX8_ownBody 133 = .ok (.ireturn, 1) := by decide +kernel
theorem dX8_ownBody_134 : decode cX8_ownBody 134 = .ok (.bipush 30, 2) := by decide +kernel
theorem dX8_ownBody_136 : decode cX8_ownBody 136 = .ok (.ireturn, 1) := by decide +kernel
theorem dX8_ownBody_137 : decode cX8_ownBody 137 = .ok (.bipush 40, 2) := by decide +kernel
theorem dX8_ownBody_139 : decode cX8_ownBody 139 = .ok (.ireturn, 1) := by decide +kernel
theorem dX8_ownBody_140 : decode cX8_ownBody 140 = .ok (.bipush 50, 2) := by decide +kernel
theorem dX8_ownBody_142 : decode cX8_ownBody 142 = .ok (.ireturn, 1) := by decide +kernel
theorem dX8_ownBody_143 : decode cX8_ownBody 143 = .ok (.bipush 60, 2) := by decide +kernel
theorem dX8_ownBody_145 : decode cX8_ownBody 145 = .ok (.ireturn, 1) := by decide +kernel
theorem dX8_ownBody_146 : decode cX8_ownBody 146 = .ok (.bipush 61, 2) := by decide +kernel
theorem dX8_ownBody_148 : decode cX8_ownBody 148 = .ok (.ireturn, 1) := by decide +kernel
theorem dX8_ownBody_149 : decode cX8_ownBody 149 = .ok (.iconst (-1), 1) := by decide +kernel
theorem dX8_ownBody_150 : decode cX8_ownBody 150 = .ok (.ireturn, 1) := by decide +kernel
theorem dX8_run_0 : decode cX8_run 0 = .ok (.iload_n 2, 1) := by decide +kernel
theorem dX8_run_1 : decode cX8_run 1 = .ok (.istore 6, 2) := by decide +kernel
theorem dX8_run_3 : decode cX8_run 3 = .ok (.iconst 0, 1) := by decide +kernel
theorem dX8_run_4 : decode cX8_run 4 = .ok (.istore 7, 2) := by decide +kernel
theorem dX8_run_6 : decode cX8_run 6 = .ok (.iload 7, 2) := by decide +kernel
theorem dX8_run_8 : decode cX8_run 8 = .ok (.bipush 6, 2) := by decide +kernel
theorem dX8_run_10 : decode cX8_run 10 = .ok (.if_icmp .ge 26, 3) := by decide +kernel
theorem dX8_run_13 : decode cX8_run 13 = .ok (.iload 6, 2) := by decide +kernel
theorem dX8_run_15 : decode cX8_run 15 = .ok (.iload_n 3, 1) := by decide +kernel
theorem dX8_run_16 : decode cX8_run 16 = .ok (.invokestatic 373, 3) := by decide +kernel
theorem dX8_run_19 : decode cX8_run 19 = .ok (.iconst (-1), 1) := by decide +kernel
theorem dX8_run_20 : decode cX8_run 20 = .ok (.if_icmp .ne 16, 3) := by decide +kernel
theorem dX8_run_23 : decode cX8_run 23 = .ok (.iload 6, 2) := by decide +kernel
theorem dX8_run_25 : decode cX8_run 25 = .ok (.invokestatic 370, 3) := by decide +kernel
theorem dX8_run_28 : decode cX8_run 28 = .ok (.istore 6, 2) := by decide +kernel
theorem dX8_run_30 : decode cX8_run 30 = .ok (.iinc 7 1, 3) := by decide +kernel
theorem dX8_run_33 : decode cX8_run 33 = .ok (.goto (-27), 3) := by decide +kernel
theorem dX8_run_36 : decode cX8_run 36 = .ok (.iload 6, 2) := by decide +kernel
theorem dX8_run_38 : decode cX8_run 38 = .ok (.iload_n 3, 1) := by decide +kernel
theorem dX8_run_39 : decode cX8_run 39 = .ok (.invokestatic 373, 3) := by decide +kernel
theorem dX8_run_42 : decode cX8_run 42 = .ok (.istore 7, 2) := by decide +kernel
theorem dX8_run_44 : decode cX8_run 44 = .ok (.iload 7, 2) := by decide +kernel
theorem dX8_run_46 : decode cX8_run 46 = .ok (.iconst (-1), 1) := by decide +kernel
theorem dX8_run_47 : decode cX8_run 47 = .ok (.if_icmp .eq 10, 3) := by decide +kernel
theorem dX8_run_50 : decode cX8_run 50 = .ok (.iload 5, 2) := by decide +kernel
theorem dX8_run_52 : decode cX8_run 52 = .ok (.bipush 20, 2) := by decide +kernel
theorem dX8_run_54 : decode cX8_run 54 = .ok (.if_icmp .le 5, 3) := by decide +kernel
theorem dX8_run_57 : decode cX8_run 57 = .ok (.iconst 0, 1) := by decide +kernel
theorem dX8_run_58 : decode cX8_run 58 = .ok (.ireturn, 1) := by decide +kernel
theorem dX8_run_59 : decode cX8_run 59 = .ok (.iload 6, 2) := by decide +kernel
theorem dX8_run_61 : decode cX8_run 61 = .ok (.invokestatic 370, 3) := by decide +kernel
theorem dX8_run_64 : decode cX8_run 64 = .ok (.istore 8, 2) := by decide +kernel
theorem dX8_run_66 : decode cX8_run 66 = .ok (.iload 5, 2) := by decide +kernel
theorem dX8_run_68 : decode cX8_run 68 = .ok (.iconst 1, 1) := by decide +kernel
theorem dX8_run_69 : decode cX8_run 69 = .ok (.iadd, 1) := by decide +kernel
theorem dX8_run_70 : decode cX8_run 70 = .ok (.istore 9, 2) := by decide +kernel
theorem dX8_run_72 : decode cX8_run 72 = .ok (.aload_n 0, 1) := by decide +kernel
theorem dX8_run_73 : decode cX8_run 73 = .ok (.iload 7, 2) := by decide +kernel
theorem dX8_run_75 : decode cX8_run 75 = .ok (.invokevirtual 376, 3) := by decide +kernel
theorem dX8_run_78 : decode cX8_run 78 = .ok (.iload 7, 2) := by decide +kernel
theorem dX8_run_80 : decode cX8_run 80 = .ok (.lookupswitch 284 #[(10, 100), (11, 108), (12, 125), (13, 155), (20, 163), (21, 178), (30, 193), (40, 208), (50, 223), (60, 241), (61, 256)], 100) := by decide +kernel
theorem dX8_run_180 : decode cX8_run 180 = .ok (.iload 4, 2) := by decide +kernel
theorem dX8_run_182 : decode cX8_run 182 = .ok (.aload_n 1, 1) := by decide +kernel
theorem dX8_run_183 : decode cX8_run 183 = .ok (.getfield 131, 3) := by decide +kernel
theorem dX8_run_186 : decode cX8_run 186 = .ok (.iadd, 1) := by decide +kernel
theorem dX8_run_187 : decode cX8_run 187 = .ok (.ireturn, 1) := by decide +kernel
theorem dX8_run_188 : decode cX8_run 188 = .ok (.aload_n 0, 1) := by decide +kernel
theorem dX8_run_189 : decode cX8_run 189 = .ok (.aload_n 1, 1) := by decide +kernel
theorem dX8_run_190 : decode cX8_run 190 = .ok (.aload_n 1, 1) := by decide +kernel
theorem dX8_run_191 : decode cX8_run 191 = .ok (.getfield 281, 3) := by decide +kernel
theorem dX8_run_194 : decode cX8_run 194 = .ok (.iconst 0, 1) := by decide +kernel
theorem dX8_run_195 : decode cX8_run 195 = .ok (.iload 4, 2) := by decide +kernel
theorem dX8_run_197 : decode cX8_run 197 = .ok (.iload 9, 2) := by decide +kernel
theorem dX8_run_199 : decode cX8_run 199 = .ok (.invokestatic 284, 3) := by decide +kernel
theorem dX8_run_202 : decode cX8_run 202 = .ok (.iconst 3, 1) := by decide +kernel
theorem dX8_run_203 : decode cX8_run 203 = .ok (.imul, 1) := by decide +kernel
theorem dX8_run_204 : decode cX8_run 204 = .ok (.ireturn, 1) := by decide +kernel
theorem dX8_run_205 : decode cX8_run 205 = .ok (.aload_n 0, 1) := by decide +kernel
theorem dX8_run_206 : decode cX8_run 206 = .ok (.aload_n 1, 1) := by decide +kernel
theorem dX8_run_207 : decode cX8_run 207 = .ok (.aload_n 1, 1) := by decide +kernel
theorem dX8_run_208 : decode cX8_run 208 = .ok (.getfield 281, 3) := by decide +kernel
theorem dX8_run_211 : decode cX8_run 211 = .ok (.iconst 1, 1) := by decide +kernel
theorem dX8_run_212 : decode cX8_run 212 = .ok (.iload 4, 2) := by decide +kernel
theorem dX8_run_214 : decode cX8_run 214 = .ok (.iload 9, 2) := by decide +kernel
theorem dX8_run_216 : decode cX8_run 216 = .ok (.invokestatic 284, 3) := by decide +kernel
theorem dX8_run_219 : decode cX8_run 219 = .ok (.aload_n 0, 1) := by decide +kernel
theorem dX8_run_220 : decode cX8_run 220 = .ok (.aload_n 1, 1) := by decide +kernel
theorem dX8_run_221 : decode cX8_run 221 = .ok (.aload_n 1, 1) := by decide +kernel
theorem dX8_run_222 : decode cX8_run 222 = .ok (.getfield 281, 3) := by decide +kernel
theorem dX8_run_225 : decode cX8_run 225 = .ok (.iconst 3, 1) := by decide +kernel
theorem dX8_run_226 : decode cX8_run 226 = .ok (.iload 4, 2) := by decide +kernel
theorem dX8_run_228 : decode cX8_run 228 = .ok (.iload 9, 2) := by decide +kernel
theorem dX8_run_230 : decode cX8_run 230 = .ok (.invokestatic 284, 3) := by decide +kernel
theorem dX8_run_233 : decode cX8_run 233 = .ok (.isub, 1) := by decide +kernel
theorem dX8_run_234 : decode cX8_run 234 = .ok (.ireturn, 1) := by decide +kernel
theorem dX8_run_235 : decode cX8_run 235 = .ok (.iload 4, 2) := by decide +kernel
theorem dX8_run_237 : decode cX8_run 237 = .ok (.aload_n 1, 1) := by decide +kernel
theorem dX8_run_238 : decode cX8_run 238 = .ok (.getfield 131, 3) := by decide +kernel
theorem dX8_run_241 : decode cX8_run 241 = .ok (.ixor, 1) := by decide +kernel
theorem dX8_run_242 : decode cX8_run 242 = .ok (.ireturn, 1) := by decide +kernel
theorem dX8_run_243 : decode cX8_run 243 = .ok (.aload_n 0, 1) := by decide +kernel
theorem dX8_run_244 : decode cX8_run 244 = .ok (.aload_n 1, 1) := by decide +kernel
theorem dX8_run_245 : decode cX8_run 245 = .ok (.iload 8, 2) := by decide +kernel
theorem dX8_run_247 : decode cX8_run 247 = .ok (.iconst 0, 1) := by decide +kernel
theorem dX8_run_248 : decode cX8_run 248 = .ok (.iload 4, 2) := by decide +kernel
theorem dX8_run_250 : decode cX8_run 250 = .ok (.iload 9, 2) := by decide +kernel
theorem dX8_run_252 : decode cX8_run 252 = .ok (.invokestatic 284, 3) := by decide +kernel
theorem dX8_run_255 : decode cX8_run 255 = .ok (.iconst 2, 1) := by decide +kernel
theorem dX8_run_256 : decode cX8_run 256 = .ok (.imul, 1) := by decide +kernel
theorem dX8_run_257 : decode cX8_run 257 = .ok (.ireturn, 1) := by decide +kernel
theorem dX8_run_258 : decode cX8_run 258 = .ok (.aload_n 0, 1) := by decide +kernel
theorem dX8_run_259 : decode cX8_run 259 = .ok (.aload_n 1, 1) := by decide +kernel
theorem dX8_run_260 : decode cX8_run 260 = .ok (.iload 8, 2) := by decide +kernel
theorem dX8_run_262 : decode cX8_run 262 = .ok (.iconst 2, 1) := by decide +kernel
theorem dX8_run_263 : decode cX8_run 263 = .ok (.iload 4, 2) := by decide +kernel
theorem dX8_run_265 : decode cX8_run 265 = .ok (.iconst 1, 1) := by decide +kernel
theorem dX8_run_266 : decode cX8_run 266 = .ok (.iadd, 1) := by decide +kernel
theorem dX8_run_267 : decode cX8_run 267 = .ok (.iload 9, 2) := by decide +kernel
theorem dX8_run_269 : decode cX8_run 269 = .ok (.invokestatic 284, 3) := by decide +kernel
theorem dX8_run_272 : decode cX8_run 272 = .ok (.ireturn, 1) := by decide +kernel
theorem dX8_run_273 : decode cX8_run 273 = .ok (.aload_n 0, 1) := by decide +kernel
theorem dX8_run_274 : decode cX8_run 274 = .ok (.aload_n 1, 1) := by decide +kernel
theorem dX8_run_275 : decode cX8_run 275 = .ok (.iload 8, 2) := by decide +kernel
theorem dX8_run_277 : decode cX8_run 277 = .ok (.iconst 3, 1) := by decide +kernel
theorem dX8_run_278 : decode cX8_run 278 = .ok (.iload 4, 2) := by decide +kernel
theorem dX8_run_280 : decode cX8_run 280 = .ok (.iload 9, 2) := by decide +kernel
theorem dX8_run_282 : decode cX8_run 282 = .ok (.invokestatic 284, 3) := by decide +kernel
theorem dX8_run_285 : decode cX8_run 285 = .ok (.iconst 1, 1) := by decide +kernel
theorem dX8_run_286 : decode cX8_run 286 = .ok (.isub, 1) := by decide +kernel
theorem dX8_run_287 : decode cX8_run 287 = .ok (.ireturn, 1) := by decide +kernel
theorem dX8_run_288 : decode cX8_run 288 = .ok (.aload_n 0, 1) := by decide +kernel
theorem dX8_run_289 : decode cX8_run 289 = .ok (.aload_n 1, 1) := by decide +kernel
theorem dX8_run_290 : decode cX8_run 290 = .ok (.iload 8, 2) := by decide +kernel
theorem dX8_run_292 : decode cX8_run 292 = .ok (.iconst 1, 1) := by decide +kernel
theorem dX8_run_293 : decode cX8_run 293 = .ok (.iload 4, 2) := by decide +kernel
theorem dX8_run_295 : decode cX8_run 295 = .ok (.iload 9, 2) := by decide +kernel
theorem dX8_run_297 : decode cX8_run 297 = .ok (.invokestatic 284, 3) := by decide +kernel
theorem dX8_run_300 : decode cX8_run 300 = .ok (.iconst 5, 1) := by decide +kernel
theorem dX8_run_301 : decode cX8_run 301 = .ok (.iadd, 1) := by decide +kernel
theorem dX8_run_302 : decode cX8_run 302 = .ok (.ireturn, 1) := by decide +kernel
theorem dX8_run_303 : decode cX8_run 303 = .ok (.aload_n 0, 1) := by decide +kernel
theorem dX8_run_304 : decode cX8_run 304 = .ok (.aload_n 1, 1) := by decide +kernel
theorem dX8_run_305 : decode cX8_run 305 = .ok (.iload 8, 2) := by decide +kernel
theorem dX8_run_307 : decode cX8_run 307 = .ok (.iconst 2, 1) := by decide +kernel
theorem dX8_run_308 : decode cX8_run 308 = .ok (.iload 4, 2) := by decide +kernel
theorem dX8_run_310 : decode cX8_run 310 = .ok (.iload 9, 2) := by decide +kernel
theorem dX8_run_312 : decode cX8_run 312 = .ok (.invokestatic 284, 3) := by decide +kernel
theorem dX8_run_315 : decode cX8_run 315 = .ok (.aload_n 1, 1) := by decide +kernel
theorem dX8_run_316 : decode cX8_run 316 = .ok (.invokestatic 379, 3) := by decide +kernel
theorem dX8_run_319 : decode cX8_run 319 = .ok (.iadd, 1) := by decide +kernel
theorem dX8_run_320 : decode cX8_run 320 = .ok (.ireturn, 1) := by decide +kernel
theorem dX8_run_321 : decode cX8_run 321 = .ok (.aload_n 0, 1) := by decide +kernel
theorem dX8_run_322 : decode cX8_run 322 = .ok (.aload_n 1, 1) := by decide +kernel
theorem dX8_run_323 : decode cX8_run 323 = .ok (.iload 8, 2) := by decide +kernel
theorem dX8_run_325 : decode cX8_run 325 = .ok (.iconst 3, 1) := by decide +kernel
theorem dX8_run_326 : decode cX8_run 326 = .ok (.iload 4, 2) := by decide +kernel
theorem dX8_run_328 : decode cX8_run 328 = .ok (.iload 9, 2) := by decide +kernel
theorem dX8_run_330 : decode cX8_run 330 = .ok (.invokestatic 284, 3) := by decide +kernel
theorem dX8_run_333 : decode cX8_run 333 = .ok (.iconst 2, 1) := by decide +kernel
theorem dX8_run_334 : decode cX8_run 334 = .ok (.imul, 1) := by decide +kernel
theorem dX8_run_335 : decode cX8_run 335 = .ok (.ireturn, 1) := by decide +kernel
theorem dX8_run_336 : decode cX8_run 336 = .ok (.aload_n 0, 1) := by decide +kernel
theorem dX8_run_337 : decode cX8_run 337 = .ok (.aload_n 1, 1) := by decide +kernel
theorem dX8_run_338 : decode cX8_run 338 = .ok (.iload 8, 2) := by decide +kernel
theorem dX8_run_340 : decode cX8_run 340 = .ok (.iconst 1, 1) := by decide +kernel
theorem dX8_run_341 : decode cX8_run 341 = .ok (.iload 4, 2) := by decide +kernel
theorem dX8_run_343 : decode cX8_run 343 = .ok (.iload 9, 2) := by decide +kernel
theorem dX8_run_345 : decode cX8_run 345 = .ok (.invokestatic 284, 3) := by decide +kernel
theorem dX8_run_348 : decode cX8_run 348 = .ok (.aload_n 0, 1) := by decide +kernel
theorem dX8_run_349 : decode cX8_run 349 = .ok (.aload_n 1, 1) := by decide +kernel
theorem dX8_run_350 : decode cX8_run 350 = .ok (.aload_n 1, 1) := by decide +kernel
theorem dX8_run_351 : decode cX8_run 351 = .ok (.getfield 281, 3) := by decide +kernel
theorem dX8_run_354 : decode cX8_run 354 = .ok (.iconst 0, 1) := by decide +kernel
theorem dX8_run_355 : decode cX8_run 355 = .ok (.iload 4, 2) := by decide +kernel
theorem dX8_run_357 : decode cX8_run 357 = .ok (.iload 9, 2) := by decide +kernel
theorem dX8_run_359 : decode cX8_run 359 = .ok (.invokestatic 284, 3) := by decide +kernel
theorem dX8_run_362 : decode cX8_run 362 = .ok (.isub, 1) := by decide +kernel
theorem dX8_run_363 : decode cX8_run 363 = .ok (.ireturn, 1) := by decide +kernel
theorem dX8_run_364 : decode cX8_run 364 = .ok (.iconst 0, 1) := by decide +kernel
theorem dX8_run_365 : decode cX8_run 365 = .ok (.ireturn, 1) := by decide +kernel
theorem dX8_tickOf_0 : decode cX8_tickOf 0 = .ok (.aload_n 0, 1) := by decide +kernel
theorem dX8_tickOf_1 : decode cX8_tickOf 1 = .ok (.instanceof 214, 3) := by decide +kernel
theorem dX8_tickOf_4 : decode cX8_tickOf 4 = .ok (.ifCond .eq 15, 3) := by decide +kernel
theorem dX8_tickOf_7 : decode cX8_tickOf 7 = .ok (.aload_n 0, 1) := by decide +kernel
theorem dX8_tickOf_8 : decode cX8_tickOf 8 = .ok (.checkcast 214, 3) := by decide +kernel
theorem dX8_tickOf_11 : decode cX8_tickOf 11 = .ok (.astore_n 1, 1) := by decide +kernel
theorem dX8_tickOf_12 : decode cX8_tickOf 12 = .ok (.aload_n 1, 1) := by decide +kernel
theorem dX8_tickOf_13 : decode cX8_tickOf 13 = .ok (.getfield 239, 3) := by decide +kernel
theorem dX8_tickOf_16 : decode cX8_tickOf 16 = .ok (.goto 4, 3) := by decide +kernel
theorem dX8_tickOf_19 : decode cX8_tickOf 19 = .ok (.iconst 0, 1) := by decide +kernel
theorem dX8_tickOf_20 : decode cX8_tickOf 20 = .ok (.ireturn, 1) := by decide +kernel
theorem dX9_init_0 : decode cX9_init 0 = .ok (.aload_n 0, 1) := by decide +kernel
theorem dX9_init_1 : decode cX9_init 1 = .ok (.invokespecial 1, 3) := by decide +kernel
theorem dX9_init_4 : decode cX9_init 4 = .ok (.aload_n 0, 1) := by decide +kernel
theorem dX9_init_5 : decode cX9_init 5 = .ok (.bipush 101, 2) := by decide +kernel
theorem dX9_init_7 : decode cX9_init 7 = .ok (.putfield 7, 3) := by decide +kernel
theorem dX9_init_10 : decode cX9_init 10 = .ok (.aload_n 0, 1) := by decide +kernel
theorem dX9_init_11 : decode cX9_init 11 = .ok (.iconst 2, 1) := by decide +kernel
theorem dX9_init_12 : decode cX9_init 12 = .ok (.putfield 13, 3) := by decide +kernel
theorem dX9_init_15 : decode cX9_init 15 = .ok (.aload_n 0, 1) := by decide +kernel
theorem dX9_init_16 : decode cX9_init 16 = .ok (.bipush 6, 2) := by decide +kernel
theorem dX9_init_18 : decode cX9_init 18 = .ok (.putfield 16, 3) := by decide +kernel
theorem dX9_init_21 : decode cX9_init 21 = .ok (.aload_n 0, 1) := by decide +kernel
theorem dX9_init_22 : decode cX9_init 22 = .ok (.bipush 50, 2) := by decide +kernel
theorem dX9_init_24 : decode cX9_init 24 = .ok (.putfield 19, 3) := by decide +kernel
theorem dX9_init_27 : decode cX9_init 27 = .ok (.aload_n 0, 1) := by decide +kernel
theorem dX9_init_28 : decode cX9_init 28 = .ok (.sipush 8000, 3) := by decide +kernel
theorem dX9_init_31 : decode cX9_init 31 = .ok (.newarray .int, 2) := by decide +kernel
theorem dX9_init_33 : decode cX9_init 33 = .ok (.putfield 22, 3) := by decide +kernel
theorem dX9_init_36 : decode cX9_init 36 = .ok (.aload_n 0, 1) := by decide +kernel
theorem dX9_init_37 : decode cX9_init 37 = .ok (.sipush 8000, 3) := by decide +kernel
theorem dX9_init_40 : decode cX9_init 40 = .ok (.newarray .int, 2) := by decide +kernel
theorem dX9_init_42 : decode cX9_init 42 = .ok (.putfield 26, 3) := by decide +kernel
theorem dX9_init_45 : decode cX9_init 45 = .ok (.aload_n 0, 1) := by decide +kernel
theorem dX9_init_46 : decode cX9_init 46 = .ok (.sipush 8000, 3) := by decide +kernel
theorem dX9_init_49 : decode cX9_init 49 = .ok (.newarray .int, 2) := by decide +kernel
theorem dX9_init_51 : decode cX9_init 51 = .ok (.putfield 29, 3) := by decide +kernel
theorem dX9_init_54 : decode cX9_init 54 = .ok (.aload_n 0, 1) := by decide +kernel
theorem dX9_init_55 : decode cX9_init 55 = .ok (.sipush 8000, 3) := by decide +kernel
theorem dX9_init_58 : decode cX9_init 58 = .ok (.newarray .int, 2) := by decide +kernel
theorem dX9_init_60 : decode cX9_init 60 = .ok (.putfield 32, 3) := by decide +kernel
theorem dX9_init_63 : decode cX9_init 63 = .ok (.aload_n 0, 1) := by decide +kernel
theorem dX9_init_64 : decode cX9_init 64 = .ok (.sipush 8000, 3) := by decide +kernel
theorem dX9_init_67 : decode cX9_init 67 = .ok (.newarray .boolean, 2) := by decide +kernel
theorem dX9_init_69 : decode cX9_init 69 = .ok (.putfield 35, 3) := by decide +kernel
theorem dX9_init_72 : decode cX9_init 72 = .ok (.aload_n 0, 1) := by decide +kernel
theorem dX9_init_73 : decode cX9_init 73 = .ok (.sipush 8000, 3) := by decide +kernel
theorem dX9_init_76 : decode cX9_init 76 = .ok (.newarray .int, 2) := by decide +kernel
theorem dX9_init_78 : decode cX9_init 78 = .ok (.putfield 39, 3) := by decide +kernel
theorem dX9_init_81 : decode cX9_init 81 = .ok (.aload_n 0, 1) := by decide +kernel
theorem dX9_init_82 : decode cX9_init 82 = .ok (.bipush 12, 2) := by decide +kernel
theorem dX9_init_84 : decode cX9_init 84 = .ok (.newarray .int, 2) := by decide +kernel
theorem dX9_init_86 : decode cX9_init 86 = .ok (.putfield 42, 3) := by decide +kernel
theorem dX9_init_89 : decode cX9_init 89 = .ok (.aload_n 0, 1) := by decide +kernel
theorem dX9_init_90 : decode cX9_init 90 = .ok (.sipush 144, 3) := by decide +kernel
theorem dX9_init_93 : decode cX9_init 93 = .ok (.newarray .int, 2) := by decide +kernel
theorem dX9_init_95 : decode cX9_init 95 = .ok (.putfield 45, 3) := by decide +kernel
theorem dX9_init_98 : decode cX9_init 98 = .ok (.aload_n 0, 1) := by decide +kernel
theorem dX9_init_99 : decode cX9_init 99 = .ok (.bipush 6, 2) := by decide +kernel
theorem dX9_init_101 : decode cX9_init 101 = .ok (.newarray .boolean, 2) := by decide +kernel
theorem dX9_init_103 : decode cX9_init 103 = .ok (.putfield 48, 3) := by decide +kernel
theorem dX9_init_106 : decode cX9_init 106 = .ok (.aload_n 0, 1) := by decide +kernel
theorem dX9_init_107 : decode cX9_init 107 = .ok (.bipush 12, 2) := by decide +kernel
theorem dX9_init_109 : decode cX9_init 109 = .ok (.newarray .int, 2) := by decide +kernel
theorem dX9_init_111 : decode cX9_init 111 = .ok (.putfield 51, 3) := by decide +kernel
theorem dX9_init_114 : decode cX9_init 114 = .ok (.aload_n 0, 1) := by decide +kernel
theorem dX9_init_115 : decode cX9_init 115 = .ok (.bipush 12, 2) := by decide +kernel
theorem dX9_init_117 : decode cX9_init 117 = .ok (.newarray .int, 2) := by decide +kernel
theorem dX9_init_119 : decode cX9_init 119 = .ok (.putfield 54, 3) := by decide +kernel
theorem dX9_init_122 : decode cX9_init 122 = .ok (.aload_n 0, 1) := by decide +kernel
theorem dX9_init_123 : decode cX9_init 123 = .ok (.bipush 12, 2) := by decide +kernel
theorem dX9_init_125 : decode cX9_init 125 = .ok (.newarray .int, 2) := by decide +kernel
theorem dX9_init_127 : decode cX9_init 127 = .ok (.putfield 57, 3) := by decide +kernel
theorem dX9_init_130 : decode cX9_init 130 = .ok (.aload_n 0, 1) := by decide +kernel
theorem dX9_init_131 : decode cX9_init 131 = .ok (.bipush 12, 2) := by decide +kernel
theorem dX9_init_133 : decode cX9_init 133 = .ok (.newarray .int, 2) := by decide +kernel
theorem dX9_init_135 : decode cX9_init 135 = .ok (.putfield 60, 3) := by decide +kernel
theorem dX9_init_138 : decode cX9_init 138 = .ok (.aload_n 0, 1) := by decide +kernel
theorem dX9_init_139 : decode cX9_init 139 = .ok (.bipush 12, 2) := by decide +kernel
theorem dX9_init_141 : decode cX9_init 141 = .ok (.newarray .int, 2) := by decide +kernel
theorem dX9_init_143 : decode cX9_init 143 = .ok (.putfield 63, 3) := by decide +kernel
theorem dX9_init_146 : decode cX9_init 146 = .ok (.aload_n 0, 1) := by decide +kernel
theorem dX9_init_147 : decode cX9_init 147 = .ok (.bipush 12, 2) := by decide +kernel
theorem dX9_init_149 : decode cX9_init 149 = .ok (.newarray .int, 2) := by decide +kernel
theorem dX9_init_151 : decode cX9_init 151 = .ok (.putfield 66, 3) := by decide +kernel
theorem dX9_init_154 : decode cX9_init 154 = .ok (.aload_n 0, 1) := by decide +kernel
theorem dX9_init_155 : decode cX9_init 155 = .ok (.bipush 12, 2) := by decide +kernel
theorem dX9_init_157 : decode cX9_init 157 = .ok (.newarray .int, 2) := by decide +kernel
theorem dX9_init_159 : decode cX9_init 159 = .ok (.putfield 69, 3) := by decide +kernel
theorem dX9_init_162 : decode cX9_init 162 = .ok (.aload_n 0, 1) := by decide +kernel
theorem dX9_init_163 : decode cX9_init 163 = .ok (.bipush 12, 2) := by decide +kernel
theorem dX9_init_165 : decode cX9_init 165 = .ok (.newarray .int, 2) := by decide +kernel
theorem dX9_init_167 : decode cX9_init 167 = .ok (.putfield 72, 3) := by decide +kernel
theorem dX9_init_170 : decode cX9_init 170 = .ok (.aload_n 0, 1) := by decide +kernel
theorem dX9_init_171 : decode cX9_init 171 = .ok (.bipush 12, 2) := by decide +kernel
theorem dX9_init_173 : decode cX9_init 173 = .ok (.newarray .int, 2) := by decide +kernel
theorem dX9_init_175 : decode cX9_init 175 = .ok (.putfield 75, 3) := by decide +kernel
theorem dX9_init_178 : decode cX9_init 178 = .ok (.aload_n 0, 1) := by decide +kernel
theorem dX9_init_179 : decode cX9_init 179 = .ok (.sipush 7200, 3) := by decide +kernel
theorem dX9_init_182 : decode cX9_init 182 = .ok (.newarray .int, 2) := by decide +kernel
theorem dX9_init_184 : decode cX9_init 184 = .ok (.putfield 78, 3) := by decide +kernel
theorem dX9_init_187 : decode cX9_init 187 = .ok (.aload_n 0, 1) := by decide +kernel
theorem dX9_init_188 : decode cX9_init 188 = .ok (.bipush 12, 2) := by decide +kernel
theorem dX9_init_190 : decode cX9_init 190 = .ok (.newarray .int, 2) := by decide +kernel
theorem dX9_init_192 : decode cX9_init 192 = .ok (.putfield 81, 3) := by decide +kernel
theorem dX9_init_195 : decode cX9_init 195 = .ok (.aload_n 0, 1) := by decide +kernel
theorem dX9_init_196 : decode cX9_init 196 = .ok (.sipush 144, 3) := by decide +kernel
theorem dX9_init_199 : decode cX9_init 199 = .ok (.newarray .int, 2) := by decide +kernel
theorem dX9_init_201 : decode cX9_init 201 = .ok (.putfield 84, 3) := by decide +kernel
theorem dX9_init_204 : decode cX9_init 204 = .ok (.aload_n 0, 1) := by decide +kernel
theorem dX9_init_205 : decode cX9_init 205 = .ok (.sipush 144, 3) := by decide +kernel
theorem dX9_init_208 : decode cX9_init 208 = .ok (.newarray .int, 2) := by decide +kernel
theorem dX9_init_210 : decode cX9_init 210 = .ok (.putfield 87, 3) := by decide +kernel
theorem dX9_init_213 : decode cX9_init 213 = .ok (.aload_n 0, 1) := by decide +kernel
theorem dX9_init_214 : decode cX9_init 214 = .ok (.sipush 144, 3) := by decide +kernel
theorem dX9_init_217 : decode cX9_init 217 = .ok (.newarray .int, 2) := by decide +kernel
theorem dX9_init_219 : decode cX9_init 219 = .ok (.putfield 90, 3) := by decide +kernel
theorem dX9_init_222 : decode cX9_init 222 = .ok (.aload_n 0, 1) := by decide +kernel
theorem dX9_init_223 : decode cX9_init 223 = .ok (.sipush 144, 3) := by decide +kernel
theorem dX9_init_226 : decode cX9_init 226 = .ok (.newarray .int, 2) := by decide +kernel
theorem dX9_init_228 : decode cX9_init 228 = .ok (.putfield 93, 3) := by decide +kernel
theorem dX9_init_231 : decode cX9_init 231 = .ok (.aload_n 0, 1) := by decide +kernel
theorem dX9_init_232 : decode cX9_init 232 = .ok (.sipush 300, 3) := by decide +kernel
theorem dX9_init_235 : decode cX9_init 235 = .ok (.newarray .int, 2) := by decide +kernel
theorem dX9_init_237 : decode cX9_init 237 = .ok (.putfield 96, 3) := by decide +kernel
theorem dX9_init_240 : decode cX9_init 240 = .ok (.aload_n 0, 1) := by decide +kernel
theorem dX9_init_241 : decode cX9_init 241 = .ok (.sipush 300, 3) := by decide +kernel
theorem dX9_init_244 : decode cX9_init 244 = .ok (.newarray .int, 2) := by decide +kernel
theorem dX9_init_246 : decode cX9_init 246 = .ok (.putfield 99, 3) := by decide +kernel
theorem dX9_init_249 : decode cX9_init 249 = .ok (.aload_n 0, 1) := by decide +kernel
theorem dX9_init_250 : decode cX9_init 250 = .ok (.sipush 300, 3) := by decide +kernel
theorem dX9_init_253 : decode cX9_init 253 = .ok (.newarray .int, 2) := by decide +kernel
theorem dX9_init_255 : decode cX9_init 255 = .ok (.putfield 102, 3) := by decide +kernel
theorem dX9_init_258 : decode cX9_init 258 = .ok (.aload_n 0, 1) := by decide +kernel
theorem dX9_init_259 : decode cX9_init 259 = .ok (.sipush 300, 3) := by decide +kernel
theorem dX9_init_262 : decode cX9_init 262 = .ok (.newarray .int, 2) := by decide +kernel
theorem dX9_init_264 : decode cX9_init 264 = .ok (.putfield 105, 3) := by decide +kernel
theorem dX9_init_267 : decode cX9_init 267 = .ok (.aload_n 0, 1) := by decide +kernel
theorem dX9_init_268 : decode cX9_init 268 = .ok (.sipush 300, 3) := by decide +kernel
theorem dX9_init_271 : decode cX9_init 271 = .ok (.newarray .int, 2) := by decide +kernel
theorem dX9_init_273 : decode cX9_init 273 = .ok (.putfield 108, 3) := by decide +kernel
theorem dX9_init_276 : decode cX9_init 276 = .ok (.aload_n 0, 1) := by decide +kernel
theorem dX9_init_277 : decode cX9_init 277 = .ok (.sipush 300, 3) := by decide +kernel
theorem dX9_init_280 : decode cX9_init 280 = .ok (.newarray .int, 2) := by decide +kernel
theorem dX9_init_282 : decode cX9_init 282 = .ok (.putfield 111, 3) := by decide +kernel
theorem dX9_init_285 : decode cX9_init 285 = .ok (.aload_n 0, 1) := by decide +kernel
theorem dX9_init_286 : decode cX9_init 286 = .ok (.sipush 300, 3) := by decide +kernel
theorem dX9_init_289 : decode cX9_init 289 = .ok (.newarray .int, 2) := by decide +kernel
theorem dX9_init_291 : decode cX9_init 291 = .ok (.putfield 114, 3) := by decide +kernel
theorem dX9_init_294 : decode cX9_init 294 = .ok (.aload_n 0, 1) := by decide +kernel
theorem dX9_init_295 : decode cX9_init 295 = .ok (.sipush 300, 3) := by decide +kernel
theorem dX9_init_298 : decode cX9_init 298 = .ok (.newarray .int, 2) := by decide +kernel
theorem dX9_init_300 : decode cX9_init 300 = .ok (.putfield 117, 3) := by decide +kernel
theorem dX9_init_303 : decode cX9_init 303 = .ok (.aload_n 0, 1) := by decide +kernel
theorem dX9_init_304 : decode cX9_init 304 = .ok (.bipush 8, 2) := by decide +kernel
theorem dX9_init_306 : decode cX9_init 306 = .ok (.newarray .int, 2) := by decide +kernel
theorem dX9_init_308 : decode cX9_init 308 = .ok (.putfield 120, 3) := by decide +kernel
theorem dX9_init_311 : decode cX9_init 311 = .ok (.aload_n 0, 1) := by decide +kernel
theorem dX9_init_312 : decode cX9_init 312 = .ok (.bipush 8, 2) := by decide +kernel
theorem dX9_init_314 : decode cX9_init 314 = .ok (.newarray .int, 2) := by decide +kernel
theorem dX9_init_316 : decode cX9_init 316 = .ok (.putfield 123, 3) := by decide +kernel
theorem dX9_init_319 : decode cX9_init 319 = .ok (.aload_n 0, 1) := by decide +kernel
theorem dX9_init_320 : decode cX9_init 320 = .ok (.bipush 8, 2) := by decide +kernel
theorem dX9_init_322 : decode cX9_init 322 = .ok (.newarray .int, 2) := by decide +kernel
theorem dX9_init_324 : decode cX9_init 324 = .ok (.putfield 126, 3) := by decide +kernel
theorem dX9_init_327 : decode cX9_init 327 = .ok (.aload_n 0, 1) := by decide +kernel
theorem dX9_init_328 : decode cX9_init 328 = .ok (.bipush 40, 2) := by decide +kernel
theorem dX9_init_330 : decode cX9_init 330 = .ok (.newarray .int, 2) := by decide +kernel
theorem dX9_init_332 : decode cX9_init 332 = .ok (.putfield 129, 3) := by decide +kernel
theorem dX9_init_335 : decode cX9_init 335 = .ok (.return_, 1) := by decide +kernel
theorem dX9_in_0 : decode cX9_in 0 = .ok (.iload_n 0, 1) := by decide +kernel
theorem dX9_in_1 : decode cX9_in 1 = .ok (.iload_n 1, 1) := by decide +kernel
theorem dX9_in_2 : decode cX9_in 2 = .ok (.if_icmp .lt 12, 3) := by decide +kernel
theorem dX9_in_5 : decode cX9_in 5 = .ok (.iload_n 0, 1) := by decide +kernel
theorem dX9_in_6 : decode cX9_in 6 = .ok (.iload_n 2, 1) := by decide +kernel
theorem dX9_in_7 : decode cX9_in 7 = .ok (.if_icmp .gt 7, 3) := by decide +kernel
theorem dX9_in_10 : decode cX9_in 10 = .ok (.iconst 1, 1) := by decide +kernel
theorem dX9_in_11 : decode cX9_in 11 = .ok (.goto 4, 3) := by decide +kernel
theorem dX9_in_14 : decode cX9_in 14 = .ok (.iconst 0, 1) := by decide +kernel
theorem dX9_in_15 : decode cX9_in 15 = .ok (.ireturn, 1) := by decide +kernel
theorem dX9_refused_0 : decode cX9_refused 0 = .ok (.aload_n 0, 1) := by decide +kernel
theorem dX9_refused_1 : decode cX9_refused 1 = .ok (.iload_n 1, 1) := by decide +kernel
theorem dX9_refused_2 : decode cX9_refused 2 = .ok (.putfield 132, 3) := by decide +kernel
theorem dX9_refused_5 : decode cX9_refused 5 = .ok (.iconst (-1), 1) := by decide +kernel
theorem dX9_refused_6 : decode cX9_refused 6 = .ok (.ireturn, 1) := by decide +kernel
theorem dX9_done_0 : decode cX9_done 0 = .ok (.aload_n 0, 1) := by decide +kernel
theorem dX9_done_1 : decode cX9_done 1 = .ok (.iconst 0, 1) := by decide +kernel
theorem dX9_done_2 : decode cX9_done 2 = .ok (.putfield 132, 3) := by decide +kernel
theorem dX9_done_5 : decode cX9_done 5 = .ok (.iload_n 1, 1) := by decide +kernel
theorem dX9_done_6 : decode cX9_done 6 = .ok (.ireturn, 1) := by decide +kernel
theorem dX9_isEnd_0 : decode cX9_isEnd 0 = .ok (.iload_n 1, 1) := by decide +kernel
theorem dX9_isEnd_1 : decode cX9_isEnd 1 = .ok (.iconst 0, 1) := by decide +kernel
theorem dX9_isEnd_2 : decode cX9_isEnd 2 = .ok (.iconst 2, 1) := by decide +kernel
theorem dX9_isEnd_3 : decode cX9_isEnd 3 = .ok (.aload_n 0, 1) := by decide +kernel
theorem dX9_isEnd_4 : decode cX9_isEnd 4 = .ok (.getfield 135, 3) := by decide +kernel
theorem dX9_isEnd_7 : decode cX9_isEnd 7 = .ok (.imul, 1) := by decide +kernel
theorem dX9_isEnd_8 : decode cX9_isEnd 8 = .ok (.iconst 1, 1) := by decide +kernel
theorem dX9_isEnd_9 : decode cX9_isEnd 9 = .ok (.isub, 1) := by decide +kernel
theorem dX9_isEnd_10 : decode cX9_isEnd 10 = .ok (.invokestatic 138, 3) := by decide +kernel
theorem dX9_isEnd_13 : decode cX9_isEnd 13 = .ok (.ireturn, 1) := by decide +kernel
theorem dX9_isLetter_0 : decode cX9_isLetter 0 = .ok (.iload_n 1, 1) := by decide +kernel
theorem dX9_isLetter_1 : decode cX9_isLetter 1 = .ok (.iconst 0, 1) := by decide +kernel
theorem dX9_isLetter_2 : decode cX9_isLetter 2 = .ok (.aload_n 0, 1) := by decide +kernel
theorem dX9_isLetter_3 : decode cX9_isLetter 3 = .ok (.getfield 142, 3) := by decide +kernel
theorem dX9_isLetter_6 : decode cX9_isLetter 6 = .ok (.iconst 1, 1) := by decide +kernel
theorem dX9_isLetter_7 : decode cX9_isLetter 7 = .ok (.isub, 1) := by decide +kernel
theorem dX9_isLetter_8 : decode cX9_isLetter 8 = .ok (.invokestatic 138, 3) := by decide +kernel
theorem dX9_isLetter_11 : decode cX9_isLetter 11 = .ok (.ireturn, 1) := by decide +kernel
theorem dX9_mix_0 : decode cX9_mix 0 = .ok (.bipush 31, 2) := by decide +kernel
theorem dX9_mix_2 : decode cX9_mix 2 = .ok (.iload_n 1, 1) := by decide +kernel
theorem dX9_mix_3 : decode cX9_mix 3 = .ok (.imul, 1) := by decide +kernel
theorem dX9_mix_4 : decode cX9_mix 4 = .ok (.bipush 17, 2) := by decide +kernel
theorem dX9_mix_6 : decode cX9_mix 6 = .ok (.iload_n 2, 1) := by decide +kernel
theorem dX9_mix_7 : decode cX9_mix 7 = .ok (.imul, 1) := by decide +kernel
theorem dX9_mix_8 : decode cX9_mix 8 = .ok (.iadd, 1) := by decide +kernel
theorem dX9_mix_9 : decode cX9_mix 9 = .ok (.iload_n 1, 1) := by decide +kernel
theorem dX9_mix_10 : decode cX9_mix 10 = .ok (.iload_n 2, 1) := by decide +kernel
theorem dX9_mix_11 : decode cX9_mix 11 = .ok (.imul, 1) := by decide +kernel
theorem dX9_mix_12 : decode cX9_mix 12 = .ok (.iadd, 1) := by decide +kernel
theorem dX9_mix_13 : decode cX9_mix 13 = .ok (.bipush 7, 2) := by decide +kernel
theorem dX9_mix_15 : decode cX9_mix 15 = .ok (.iadd, 1) := by decide +kernel
theorem dX9_mix_16 : decode cX9_mix 16 = .ok (.aload_n 0, 1) := by decide +kernel
theorem dX9_mix_17 : decode cX9_mix 17 = .ok (.getfield 7, 3) := by decide +kernel
theorem dX9_mix_20 : decode cX9_mix 20 = .ok (.irem, 1) := by decide +kernel
theorem dX9_mix_21 : decode cX9_mix 21 = .ok (.ireturn, 1) := by decide +kernel
theorem dX9_power_0 : decode cX9_power 0 = .ok (.iconst 1, 1) := by decide +kernel
theorem dX9_power_1 : decode cX9_power 1 = .ok (.aload_n 0, 1) := by decide +kernel
theorem dX9_power_2 : decode cX9_power 2 = .ok (.getfield 7, 3) := by decide +kernel
theorem dX9_power_5 : decode cX9_power 5 = .ok (.irem, 1) := by decide +kernel
theorem dX9_power_6 : decode cX9_power 6 = .ok (.istore_n 3, 1) := by decide +kernel
theorem dX9_power_7 : decode cX9_power 7 = .ok (.iconst 0, 1) := by decide +kernel
theorem dX9_power_8 : decode cX9_power 8 = .ok (.istore 4, 2) := by decide +kernel
theorem dX9_power_10 : decode cX9_power 10 = .ok (.iload 4, 2) := by decide +kernel
theorem dX9_power_12 : decode cX9_power 12 = .ok (.iload_n 2, 1) := by decide +kernel
theorem dX9_power_13 : decode cX9_power 13 = .ok (.if_icmp .ge 18, 3) := by decide +kernel
theorem dX9_power_16 : decode cX9_power 16 = .ok (.iload_n 3, 1) := by decide +kernel
theorem dX9_power_17 : decode cX9_power 17 = .ok (.iload_n 1, 1) := by decide +kernel
theorem dX9_power_18 : decode cX9_power 18 = .ok (.imul, 1) := by decide +kernel
theorem dX9_power_19 : decode cX9_power 19 = .ok (.aload_n 0, 1) := by decide +kernel
theorem dX9_power_20 : decode cX9_power 20 = .ok (.getfield 7, 3) := by decide +kernel
theorem dX9_power_23 : decode cX9_power 23 = .ok (.irem, 1) := by decide +kernel
theorem dX9_power_24 : decode cX9_power 24 = .ok (.istore_n 3, 1) := by decide +kernel
theorem dX9_power_25 : decode cX9_power 25 = .ok (.iinc 4 1, 3) := by decide +kernel
theorem dX9_power_28 : decode cX9_power 28 = .ok (.goto (-18), 3) := by decide +kernel
theorem dX9_power_31 : decode cX9_power 31 = .ok (.iload_n 3, 1) := by decide +kernel
theorem dX9_power_32 : decode cX9_power 32 = .ok (.ireturn, 1) := by decide +kernel
theorem dX9_publicOf_0 : decode cX9_publicOf 0 = .ok (.aload_n 0, 1) := by decide +kernel
theorem dX9_publicOf_1 : decode cX9_publicOf 1 = .ok (.aload_n 0, 1) := by decide +kernel
theorem dX9_publicOf_2 : decode cX9_publicOf 2 = .ok (.getfield 13, 3) := by decide +kernel
theorem dX9_publicOf_5 : decode cX9_publicOf 5 = .ok (.aload_n 0, 1) := by decide +kernel
theorem dX9_publicOf_6 : decode cX9_publicOf 6 = .ok (.getfield 32, 3) := by decide +kernel
theorem dX9_publicOf_9 : decode cX9_publicOf 9 = .ok (.iload_n 1, 1) := by decide +kernel
theorem dX9_publicOf_10 : decode cX9_publicOf 10 = .ok (.iaload, 1) := by decide +kernel
theorem dX9_publicOf_11 : decode cX9_publicOf 11 = .ok (.invokevirtual 145, 3) := by decide +kernel
theorem dX9_publicOf_14 : decode cX9_publicOf 14 = .ok (.ireturn, 1) := by decide +kernel
theorem dX9_thing_0 : decode cX9_thing 0 = .ok (.iconst 0, 1) := by decide +kernel
theorem dX9_thing_1 : decode cX9_thing 1 = .ok (.istore 5, 2) := by decide +kernel
theorem dX9_thing_3 : decode cX9_thing 3 = .ok (.iload 5, 2) := by decide +kernel
theorem dX9_thing_5 : decode cX9_thing 5 = .ok (.aload_n 0, 1) := by decide +kernel
theorem dX9_thing_6 : decode cX9_thing 6 = .ok (.getfield 149, 3) := by decide +kernel
theorem dX9_thing_9 : decode cX9_thing 9 = .ok (.if_icmp .ge 50, 3) := by decide +kernel
theorem dX9_thing_12 : decode cX9_thing 12 = .ok (.iload_n 1, 1) := by decide +kernel
theorem dX9_thing_13 : decode cX9_thing 13 = .ok (.iconst 3, 1) := by decide +kernel
theorem dX9_thing_14 : decode cX9_thing 14 = .ok (.if_icmp .eq 45, 3) := by decide +kernel
theorem dX9_thing_17 : decode cX9_thing 17 = .ok (.aload_n 0, 1) := by decide +kernel
theorem dX9_thing_18 : decode cX9_thing 18 = .ok (.getfield 22, 3) := by decide +kernel
theorem dX9_thing_21 : decode cX9_thing 21 = .ok (.iload 5, 2) := by decide +kernel
theorem dX9_thing_23 : decode cX9_thing 23 = .ok (.iaload, 1) := by decide +kernel
theorem dX9_thing_24 : decode cX9_thing 24 = .ok (.iload_n 1, 1) := by decide +kernel
theorem dX9_thing_25 : decode cX9_thing 25 = .ok (.if_icmp .ne 28, 3) := by decide +kernel
theorem dX9_thing_28 : decode cX9_thing 28 = .ok (.aload_n 0, 1) := by decide +kernel
theorem dX9_thing_29 : decode cX9_thing 29 = .ok (.getfield 26, 3) := by decide +kernel
theorem dX9_thing_32 : decode cX9_thing 32 = .ok (.iload 5, 2) := by decide +kernel
theorem dX9_thing_34 : decode cX9_thing 34 = .ok (.iaload, 1) := by decide +kernel
theorem dX9_thing_35 : decode cX9_thing 35 = .ok (.iload_n 2, 1) := by decide +kernel
theorem dX9_thing_36 : decode cX9_thing 36 = .ok (.if_icmp .ne 17, 3) := by decide +kernel
theorem dX9_thing_39 : decode cX9_thing 39 = .ok (.aload_n 0, 1) := by decide +kernel
theorem dX9_thing_40 : decode cX9_thing 40 = .ok (.getfield 29, 3) := by decide +kernel
theorem dX9_thing_43 : decode cX9_thing 43 = .ok (.iload 5, 2) := by decide +kernel
theorem dX9_thing_45 : decode cX9_thing 45 = .ok (.iaload, 1) := by decide +kernel
theorem dX9_thing_46 : decode cX9_thing 46 = .ok (.iload_n 3, 1) := by decide +kernel
theorem dX9_thing_47 : decode cX9_thing 47 = .ok (.if_icmp .ne 6, 3) := by decide +kernel
theorem dX9_thing_50 : decode cX9_thing 50 = .ok (.iload 5, 2) := by decide +kernel
theorem dX9_thing_52 : decode cX9_thing 52 = .ok (.ireturn, 1) := by decide +kernel
theorem dX9_thing_53 : decode cX9_thing 53 = .ok (.iinc 5 1, 3) := by decide +kernel
theorem dX9_thing_56 : decode cX9_thing 56 = .ok (.goto (-53), 3) := by decide +kernel
theorem dX9_thing_59 : decode cX9_thing 59 = .ok (.aload_n 0, 1) := by decide +kernel
theorem dX9_thing_60 : decode cX9_thing 60 = .ok (.getfield 22, 3) := by decide +kernel
theorem dX9_thing_63 : decode cX9_thing 63 = .ok (.aload_n 0, 1) := by decide +kernel
theorem dX9_thing_64 : decode cX9_thing 64 = .ok (.getfield 149, 3) := by decide +kernel
theorem dX9_thing_67 : decode cX9_thing 67 = .ok (.iload_n 1, 1) := by decide +kernel
theorem dX9_thing_68 : decode cX9_thing 68 = .ok (.iastore, 1) := by decide +kernel
theorem dX9_thing_69 : decode cX9_thing 69 = .ok (.aload_n 0, 1) := by decide +kernel
theorem dX9_thing_70 : decode cX9_thing 70 = .ok (.getfield 26, 3) := by decide +kernel
theorem dX9_thing_73 : decode cX9_thing 73 = .ok (.aload_n 0, 1) := by decide +kernel
theorem dX9_thing_74 : decode cX9_thing 74 = .ok (.getfield 149, 3) := by decide +kernel
theorem dX9_thing_77 : decode cX9_thing 77 = .ok (.iload_n 2, 1) := by decide +kernel
theorem dX9_thing_78 : decode cX9_thing 78 = .ok (.iastore, 1) := by decide +kernel
theorem dX9_thing_79 : decode cX9_thing 79 = .ok (.aload_n 0, 1) := by decide +kernel
theorem dX9_thing_80 : decode cX9_thing 80 = .ok (.getfield 29, 3) := by decide +kernel
theorem dX9_thing_83 : decode cX9_thing 83 = .ok (.aload_n 0, 1) := by decide +kernel
theorem dX9_thing_84 : decode cX9_thing 84 = .ok (.getfield 149, 3) := by decide +kernel
theorem dX9_thing_87 : decode cX9_thing 87 = .ok (.iload_n 3, 1) := by decide +kernel
theorem dX9_thing_88 : decode cX9_thing 88 = .ok (.iastore, 1) := by decide +kernel
theorem dX9_thing_89 : decode cX9_thing 89 = .ok (.aload_n 0, 1) := by decide +kernel
theorem dX9_thing_90 : decode cX9_thing 90 = .ok (.getfield 32, 3) := by decide +kernel
theorem dX9_thing_93 : decode cX9_thing 93 = .ok (.aload_n 0, 1) := by decide +kernel
theorem dX9_thing_94 : decode cX9_thing 94 = .ok (.getfield 149, 3) := by decide +kernel
theorem dX9_thing_97 : decode cX9_thing 97 = .ok (.iload 4, 2) := by decide +kernel
theorem dX9_thing_99 : decode cX9_thing 99 = .ok (.iastore, 1) := by decide +kernel
theorem dX9_thing_100 : decode cX9_thing 100 = .ok (.aload_n 0, 1) := by decide +kernel
theorem dX9_thing_101 : decode cX9_thing 101 = .ok (.getfield 35, 3) := by decide +kernel
theorem dX9_thing_104 : decode cX9_thing 104 = .ok (.aload_n 0, 1) := by decide +kernel
theorem dX9_thing_105 : decode cX9_thing 105 = .ok (.getfield 149, 3) := by decide +kernel
theorem dX9_thing_108 : decode cX9_thing 108 = .ok (.iconst 0, 1) := by decide +kernel
theorem dX9_thing_109 : decode cX9_thing 109 = .ok (.bastore, 1) := by decide +kernel
theorem dX9_thing_110 : decode cX9_thing 110 = .ok (.aload_n 0, 1) := by decide +kernel
theorem dX9_thing_111 : decode cX9_thing 111 = .ok (.dup, 1) := by decide +kernel
theorem dX9_thing_112 : decode cX9_thing 112 = .ok (.getfield 149, 3) := by decide +kernel
theorem dX9_thing_115 : decode cX9_thing 115 = .ok (.iconst 1, 1) := by decide +kernel
theorem dX9_thing_116 : decode cX9_thing 116 = .ok (.iadd, 1) := by decide +kernel
theorem dX9_thing_117 : decode cX9_thing 117 = .ok (.putfield 149, 3) := by decide +kernel
theorem dX9_thing_120 : decode cX9_thing 120 = .ok (.aload_n 0, 1) := by decide +kernel
theorem dX9_thing_121 : decode cX9_thing 121 = .ok (.getfield 149, 3) := by decide +kernel
theorem dX9_thing_124 : decode cX9_thing 124 = .ok (.iconst 1, 1) := by decide +kernel
theorem dX9_thing_125 : decode cX9_thing 125 = .ok (.isub, 1) := by decide +kernel
theorem dX9_thing_126 : decode cX9_thing 126 = .ok (.ireturn, 1) := by decide +kernel
theorem dX9_meeting_0 : decode cX9_meeting 0 = .ok (.iload_n 1, 1) := by decide +kernel
theorem dX9_meeting_1 : decode cX9_meeting 1 = .ok (.iload_n 2, 1) := by decide +kernel
theorem dX9_meeting_2 : decode cX9_meeting 2 = .ok (.if_icmp .ge 7, 3) := by decide +kernel
theorem dX9_meeting_5 : decode cX9_meeting 5 = .ok (.iload_n 1, 1) := by decide +kernel
theorem dX9_meeting_6 : decode cX9_meeting 6 = .ok (.goto 4, 3) := by decide +kernel
theorem dX9_meeting_9 : decode cX9_meeting 9 = .ok (.iload_n 2, 1) := by decide +kernel
theorem dX9_meeting_10 : decode cX9_meeting 10 = .ok (.istore_n 3, 1) := by decide +kernel
theorem dX9_meeting_11 : decode cX9_meeting 11 = .ok (.iload_n 1, 1) := by decide +kernel
theorem dX9_meeting_12 : decode cX9_meeting 12 = .ok (.iload_n 2, 1) := by decide +kernel
theorem dX9_meeting_13 : decode cX9_meeting 13 = .ok (.if_icmp .ge 7, 3) := by decide +kernel
theorem dX9_meeting_16 : decode cX9_meeting 16 = .ok (.iload_n 2, 1) := by decide +kernel
theorem dX9_meeting_17 : decode cX9_meeting 17 = .ok (.goto 4, 3) := by decide +kernel
theorem dX9_meeting_20 : decode cX9_meeting 20 = .ok (.iload_n 1, 1) := by decide +kernel
theorem dX9_meeting_21 : decode cX9_meeting 21 = .ok (.istore 4, 2) := by decide +kernel
theorem dX9_meeting_23 : decode cX9_meeting 23 = .ok (.aload_n 0, 1) := by decide +kernel
theorem dX9_meeting_24 : decode cX9_meeting 24 = .ok (.iconst 5, 1) := by decide +kernel
theorem dX9_meeting_25 : decode cX9_meeting 25 = .ok (.iload_n 3, 1) := by decide +kernel
theorem dX9_meeting_26 : decode cX9_meeting 26 = .ok (.iload 4, 2) := by decide +kernel
theorem dX9_meeting_28 : decode cX9_meeting 28 = .ok (.aload_n 0, 1) := by decide +kernel
theorem dX9_meeting_29 : decode cX9_meeting 29 = .ok (.aload_n 0, 1) := by decide +kernel
theorem dX9_meeting_30 : decode cX9_meeting 30 = .ok (.iload 4, 2) := by decide +kernel
theorem dX9_meeting_32 : decode cX9_meeting 32 = .ok (.invokevirtual 152, 3) := by decide +kernel
theorem dX9_meeting_35 : decode cX9_meeting 35 = .ok (.aload_n 0, 1) := by decide +kernel
theorem dX9_meeting_36 : decode cX9_meeting 36 = .ok (.getfield 32, 3) := by decide +kernel
theorem dX9_meeting_39 : decode cX9_meeting 39 = .ok (.iload_n 3, 1) := by decide +kernel
theorem dX9_meeting_40 : decode cX9_meeting 40 = .ok (.iaload, 1) := by decide +kernel
theorem dX9_meeting_41 : decode cX9_meeting 41 = .ok (.invokevirtual 145, 3) := by decide +kernel
theorem dX9_meeting_44 : decode cX9_meeting 44 = .ok (.invokevirtual 156, 3) := by decide +kernel
theorem dX9_meeting_47 : decode cX9_meeting 47 = .ok (.ireturn, 1) := by decide +kernel
theorem dX9_rootOf_0 : decode cX9_rootOf 0 = .ok (.aload_n 0, 1) := by decide +kernel
theorem dX9_rootOf_1 : decode cX9_rootOf 1 = .ok (.iconst 2, 1) := by decide +kernel
theorem dX9_rootOf_2 : decode cX9_rootOf 2 = .ok (.iload_n 1, 1) := by decide +kernel
theorem dX9_rootOf_3 : decode cX9_rootOf 3 = .ok (.iload_n 2, 1) := by decide +kernel
theorem dX9_rootOf_4 : decode cX9_rootOf 4 = .ok (.iload_n 1, 1) := by decide +kernel
theorem dX9_rootOf_5 : decode cX9_rootOf 5 = .ok (.iconst (-1), 1) := by decide +kernel
theorem dX9_rootOf_6 : decode cX9_rootOf 6 = .ok (.if_icmp .ne 12, 3) := by decide +kernel
theorem dX9_rootOf_9 : decode cX9_rootOf 9 = .ok (.aload_n 0, 1) := by decide +kernel
theorem dX9_rootOf_10 : decode cX9_rootOf 10 = .ok (.getfield 32, 3) := by decide +kernel
theorem dX9_rootOf_13 : decode cX9_rootOf 13 = .ok (.iload_n 2, 1) := by decide +kernel
theorem dX9_rootOf_14 : decode cX9_rootOf 14 = .ok (.iaload, 1) := by decide +kernel
theorem dX9_rootOf_15 : decode cX9_rootOf 15 = .ok (.goto 19, 3) := by decide +kernel
theorem dX9_rootOf_18 : decode cX9_rootOf 18 = .ok (.aload_n 0, 1) := by decide +kernel
theorem dX9_rootOf_19 : decode cX9_rootOf 19 = .ok (.aload_n 0, 1) := by decide +kernel
theorem dX9_rootOf_20 : decode cX9_rootOf 20 = .ok (.getfield 32, 3) := by decide +kernel
theorem dX9_rootOf_23 : decode cX9_rootOf 23 = .ok (.iload_n 1, 1) := by decide +kernel
theorem dX9_rootOf_24 : decode cX9_rootOf 24 = .ok (.iaload, 1) := by decide +kernel
theorem dX9_rootOf_25 : decode cX9_rootOf 25 = .ok (.aload_n 0, 1) := by decide +kernel
theorem dX9_rootOf_26 : decode cX9_rootOf 26 = .ok (.getfield 32, 3) := by decide +kernel
theorem dX9_rootOf_29 : decode cX9_rootOf 29 = .ok (.iload_n 2, 1) := by decide +kernel
theorem dX9_rootOf_30 : decode cX9_rootOf 30 = .ok (.iaload, 1) := by decide +kernel
theorem dX9_rootOf_31 : decode cX9_rootOf 31 = .ok (.invokevirtual 160, 3) := by decide +kernel
theorem dX9_rootOf_34 : decode cX9_rootOf 34 = .ok (.invokevirtual 156, 3) := by decide +kernel
theorem dX9_rootOf_37 : decode cX9_rootOf 37 = .ok (.ireturn, 1) := by decide +kernel
theorem dX9_chainOf_0 : decode cX9_chainOf 0 = .ok (.aload_n 0, 1) := by decide +kernel
theorem dX9_chainOf_1 : decode cX9_chainOf 1 = .ok (.iconst 1, 1) := by decide +kernel
theorem dX9_chainOf_2 : decode cX9_chainOf 2 = .ok (.iload_n 1, 1) := by decide +kernel
theorem dX9_chainOf_3 : decode cX9_chainOf 3 = .ok (.iconst (-1), 1) := by decide +kernel
theorem dX9_chainOf_4 : decode cX9_chainOf 4 = .ok (.aload_n 0, 1) := by decide +kernel
theorem dX9_chainOf_5 : decode cX9_chainOf 5 = .ok (.aload_n 0, 1) := by decide +kernel
theorem dX9_chainOf_6 : decode cX9_chainOf 6 = .ok (.getfield 32, 3) := by decide +kernel
theorem dX9_chainOf_9 : decode cX9_chainOf 9 = .ok (.iload_n 1, 1) := by decide +kernel
theorem dX9_chainOf_10 : decode cX9_chainOf 10 = .ok (.iaload, 1) := by decide +kernel
theorem dX9_chainOf_11 : decode cX9_chainOf 11 = .ok (.aload_n 0, 1) := by decide +kernel
theorem dX9_chainOf_12 : decode cX9_chainOf 12 = .ok (.getfield 22, 3) := by decide +kernel
theorem dX9_chainOf_15 : decode cX9_chainOf 15 = .ok (.iload_n 1, 1) := by decide +kernel
theorem dX9_chainOf_16 : decode cX9_chainOf 16 = .ok (.iaload, 1) := by decide +kernel
theorem dX9_chainOf_17 : decode cX9_chainOf 17 = .ok (.iconst 2, 1) := by decide +kernel
theorem dX9_chainOf_18 : decode cX9_chainOf 18 = .ok (.if_icmp .ne 7, 3) := by decide +kernel
theorem dX9_chainOf_21 : decode cX9_chainOf 21 = .ok (.iconst 3, 1) := by decide +kernel
theorem dX9_chainOf_22 : decode cX9_chainOf 22 = .ok (.goto 4, 3) := by decide +kernel
theorem dX9_chainOf_25 : decode cX9_chainOf 25 = .ok (.iconst 2, 1) := by decide +kernel
theorem dX9_chainOf_26 : decode cX9_chainOf 26 = .ok (.invokevirtual 160, 3) := by decide +kernel
theorem dX9_chainOf_29 : decode cX9_chainOf 29 = .ok (.invokevirtual 156, 3) := by decide +kernel
theorem dX9_chainOf_32 : decode cX9_chainOf 32 = .ok (.ireturn, 1) := by decide +kernel
theorem dX9_keyOf_0 : decode cX9_keyOf 0 = .ok (.aload_n 0, 1) := by decide +kernel
theorem dX9_keyOf_1 : decode cX9_keyOf 1 = .ok (.iconst 0, 1) := by decide +kernel
theorem dX9_keyOf_2 : decode cX9_keyOf 2 = .ok (.iload_n 1, 1) := by decide +kernel
theorem dX9_keyOf_3 : decode cX9_keyOf 3 = .ok (.iconst (-1), 1) := by decide +kernel
theorem dX9_keyOf_4 : decode cX9_keyOf 4 = .ok (.aload_n 0, 1) := by decide +kernel
theorem dX9_keyOf_5 : decode cX9_keyOf 5 = .ok (.aload_n 0, 1) := by decide +kernel
theorem dX9_keyOf_6 : decode cX9_keyOf 6 = .ok (.getfield 32, 3) := by decide +kernel
theorem dX9_keyOf_9 : decode cX9_keyOf 9 = .ok (.iload_n 1, 1) := by decide +kernel
theorem dX9_keyOf_10 : decode cX9_keyOf 10 = .ok (.iaload, 1) := by decide +kernel
theorem dX9_keyOf_11 : decode cX9_keyOf 11 = .ok (.iconst 1, 1) := by decide +kernel
theorem dX9_keyOf_12 : decode cX9_keyOf 12 = .ok (.invokevirtual 160, 3) := by decide +kernel
theorem dX9_keyOf_15 : decode cX9_keyOf 15 = .ok (.invokevirtual 156, 3) := by decide +kernel
theorem dX9_keyOf_18 : decode cX9_keyOf 18 = .ok (.ireturn, 1) := by decide +kernel
theorem dX9_prime_0 : decode cX9_prime 0 = .ok (.iload_n 1, 1) := by decide +kernel
theorem dX9_prime_1 : decode cX9_prime 1 = .ok (.iconst 3, 1) := by decide +kernel
theorem dX9_prime_2 : decode cX9_prime 2 = .ok (.sipush 10007, 3) := by decide +kernel
theorem dX9_prime_5 : decode cX9_prime 5 = .ok (.invokestatic 138, 3) := by decide +kernel
theorem dX9_prime_8 : decode cX9_prime 8 = .ok (.ifCond .eq 14, 3) := by decide +kernel
theorem dX9_prime_11 : decode cX9_prime 11 = .ok (.iload_n 2, 1) := by decide +kernel
theorem dX9_prime_12 : decode cX9_prime 12 = .ok (.iconst 2, 1) := by decide +kernel
theorem dX9_prime_13 : decode cX9_prime 13 = .ok (.iload_n 1, 1) := by decide +kernel
theorem dX9_prime_14 : decode cX9_prime 14 = .ok (.iconst 1, 1) := by decide +kernel
theorem dX9_prime_15 : decode cX9_prime 15 = .ok (.isub, 1) := by decide +kernel
theorem dX9_prime_16 : decode cX9_prime 16 = .ok (.invokestatic 138, 3) := by decide +kernel
theorem dX9_prime_19 : decode cX9_prime 19 = .ok (.ifCond .ne 9, 3) := by decide +kernel
theorem dX9_prime_22 : decode cX9_prime 22 = .ok (.aload_n 0, 1) := by decide +kernel
theorem dX9_prime_23 : decode cX9_prime 23 = .ok (.iconst 1, 1) := by decide +kernel
theorem dX9_prime_24 : decode cX9_prime 24 = .ok (.invokevirtual 163, 3) := by decide +kernel
theorem dX9_prime_27 : decode cX9_prime 27 = .ok (.ireturn, 1) := by decide +kernel
theorem dX9_prime_28 : decode cX9_prime 28 = .ok (.aload_n 0, 1) := by decide +kernel
theorem dX9_prime_29 : decode cX9_prime 29 = .ok (.getfield 135, 3) := by decide +kernel
theorem dX9_prime_32 : decode cX9_prime 32 = .ok (.ifCond .le 9, 3) := by decide +kernel
theorem dX9_prime_35 : decode cX9_prime 35 = .ok (.aload_n 0, 1) := by decide +kernel
theorem dX9_prime_36 : decode cX9_prime 36 = .ok (.iconst 3, 1) := by decide +kernel
theorem dX9_prime_37 : decode cX9_prime 37 = .ok (.invokevirtual 163, 3) := by decide +kernel
theorem dX9_prime_40 : decode cX9_prime 40 = .ok (.ireturn, 1) := by decide +kernel
theorem dX9_prime_41 : decode cX9_prime 41 = .ok (.aload_n 0, 1) := by decide +kernel
theorem dX9_prime_42 : decode cX9_prime 42 = .ok (.iload_n 1, 1) := by decide +kernel
theorem dX9_prime_43 : decode cX9_prime 43 = .ok (.putfield 7, 3) := by decide +kernel
theorem dX9_prime_46 : decode cX9_prime 46 = .ok (.aload_n 0, 1) := by decide +kernel
theorem dX9_prime_47 : decode cX9_prime 47 = .ok (.iload_n 2, 1) := by decide +kernel
theorem dX9_prime_48 : decode cX9_prime 48 = .ok (.putfield 13, 3) := by decide +kernel
theorem dX9_prime_51 : decode cX9_prime 51 = .ok (.aload_n 0, 1) := by decide +kernel
theorem dX9_prime_52 : decode cX9_prime 52 = .ok (.iload_n 1, 1) := by decide +kernel
theorem dX9_prime_53 : decode cX9_prime 53 = .ok (.invokevirtual 166, 3) := by decide +kernel
theorem dX9_prime_56 : decode cX9_prime 56 = .ok (.ireturn, 1) := by decide +kernel
theorem dX9_limits_0 : decode cX9_limits 0 = .ok (.iload_n 1, 1) := by decide +kernel
theorem dX9_limits_1 : decode cX9_limits 1 = .ok (.iconst 0, 1) := by decide +kernel
theorem dX9_limits_2 : decode cX9_limits 2 = .ok (.bipush 12, 2) := by decide +kernel
theorem dX9_limits_4 : decode cX9_limits 4 = .ok (.invokestatic 138, 3) := by decide +kernel
theorem dX9_limits_7 : decode cX9_limits 7 = .ok (.ifCond .eq 14, 3) := by decide +kernel
theorem dX9_limits_10 : decode cX9_limits 10 = .ok (.iload_n 2, 1) := by decide +kernel
theorem dX9_limits_11 : decode cX9_limits 11 = .ok (.iconst 0, 1) := by decide +kernel
theorem dX9_limits_12 : decode cX9_limits 12 = .ok (.sipush 300, 3) := by decide +kernel
theorem dX9_limits_15 : decode cX9_limits 15 = .ok (.invokestatic 138, 3) := by decide +kernel
theorem dX9_limits_18 : decode cX9_limits 18 = .ok (.ifCond .ne 9, 3) := by decide +kernel
theorem dX9_limits_21 : decode cX9_limits 21 = .ok (.aload_n 0, 1) := by decide +kernel
theorem dX9_limits_22 : decode cX9_limits 22 = .ok (.iconst 1, 1) := by decide +kernel
theorem dX9_limits_23 : decode cX9_limits 23 = .ok (.invokevirtual 163, 3) := by decide +kernel
theorem dX9_limits_26 : decode cX9_limits 26 = .ok (.ireturn, 1) := by decide +kernel
theorem dX9_limits_27 : decode cX9_limits 27 = .ok (.aload_n 0, 1) := by decide +kernel
theorem dX9_limits_28 : decode cX9_limits 28 = .ok (.iload_n 1, 1) := by decide +kernel
theorem dX9_limits_29 : decode cX9_limits 29 = .ok (.putfield 16, 3) := by decide +kernel
theorem dX9_limits_32 : decode cX9_limits 32 = .ok (.aload_n 0, 1) := by decide +kernel
theorem dX9_limits_33 : decode cX9_limits 33 = .ok (.iload_n 2, 1) := by decide +kernel
theorem dX9_limits_34 : decode cX9_limits 34 = .ok (.putfield 19, 3) := by decide +kernel
theorem dX9_limits_37 : decode cX9_limits 37 = .ok (.aload_n 0, 1) := by decide +kernel
theorem dX9_limits_38 : decode cX9_limits 38 = .ok (.invokevirtual 169, 3) := by decide +kernel
theorem dX9_limits_41 : decode cX9_limits 41 = .ok (.aload_n 0, 1) := by decide +kernel
theorem dX9_limits_42 : decode cX9_limits 42 = .ok (.iconst 1, 1) := by decide +kernel
theorem dX9_limits_43 : decode cX9_limits 43 = .ok (.invokevirtual 166, 3) := by decide +kernel
theorem dX9_limits_46 : decode cX9_limits 46 = .ok (.ireturn, 1) := by decide +kernel
theorem dX9_pair_0 : decode cX9_pair 0 = .ok (.aload_n 0, 1) := by decide +kernel
theorem dX9_pair_1 : decode cX9_pair 1 = .ok (.getfield 135, 3) := by decide +kernel
theorem dX9_pair_4 : decode cX9_pair 4 = .ok (.bipush 6, 2) := by decide +kernel
theorem dX9_pair_6 : decode cX9_pair 6 = .ok (.if_icmp .ne 9, 3) := by decide +kernel
theorem dX9_pair_9 : decode cX9_pair 9 = .ok (.aload_n 0, 1) := by decide +kernel
theorem dX9_pair_10 : decode cX9_pair 10 = .ok (.iconst 2, 1) := by decide +kernel
theorem dX9_pair_11 : decode cX9_pair 11 = .ok (.invokevirtual 163, 3) := by decide +kernel
theorem dX9_pair_14 : decode cX9_pair 14 = .ok (.ireturn, 1) := by decide +kernel
theorem dX9_pair_15 : decode cX9_pair 15 = .ok (.aload_n 0, 1) := by decide +kernel
theorem dX9_pair_16 : decode cX9_pair 16 = .ok (.dup, 1) := by decide +kernel
theorem dX9_pair_17 : decode cX9_pair 17 = .ok (.getfield 135, 3) := by decide +kernel
theorem dX9_pair_20 : decode cX9_pair 20 = .ok (.iconst 1, 1) := by decide +kernel
theorem dX9_pair_21 : decode cX9_pair 21 = .ok (.iadd, 1) := by decide +kernel
theorem dX9_pair_22 : decode cX9_pair 22 = .ok (.putfield 135, 3) := by decide +kernel
theorem dX9_pair_25 : decode cX9_pair 25 = .ok (.aload_n 0, 1) := by decide +kernel
theorem dX9_pair_26 : decode cX9_pair 26 = .ok (.aload_n 0, 1) := by decide +kernel
theorem dX9_pair_27 : decode cX9_pair 27 = .ok (.getfield 135, 3) := by decide +kernel
theorem dX9_pair_30 : decode cX9_pair 30 = .ok (.iconst 1, 1) := by decide +kernel
theorem dX9_pair_31 : decode cX9_pair 31 = .ok (.isub, 1) := by decide +kernel
theorem dX9_pair_32 : decode cX9_pair 32 = .ok (.invokevirtual 166, 3) := by decide +kernel
theorem dX9_pair_35 : decode cX9_pair 35 = .ok (.ireturn, 1) := by decide +kernel
theorem dX9_secret_0 : decode cX9_secret 0 = .ok (.aload_n 0, 1) := by decide +kernel
theorem dX9_secret_1 : decode cX9_secret 1 = .ok (.iload_n 1, 1) := by decide +kernel
theorem dX9_secret_2 : decode cX9_secret 2 = .ok (.invokevirtual 172, 3) := by decide +kernel
theorem dX9_secret_5 : decode cX9_secret 5 = .ok (.ifCond .eq 14, 3) := by decide +kernel
theorem dX9_secret_8 : decode cX9_secret 8 = .ok (.iload_n 2, 1) := by decide +kernel
theorem dX9_secret_9 : decode cX9_secret 9 = .ok (.iconst 1, 1) := by decide +kernel
theorem dX9_secret_10 : decode cX9_secret 10 = .ok (.sipush 10000, 3) := by decide +kernel
theorem dX9_secret_13 : decode cX9_secret 13 = .ok (.invokestatic 138, 3) := by decide +kernel
theorem dX9_secret_16 : decode cX9_secret 16 = .ok (.ifCond .ne 9, 3) := by decide +kernel
theorem dX9_secret_19 : decode cX9_secret 19 = .ok (.aload_n 0, 1) := by decide +kernel
theorem dX9_secret_20 : decode cX9_secret 20 = .ok (.iconst 1, 1) := by decide +kernel
theorem dX9_secret_21 : decode cX9_secret 21 = .ok (.invokevirtual 163, 3) := by decide +kernel
theorem dX9_secret_24 : decode cX9_secret 24 = .ok (.ireturn, 1) := by decide +kernel
theorem dX9_secret_25 : decode cX9_secret 25 = .ok (.aload_n 0, 1) := by decide +kernel
theorem dX9_secret_26 : decode cX9_secret 26 = .ok (.getfield 42, 3) := by decide +kernel
theorem dX9_secret_29 : decode cX9_secret 29 = .ok (.iload_n 1, 1) := by decide +kernel
theorem dX9_secret_30 : decode cX9_secret 30 = .ok (.iaload, 1) := by decide +kernel
theorem dX9_secret_31 : decode cX9_secret 31 = .ok (.bipush 12, 2) := by decide +kernel
theorem dX9_secret_33 : decode cX9_secret 33 = .ok (.if_icmp .ne 9, 3) := by decide +kernel
theorem dX9_secret_36 : decode cX9_secret 36 = .ok (.aload_n 0, 1) := by decide +kernel
theorem dX9_secret_37 : decode cX9_secret 37 = .ok (.iconst 2, 1) := by decide +kernel
theorem dX9_secret_38 : decode cX9_secret 38 = .ok (.invokevirtual 163, 3) := by decide +kernel
theorem dX9_secret_41 : decode cX9_secret 41 = .ok (.ireturn, 1) := by decide +kernel
theorem dX9_secret_42 : decode cX9_secret 42 = .ok (.aload_n 0, 1) := by decide +kernel
theorem dX9_secret_43 : decode cX9_secret 43 = .ok (.getfield 45, 3) := by decide +kernel
theorem dX9_secret_46 : decode cX9_secret 46 = .ok (.bipush 12, 2) := by decide +kernel
theorem dX9_secret_48 : decode cX9_secret 48 = .ok (.iload_n 1, 1) := by decide +kernel
theorem dX9_secret_49 : decode cX9_secret 49 = .ok (.imul, 1) := by decide +kernel
theorem dX9_secret_50 : decode cX9_secret 50 = .ok (.aload_n 0, 1) := by decide +kernel
theorem dX9_secret_51 : decode cX9_secret 51 = .ok (.getfield 42, 3) := by decide +kernel
theorem dX9_secret_54 : decode cX9_secret 54 = .ok (.iload_n 1, 1) := by decide +kernel
theorem dX9_secret_55 : decode cX9_secret 55 = .ok (.iaload, 1) := by decide +kernel
theorem dX9_secret_56 : decode cX9_secret 56 = .ok (.iadd, 1) := by decide +kernel
theorem dX9_secret_57 : decode cX9_secret 57 = .ok (.aload_n 0, 1) := by decide +kernel
theorem dX9_secret_58 : decode cX9_secret 58 = .ok (.iconst 3, 1) := by decide +kernel
theorem dX9_secret_59 : decode cX9_secret 59 = .ok (.iconst (-1), 1) := by decide +kernel
theorem dX9_secret_60 : decode cX9_secret 60 = .ok (.iconst (-1), 1) := by decide +kernel
theorem dX9_secret_61 : decode cX9_secret 61 = .ok (.iload_n 2, 1) := by decide +kernel
theorem dX9_secret_62 : decode cX9_secret 62 = .ok (.invokevirtual 156, 3) := by decide +kernel
theorem dX9_secret_65 : decode cX9_secret 65 = .ok (.iastore, 1) := by decide +kernel
theorem dX9_secret_66 : decode cX9_secret 66 = .ok (.aload_n 0, 1) := by decide +kernel
theorem dX9_secret_67 : decode cX9_secret 67 = .ok (.getfield 42, 3) := by decide +kernel
theorem dX9_secret_70 : decode cX9_secret 70 = .ok (.iload_n 1, 1) := by decide +kernel
theorem dX9_secret_71 : decode cX9_secret 71 = .ok (.dup2, 1) := by decide +kernel
theorem dX9_secret_72 : decode cX9_secret 72 = .ok (.iaload, 1) := by decide +kernel
theorem dX9_secret_73 : decode cX9_secret 73 = .ok (.iconst 1, 1) := by decide +kernel
theorem dX9_secret_74 : decode cX9_secret 74 = .ok (.iadd, 1) := by decide +kernel
theorem dX9_secret_75 : decode cX9_secret 75 = .ok (.iastore, 1) := by decide +kernel
theorem dX9_secret_76 : decode cX9_secret 76 = .ok (.aload_n 0, 1) := by decide +kernel
theorem dX9_secret_77 : decode cX9_secret 77 = .ok (.aload_n 0, 1) := by decide +kernel
theorem dX9_secret_78 : decode cX9_secret 78 = .ok (.getfield 42, 3) := by decide +kernel
theorem dX9_secret_81 : decode cX9_secret 81 = .ok (.iload_n 1, 1) := by decide +kernel
theorem dX9_secret_82 : decode cX9_secret 82 = .ok (.iaload, 1) := by decide +kernel
theorem dX9_secret_83 : decode cX9_secret 83 = .ok (.invokevirtual 166, 3) := by decide +kernel
theorem dX9_secret_86 : decode cX9_secret 86 = .ok (.ireturn, 1) := by decide +kernel
theorem dX9_next_0 : decode cX9_next 0 = .ok (.aload_n 0, 1) := by decide +kernel
theorem dX9_next_1 : decode cX9_next 1 = .ok (.getfield 45, 3) := by decide +kernel
theorem dX9_next_4 : decode cX9_next 4 = .ok (.bipush 12, 2) := by decide +kernel
theorem dX9_next_6 : decode cX9_next 6 = .ok (.iload_n 1, 1) := by decide +kernel
theorem dX9_next_7 : decode cX9_next 7 = .ok (.imul, 1) := by decide +kernel
theorem dX9_next_8 : decode cX9_next 8 = .ok (.iaload, 1) := by decide +kernel
theorem dX9_next_9 : decode cX9_next 9 = .ok (.istore_n 2, 1) := by decide +kernel
theorem dX9_next_10 : decode cX9_next 10 = .ok (.aload_n 0, 1) := by decide +kernel
theorem dX9_next_11 : decode cX9_next 11 = .ok (.getfield 42, 3) := by decide +kernel
theorem dX9_next_14 : decode cX9_next 14 = .ok (.iload_n 1, 1) := by decide +kernel
theorem dX9_next_15 : decode cX9_next 15 = .ok (.dup2, 1) := by decide +kernel
theorem dX9_next_16 : decode cX9_next 16 = .ok (.iaload, 1) := by decide +kernel
theorem dX9_next_17 : decode cX9_next 17 = .ok (.iconst 1, 1) := by decide +kernel
theorem dX9_next_18 : decode cX9_next 18 = .ok (.isub, 1) := by decide +kernel
theorem dX9_next_19 : decode cX9_next 19 = .ok (.iastore, 1) := by decide +kernel
theorem dX9_next_20 : decode cX9_next 20 = .ok (.iconst 0, 1) := by decide +kernel
theorem dX9_next_21 : decode cX9_next 21 = .ok (.istore_n 3, 1) := by decide +kernel
theorem dX9_next_22 : decode cX9_next 22 = .ok (.iload_n 3, 1) := by decide +kernel
theorem dX9_next_23 : decode cX9_next 23 = .ok (.aload_n 0, 1) := by decide +kernel
theorem dX9_next_24 : decode cX9_next 24 = .ok (.getfield 42, 3) := by decide +kernel
theorem dX9_next_27 : decode cX9_next 27 = .ok (.iload_n 1, 1) := by decide +kernel
theorem dX9_next_28 : decode cX9_next 28 = .ok (.iaload, 1) := by decide +kernel
theorem dX9_next_29 : decode cX9_next 29 = .ok (.if_icmp .ge 33, 3) := by decide +kernel
theorem dX9_next_32 : decode cX9_next 32 = .ok (.aload_n 0, 1) := by decide +kernel
theorem dX9_next_33 : decode cX9_next 33 = .ok (.getfield 45, 3) := by decide +kernel
theorem dX9_next_36 : decode cX9_next 36 = .ok (.bipush 12, 2) := by decide +kernel
theorem dX9_next_38 : decode cX9_next 38 = .ok (.iload_n 1, 1) := by decide +kernel
theorem dX9_next_39 : decode cX9_next 39 = .ok (.imul, 1) := by decide +kernel
theorem dX9_next_40 : decode cX9_next 40 = .ok (.iload_n 3, 1) := by decide +kernel
theorem dX9_next_41 : decode cX9_next 41 = .ok (.iadd, 1) := by decide +kernel
theorem dX9_next_42 : decode cX9_next 42 = .ok (.aload_n 0, 1) := by decide +kernel
theorem dX9_next_43 : decode cX9_next 43 = .ok (.getfield 45, 3) := by decide +kernel
theorem dX9_next_46 : decode cX9_next 46 = .ok (.bipush 12, 2) := by decide +kernel
theorem dX9_next_48 : decode cX9_next 48 = .ok (.iload_n 1, 1) := by decide +kernel
theorem dX9_next_49 : decode cX9_next 49 = .ok (.imul, 1) := by decide +kernel
theorem dX9_next_50 : decode cX9_next 50 = .ok (.iload_n 3, 1) := by decide +kernel
theorem dX9_next_51 : decode cX9_next 51 = .ok (.iadd, 1) := by decide +kernel
theorem dX9_next_52 : decode cX9_next 52 = .ok (.iconst 1, 1) := by decide +kernel
theorem dX9_next_53 : decode cX9_next 53 = .ok (.iadd, 1) := by decide +kernel
theorem dX9_next_54 : decode cX9_next 54 = .ok (.iaload, 1) := by decide +kernel
theorem dX9_next_55 : decode cX9_next 55 = .ok (.iastore, 1) := by decide +kernel
theorem dX9_next_56 : decode cX9_next 56 = .ok (.iinc 3 1, 3) := by decide +kernel
theorem dX9_next_59 : decode cX9_next 59 = .ok (.goto (-37), 3) := by decide +kernel
theorem dX9_next_62 : decode cX9_next 62 = .ok (.iload_n 2, 1) := by decide +kernel
theorem dX9_next_63 : decode cX9_next 63 = .ok (.ireturn, 1) := by decide +kernel
theorem dX9_start_0 : decode cX9_start 0 = .ok (.iload_n 1, 1) := by decide +kernel
theorem dX9_start_1 : decode cX9_start 1 = .ok (.iconst 0, 1) := by decide +kernel
theorem dX9_start_2 : decode cX9_start 2 = .ok (.aload_n 0, 1) := by decide +kernel
theorem dX9_start_3 : decode cX9_start 3 = .ok (.getfield 135, 3) := by decide +kernel
theorem dX9_start_6 : decode cX9_start 6 = .ok (.iconst 1, 1) := by decide +kernel
theorem dX9_start_7 : decode cX9_start 7 = .ok (.isub, 1) := by decide +kernel
theorem dX9_start_8 : decode cX9_start 8 = .ok (.invokestatic 138, 3) := by decide +kernel
theorem dX9_start_11 : decode cX9_start 11 = .ok (.ifCond .ne 9, 3) := by decide +kernel
theorem dX9_start_14 : decode cX9_start 14 = .ok (.aload_n 0, 1) := by decide +kernel
theorem dX9_start_15 : decode cX9_start 15 = .ok (.iconst 1, 1) := by decide +kernel
theorem dX9_start_16 : decode cX9_start 16 = .ok (.invokevirtual 163, 3) := by decide +kernel
theorem dX9_start_19 : decode cX9_start 19 = .ok (.ireturn, 1) := by decide +kernel
theorem dX9_start_20 : decode cX9_start 20 = .ok (.iconst 2, 1) := by decide +kernel
theorem dX9_start_21 : decode cX9_start 21 = .ok (.iload_n 1, 1) := by decide +kernel
theorem dX9_start_22 : decode cX9_start 22 = .ok (.imul, 1) := by decide +kernel
theorem dX9_start_23 : decode cX9_start 23 = .ok (.istore_n 2, 1) := by decide +kernel
theorem dX9_start_24 : decode cX9_start 24 = .ok (.iload_n 2, 1) := by decide +kernel
theorem dX9_start_25 : decode cX9_start 25 = .ok (.iconst 1, 1) := by decide +kernel
theorem dX9_start_26 : decode cX9_start 26 = .ok (.iadd, 1) := by decide +kernel
theorem dX9_start_27 : decode cX9_start 27 = .ok (.istore_n 3, 1) := by decide +kernel
theorem dX9_start_28 : decode cX9_start 28 = .ok (.aload_n 0, 1) := by decide +kernel
theorem dX9_start_29 : decode cX9_start 29 = .ok (.getfield 48, 3) := by decide +kernel
theorem dX9_start_32 : decode cX9_start 32 = .ok (.iload_n 1, 1) := by decide +kernel
theorem dX9_start_33 : decode cX9_start 33 = .ok (.baload, 1) := by decide +kernel
theorem dX9_start_34 : decode cX9_start 34 = .ok (.ifCond .ne 23, 3) := by decide +kernel
theorem dX9_start_37 : decode cX9_start 37 = .ok (.aload_n 0, 1) := by decide +kernel
theorem dX9_start_38 : decode cX9_start 38 = .ok (.getfield 42, 3) := by decide +kernel
theorem dX9_start_41 : decode cX9_start 41 = .ok (.iload_n 2, 1) := by decide +kernel
theorem dX9_start_42 : decode cX9_start 42 = .ok (.iaload, 1) := by decide +kernel
theorem dX9_start_43 : decode cX9_start 43 = .ok (.iconst 2, 1) := by decide +kernel
theorem dX9_start_44 : decode cX9_start 44 = .ok (.if_icmp .lt 13, 3) := by decide +kernel
theorem dX9_start_47 : decode cX9_start 47 = .ok (.aload_n 0, 1) := by decide +kernel
theorem dX9_start_48 : decode cX9_start 48 = .ok (.getfield 42, 3) := by decide +kernel
theorem dX9_start_51 : decode cX9_start 51 = .ok (.iload_n 3, 1) := by decide +kernel
theorem dX9_start_52 : decode cX9_start 52 = .ok (.iaload, 1) := by decide +kernel
theorem dX9_start_53 : decode cX9_start 53 = .ok (.iconst 1, 1) := by decide +kernel
theorem dX9_start_54 : decode cX9_start 54 = .ok (.if_icmp .ge 9, 3) := by decide +kernel
theorem dX9_start_57 : decode cX9_start 57 = .ok (.aload_n 0, 1) := by decide +kernel
theorem dX9_start_58 : decode cX9_start 58 = .ok (.iconst 3, 1) := by decide +kernel
theorem dX9_start_59 : decode cX9_start 59 = .ok (.invokevirtual 163, 3) := by decide +kernel
theorem dX9_start_62 : decode cX9_start 62 = .ok (.ireturn, 1) := by decide +kernel
theorem dX9_start_63 : decode cX9_start 63 = .ok (.aload_n 0, 1) := by decide +kernel
theorem dX9_start_64 : decode cX9_start 64 = .ok (.getfield 48, 3) := by decide +kernel
theorem dX9_start_67 : decode cX9_start 67 = .ok (.iload_n 1, 1) := by decide +kernel
theorem dX9_start_68 : decode cX9_start 68 = .ok (.iconst 1, 1) := by decide +kernel
theorem dX9_start_69 : decode cX9_start 69 = .ok (.bastore, 1) := by decide +kernel
theorem dX9_start_70 : decode cX9_start 70 = .ok (.aload_n 0, 1) := by decide +kernel
theorem dX9_start_71 : decode cX9_start 71 = .ok (.iload_n 2, 1) := by decide +kernel
theorem dX9_start_72 : decode cX9_start 72 = .ok (.invokevirtual 176, 3) := by decide +kernel
theorem dX9_start_75 : decode cX9_start 75 = .ok (.istore 4, 2) := by decide +kernel
theorem dX9_start_77 : decode cX9_start 77 = .ok (.aload_n 0, 1) := by decide +kernel
theorem dX9_start_78 : decode cX9_start 78 = .ok (.iload_n 3, 1) := by decide +kernel
theorem dX9_start_79 : decode cX9_start 79 = .ok (.invokevirtual 176, 3) := by decide +kernel
theorem dX9_start_82 : decode cX9_start 82 = .ok (.istore 5, 2) := by decide +kernel
theorem dX9_start_84 : decode cX9_start 84 = .ok (.aload_n 0, 1) := by decide +kernel
theorem dX9_start_85 : decode cX9_start 85 = .ok (.iconst (-1), 1) := by decide +kernel
theorem dX9_start_86 : decode cX9_start 86 = .ok (.aload_n 0, 1) := by decide +kernel
theorem dX9_start_87 : decode cX9_start 87 = .ok (.iload 4, 2) := by decide +kernel
theorem dX9_start_89 : decode cX9_start 89 = .ok (.iload 5, 2) := by decide +kernel
theorem dX9_start_91 : decode cX9_start 91 = .ok (.invokevirtual 179, 3) := by decide +kernel
theorem dX9_start_94 : decode cX9_start 94 = .ok (.invokevirtual 182, 3) := by decide +kernel
theorem dX9_start_97 : decode cX9_start 97 = .ok (.istore 6, 2) := by decide +kernel
theorem dX9_start_99 : decode cX9_start 99 = .ok (.aload_n 0, 1) := by decide +kernel
theorem dX9_start_100 : decode cX9_start 100 = .ok (.getfield 51, 3) := by decide +kernel
theorem dX9_start_103 : decode cX9_start 103 = .ok (.iload_n 3, 1) := by decide +kernel
theorem dX9_start_104 : decode cX9_start 104 = .ok (.iload 5, 2) := by decide +kernel
theorem dX9_start_106 : decode cX9_start 106 = .ok (.iastore, 1) := by decide +kernel
theorem dX9_start_107 : decode cX9_start 107 = .ok (.aload_n 0, 1) := by decide +kernel
theorem dX9_start_108 : decode cX9_start 108 = .ok (.getfield 54, 3) := by decide +kernel
theorem dX9_start_111 : decode cX9_start 111 = .ok (.iload_n 3, 1) := by decide +kernel
theorem dX9_start_112 : decode cX9_start 112 = .ok (.iload 6, 2) := by decide +kernel
theorem dX9_start_114 : decode cX9_start 114 = .ok (.iastore, 1) := by decide +kernel
theorem dX9_start_115 : decode cX9_start 115 = .ok (.aload_n 0, 1) := by decide +kernel
theorem dX9_start_116 : decode cX9_start 116 = .ok (.getfield 57, 3) := by decide +kernel
theorem dX9_start_119 : decode cX9_start 119 = .ok (.iload_n 3, 1) := by decide +kernel
theorem dX9_start_120 : decode cX9_start 120 = .ok (.iconst (-1), 1) := by decide +kernel
theorem dX9_start_121 : decode cX9_start 121 = .ok (.iastore, 1) := by decide +kernel
theorem dX9_start_122 : decode cX9_start 122 = .ok (.aload_n 0, 1) := by decide +kernel
theorem dX9_start_123 : decode cX9_start 123 = .ok (.getfield 60, 3) := by decide +kernel
theorem dX9_start_126 : decode cX9_start 126 = .ok (.iload_n 3, 1) := by decide +kernel
theorem dX9_start_127 : decode cX9_start 127 = .ok (.iconst (-1), 1) := by decide +kernel
theorem dX9_start_128 : decode cX9_start 128 = .ok (.iastore, 1) := by decide +kernel
theorem dX9_start_129 : decode cX9_start 129 = .ok (.aload_n 0, 1) := by decide +kernel
theorem dX9_start_130 : decode cX9_start 130 = .ok (.getfield 63, 3) := by decide +kernel
theorem dX9_start_133 : decode cX9_start 133 = .ok (.iload_n 3, 1) := by decide +kernel
theorem dX9_start_134 : decode cX9_start 134 = .ok (.iconst (-1), 1) := by decide +kernel
theorem dX9_start_135 : decode cX9_start 135 = .ok (.iastore, 1) := by decide +kernel
theorem dX9_start_136 : decode cX9_start 136 = .ok (.aload_n 0, 1) := by decide +kernel
theorem dX9_start_137 : decode cX9_start 137 = .ok (.getfield 51, 3) := by decide +kernel
theorem dX9_start_140 : decode cX9_start 140 = .ok (.iload_n 2, 1) := by decide +kernel
theorem dX9_start_141 : decode cX9_start 141 = .ok (.aload_n 0, 1) := by decide +kernel
theorem dX9_start_142 : decode cX9_start 142 = .ok (.iload_n 2, 1) := by decide +kernel
theorem dX9_start_143 : decode cX9_start 143 = .ok (.invokevirtual 176, 3) := by decide +kernel
theorem dX9_start_146 : decode cX9_start 146 = .ok (.iastore, 1) := by decide +kernel
theorem dX9_start_147 : decode cX9_start 147 = .ok (.aload_n 0, 1) := by decide +kernel
theorem dX9_start_148 : decode cX9_start 148 = .ok (.getfield 54, 3) := by decide +kernel
theorem dX9_start_151 : decode cX9_start 151 = .ok (.iload_n 2, 1) := by decide +kernel
theorem dX9_start_152 : decode cX9_start 152 = .ok (.aload_n 0, 1) := by decide +kernel
theorem dX9_start_153 : decode cX9_start 153 = .ok (.iload 6, 2) := by decide +kernel
theorem dX9_start_155 : decode cX9_start 155 = .ok (.aload_n 0, 1) := by decide +kernel
theorem dX9_start_156 : decode cX9_start 156 = .ok (.aload_n 0, 1) := by decide +kernel
theorem dX9_start_157 : decode cX9_start 157 = .ok (.getfield 51, 3) := by decide +kernel
theorem dX9_start_160 : decode cX9_start 160 = .ok (.iload_n 2, 1) := by decide +kernel
theorem dX9_start_161 : decode cX9_start 161 = .ok (.iaload, 1) := by decide +kernel
theorem dX9_start_162 : decode cX9_start 162 = .ok (.iload 5, 2) := by decide +kernel
theorem dX9_start_164 : decode cX9_start 164 = .ok (.invokevirtual 179, 3) := by decide +kernel
theorem dX9_start_167 : decode cX9_start 167 = .ok (.invokevirtual 182, 3) := by decide +kernel
theorem dX9_start_170 : decode cX9_start 170 = .ok (.iastore, 1) := by decide +kernel
theorem dX9_start_171 : decode cX9_start 171 = .ok (.aload_n 0, 1) := by decide +kernel
theorem dX9_start_172 : decode cX9_start 172 = .ok (.getfield 57, 3) := by decide +kernel
theorem dX9_start_175 : decode cX9_start 175 = .ok (.iload_n 2, 1) := by decide +kernel
theorem dX9_start_176 : decode cX9_start 176 = .ok (.aload_n 0, 1) := by decide +kernel
theorem dX9_start_177 : decode cX9_start 177 = .ok (.aload_n 0, 1) := by decide +kernel
theorem dX9_start_178 : decode cX9_start 178 = .ok (.getfield 54, 3) := by decide +kernel
theorem dX9_start_181 : decode cX9_start 181 = .ok (.iload_n 2, 1) := by decide +kernel
theorem dX9_start_182 : decode cX9_start 182 = .ok (.iaload, 1) := by decide +kernel
theorem dX9_start_183 : decode cX9_start 183 = .ok (.invokevirtual 185, 3) := by decide +kernel
theorem dX9_start_186 : decode cX9_start 186 = .ok (.iastore, 1) := by decide +kernel
theorem dX9_start_187 : decode cX9_start 187 = .ok (.aload_n 0, 1) := by decide +kernel
theorem dX9_start_188 : decode cX9_start 188 = .ok (.getfield 60, 3) := by decide +kernel
theorem dX9_start_191 : decode cX9_start 191 = .ok (.iload_n 2, 1) := by decide +kernel
theorem dX9_start_192 : decode cX9_start 192 = .ok (.iconst (-1), 1) := by decide +kernel
theorem dX9_start_193 : decode cX9_start 193 = .ok (.iastore, 1) := by decide +kernel
theorem dX9_start_194 : decode cX9_start 194 = .ok (.aload_n 0, 1) := by decide +kernel
theorem dX9_start_195 : decode cX9_start 195 = .ok (.getfield 63, 3) := by decide +kernel
theorem dX9_start_198 : decode cX9_start 198 = .ok (.iload_n 2, 1) := by decide +kernel
theorem dX9_start_199 : decode cX9_start 199 = .ok (.aload_n 0, 1) := by decide +kernel
theorem dX9_start_200 : decode cX9_start 200 = .ok (.iload 5, 2) := by decide +kernel
theorem dX9_start_202 : decode cX9_start 202 = .ok (.invokevirtual 152, 3) := by decide +kernel
theorem dX9_start_205 : decode cX9_start 205 = .ok (.iastore, 1) := by decide +kernel
theorem dX9_start_206 : decode cX9_start 206 = .ok (.aload_n 0, 1) := by decide +kernel
theorem dX9_start_207 : decode cX9_start 207 = .ok (.iconst 1, 1) := by decide +kernel
theorem dX9_start_208 : decode cX9_start 208 = .ok (.invokevirtual 166, 3) := by decide +kernel
theorem dX9_start_211 : decode cX9_start 211 = .ok (.ireturn, 1) := by decide +kernel
theorem dX9_send_0 : decode cX9_send 0 = .ok (.aload_n 0, 1) := by decide +kernel
theorem dX9_send_1 : decode cX9_send 1 = .ok (.iload_n 1, 1) := by decide +kernel
theorem dX9_send_2 : decode cX9_send 2 = .ok (.invokevirtual 172, 3) := by decide +kernel
theorem dX9_send_5 : decode cX9_send 5 = .ok (.ifCond .eq 14, 3) := by decide +kernel
theorem dX9_send_8 : decode cX9_send 8 = .ok (.iload_n 2, 1) := by decide +kernel
theorem dX9_send_9 : decode cX9_send 9 = .ok (.iconst 0, 1) := by decide +kernel
theorem dX9_send_10 : decode cX9_send 10 = .ok (.sipush 255, 3) := by decide +kernel
theorem dX9_send_13 : decode cX9_send 13 = .ok (.invokestatic 138, 3) := by decide +kernel
theorem dX9_send_16 : decode cX9_send 16 = .ok (.ifCond .ne 9, 3) := by decide +kernel
theorem dX9_send_19 : decode cX9_send 19 = .ok (.aload_n 0, 1) := by decide +kernel
theorem dX9_send_20 : decode cX9_send 20 = .ok (.iconst 1, 1) := by decide +kernel
theorem dX9_send_21 : decode cX9_send 21 = .ok (.invokevirtual 163, 3) := by decide +kernel
theorem dX9_send_24 : decode cX9_send 24 = .ok (.ireturn, 1) := by decide +kernel
theorem dX9_send_25 : decode cX9_send 25 = .ok (.aload_n 0, 1) := by decide +kernel
theorem dX9_send_26 : decode cX9_send 26 = .ok (.getfield 142, 3) := by decide +kernel
theorem dX9_send_29 : decode cX9_send 29 = .ok (.sipush 300, 3) := by decide +kernel
theorem dX9_send_32 : decode cX9_send 32 = .ok (.if_icmp .ne 9, 3) := by decide +kernel
theorem dX9_send_35 : decode cX9_send 35 = .ok (.aload_n 0, 1) := by decide +kernel
theorem dX9_send_36 : decode cX9_send 36 = .ok (.iconst 2, 1) := by decide +kernel
theorem dX9_send_37 : decode cX9_send 37 = .ok (.invokevirtual 163, 3) := by decide +kernel
theorem dX9_send_40 : decode cX9_send 40 = .ok (.ireturn, 1) := by decide +kernel
theorem dX9_send_41 : decode cX9_send 41 = .ok (.aload_n 0, 1) := by decide +kernel
theorem dX9_send_42 : decode cX9_send 42 = .ok (.getfield 48, 3) := by decide +kernel
theorem dX9_send_45 : decode cX9_send 45 = .ok (.iload_n 1, 1) := by decide +kernel
theorem dX9_send_46 : decode cX9_send 46 = .ok (.iconst 2, 1) := by decide +kernel
theorem dX9_send_47 : decode cX9_send 47 = .ok (.idiv, 1) := by decide +kernel
theorem dX9_send_48 : decode cX9_send 48 = .ok (.baload, 1) := by decide +kernel
theorem dX9_send_49 : decode cX9_send 49 = .ok (.ifCond .eq 13, 3) := by decide +kernel
theorem dX9_send_52 : decode cX9_send 52 = .ok (.aload_n 0, 1) := by decide +kernel
theorem dX9_send_53 : decode cX9_send 53 = .ok (.getfield 57, 3) := by decide +kernel
theorem dX9_send_56 : decode cX9_send 56 = .ok (.iload_n 1, 1) := by decide +kernel
theorem dX9_send_57 : decode cX9_send 57 = .ok (.iaload, 1) := by decide +kernel
theorem dX9_send_58 : decode cX9_send 58 = .ok (.iconst (-1), 1) := by decide +kernel
theorem dX9_send_59 : decode cX9_send 59 = .ok (.if_icmp .ne 9, 3) := by decide +kernel
theorem dX9_send_62 : decode cX9_send 62 = .ok (.aload_n 0, 1) := by decide +kernel
theorem dX9_send_63 : decode cX9_send 63 = .ok (.iconst 3, 1) := by decide +kernel
theorem dX9_send_64 : decode cX9_send 64 = .ok (.invokevirtual 163, 3) := by decide +kernel
theorem dX9_send_67 : decode cX9_send 67 = .ok (.ireturn, 1) := by decide +kernel
theorem dX9_send_68 : decode cX9_send 68 = .ok (.aload_n 0, 1) := by decide +kernel
theorem dX9_send_69 : decode cX9_send 69 = .ok (.getfield 142, 3) := by decide +kernel
theorem dX9_send_72 : decode cX9_send 72 = .ok (.istore_n 3, 1) := by decide +kernel
theorem dX9_send_73 : decode cX9_send 73 = .ok (.aload_n 0, 1) := by decide +kernel
theorem dX9_send_74 : decode cX9_send 74 = .ok (.aload_n 0, 1) := by decide +kernel
theorem dX9_send_75 : decode cX9_send 75 = .ok (.getfield 57, 3) := by decide +kernel
theorem dX9_send_78 : decode cX9_send 78 = .ok (.iload_n 1, 1) := by decide +kernel
theorem dX9_send_79 : decode cX9_send 79 = .ok (.iaload, 1) := by decide +kernel
theorem dX9_send_80 : decode cX9_send 80 = .ok (.invokevirtual 188, 3) := by decide +kernel
theorem dX9_send_83 : decode cX9_send 83 = .ok (.istore 4, 2) := by decide +kernel
theorem dX9_send_85 : decode cX9_send 85 = .ok (.aload_n 0, 1) := by decide +kernel
theorem dX9_send_86 : decode cX9_send 86 = .ok (.getfield 96, 3) := by decide +kernel
theorem dX9_send_89 : decode cX9_send 89 = .ok (.iload_n 3, 1) := by decide +kernel
theorem dX9_send_90 : decode cX9_send 90 = .ok (.iload_n 1, 1) := by decide +kernel
theorem dX9_send_91 : decode cX9_send 91 = .ok (.iastore, 1) := by decide +kernel
theorem dX9_send_92 : decode cX9_send 92 = .ok (.aload_n 0, 1) := by decide +kernel
theorem dX9_send_93 : decode cX9_send 93 = .ok (.getfield 99, 3) := by decide +kernel
theorem dX9_send_96 : decode cX9_send 96 = .ok (.iload_n 3, 1) := by decide +kernel
theorem dX9_send_97 : decode cX9_send 97 = .ok (.aload_n 0, 1) := by decide +kernel
theorem dX9_send_98 : decode cX9_send 98 = .ok (.aload_n 0, 1) := by decide +kernel
theorem dX9_send_99 : decode cX9_send 99 = .ok (.getfield 51, 3) := by decide +kernel
theorem dX9_send_102 : decode cX9_send 102 = .ok (.iload_n 1, 1) := by decide +kernel
theorem dX9_send_103 : decode cX9_send 103 = .ok (.iaload, 1) := by decide +kernel
theorem dX9_send_104 : decode cX9_send 104 = .ok (.invokevirtual 152, 3) := by decide +kernel
theorem dX9_send_107 : decode cX9_send 107 = .ok (.iastore, 1) := by decide +kernel
theorem dX9_send_108 : decode cX9_send 108 = .ok (.aload_n 0, 1) := by decide +kernel
theorem dX9_send_109 : decode cX9_send 109 = .ok (.getfield 102, 3) := by decide +kernel
theorem dX9_send_112 : decode cX9_send 112 = .ok (.iload_n 3, 1) := by decide +kernel
theorem dX9_send_113 : decode cX9_send 113 = .ok (.aload_n 0, 1) := by decide +kernel
theorem dX9_send_114 : decode cX9_send 114 = .ok (.getfield 69, 3) := by decide +kernel
theorem dX9_send_117 : decode cX9_send 117 = .ok (.iload_n 1, 1) := by decide +kernel
theorem dX9_send_118 : decode cX9_send 118 = .ok (.iaload, 1) := by decide +kernel
theorem dX9_send_119 : decode cX9_send 119 = .ok (.iastore, 1) := by decide +kernel
theorem dX9_send_120 : decode cX9_send 120 = .ok (.aload_n 0, 1) := by decide +kernel
theorem dX9_send_121 : decode cX9_send 121 = .ok (.getfield 105, 3) := by decide +kernel
theorem dX9_send_124 : decode cX9_send 124 = .ok (.iload_n 3, 1) := by decide +kernel
theorem dX9_send_125 : decode cX9_send 125 = .ok (.aload_n 0, 1) := by decide +kernel
theorem dX9_send_126 : decode cX9_send 126 = .ok (.getfield 66, 3) := by decide +kernel
theorem dX9_send_129 : decode cX9_send 129 = .ok (.iload_n 1, 1) := by decide +kernel
theorem dX9_send_130 : decode cX9_send 130 = .ok (.iaload, 1) := by decide +kernel
theorem dX9_send_131 : decode cX9_send 131 = .ok (.iastore, 1) := by decide +kernel
theorem dX9_send_132 : decode cX9_send 132 = .ok (.aload_n 0, 1) := by decide +kernel
theorem dX9_send_133 : decode cX9_send 133 = .ok (.getfield 108, 3) := by decide +kernel
theorem dX9_send_136 : decode cX9_send 136 = .ok (.iload_n 3, 1) := by decide +kernel
theorem dX9_send_137 : decode cX9_send 137 = .ok (.iload_n 2, 1) := by decide +kernel
theorem dX9_send_138 : decode cX9_send 138 = .ok (.aload_n 0, 1) := by decide +kernel
theorem dX9_send_139 : decode cX9_send 139 = .ok (.getfield 32, 3) := by decide +kernel
theorem dX9_send_142 : decode cX9_send 142 = .ok (.iload 4, 2) := by decide +kernel
theorem dX9_send_144 : decode cX9_send 144 = .ok (.iaload, 1) := by decide +kernel
theorem dX9_send_145 : decode cX9_send 145 = .ok (.iadd, 1) := by decide +kernel
theorem dX9_send_146 : decode cX9_send 146 = .ok (.sipush 256, 3) := by decide +kernel
theorem dX9_send_149 : decode cX9_send 149 = .ok (.irem, 1) := by decide +kernel
theorem dX9_send_150 : decode cX9_send 150 = .ok (.iastore, 1) := by decide +kernel
theorem dX9_send_151 : decode cX9_send 151 = .ok (.aload_n 0, 1) := by decide +kernel
theorem dX9_send_152 : decode cX9_send 152 = .ok (.getfield 111, 3) := by decide +kernel
theorem dX9_send_155 : decode cX9_send 155 = .ok (.iload_n 3, 1) := by decide +kernel
theorem dX9_send_156 : decode cX9_send 156 = .ok (.aload_n 0, 1) := by decide +kernel
theorem dX9_send_157 : decode cX9_send 157 = .ok (.aload_n 0, 1) := by decide +kernel
theorem dX9_send_158 : decode cX9_send 158 = .ok (.getfield 32, 3) := by decide +kernel
theorem dX9_send_161 : decode cX9_send 161 = .ok (.iload 4, 2) := by decide +kernel
theorem dX9_send_163 : decode cX9_send 163 = .ok (.iaload, 1) := by decide +kernel
theorem dX9_send_164 : decode cX9_send 164 = .ok (.iload_n 2, 1) := by decide +kernel
theorem dX9_send_165 : decode cX9_send 165 = .ok (.invokevirtual 160, 3) := by decide +kernel
theorem dX9_send_168 : decode cX9_send 168 = .ok (.iastore, 1) := by decide +kernel
theorem dX9_send_169 : decode cX9_send 169 = .ok (.aload_n 0, 1) := by decide +kernel
theorem dX9_send_170 : decode cX9_send 170 = .ok (.getfield 114, 3) := by decide +kernel
theorem dX9_send_173 : decode cX9_send 173 = .ok (.iload_n 3, 1) := by decide +kernel
theorem dX9_send_174 : decode cX9_send 174 = .ok (.iload 4, 2) := by decide +kernel
theorem dX9_send_176 : decode cX9_send 176 = .ok (.iastore, 1) := by decide +kernel
theorem dX9_send_177 : decode cX9_send 177 = .ok (.aload_n 0, 1) := by decide +kernel
theorem dX9_send_178 : decode cX9_send 178 = .ok (.getfield 117, 3) := by decide +kernel
theorem dX9_send_181 : decode cX9_send 181 = .ok (.iload_n 3, 1) := by decide +kernel
theorem dX9_send_182 : decode cX9_send 182 = .ok (.aload_n 0, 1) := by decide +kernel
theorem dX9_send_183 : decode cX9_send 183 = .ok (.getfield 51, 3) := by decide +kernel
theorem dX9_send_186 : decode cX9_send 186 = .ok (.iload_n 1, 1) := by decide +kernel
theorem dX9_send_187 : decode cX9_send 187 = .ok (.iaload, 1) := by decide +kernel
theorem dX9_send_188 : decode cX9_send 188 = .ok (.iastore, 1) := by decide +kernel
theorem dX9_send_189 : decode cX9_send 189 = .ok (.aload_n 0, 1) := by decide +kernel
theorem dX9_send_190 : decode cX9_send 190 = .ok (.getfield 57, 3) := by decide +kernel
theorem dX9_send_193 : decode cX9_send 193 = .ok (.iload_n 1, 1) := by decide +kernel
theorem dX9_send_194 : decode cX9_send 194 = .ok (.aload_n 0, 1) := by decide +kernel
theorem dX9_send_195 : decode cX9_send 195 = .ok (.aload_n 0, 1) := by decide +kernel
theorem dX9_send_196 : decode cX9_send 196 = .ok (.getfield 57, 3) := by decide +kernel
theorem dX9_send_199 : decode cX9_send 199 = .ok (.iload_n 1, 1) := by decide +kernel
theorem dX9_send_200 : decode cX9_send 200 = .ok (.iaload, 1) := by decide +kernel
theorem dX9_send_201 : decode cX9_send 201 = .ok (.invokevirtual 185, 3) := by decide +kernel
theorem dX9_send_204 : decode cX9_send 204 = .ok (.iastore, 1) := by decide +kernel
theorem dX9_send_205 : decode cX9_send 205 = .ok (.aload_n 0, 1) := by decide +kernel
theorem dX9_send_206 : decode cX9_send 206 = .ok (.getfield 66, 3) := by decide +kernel
theorem dX9_send_209 : decode cX9_send 209 = .ok (.iload_n 1, 1) := by decide +kernel
theorem dX9_send_210 : decode cX9_send 210 = .ok (.dup2, 1) := by decide +kernel
theorem dX9_send_211 : decode cX9_send 211 = .ok (.iaload, 1) := by decide +kernel
theorem dX9_send_212 : decode cX9_send 212 = .ok (.iconst 1, 1) := by decide +kernel
theorem dX9_send_213 : decode cX9_send 213 = .ok (.iadd, 1) := by decide +kernel
theorem dX9_send_214 : decode cX9_send 214 = .ok (.iastore, 1) := by decide +kernel
theorem dX9_send_215 : decode cX9_send 215 = .ok (.aload_n 0, 1) := by decide +kernel
theorem dX9_send_216 : decode cX9_send 216 = .ok (.dup, 1) := by decide +kernel
theorem dX9_send_217 : decode cX9_send 217 = .ok (.getfield 142, 3) := by decide +kernel
theorem dX9_send_220 : decode cX9_send 220 = .ok (.iconst 1, 1) := by decide +kernel
theorem dX9_send_221 : decode cX9_send 221 = .ok (.iadd, 1) := by decide +kernel
theorem dX9_send_222 : decode cX9_send 222 = .ok (.putfield 142, 3) := by decide +kernel
theorem dX9_send_225 : decode cX9_send 225 = .ok (.aload_n 0, 1) := by decide +kernel
theorem dX9_send_226 : decode cX9_send 226 = .ok (.invokevirtual 169, 3) := by decide +kernel
theorem dX9_send_229 : decode cX9_send 229 = .ok (.aload_n 0, 1) := by decide +kernel
theorem dX9_send_230 : decode cX9_send 230 = .ok (.iload_n 3, 1) := by decide +kernel
theorem dX9_send_231 : decode cX9_send 231 = .ok (.invokevirtual 166, 3) := by decide +kernel
theorem dX9_send_234 : decode cX9_send 234 = .ok (.ireturn, 1) := by decide +kernel
theorem dX9_alter_0 : decode cX9_alter 0 = .ok (.aload_n 0, 1) := by decide +kernel
theorem dX9_alter_1 : decode cX9_alter 1 = .ok (.iload_n 1, 1) := by decide +kernel
theorem dX9_alter_2 : decode cX9_alter 2 = .ok (.invokevirtual 191, 3) := by decide +kernel
theorem dX9_alter_5 : decode cX9_alter 5 = .ok (.ifCond .eq 14, 3) := by decide +kernel
theorem dX9_alter_8 : decode cX9_alter 8 = .ok (.iload_n 2, 1) := by decide +kernel
theorem dX9_alter_9 : decode cX9_alter 9 = .ok (.iconst 1, 1) := by decide +kernel
theorem dX9_alter_10 : decode cX9_alter 10 = .ok (.sipush 255, 3) := by decide +kernel
theorem dX9_alter_13 : decode cX9_alter 13 = .ok (.invokestatic 138, 3) := by decide +kernel
theorem dX9_alter_16 : decode cX9_alter 16 = .ok (.ifCond .ne 9, 3) := by decide +kernel
theorem dX9_alter_19 : decode cX9_alter 19 = .ok (.aload_n 0, 1) := by decide +kernel
theorem dX9_alter_20 : decode cX9_alter 20 = .ok (.iconst 1, 1) := by decide +kernel
theorem dX9_alter_21 : decode cX9_alter 21 = .ok (.invokevirtual 163, 3) := by decide +kernel
theorem dX9_alter_24 : decode cX9_alter 24 = .ok (.ireturn, 1) := by decide +kernel
theorem dX9_alter_25 : decode cX9_alter 25 = .ok (.aload_n 0, 1) := by decide +kernel
theorem dX9_alter_26 : decode cX9_alter 26 = .ok (.getfield 108, 3) := by decide +kernel
theorem dX9_alter_29 : decode cX9_alter 29 = .ok (.iload_n 1, 1) := by decide +kernel
theorem dX9_alter_30 : decode cX9_alter 30 = .ok (.dup2, 1) := by decide +kernel
theorem dX9_alter_31 : decode cX9_alter 31 = .ok (.iaload, 1) := by decide +kernel
theorem dX9_alter_32 : decode cX9_alter 32 = .ok (.iload_n 2, 1) := by decide +kernel
theorem dX9_alter_33 : decode cX9_alter 33 = .ok (.ixor, 1) := by decide +kernel
theorem dX9_alter_34 : decode cX9_alter 34 = .ok (.iastore, 1) := by decide +kernel
theorem dX9_alter_35 : decode cX9_alter 35 = .ok (.aload_n 0, 1) := by decide +kernel
theorem dX9_alter_36 : decode cX9_alter 36 = .ok (.iconst 1, 1) := by decide +kernel
theorem dX9_alter_37 : decode cX9_alter 37 = .ok (.invokevirtual 166, 3) := by decide +kernel
theorem dX9_alter_40 : decode cX9_alter 40 = .ok (.ireturn, 1) := by decide +kernel
theorem dX9_drops_0 : decode cX9_drops 0 = .ok (.aload_n 0, 1) := by decide +kernel
theorem dX9_drops_1 : decode cX9_drops 1 = .ok (.getfield 81, 3) := by decide +kernel
theorem dX9_drops_4 : decode cX9_drops 4 = .ok (.iload_n 1, 1) := by decide +kernel
theorem dX9_drops_5 : decode cX9_drops 5 = .ok (.dup2, 1) := by decide +kernel
theorem dX9_drops_6 : decode cX9_drops 6 = .ok (.iaload, 1) := by decide +kernel
theorem dX9_drops_7 : decode cX9_drops 7 = .ok (.iconst 1, 1) := by decide +kernel
theorem dX9_drops_8 : decode cX9_drops 8 = .ok (.isub, 1) := by decide +kernel
theorem dX9_drops_9 : decode cX9_drops 9 = .ok (.iastore, 1) := by decide +kernel
theorem dX9_drops_10 : decode cX9_drops 10 = .ok (.bipush 12, 2) := by decide +kernel
theorem dX9_drops_12 : decode cX9_drops 12 = .ok (.iload_n 1, 1) := by decide +kernel
theorem dX9_drops_13 : decode cX9_drops 13 = .ok (.imul, 1) := by decide +kernel
theorem dX9_drops_14 : decode cX9_drops 14 = .ok (.iload_n 2, 1) := by decide +kernel
theorem dX9_drops_15 : decode cX9_drops 15 = .ok (.iadd, 1) := by decide +kernel
theorem dX9_drops_16 : decode cX9_drops 16 = .ok (.istore_n 3, 1) := by decide +kernel
theorem dX9_drops_17 : decode cX9_drops 17 = .ok (.iload_n 3, 1) := by decide +kernel
theorem dX9_drops_18 : decode cX9_drops 18 = .ok (.bipush 12, 2) := by decide +kernel
theorem dX9_drops_20 : decode cX9_drops 20 = .ok (.iload_n 1, 1) := by decide +kernel
theorem dX9_drops_21 : decode cX9_drops 21 = .ok (.imul, 1) := by decide +kernel
theorem dX9_drops_22 : decode cX9_drops 22 = .ok (.aload_n 0, 1) := by decide +kernel
theorem dX9_drops_23 : decode cX9_drops 23 = .ok (.getfield 81, 3) := by decide +kernel
theorem dX9_drops_26 : decode cX9_drops 26 = .ok (.iload_n 1, 1) := by decide +kernel
theorem dX9_drops_27 : decode cX9_drops 27 = .ok (.iaload, 1) := by decide +kernel
theorem dX9_drops_28 : decode cX9_drops 28 = .ok (.iadd, 1) := by decide +kernel
theorem dX9_drops_29 : decode cX9_drops 29 = .ok (.if_icmp .ge 65, 3) := by decide +kernel
theorem dX9_drops_32 : decode cX9_drops 32 = .ok (.aload_n 0, 1) := by decide +kernel
theorem dX9_drops_33 : decode cX9_drops 33 = .ok (.getfield 84, 3) := by decide +kernel
theorem dX9_drops_36 : decode cX9_drops 36 = .ok (.iload_n 3, 1) := by decide +kernel
theorem dX9_drops_37 : decode cX9_drops 37 = .ok (.aload_n 0, 1) := by decide +kernel
theorem dX9_drops_38 : decode cX9_drops 38 = .ok (.getfield 84, 3) := by decide +kernel
theorem dX9_drops_41 : decode cX9_drops 41 = .ok (.iload_n 3, 1) := by decide +kernel
theorem dX9_drops_42 : decode cX9_drops 42 = .ok (.iconst 1, 1) := by decide +kernel
theorem dX9_drops_43 : decode cX9_drops 43 = .ok (.iadd, 1) := by decide +kernel
theorem dX9_drops_44 : decode cX9_drops 44 = .ok (.iaload, 1) := by decide +kernel
theorem dX9_drops_45 : decode cX9_drops 45 = .ok (.iastore, 1) := by decide +kernel
theorem dX9_drops_46 : decode cX9_drops 46 = .ok (.aload_n 0, 1) := by decide +kernel
theorem dX9_drops_47 : decode cX9_drops 47 = .ok (.getfield 87, 3) := by decide +kernel
theorem dX9_drops_50 : decode cX9_drops 50 = .ok (.iload_n 3, 1) := by decide +kernel
theorem dX9_drops_51 : decode cX9_drops 51 = .ok (.aload_n 0, 1) := by decide +kernel
theorem dX9_drops_52 : decode cX9_drops 52 = .ok (.getfield 87, 3) := by decide +kernel
theorem dX9_drops_55 : decode cX9_drops 55 = .ok (.iload_n 3, 1) := by decide +kernel
theorem dX9_drops_56 : decode cX9_drops 56 = .ok (.iconst 1, 1) := by decide +kernel
theorem dX9_drops_57 : decode cX9_drops 57 = .ok (.iadd, 1) := by decide +kernel
theorem dX9_drops_58 : decode cX9_drops 58 = .ok (.iaload, 1) := by decide +kernel
theorem dX9_drops_59 : decode cX9_drops 59 = .ok (.iastore, 1) := by decide +kernel
theorem dX9_drops_60 : decode cX9_drops 60 = .ok (.aload_n 0, 1) := by decide +kernel
theorem dX9_drops_61 : decode cX9_drops 61 = .ok (.getfield 90, 3) := by decide +kernel
theorem dX9_drops_64 : decode cX9_drops 64 = .ok (.iload_n 3, 1) := by decide +kernel
theorem dX9_drops_65 : decode cX9_drops 65 = .ok (.aload_n 0, 1) := by decide +kernel
theorem dX9_drops_66 : decode cX9_drops 66 = .ok (.getfield 90, 3) := by decide +kernel
theorem dX9_drops_69 : decode cX9_drops 69 = .ok (.iload_n 3, 1) := by decide +kernel
theorem dX9_drops_70 : decode cX9_drops 70 = .ok (.iconst 1, 1) := by decide +kernel
theorem dX9_drops_71 : decode cX9_drops 71 = .ok (.iadd, 1) := by decide +kernel
theorem dX9_drops_72 : decode cX9_drops 72 = .ok (.iaload, 1) := by decide +kernel
theorem dX9_drops_73 : decode cX9_drops 73 = .ok (.iastore, 1) := by decide +kernel
theorem dX9_drops_74 : decode cX9_drops 74 = .ok (.aload_n 0, 1) := by decide +kernel
theorem dX9_drops_75 : decode cX9_drops 75 = .ok (.getfield 93, 3) := by decide +kernel
theorem dX9_drops_78 : decode cX9_drops 78 = .ok (.iload_n 3, 1) := by decide +kernel
theorem dX9_drops_79 : decode cX9_drops 79 = .ok (.aload_n 0, 1) := by decide +kernel
theorem dX9_drops_80 : decode cX9_drops 80 = .ok (.getfield 93, 3) := by decide +kernel
theorem dX9_drops_83 : decode cX9_drops 83 = .ok (.iload_n 3, 1) := by decide +kernel
theorem dX9_drops_84 : decode cX9_drops 84 = .ok (.iconst 1, 1) := by decide +kernel
theorem dX9_drops_85 : decode cX9_drops 85 = .ok (.iadd, 1) := by decide +kernel
theorem dX9_drops_86 : decode cX9_drops 86 = .ok (.iaload, 1) := by decide +kernel
theorem dX9_drops_87 : decode cX9_drops 87 = .ok (.iastore, 1) := by decide +kernel
theorem dX9_drops_88 : decode cX9_drops 88 = .ok (.iinc 3 1, 3) := by decide +kernel
theorem dX9_drops_91 : decode cX9_drops 91 = .ok (.goto (-74), 3) := by decide +kernel
theorem dX9_drops_94 : decode cX9_drops 94 = .ok (.return_, 1) := by decide +kernel
theorem dX9_expire_0 : decode cX9_expire 0 = .ok (.iconst 0, 1) := by decide +kernel
theorem dX9_expire_1 : decode cX9_expire 1 = .ok (.istore_n 1, 1) := by decide +kernel
theorem dX9_expire_2 : decode cX9_expire 2 = .ok (.iload_n 1, 1) := by decide +kernel
theorem dX9_expire_3 : decode cX9_expire 3 = .ok (.bipush 12, 2) := by decide +kernel
theorem dX9_expire_5 : decode cX9_expire 5 = .ok (.if_icmp .ge 57, 3) := by decide +kernel
theorem dX9_expire_8 : decode cX9_expire 8 = .ok (.aload_n 0, 1) := by decide +kernel
theorem dX9_expire_9 : decode cX9_expire 9 = .ok (.getfield 81, 3) := by decide +kernel
theorem dX9_expire_12 : decode cX9_expire 12 = .ok (.iload_n 1, 1) := by decide +kernel
theorem dX9_expire_13 : decode cX9_expire 13 = .ok (.iaload, 1) := by decide +kernel
theorem dX9_expire_14 : decode cX9_expire 14 = .ok (.iconst 1, 1) := by decide +kernel
theorem dX9_expire_15 : decode cX9_expire 15 = .ok (.isub, 1) := by decide +kernel
theorem dX9_expire_16 : decode cX9_expire 16 = .ok (.istore_n 2, 1) := by decide +kernel
theorem dX9_expire_17 : decode cX9_expire 17 = .ok (.iload_n 2, 1) := by decide +kernel
theorem dX9_expire_18 : decode cX9_expire 18 = .ok (.ifCond .lt 38, 3) := by decide +kernel
theorem dX9_expire_21 : decode cX9_expire 21 = .ok (.aload_n 0, 1) := by decide +kernel
theorem dX9_expire_22 : decode cX9_expire 22 = .ok (.getfield 142, 3) := by decide +kernel
theorem dX9_expire_25 : decode cX9_expire 25 = .ok (.aload_n 0, 1) := by decide +kernel
theorem dX9_expire_26 : decode cX9_expire 26 = .ok (.getfield 93, 3) := by decide +kernel
theorem dX9_expire_29 : decode cX9_expire 29 = .ok (.bipush 12, 2) := by decide +kernel
theorem dX9_expire_31 : decode cX9_expire 31 = .ok (.iload_n 1, 1) := by decide +kernel
theorem dX9_expire_32 : decode cX9_expire 32 = .ok (.imul, 1) := by decide +kernel
theorem dX9_expire_33 : decode cX9_expire 33 = .ok (.iload_n 2, 1) := by decide +kernel
theorem dX9_expire_34 : decode cX9_expire 34 = .ok (.iadd, 1) := by decide +kernel
theorem dX9_expire_35 : decode cX9_expire 35 = .ok (.iaload, 1) := by decide +kernel
theorem dX9_expire_36 : decode cX9_expire 36 = .ok (.isub, 1) := by decide +kernel
theorem dX9_expire_37 : decode cX9_expire 37 = .ok (.aload_n 0, 1) := by decide +kernel
theorem dX9_expire_38 : decode cX9_expire 38 = .ok (.getfield 19, 3) := by decide +kernel
theorem dX9_expire_41 : decode cX9_expire 41 = .ok (.if_icmp .le 9, 3) := by decide +kernel
theorem dX9_expire_44 : decode cX9_expire 44 = .ok (.aload_n 0, 1) := by decide +kernel
theorem dX9_expire_45 : decode cX9_expire 45 = .ok (.iload_n 1, 1) := by decide +kernel
theorem dX9_expire_46 : decode cX9_expire 46 = .ok (.iload_n 2, 1) := by decide +kernel
theorem dX9_expire_47 : decode cX9_expire 47 = .ok (.invokevirtual 194, 3) := by decide +kernel
theorem dX9_expire_50 : decode cX9_expire 50 = .ok (.iinc 2 (-1), 3) := by decide +kernel
theorem dX9_expire_53 : decode cX9_expire 53 = .ok (.goto (-36), 3) := by decide +kernel
theorem dX9_expire_56 : decode cX9_expire 56 = .ok (.iinc 1 1, 3) := by decide +kernel
theorem dX9_expire_59 : decode cX9_expire 59 = .ok (.goto (-57), 3) := by decide +kernel
theorem dX9_expire_62 : decode cX9_expire 62 = .ok (.return_, 1) := by decide +kernel
theorem dX9_keep_0 : decode cX9_keep 0 = .ok (.aload_n 0, 1) := by decide +kernel
theorem dX9_keep_1 : decode cX9_keep 1 = .ok (.getfield 81, 3) := by decide +kernel
theorem dX9_keep_4 : decode cX9_keep 4 = .ok (.iload_n 1, 1) := by decide +kernel
theorem dX9_keep_5 : decode cX9_keep 5 = .ok (.iaload, 1) := by decide +kernel
theorem dX9_keep_6 : decode cX9_keep 6 = .ok (.bipush 12, 2) := by decide +kernel
theorem dX9_keep_8 : decode cX9_keep 8 = .ok (.if_icmp .ne 9, 3) := by decide +kernel
theorem dX9_keep_11 : decode cX9_keep 11 = .ok (.aload_n 0, 1) := by decide +kernel
theorem dX9_keep_12 : decode cX9_keep 12 = .ok (.iload_n 1, 1) := by decide +kernel
theorem dX9_keep_13 : decode cX9_keep 13 = .ok (.iconst 0, 1) := by decide +kernel
theorem dX9_keep_14 : decode cX9_keep 14 = .ok (.invokevirtual 194, 3) := by decide +kernel
theorem dX9_keep_17 : decode cX9_keep 17 = .ok (.bipush 12, 2) := by decide +kernel
theorem dX9_keep_19 : decode cX9_keep 19 = .ok (.iload_n 1, 1) := by decide +kernel
theorem dX9_keep_20 : decode cX9_keep 20 = .ok (.imul, 1) := by decide +kernel
theorem dX9_keep_21 : decode cX9_keep 21 = .ok (.aload_n 0, 1) := by decide +kernel
theorem dX9_keep_22 : decode cX9_keep 22 = .ok (.getfield 81, 3) := by decide +kernel
theorem dX9_keep_25 : decode cX9_keep 25 = .ok (.iload_n 1, 1) := by decide +kernel
theorem dX9_keep_26 : decode cX9_keep 26 = .ok (.iaload, 1) := by decide +kernel
theorem dX9_keep_27 : decode cX9_keep 27 = .ok (.iadd, 1) := by decide +kernel
theorem dX9_keep_28 : decode cX9_keep 28 = .ok (.istore 4, 2) := by decide +kernel
theorem dX9_keep_30 : decode cX9_keep 30 = .ok (.aload_n 0, 1) := by decide +kernel
theorem dX9_keep_31 : decode cX9_keep 31 = .ok (.getfield 84, 3) := by decide +kernel
theorem dX9_keep_34 : decode cX9_keep 34 = .ok (.iload 4, 2) := by decide +kernel
theorem dX9_keep_36 : decode cX9_keep 36 = .ok (.aload_n 0, 1) := by decide +kernel
theorem dX9_keep_37 : decode cX9_keep 37 = .ok (.getfield 63, 3) := by decide +kernel
theorem dX9_keep_40 : decode cX9_keep 40 = .ok (.iload_n 1, 1) := by decide +kernel
theorem dX9_keep_41 : decode cX9_keep 41 = .ok (.iaload, 1) := by decide +kernel
theorem dX9_keep_42 : decode cX9_keep 42 = .ok (.iastore, 1) := by decide +kernel
theorem dX9_keep_43 : decode cX9_keep 43 = .ok (.aload_n 0, 1) := by decide +kernel
theorem dX9_keep_44 : decode cX9_keep 44 = .ok (.getfield 87, 3) := by decide +kernel
theorem dX9_keep_47 : decode cX9_keep 47 = .ok (.iload 4, 2) := by decide +kernel
theorem dX9_keep_49 : decode cX9_keep 49 = .ok (.iload_n 2, 1) := by decide +kernel
theorem dX9_keep_50 : decode cX9_keep 50 = .ok (.iastore, 1) := by decide +kernel
theorem dX9_keep_51 : decode cX9_keep 51 = .ok (.aload_n 0, 1) := by decide +kernel
theorem dX9_keep_52 : decode cX9_keep 52 = .ok (.getfield 90, 3) := by decide +kernel
theorem dX9_keep_55 : decode cX9_keep 55 = .ok (.iload 4, 2) := by decide +kernel
theorem dX9_keep_57 : decode cX9_keep 57 = .ok (.iload_n 3, 1) := by decide +kernel
theorem dX9_keep_58 : decode cX9_keep 58 = .ok (.iastore, 1) := by decide +kernel
theorem dX9_keep_59 : decode cX9_keep 59 = .ok (.aload_n 0, 1) := by decide +kernel
theorem dX9_keep_60 : decode cX9_keep 60 = .ok (.getfield 93, 3) := by decide +kernel
theorem dX9_keep_63 : decode cX9_keep 63 = .ok (.iload 4, 2) := by decide +kernel
theorem dX9_keep_65 : decode cX9_keep 65 = .ok (.aload_n 0, 1) := by decide +kernel
theorem dX9_keep_66 : decode cX9_keep 66 = .ok (.getfield 142, 3) := by decide +kernel
theorem dX9_keep_69 : decode cX9_keep 69 = .ok (.iastore, 1) := by decide +kernel
theorem dX9_keep_70 : decode cX9_keep 70 = .ok (.aload_n 0, 1) := by decide +kernel
theorem dX9_keep_71 : decode cX9_keep 71 = .ok (.getfield 81, 3) := by decide +kernel
theorem dX9_keep_74 : decode cX9_keep 74 = .ok (.iload_n 1, 1) := by decide +kernel
theorem dX9_keep_75 : decode cX9_keep 75 = .ok (.dup2, 1) := by decide +kernel
theorem dX9_keep_76 : decode cX9_keep 76 = .ok (.iaload, 1) := by decide +kernel
theorem dX9_keep_77 : decode cX9_keep 77 = .ok (.iconst 1, 1) := by decide +kernel
theorem dX9_keep_78 : decode cX9_keep 78 = .ok (.iadd, 1) := by decide +kernel
theorem dX9_keep_79 : decode cX9_keep 79 = .ok (.iastore, 1) := by decide +kernel
theorem dX9_keep_80 : decode cX9_keep 80 = .ok (.return_, 1) := by decide +kernel
theorem dX9_keptOf_0 : decode cX9_keptOf 0 = .ok (.iconst 0, 1) := by decide +kernel
theorem dX9_keptOf_1 : decode cX9_keptOf 1 = .ok (.istore_n 3, 1) := by decide +kernel
theorem dX9_keptOf_2 : decode cX9_keptOf 2 = .ok (.iload_n 3, 1) := by decide +kernel
theorem dX9_keptOf_3 : decode cX9_keptOf 3 = .ok (.aload_n 0, 1) := by decide +kernel
theorem dX9_keptOf_4 : decode cX9_keptOf 4 = .ok (.getfield 81, 3) := by decide +kernel
theorem dX9_keptOf_7 : decode cX9_keptOf 7 = .ok (.iload_n 1, 1) := by decide +kernel
theorem dX9_keptOf_8 : decode cX9_keptOf 8 = .ok (.iaload, 1) := by decide +kernel
theorem dX9_keptOf_9 : decode cX9_keptOf 9 = .ok (.if_icmp .ge 51, 3) := by decide +kernel
theorem dX9_keptOf_12 : decode cX9_keptOf 12 = .ok (.aload_n 0, 1) := by decide +kernel
theorem dX9_keptOf_13 : decode cX9_keptOf 13 = .ok (.getfield 84, 3) := by decide +kernel
theorem dX9_keptOf_16 : decode cX9_keptOf 16 = .ok (.bipush 12, 2) := by decide +kernel
theorem dX9_keptOf_18 : decode cX9_keptOf 18 = .ok (.iload_n 1, 1) := by decide +kernel
theorem dX9_keptOf_19 : decode cX9_keptOf 19 = .ok (.imul, 1) := by decide +kernel
theorem dX9_keptOf_20 : decode cX9_keptOf 20 = .ok (.iload_n 3, 1) := by decide +kernel
theorem dX9_keptOf_21 : decode cX9_keptOf 21 = .ok (.iadd, 1) := by decide +kernel
theorem dX9_keptOf_22 : decode cX9_keptOf 22 = .ok (.iaload, 1) := by decide +kernel
theorem dX9_keptOf_23 : decode cX9_keptOf 23 = .ok (.aload_n 0, 1) := by decide +kernel
theorem dX9_keptOf_24 : decode cX9_keptOf 24 = .ok (.getfield 99, 3) := by decide +kernel
theorem dX9_keptOf_27 : decode cX9_keptOf 27 = .ok (.iload_n 2, 1) := by decide +kernel
theorem dX9_keptOf_28 : decode cX9_keptOf 28 = .ok (.iaload, 1) := by decide +kernel
theorem dX9_keptOf_29 : decode cX9_keptOf 29 = .ok (.if_icmp .ne 25, 3) := by decide +kernel
theorem dX9_keptOf_32 : decode cX9_keptOf 32 = .ok (.aload_n 0, 1) := by decide +kernel
theorem dX9_keptOf_33 : decode cX9_keptOf 33 = .ok (.getfield 87, 3) := by decide +kernel
theorem dX9_keptOf_36 : decode cX9_keptOf 36 = .ok (.bipush 12, 2) := by decide +kernel
theorem dX9_keptOf_38 : decode cX9_keptOf 38 = .ok (.iload_n 1, 1) := by decide +kernel
theorem dX9_keptOf_39 : decode cX9_keptOf 39 = .ok (.imul, 1) := by decide +kernel
theorem dX9_keptOf_40 : decode cX9_keptOf 40 = .ok (.iload_n 3, 1) := by decide +kernel
theorem dX9_keptOf_41 : decode cX9_keptOf 41 = .ok (.iadd, 1) := by decide +kernel
theorem dX9_keptOf_42 : decode cX9_keptOf 42 = .ok (.iaload, 1) := by decide +kernel
theorem dX9_keptOf_43 : decode cX9_keptOf 43 = .ok (.aload_n 0, 1) := by decide +kernel
theorem dX9_keptOf_44 : decode cX9_keptOf 44 = .ok (.getfield 105, 3) := by decide +kernel
theorem dX9_keptOf_47 : decode cX9_keptOf 47 = .ok (.iload_n 2, 1) := by decide +kernel
theorem dX9_keptOf_48 : decode cX9_keptOf 48 = .ok (.iaload, 1) := by decide +kernel
theorem dX9_keptOf_49 : decode cX9_keptOf 49 = .ok (.if_icmp .ne 5, 3) := by decide +kernel
theorem dX9_keptOf_52 : decode cX9_keptOf 52 = .ok (.iload_n 3, 1) := by decide +kernel
theorem dX9_keptOf_53 : decode cX9_keptOf 53 = .ok (.ireturn, 1) := by decide +kernel
theorem dX9_keptOf_54 : decode cX9_keptOf 54 = .ok (.iinc 3 1, 3) := by decide +kernel
theorem dX9_keptOf_57 : decode cX9_keptOf 57 = .ok (.goto (-55), 3) := by decide +kernel
theorem dX9_keptOf_60 : decode cX9_keptOf 60 = .ok (.iconst (-1), 1) := by decide +kernel
theorem dX9_keptOf_61 : decode cX9_keptOf 61 = .ok (.ireturn, 1) := by decide +kernel
theorem dX9_skip_0 : decode cX9_skip 0 = .ok (.aload_n 0, 1) := by decide +kernel
theorem dX9_skip_1 : decode cX9_skip 1 = .ok (.getfield 72, 3) := by decide +kernel
theorem dX9_skip_4 : decode cX9_skip 4 = .ok (.iload_n 1, 1) := by decide +kernel
theorem dX9_skip_5 : decode cX9_skip 5 = .ok (.iaload, 1) := by decide +kernel
theorem dX9_skip_6 : decode cX9_skip 6 = .ok (.iload_n 2, 1) := by decide +kernel
theorem dX9_skip_7 : decode cX9_skip 7 = .ok (.if_icmp .ge 53, 3) := by decide +kernel
theorem dX9_skip_10 : decode cX9_skip 10 = .ok (.aload_n 0, 1) := by decide +kernel
theorem dX9_skip_11 : decode cX9_skip 11 = .ok (.iload_n 1, 1) := by decide +kernel
theorem dX9_skip_12 : decode cX9_skip 12 = .ok (.aload_n 0, 1) := by decide +kernel
theorem dX9_skip_13 : decode cX9_skip 13 = .ok (.getfield 72, 3) := by decide +kernel
theorem dX9_skip_16 : decode cX9_skip 16 = .ok (.iload_n 1, 1) := by decide +kernel
theorem dX9_skip_17 : decode cX9_skip 17 = .ok (.iaload, 1) := by decide +kernel
theorem dX9_skip_18 : decode cX9_skip 18 = .ok (.aload_n 0, 1) := by decide +kernel
theorem dX9_skip_19 : decode cX9_skip 19 = .ok (.aload_n 0, 1) := by decide +kernel
theorem dX9_skip_20 : decode cX9_skip 20 = .ok (.getfield 60, 3) := by decide +kernel
theorem dX9_skip_23 : decode cX9_skip 23 = .ok (.iload_n 1, 1) := by decide +kernel
theorem dX9_skip_24 : decode cX9_skip 24 = .ok (.iaload, 1) := by decide +kernel
theorem dX9_skip_25 : decode cX9_skip 25 = .ok (.invokevirtual 188, 3) := by decide +kernel
theorem dX9_skip_28 : decode cX9_skip 28 = .ok (.invokevirtual 198, 3) := by decide +kernel
theorem dX9_skip_31 : decode cX9_skip 31 = .ok (.aload_n 0, 1) := by decide +kernel
theorem dX9_skip_32 : decode cX9_skip 32 = .ok (.getfield 60, 3) := by decide +kernel
theorem dX9_skip_35 : decode cX9_skip 35 = .ok (.iload_n 1, 1) := by decide +kernel
theorem dX9_skip_36 : decode cX9_skip 36 = .ok (.aload_n 0, 1) := by decide +kernel
theorem dX9_skip_37 : decode cX9_skip 37 = .ok (.aload_n 0, 1) := by decide +kernel
theorem dX9_skip_38 : decode cX9_skip 38 = .ok (.getfield 60, 3) := by decide +kernel
theorem dX9_skip_41 : decode cX9_skip 41 = .ok (.iload_n 1, 1) := by decide +kernel
theorem dX9_skip_42 : decode cX9_skip 42 = .ok (.iaload, 1) := by decide +kernel
theorem dX9_skip_43 : decode cX9_skip 43 = .ok (.invokevirtual 185, 3) := by decide +kernel
theorem dX9_skip_46 : decode cX9_skip 46 = .ok (.iastore, 1) := by decide +kernel
theorem dX9_skip_47 : decode cX9_skip 47 = .ok (.aload_n 0, 1) := by decide +kernel
theorem dX9_skip_48 : decode cX9_skip 48 = .ok (.getfield 72, 3) := by decide +kernel
theorem dX9_skip_51 : decode cX9_skip 51 = .ok (.iload_n 1, 1) := by decide +kernel
theorem dX9_skip_52 : decode cX9_skip 52 = .ok (.dup2, 1) := by decide +kernel
theorem dX9_skip_53 : decode cX9_skip 53 = .ok (.iaload, 1) := by decide +kernel
theorem dX9_skip_54 : decode cX9_skip 54 = .ok (.iconst 1, 1) := by decide +kernel
theorem dX9_skip_55 : decode cX9_skip 55 = .ok (.iadd, 1) := by decide +kernel
theorem dX9_skip_56 : decode cX9_skip 56 = .ok (.iastore, 1) := by decide +kernel
theorem dX9_skip_57 : decode cX9_skip 57 = .ok (.goto (-57), 3) := by decide +kernel
theorem dX9_skip_60 : decode cX9_skip 60 = .ok (.return_, 1) := by decide +kernel
theorem dX9_byteOf_0 : decode cX9_byteOf 0 = .ok (.aload_n 0, 1) := by decide +kernel
theorem dX9_byteOf_1 : decode cX9_byteOf 1 = .ok (.getfield 108, 3) := by decide +kernel
theorem dX9_byteOf_4 : decode cX9_byteOf 4 = .ok (.iload_n 1, 1) := by decide +kernel
theorem dX9_byteOf_5 : decode cX9_byteOf 5 = .ok (.iaload, 1) := by decide +kernel
theorem dX9_byteOf_6 : decode cX9_byteOf 6 = .ok (.iload_n 2, 1) := by decide +kernel
theorem dX9_byteOf_7 : decode cX9_byteOf 7 = .ok (.isub, 1) := by decide +kernel
theorem dX9_byteOf_8 : decode cX9_byteOf 8 = .ok (.sipush 256, 3) := by decide +kernel
theorem dX9_byteOf_11 : decode cX9_byteOf 11 = .ok (.irem, 1) := by decide +kernel
theorem dX9_byteOf_12 : decode cX9_byteOf 12 = .ok (.sipush 256, 3) := by decide +kernel
theorem dX9_byteOf_15 : decode cX9_byteOf 15 = .ok (.iadd, 1) := by decide +kernel
theorem dX9_byteOf_16 : decode cX9_byteOf 16 = .ok (.sipush 256, 3) := by decide +kernel
theorem dX9_byteOf_19 : decode cX9_byteOf 19 = .ok (.irem, 1) := by decide +kernel
theorem dX9_byteOf_20 : decode cX9_byteOf 20 = .ok (.ireturn, 1) := by decide +kernel
theorem dX9_isGood_0 : decode cX9_isGood 0 = .ok (.aload_n 0, 1) := by decide +kernel
theorem dX9_isGood_1 : decode cX9_isGood 1 = .ok (.iload_n 2, 1) := by decide +kernel
theorem dX9_isGood_2 : decode cX9_isGood 2 = .ok (.aload_n 0, 1) := by decide +kernel
theorem dX9_isGood_3 : decode cX9_isGood 3 = .ok (.iload_n 1, 1) := by decide +kernel
theorem dX9_isGood_4 : decode cX9_isGood 4 = .ok (.iload_n 2, 1) := by decide +kernel
theorem dX9_isGood_5 : decode cX9_isGood 5 = .ok (.invokevirtual 202, 3) := by decide +kernel
theorem dX9_isGood_8 : decode cX9_isGood 8 = .ok (.invokevirtual 160, 3) := by decide +kernel
theorem dX9_isGood_11 : decode cX9_isGood 11 = .ok (.aload_n 0, 1) := by decide +kernel
theorem dX9_isGood_12 : decode cX9_isGood 12 = .ok (.getfield 111, 3) := by decide +kernel
theorem dX9_isGood_15 : decode cX9_isGood 15 = .ok (.iload_n 1, 1) := by decide +kernel
theorem dX9_isGood_16 : decode cX9_isGood 16 = .ok (.iaload, 1) := by decide +kernel
theorem dX9_isGood_17 : decode cX9_isGood 17 = .ok (.if_icmp .ne 7, 3) := by decide +kernel
theorem dX9_isGood_20 : decode cX9_isGood 20 = .ok (.iconst 1, 1) := by decide +kernel
theorem dX9_isGood_21 : decode cX9_isGood 21 = .ok (.goto 4, 3) := by decide +kernel
theorem dX9_isGood_24 : decode cX9_isGood 24 = .ok (.iconst 0, 1) := by decide +kernel
theorem dX9_isGood_25 : decode cX9_isGood 25 = .ok (.ireturn, 1) := by decide +kernel
theorem dX9_keyBehind_0 : decode cX9_keyBehind 0 = .ok (.iload_n 1, 1) := by decide +kernel
theorem dX9_keyBehind_1 : decode cX9_keyBehind 1 = .ok (.istore_n 3, 1) := by decide +kernel
theorem dX9_keyBehind_2 : decode cX9_keyBehind 2 = .ok (.iconst 0, 1) := by decide +kernel
theorem dX9_keyBehind_3 : decode cX9_keyBehind 3 = .ok (.istore 4, 2) := by decide +kernel
theorem dX9_keyBehind_5 : decode cX9_keyBehind 5 = .ok (.iload 4, 2) := by decide +kernel
theorem dX9_keyBehind_7 : decode cX9_keyBehind 7 = .ok (.iload_n 2, 1) := by decide +kernel
theorem dX9_keyBehind_8 : decode cX9_keyBehind 8 = .ok (.if_icmp .ge 16, 3) := by decide +kernel
theorem dX9_keyBehind_11 : decode cX9_keyBehind 11 = .ok (.aload_n 0, 1) := by decide +kernel
theorem dX9_keyBehind_12 : decode cX9_keyBehind 12 = .ok (.iload_n 3, 1) := by decide +kernel
theorem dX9_keyBehind_13 : decode cX9_keyBehind 13 = .ok (.iconst 2, 1) := by decide +kernel
theorem dX9_keyBehind_14 : decode cX9_keyBehind 14 = .ok (.invokevirtual 160, 3) := by decide +kernel
theorem dX9_keyBehind_17 : decode cX9_keyBehind 17 = .ok (.istore_n 3, 1) := by decide +kernel
theorem dX9_keyBehind_18 : decode cX9_keyBehind 18 = .ok (.iinc 4 1, 3) := by decide +kernel
theorem dX9_keyBehind_21 : decode cX9_keyBehind 21 = .ok (.goto (-16), 3) := by decide +kernel
theorem dX9_keyBehind_24 : decode cX9_keyBehind 24 = .ok (.aload_n 0, 1) := by decide +kernel
theorem dX9_keyBehind_25 : decode cX9_keyBehind 25 = .ok (.iload_n 3, 1) := by decide +kernel
theorem dX9_keyBehind_26 : decode cX9_keyBehind 26 = .ok (.iconst 1, 1) := by decide +kernel
theorem dX9_keyBehind_27 : decode cX9_keyBehind 27 = .ok (.invokevirtual 160, 3) := by decide +kernel
theorem dX9_keyBehind_30 : decode cX9_keyBehind 30 = .ok (.ireturn, 1) := by decide +kernel
theorem dX9_hasLeft_0 : decode cX9_hasLeft 0 = .ok (.iconst 0, 1) := by decide +kernel
theorem dX9_hasLeft_1 : decode cX9_hasLeft 1 = .ok (.istore_n 3, 1) := by decide +kernel
theorem dX9_hasLeft_2 : decode cX9_hasLeft 2 = .ok (.iconst 0, 1) := by decide +kernel
theorem dX9_hasLeft_3 : decode cX9_hasLeft 3 = .ok (.istore 4, 2) := by decide +kernel
theorem dX9_hasLeft_5 : decode cX9_hasLeft 5 = .ok (.iload 4, 2) := by decide +kernel
theorem dX9_hasLeft_7 : decode cX9_hasLeft 7 = .ok (.aload_n 0, 1) := by decide +kernel
theorem dX9_hasLeft_8 : decode cX9_hasLeft 8 = .ok (.getfield 75, 3) := by decide +kernel
theorem dX9_hasLeft_11 : decode cX9_hasLeft 11 = .ok (.iload_n 1, 1) := by decide +kernel
theorem dX9_hasLeft_12 : decode cX9_hasLeft 12 = .ok (.iaload, 1) := by decide +kernel
theorem dX9_hasLeft_13 : decode cX9_hasLeft 13 = .ok (.if_icmp .ge 36, 3) := by decide +kernel
theorem dX9_hasLeft_16 : decode cX9_hasLeft 16 = .ok (.iload_n 3, 1) := by decide +kernel
theorem dX9_hasLeft_17 : decode cX9_hasLeft 17 = .ok (.ifCond .ne 20, 3) := by decide +kernel
theorem dX9_hasLeft_20 : decode cX9_hasLeft 20 = .ok (.aload_n 0, 1) := by decide +kernel
theorem dX9_hasLeft_21 : decode cX9_hasLeft 21 = .ok (.getfield 78, 3) := by decide +kernel
theorem dX9_hasLeft_24 : decode cX9_hasLeft 24 = .ok (.sipush 600, 3) := by decide +kernel
theorem dX9_hasLeft_27 : decode cX9_hasLeft 27 = .ok (.iload_n 1, 1) := by decide +kernel
theorem dX9_hasLeft_28 : decode cX9_hasLeft 28 = .ok (.imul, 1) := by decide +kernel
theorem dX9_hasLeft_29 : decode cX9_hasLeft 29 = .ok (.iload 4, 2) := by decide +kernel
theorem dX9_hasLeft_31 : decode cX9_hasLeft 31 = .ok (.iadd, 1) := by decide +kernel
theorem dX9_hasLeft_32 : decode cX9_hasLeft 32 = .ok (.iaload, 1) := by decide +kernel
theorem dX9_hasLeft_33 : decode cX9_hasLeft 33 = .ok (.iload_n 2, 1) := by decide +kernel
theorem dX9_hasLeft_34 : decode cX9_hasLeft 34 = .ok (.if_icmp .ne 7, 3) := by decide +kernel
theorem dX9_hasLeft_37 : decode cX9_hasLeft 37 = .ok (.iconst 1, 1) := by decide +kernel
theorem dX9_hasLeft_38 : decode cX9_hasLeft 38 = .ok (.goto 4, 3) := by decide +kernel
theorem dX9_hasLeft_41 : decode cX9_hasLeft 41 = .ok (.iconst 0, 1) := by decide +kernel
theorem dX9_hasLeft_42 : decode cX9_hasLeft 42 = .ok (.istore_n 3, 1) := by decide +kernel
theorem dX9_hasLeft_43 : decode cX9_hasLeft 43 = .ok (.iinc 4 1, 3) := by decide +kernel
theorem dX9_hasLeft_46 : decode cX9_hasLeft 46 = .ok (.goto (-41), 3) := by decide +kernel
theorem dX9_hasLeft_49 : decode cX9_hasLeft 49 = .ok (.iload_n 3, 1) := by decide +kernel
theorem dX9_hasLeft_50 : decode cX9_hasLeft 50 = .ok (.ireturn, 1) := by decide +kernel
theorem dX9_take_0 : decode cX9_take 0 = .ok (.aload_n 0, 1) := by decide +kernel
theorem dX9_take_1 : decode cX9_take 1 = .ok (.iload_n 1, 1) := by decide +kernel
theorem dX9_take_2 : decode cX9_take 2 = .ok (.invokevirtual 172, 3) := by decide +kernel
theorem dX9_take_5 : decode cX9_take 5 = .ok (.ifCond .eq 11, 3) := by decide +kernel
theorem dX9_take_8 : decode cX9_take 8 = .ok (.aload_n 0, 1) := by decide +kernel
theorem dX9_take_9 : decode cX9_take 9 = .ok (.iload_n 2, 1) := by decide +kernel
theorem dX9_take_10 : decode cX9_take 10 = .ok (.invokevirtual 191, 3) := by decide +kernel
theorem dX9_take_13 : decode cX9_take 13 = .ok (.ifCond .ne 9, 3) := by decide +kernel
theorem dX9_take_16 : decode cX9_take 16 = .ok (.aload_n 0, 1) := by decide +kernel
theorem dX9_take_17 : decode cX9_take 17 = .ok (.iconst 1, 1) := by decide +kernel
theorem dX9_take_18 : decode cX9_take 18 = .ok (.invokevirtual 163, 3) := by decide +kernel
theorem dX9_take_21 : decode cX9_take 21 = .ok (.ireturn, 1) := by decide +kernel
theorem dX9_take_22 : decode cX9_take 22 = .ok (.aload_n 0, 1) := by decide +kernel
theorem dX9_take_23 : decode cX9_take 23 = .ok (.getfield 96, 3) := by decide +kernel
theorem dX9_take_26 : decode cX9_take 26 = .ok (.iload_n 2, 1) := by decide +kernel
theorem dX9_take_27 : decode cX9_take 27 = .ok (.iaload, 1) := by decide +kernel
theorem dX9_take_28 : decode cX9_take 28 = .ok (.iload_n 1, 1) := by decide +kernel
theorem dX9_take_29 : decode cX9_take 29 = .ok (.iconst 1, 1) := by decide +kernel
theorem dX9_take_30 : decode cX9_take 30 = .ok (.ixor, 1) := by decide +kernel
theorem dX9_take_31 : decode cX9_take 31 = .ok (.if_icmp .eq 9, 3) := by decide +kernel
theorem dX9_take_34 : decode cX9_take 34 = .ok (.aload_n 0, 1) := by decide +kernel
theorem dX9_take_35 : decode cX9_take 35 = .ok (.iconst 3, 1) := by decide +kernel
theorem dX9_take_36 : decode cX9_take 36 = .ok (.invokevirtual 163, 3) := by decide +kernel
theorem dX9_take_39 : decode cX9_take 39 = .ok (.ireturn, 1) := by decide +kernel
theorem dX9_take_40 : decode cX9_take 40 = .ok (.aload_n 0, 1) := by decide +kernel
theorem dX9_take_41 : decode cX9_take 41 = .ok (.iload_n 1, 1) := by decide +kernel
theorem dX9_take_42 : decode cX9_take 42 = .ok (.iload_n 2, 1) := by decide +kernel
theorem dX9_take_43 : decode cX9_take 43 = .ok (.invokevirtual 205, 3) := by decide +kernel
theorem dX9_take_46 : decode cX9_take 46 = .ok (.istore_n 3, 1) := by decide +kernel
theorem dX9_take_47 : decode cX9_take 47 = .ok (.iload_n 3, 1) := by decide +kernel
theorem dX9_take_48 : decode cX9_take 48 = .ok (.iconst (-1), 1) := by decide +kernel
theorem dX9_take_49 : decode cX9_take 49 = .ok (.if_icmp .eq 56, 3) := by decide +kernel
theorem dX9_take_52 : decode cX9_take 52 = .ok (.aload_n 0, 1) := by decide +kernel
theorem dX9_take_53 : decode cX9_take 53 = .ok (.getfield 32, 3) := by decide +kernel
theorem dX9_take_56 : decode cX9_take 56 = .ok (.aload_n 0, 1) := by decide +kernel
theorem dX9_take_57 : decode cX9_take 57 = .ok (.getfield 90, 3) := by decide +kernel
theorem dX9_take_60 : decode cX9_take 60 = .ok (.bipush 12, 2) := by decide +kernel
theorem dX9_take_62 : decode cX9_take 62 = .ok (.iload_n 1, 1) := by decide +kernel
theorem dX9_take_63 : decode cX9_take 63 = .ok (.imul, 1) := by decide +kernel
theorem dX9_take_64 : decode cX9_take 64 = .ok (.iload_n 3, 1) := by decide +kernel
theorem dX9_take_65 : decode cX9_take 65 = .ok (.iadd, 1) := by decide +kernel
theorem dX9_take_66 : decode cX9_take 66 = .ok (.iaload, 1) := by decide +kernel
theorem dX9_take_67 : decode cX9_take 67 = .ok (.iaload, 1) := by decide +kernel
theorem dX9_take_68 : decode cX9_take 68 = .ok (.istore 4, 2) := by decide +kernel
theorem dX9_take_70 : decode cX9_take 70 = .ok (.aload_n 0, 1) := by decide +kernel
theorem dX9_take_71 : decode cX9_take 71 = .ok (.iload_n 2, 1) := by decide +kernel
theorem dX9_take_72 : decode cX9_take 72 = .ok (.iload 4, 2) := by decide +kernel
theorem dX9_take_74 : decode cX9_take 74 = .ok (.invokevirtual 208, 3) := by decide +kernel
theorem dX9_take_77 : decode cX9_take 77 = .ok (.ifCond .ne 10, 3) := by decide +kernel
theorem dX9_take_80 : decode cX9_take 80 = .ok (.aload_n 0, 1) := by decide +kernel
theorem dX9_take_81 : decode cX9_take 81 = .ok (.bipush 7, 2) := by decide +kernel
theorem dX9_take_83 : decode cX9_take 83 = .ok (.invokevirtual 163, 3) := by decide +kernel
theorem dX9_take_86 : decode cX9_take 86 = .ok (.ireturn, 1) := by decide +kernel
theorem dX9_take_87 : decode cX9_take 87 = .ok (.aload_n 0, 1) := by decide +kernel
theorem dX9_take_88 : decode cX9_take 88 = .ok (.iload_n 1, 1) := by decide +kernel
theorem dX9_take_89 : decode cX9_take 89 = .ok (.iload_n 3, 1) := by decide +kernel
theorem dX9_take_90 : decode cX9_take 90 = .ok (.invokevirtual 194, 3) := by decide +kernel
theorem dX9_take_93 : decode cX9_take 93 = .ok (.aload_n 0, 1) := by decide +kernel
theorem dX9_take_94 : decode cX9_take 94 = .ok (.aload_n 0, 1) := by decide +kernel
theorem dX9_take_95 : decode cX9_take 95 = .ok (.iload_n 2, 1) := by decide +kernel
theorem dX9_take_96 : decode cX9_take 96 = .ok (.iload 4, 2) := by decide +kernel
theorem dX9_take_98 : decode cX9_take 98 = .ok (.invokevirtual 202, 3) := by decide +kernel
theorem dX9_take_101 : decode cX9_take 101 = .ok (.invokevirtual 166, 3) := by decide +kernel
theorem dX9_take_104 : decode cX9_take 104 = .ok (.ireturn, 1) := by decide +kernel
theorem dX9_take_105 : decode cX9_take 105 = .ok (.aload_n 0, 1) := by decide +kernel
theorem dX9_take_106 : decode cX9_take 106 = .ok (.getfield 99, 3) := by decide +kernel
theorem dX9_take_109 : decode cX9_take 109 = .ok (.iload_n 2, 1) := by decide +kernel
theorem dX9_take_110 : decode cX9_take 110 = .ok (.iaload, 1) := by decide +kernel
theorem dX9_take_111 : decode cX9_take 111 = .ok (.aload_n 0, 1) := by decide +kernel
theorem dX9_take_112 : decode cX9_take 112 = .ok (.getfield 63, 3) := by decide +kernel
theorem dX9_take_115 : decode cX9_take 115 = .ok (.iload_n 1, 1) := by decide +kernel
theorem dX9_take_116 : decode cX9_take 116 = .ok (.iaload, 1) := by decide +kernel
theorem dX9_take_117 : decode cX9_take 117 = .ok (.if_icmp .ne 7, 3) := by decide +kernel
theorem dX9_take_120 : decode cX9_take 120 = .ok (.iconst 1, 1) := by decide +kernel
theorem dX9_take_121 : decode cX9_take 121 = .ok (.goto 4, 3) := by decide +kernel
theorem dX9_take_124 : decode cX9_take 124 = .ok (.iconst 0, 1) := by decide +kernel
theorem dX9_take_125 : decode cX9_take 125 = .ok (.istore 4, 2) := by decide +kernel
theorem dX9_take_127 : decode cX9_take 127 = .ok (.iload 4, 2) := by decide +kernel
theorem dX9_take_129 : decode cX9_take 129 = .ok (.ifCond .eq 22, 3) := by decide +kernel
theorem dX9_take_132 : decode cX9_take 132 = .ok (.aload_n 0, 1) := by decide +kernel
theorem dX9_take_133 : decode cX9_take 133 = .ok (.getfield 60, 3) := by decide +kernel
theorem dX9_take_136 : decode cX9_take 136 = .ok (.iload_n 1, 1) := by decide +kernel
theorem dX9_take_137 : decode cX9_take 137 = .ok (.iaload, 1) := by decide +kernel
theorem dX9_take_138 : decode cX9_take 138 = .ok (.iconst (-1), 1) := by decide +kernel
theorem dX9_take_139 : decode cX9_take 139 = .ok (.if_icmp .eq 12, 3) := by decide +kernel
theorem dX9_take_142 : decode cX9_take 142 = .ok (.aload_n 0, 1) := by decide +kernel
theorem dX9_take_143 : decode cX9_take 143 = .ok (.iload_n 1, 1) := by decide +kernel
theorem dX9_take_144 : decode cX9_take 144 = .ok (.iload_n 2, 1) := by decide +kernel
theorem dX9_take_145 : decode cX9_take 145 = .ok (.invokevirtual 212, 3) := by decide +kernel
theorem dX9_take_148 : decode cX9_take 148 = .ok (.goto 11, 3) := by decide +kernel
theorem dX9_take_151 : decode cX9_take 151 = .ok (.aload_n 0, 1) := by decide +kernel
theorem dX9_take_152 : decode cX9_take 152 = .ok (.iload_n 1, 1) := by decide +kernel
theorem dX9_take_153 : decode cX9_take 153 = .ok (.iload_n 2, 1) := by decide +kernel
theorem dX9_take_154 : decode cX9_take 154 = .ok (.iload 4, 2) := by decide +kernel
theorem dX9_take_156 : decode cX9_take 156 = .ok (.invokevirtual 215, 3) := by decide +kernel
theorem dX9_take_159 : decode cX9_take 159 = .ok (.ireturn, 1) := by decide +kernel
theorem dX9_further_0 : decode cX9_further 0 = .ok (.aload_n 0, 1) := by decide +kernel
theorem dX9_further_1 : decode cX9_further 1 = .ok (.getfield 105, 3) := by decide +kernel
theorem dX9_further_4 : decode cX9_further 4 = .ok (.iload_n 2, 1) := by decide +kernel
theorem dX9_further_5 : decode cX9_further 5 = .ok (.iaload, 1) := by decide +kernel
theorem dX9_further_6 : decode cX9_further 6 = .ok (.aload_n 0, 1) := by decide +kernel
theorem dX9_further_7 : decode cX9_further 7 = .ok (.getfield 72, 3) := by decide +kernel
theorem dX9_further_10 : decode cX9_further 10 = .ok (.iload_n 1, 1) := by decide +kernel
theorem dX9_further_11 : decode cX9_further 11 = .ok (.iaload, 1) := by decide +kernel
theorem dX9_further_12 : decode cX9_further 12 = .ok (.isub, 1) := by decide +kernel
theorem dX9_further_13 : decode cX9_further 13 = .ok (.istore_n 3, 1) := by decide +kernel
theorem dX9_further_14 : decode cX9_further 14 = .ok (.iload_n 3, 1) := by decide +kernel
theorem dX9_further_15 : decode cX9_further 15 = .ok (.ifCond .ge 9, 3) := by decide +kernel
theorem dX9_further_18 : decode cX9_further 18 = .ok (.aload_n 0, 1) := by decide +kernel
theorem dX9_further_19 : decode cX9_further 19 = .ok (.iconst 4, 1) := by decide +kernel
theorem dX9_further_20 : decode cX9_further 20 = .ok (.invokevirtual 163, 3) := by decide +kernel
theorem dX9_further_23 : decode cX9_further 23 = .ok (.ireturn, 1) := by decide +kernel
theorem dX9_further_24 : decode cX9_further 24 = .ok (.iload_n 3, 1) := by decide +kernel
theorem dX9_further_25 : decode cX9_further 25 = .ok (.aload_n 0, 1) := by decide +kernel
theorem dX9_further_26 : decode cX9_further 26 = .ok (.getfield 16, 3) := by decide +kernel
theorem dX9_further_29 : decode cX9_further 29 = .ok (.if_icmp .le 9, 3) := by decide +kernel
theorem dX9_further_32 : decode cX9_further 32 = .ok (.aload_n 0, 1) := by decide +kernel
theorem dX9_further_33 : decode cX9_further 33 = .ok (.iconst 5, 1) := by decide +kernel
theorem dX9_further_34 : decode cX9_further 34 = .ok (.invokevirtual 163, 3) := by decide +kernel
theorem dX9_further_37 : decode cX9_further 37 = .ok (.ireturn, 1) := by decide +kernel
theorem dX9_further_38 : decode cX9_further 38 = .ok (.aload_n 0, 1) := by decide +kernel
theorem dX9_further_39 : decode cX9_further 39 = .ok (.aload_n 0, 1) := by decide +kernel
theorem dX9_further_40 : decode cX9_further 40 = .ok (.getfield 32, 3) := by decide +kernel
theorem dX9_further_43 : decode cX9_further 43 = .ok (.aload_n 0, 1) := by decide +kernel
theorem dX9_further_44 : decode cX9_further 44 = .ok (.getfield 60, 3) := by decide +kernel
theorem dX9_further_47 : decode cX9_further 47 = .ok (.iload_n 1, 1) := by decide +kernel
theorem dX9_further_48 : decode cX9_further 48 = .ok (.iaload, 1) := by decide +kernel
theorem dX9_further_49 : decode cX9_further 49 = .ok (.iaload, 1) := by decide +kernel
theorem dX9_further_50 : decode cX9_further 50 = .ok (.iload_n 3, 1) := by decide +kernel
theorem dX9_further_51 : decode cX9_further 51 = .ok (.invokevirtual 219, 3) := by decide +kernel
theorem dX9_further_54 : decode cX9_further 54 = .ok (.istore 4, 2) := by decide +kernel
theorem dX9_further_56 : decode cX9_further 56 = .ok (.aload_n 0, 1) := by decide +kernel
theorem dX9_further_57 : decode cX9_further 57 = .ok (.iload_n 2, 1) := by decide +kernel
theorem dX9_further_58 : decode cX9_further 58 = .ok (.iload 4, 2) := by decide +kernel
theorem dX9_further_60 : decode cX9_further 60 = .ok (.invokevirtual 208, 3) := by decide +kernel
theorem dX9_further_63 : decode cX9_further 63 = .ok (.ifCond .ne 10, 3) := by decide +kernel
theorem dX9_further_66 : decode cX9_further 66 = .ok (.aload_n 0, 1) := by decide +kernel
theorem dX9_further_67 : decode cX9_further 67 = .ok (.bipush 7, 2) := by decide +kernel
theorem dX9_further_69 : decode cX9_further 69 = .ok (.invokevirtual 163, 3) := by decide +kernel
theorem dX9_further_72 : decode cX9_further 72 = .ok (.ireturn, 1) := by decide +kernel
theorem dX9_further_73 : decode cX9_further 73 = .ok (.aload_n 0, 1) := by decide +kernel
theorem dX9_further_74 : decode cX9_further 74 = .ok (.iload_n 1, 1) := by decide +kernel
theorem dX9_further_75 : decode cX9_further 75 = .ok (.aload_n 0, 1) := by decide +kernel
theorem dX9_further_76 : decode cX9_further 76 = .ok (.getfield 105, 3) := by decide +kernel
theorem dX9_further_79 : decode cX9_further 79 = .ok (.iload_n 2, 1) := by decide +kernel
theorem dX9_further_80 : decode cX9_further 80 = .ok (.iaload, 1) := by decide +kernel
theorem dX9_further_81 : decode cX9_further 81 = .ok (.invokevirtual 222, 3) := by decide +kernel
theorem dX9_further_84 : decode cX9_further 84 = .ok (.aload_n 0, 1) := by decide +kernel
theorem dX9_further_85 : decode cX9_further 85 = .ok (.iload_n 1, 1) := by decide +kernel
theorem dX9_further_86 : decode cX9_further 86 = .ok (.invokevirtual 225, 3) := by decide +kernel
theorem dX9_further_89 : decode cX9_further 89 = .ok (.aload_n 0, 1) := by decide +kernel
theorem dX9_further_90 : decode cX9_further 90 = .ok (.aload_n 0, 1) := by decide +kernel
theorem dX9_further_91 : decode cX9_further 91 = .ok (.iload_n 2, 1) := by decide +kernel
theorem dX9_further_92 : decode cX9_further 92 = .ok (.iload 4, 2) := by decide +kernel
theorem dX9_further_94 : decode cX9_further 94 = .ok (.invokevirtual 202, 3) := by decide +kernel
theorem dX9_further_97 : decode cX9_further 97 = .ok (.invokevirtual 166, 3) := by decide +kernel
theorem dX9_further_100 : decode cX9_further 100 = .ok (.ireturn, 1) := by decide +kernel
theorem dX9_opened_0 : decode cX9_opened 0 = .ok (.aload_n 0, 1) := by decide +kernel
theorem dX9_opened_1 : decode cX9_opened 1 = .ok (.aload_n 0, 1) := by decide +kernel
theorem dX9_opened_2 : decode cX9_opened 2 = .ok (.getfield 60, 3) := by decide +kernel
theorem dX9_opened_5 : decode cX9_opened 5 = .ok (.iload_n 1, 1) := by decide +kernel
theorem dX9_opened_6 : decode cX9_opened 6 = .ok (.iaload, 1) := by decide +kernel
theorem dX9_opened_7 : decode cX9_opened 7 = .ok (.invokevirtual 188, 3) := by decide +kernel
theorem dX9_opened_10 : decode cX9_opened 10 = .ok (.pop, 1) := by decide +kernel
theorem dX9_opened_11 : decode cX9_opened 11 = .ok (.aload_n 0, 1) := by decide +kernel
theorem dX9_opened_12 : decode cX9_opened 12 = .ok (.getfield 60, 3) := by decide +kernel
theorem dX9_opened_15 : decode cX9_opened 15 = .ok (.iload_n 1, 1) := by decide +kernel
theorem dX9_opened_16 : decode cX9_opened 16 = .ok (.aload_n 0, 1) := by decide +kernel
theorem dX9_opened_17 : decode cX9_opened 17 = .ok (.aload_n 0, 1) := by decide +kernel
theorem dX9_opened_18 : decode cX9_opened 18 = .ok (.getfield 60, 3) := by decide +kernel
theorem dX9_opened_21 : decode cX9_opened 21 = .ok (.iload_n 1, 1) := by decide +kernel
theorem dX9_opened_22 : decode cX9_opened 22 = .ok (.iaload, 1) := by decide +kernel
theorem dX9_opened_23 : decode cX9_opened 23 = .ok (.invokevirtual 185, 3) := by decide +kernel
theorem dX9_opened_26 : decode cX9_opened 26 = .ok (.iastore, 1) := by decide +kernel
theorem dX9_opened_27 : decode cX9_opened 27 = .ok (.aload_n 0, 1) := by decide +kernel
theorem dX9_opened_28 : decode cX9_opened 28 = .ok (.getfield 72, 3) := by decide +kernel
theorem dX9_opened_31 : decode cX9_opened 31 = .ok (.iload_n 1, 1) := by decide +kernel
theorem dX9_opened_32 : decode cX9_opened 32 = .ok (.dup2, 1) := by decide +kernel
theorem dX9_opened_33 : decode cX9_opened 33 = .ok (.iaload, 1) := by decide +kernel
theorem dX9_opened_34 : decode cX9_opened 34 = .ok (.iconst 1, 1) := by decide +kernel
theorem dX9_opened_35 : decode cX9_opened 35 = .ok (.iadd, 1) := by decide +kernel
theorem dX9_opened_36 : decode cX9_opened 36 = .ok (.iastore, 1) := by decide +kernel
theorem dX9_opened_37 : decode cX9_opened 37 = .ok (.return_, 1) := by decide +kernel
theorem dX9_anew_0 : decode cX9_anew 0 = .ok (.iload_n 3, 1) := by decide +kernel
theorem dX9_anew_1 : decode cX9_anew 1 = .ok (.ifCond .ne 17, 3) := by decide +kernel
theorem dX9_anew_4 : decode cX9_anew 4 = .ok (.aload_n 0, 1) := by decide +kernel
theorem dX9_anew_5 : decode cX9_anew 5 = .ok (.iload_n 1, 1) := by decide +kernel
theorem dX9_anew_6 : decode cX9_anew 6 = .ok (.aload_n 0, 1) := by decide +kernel
theorem dX9_anew_7 : decode cX9_anew 7 = .ok (.getfield 99, 3) := by decide +kernel
theorem dX9_anew_10 : decode cX9_anew 10 = .ok (.iload_n 2, 1) := by decide +kernel
theorem dX9_anew_11 : decode cX9_anew 11 = .ok (.iaload, 1) := by decide +kernel
theorem dX9_anew_12 : decode cX9_anew 12 = .ok (.invokevirtual 229, 3) := by decide +kernel
theorem dX9_anew_15 : decode cX9_anew 15 = .ok (.ifCond .eq 9, 3) := by decide +kernel
theorem dX9_anew_18 : decode cX9_anew 18 = .ok (.aload_n 0, 1) := by decide +kernel
theorem dX9_anew_19 : decode cX9_anew 19 = .ok (.iconst 4, 1) := by decide +kernel
theorem dX9_anew_20 : decode cX9_anew 20 = .ok (.invokevirtual 163, 3) := by decide +kernel
theorem dX9_anew_23 : decode cX9_anew 23 = .ok (.ireturn, 1) := by decide +kernel
theorem dX9_anew_24 : decode cX9_anew 24 = .ok (.aload_n 0, 1) := by decide +kernel
theorem dX9_anew_25 : decode cX9_anew 25 = .ok (.getfield 60, 3) := by decide +kernel
theorem dX9_anew_28 : decode cX9_anew 28 = .ok (.iload_n 1, 1) := by decide +kernel
theorem dX9_anew_29 : decode cX9_anew 29 = .ok (.iaload, 1) := by decide +kernel
theorem dX9_anew_30 : decode cX9_anew 30 = .ok (.iconst (-1), 1) := by decide +kernel
theorem dX9_anew_31 : decode cX9_anew 31 = .ok (.if_icmp .eq 34, 3) := by decide +kernel
theorem dX9_anew_34 : decode cX9_anew 34 = .ok (.aload_n 0, 1) := by decide +kernel
theorem dX9_anew_35 : decode cX9_anew 35 = .ok (.getfield 102, 3) := by decide +kernel
theorem dX9_anew_38 : decode cX9_anew 38 = .ok (.iload_n 2, 1) := by decide +kernel
theorem dX9_anew_39 : decode cX9_anew 39 = .ok (.iaload, 1) := by decide +kernel
theorem dX9_anew_40 : decode cX9_anew 40 = .ok (.aload_n 0, 1) := by decide +kernel
theorem dX9_anew_41 : decode cX9_anew 41 = .ok (.getfield 72, 3) := by decide +kernel
theorem dX9_anew_44 : decode cX9_anew 44 = .ok (.iload_n 1, 1) := by decide +kernel
theorem dX9_anew_45 : decode cX9_anew 45 = .ok (.iaload, 1) := by decide +kernel
theorem dX9_anew_46 : decode cX9_anew 46 = .ok (.if_icmp .le 19, 3) := by decide +kernel
theorem dX9_anew_49 : decode cX9_anew 49 = .ok (.aload_n 0, 1) := by decide +kernel
theorem dX9_anew_50 : decode cX9_anew 50 = .ok (.getfield 102, 3) := by decide +kernel
theorem dX9_anew_53 : decode cX9_anew 53 = .ok (.iload_n 2, 1) := by decide +kernel
theorem dX9_anew_54 : decode cX9_anew 54 = .ok (.iaload, 1) := by decide +kernel
theorem dX9_anew_55 : decode cX9_anew 55 = .ok (.aload_n 0, 1) := by decide +kernel
theorem dX9_anew_56 : decode cX9_anew 56 = .ok (.getfield 72, 3) := by decide +kernel
theorem dX9_anew_59 : decode cX9_anew 59 = .ok (.iload_n 1, 1) := by decide +kernel
theorem dX9_anew_60 : decode cX9_anew 60 = .ok (.iaload, 1) := by decide +kernel
theorem dX9_anew_61 : decode cX9_anew 61 = .ok (.isub, 1) := by decide +kernel
theorem dX9_anew_62 : decode cX9_anew 62 = .ok (.goto 4, 3) := by decide +kernel
theorem dX9_anew_65 : decode cX9_anew 65 = .ok (.iconst 0, 1) := by decide +kernel
theorem dX9_anew_66 : decode cX9_anew 66 = .ok (.istore 4, 2) := by decide +kernel
theorem dX9_anew_68 : decode cX9_anew 68 = .ok (.iload 4, 2) := by decide +kernel
theorem dX9_anew_70 : decode cX9_anew 70 = .ok (.aload_n 0, 1) := by decide +kernel
theorem dX9_anew_71 : decode cX9_anew 71 = .ok (.getfield 105, 3) := by decide +kernel
theorem dX9_anew_74 : decode cX9_anew 74 = .ok (.iload_n 2, 1) := by decide +kernel
theorem dX9_anew_75 : decode cX9_anew 75 = .ok (.iaload, 1) := by decide +kernel
theorem dX9_anew_76 : decode cX9_anew 76 = .ok (.iadd, 1) := by decide +kernel
theorem dX9_anew_77 : decode cX9_anew 77 = .ok (.aload_n 0, 1) := by decide +kernel
theorem dX9_anew_78 : decode cX9_anew 78 = .ok (.getfield 16, 3) := by decide +kernel
theorem dX9_anew_81 : decode cX9_anew 81 = .ok (.if_icmp .le 9, 3) := by decide +kernel
theorem dX9_anew_84 : decode cX9_anew 84 = .ok (.aload_n 0, 1) := by decide +kernel
theorem dX9_anew_85 : decode cX9_anew 85 = .ok (.iconst 5, 1) := by decide +kernel
theorem dX9_anew_86 : decode cX9_anew 86 = .ok (.invokevirtual 163, 3) := by decide +kernel
theorem dX9_anew_89 : decode cX9_anew 89 = .ok (.ireturn, 1) := by decide +kernel
theorem dX9_anew_90 : decode cX9_anew 90 = .ok (.aload_n 0, 1) := by decide +kernel
theorem dX9_anew_91 : decode cX9_anew 91 = .ok (.getfield 42, 3) := by decide +kernel
theorem dX9_anew_94 : decode cX9_anew 94 = .ok (.iload_n 1, 1) := by decide +kernel
theorem dX9_anew_95 : decode cX9_anew 95 = .ok (.iaload, 1) := by decide +kernel
theorem dX9_anew_96 : decode cX9_anew 96 = .ok (.ifCond .ne 10, 3) := by decide +kernel
theorem dX9_anew_99 : decode cX9_anew 99 = .ok (.aload_n 0, 1) := by decide +kernel
theorem dX9_anew_100 : decode cX9_anew 100 = .ok (.bipush 6, 2) := by decide +kernel
theorem dX9_anew_102 : decode cX9_anew 102 = .ok (.invokevirtual 163, 3) := by decide +kernel
theorem dX9_anew_105 : decode cX9_anew 105 = .ok (.ireturn, 1) := by decide +kernel
theorem dX9_anew_106 : decode cX9_anew 106 = .ok (.aload_n 0, 1) := by decide +kernel
theorem dX9_anew_107 : decode cX9_anew 107 = .ok (.aload_n 0, 1) := by decide +kernel
theorem dX9_anew_108 : decode cX9_anew 108 = .ok (.aload_n 0, 1) := by decide +kernel
theorem dX9_anew_109 : decode cX9_anew 109 = .ok (.getfield 117, 3) := by decide +kernel
theorem dX9_anew_112 : decode cX9_anew 112 = .ok (.iload_n 2, 1) := by decide +kernel
theorem dX9_anew_113 : decode cX9_anew 113 = .ok (.iaload, 1) := by decide +kernel
theorem dX9_anew_114 : decode cX9_anew 114 = .ok (.invokevirtual 152, 3) := by decide +kernel
theorem dX9_anew_117 : decode cX9_anew 117 = .ok (.aload_n 0, 1) := by decide +kernel
theorem dX9_anew_118 : decode cX9_anew 118 = .ok (.getfield 32, 3) := by decide +kernel
theorem dX9_anew_121 : decode cX9_anew 121 = .ok (.aload_n 0, 1) := by decide +kernel
theorem dX9_anew_122 : decode cX9_anew 122 = .ok (.getfield 51, 3) := by decide +kernel
theorem dX9_anew_125 : decode cX9_anew 125 = .ok (.iload_n 1, 1) := by decide +kernel
theorem dX9_anew_126 : decode cX9_anew 126 = .ok (.iaload, 1) := by decide +kernel
theorem dX9_anew_127 : decode cX9_anew 127 = .ok (.iaload, 1) := by decide +kernel
theorem dX9_anew_128 : decode cX9_anew 128 = .ok (.invokevirtual 145, 3) := by decide +kernel
theorem dX9_anew_131 : decode cX9_anew 131 = .ok (.istore 5, 2) := by decide +kernel
theorem dX9_anew_133 : decode cX9_anew 133 = .ok (.aload_n 0, 1) := by decide +kernel
theorem dX9_anew_134 : decode cX9_anew 134 = .ok (.aload_n 0, 1) := by decide +kernel
theorem dX9_anew_135 : decode cX9_anew 135 = .ok (.aload_n 0, 1) := by decide +kernel
theorem dX9_anew_136 : decode cX9_anew 136 = .ok (.aload_n 0, 1) := by decide +kernel
theorem dX9_anew_137 : decode cX9_anew 137 = .ok (.getfield 32, 3) := by decide +kernel
theorem dX9_anew_140 : decode cX9_anew 140 = .ok (.aload_n 0, 1) := by decide +kernel
theorem dX9_anew_141 : decode cX9_anew 141 = .ok (.getfield 54, 3) := by decide +kernel
theorem dX9_anew_144 : decode cX9_anew 144 = .ok (.iload_n 1, 1) := by decide +kernel
theorem dX9_anew_145 : decode cX9_anew 145 = .ok (.iaload, 1) := by decide +kernel
theorem dX9_anew_146 : decode cX9_anew 146 = .ok (.iaload, 1) := by decide +kernel
theorem dX9_anew_147 : decode cX9_anew 147 = .ok (.iload 5, 2) := by decide +kernel
theorem dX9_anew_149 : decode cX9_anew 149 = .ok (.invokevirtual 160, 3) := by decide +kernel
theorem dX9_anew_152 : decode cX9_anew 152 = .ok (.iconst 3, 1) := by decide +kernel
theorem dX9_anew_153 : decode cX9_anew 153 = .ok (.invokevirtual 160, 3) := by decide +kernel
theorem dX9_anew_156 : decode cX9_anew 156 = .ok (.aload_n 0, 1) := by decide +kernel
theorem dX9_anew_157 : decode cX9_anew 157 = .ok (.getfield 105, 3) := by decide +kernel
theorem dX9_anew_160 : decode cX9_anew 160 = .ok (.iload_n 2, 1) := by decide +kernel
theorem dX9_anew_161 : decode cX9_anew 161 = .ok (.iaload, 1) := by decide +kernel
theorem dX9_anew_162 : decode cX9_anew 162 = .ok (.invokevirtual 219, 3) := by decide +kernel
theorem dX9_anew_165 : decode cX9_anew 165 = .ok (.istore 6, 2) := by decide +kernel
theorem dX9_anew_167 : decode cX9_anew 167 = .ok (.aload_n 0, 1) := by decide +kernel
theorem dX9_anew_168 : decode cX9_anew 168 = .ok (.iload_n 2, 1) := by decide +kernel
theorem dX9_anew_169 : decode cX9_anew 169 = .ok (.iload 6, 2) := by decide +kernel
theorem dX9_anew_171 : decode cX9_anew 171 = .ok (.invokevirtual 208, 3) := by decide +kernel
theorem dX9_anew_174 : decode cX9_anew 174 = .ok (.ifCond .ne 10, 3) := by decide +kernel
theorem dX9_anew_177 : decode cX9_anew 177 = .ok (.aload_n 0, 1) := by decide +kernel
theorem dX9_anew_178 : decode cX9_anew 178 = .ok (.bipush 7, 2) := by decide +kernel
theorem dX9_anew_180 : decode cX9_anew 180 = .ok (.invokevirtual 163, 3) := by decide +kernel
theorem dX9_anew_183 : decode cX9_anew 183 = .ok (.ireturn, 1) := by decide +kernel
theorem dX9_anew_184 : decode cX9_anew 184 = .ok (.iload 4, 2) := by decide +kernel
theorem dX9_anew_186 : decode cX9_anew 186 = .ok (.ifCond .le 14, 3) := by decide +kernel
theorem dX9_anew_189 : decode cX9_anew 189 = .ok (.aload_n 0, 1) := by decide +kernel
theorem dX9_anew_190 : decode cX9_anew 190 = .ok (.iload_n 1, 1) := by decide +kernel
theorem dX9_anew_191 : decode cX9_anew 191 = .ok (.aload_n 0, 1) := by decide +kernel
theorem dX9_anew_192 : decode cX9_anew 192 = .ok (.getfield 102, 3) := by decide +kernel
theorem dX9_anew_195 : decode cX9_anew 195 = .ok (.iload_n 2, 1) := by decide +kernel
theorem dX9_anew_196 : decode cX9_anew 196 = .ok (.iaload, 1) := by decide +kernel
theorem dX9_anew_197 : decode cX9_anew 197 = .ok (.invokevirtual 222, 3) := by decide +kernel
theorem dX9_anew_200 : decode cX9_anew 200 = .ok (.aload_n 0, 1) := by decide +kernel
theorem dX9_anew_201 : decode cX9_anew 201 = .ok (.aload_n 0, 1) := by decide +kernel
theorem dX9_anew_202 : decode cX9_anew 202 = .ok (.getfield 54, 3) := by decide +kernel
theorem dX9_anew_205 : decode cX9_anew 205 = .ok (.iload_n 1, 1) := by decide +kernel
theorem dX9_anew_206 : decode cX9_anew 206 = .ok (.iaload, 1) := by decide +kernel
theorem dX9_anew_207 : decode cX9_anew 207 = .ok (.aload_n 0, 1) := by decide +kernel
theorem dX9_anew_208 : decode cX9_anew 208 = .ok (.aload_n 0, 1) := by decide +kernel
theorem dX9_anew_209 : decode cX9_anew 209 = .ok (.getfield 51, 3) := by decide +kernel
theorem dX9_anew_212 : decode cX9_anew 212 = .ok (.iload_n 1, 1) := by decide +kernel
theorem dX9_anew_213 : decode cX9_anew 213 = .ok (.iaload, 1) := by decide +kernel
theorem dX9_anew_214 : decode cX9_anew 214 = .ok (.aload_n 0, 1) := by decide +kernel
theorem dX9_anew_215 : decode cX9_anew 215 = .ok (.getfield 117, 3) := by decide +kernel
theorem dX9_anew_218 : decode cX9_anew 218 = .ok (.iload_n 2, 1) := by decide +kernel
theorem dX9_anew_219 : decode cX9_anew 219 = .ok (.iaload, 1) := by decide +kernel
theorem dX9_anew_220 : decode cX9_anew 220 = .ok (.invokevirtual 179, 3) := by decide +kernel
theorem dX9_anew_223 : decode cX9_anew 223 = .ok (.invokevirtual 182, 3) := by decide +kernel
theorem dX9_anew_226 : decode cX9_anew 226 = .ok (.istore 7, 2) := by decide +kernel
theorem dX9_anew_228 : decode cX9_anew 228 = .ok (.aload_n 0, 1) := by decide +kernel
theorem dX9_anew_229 : decode cX9_anew 229 = .ok (.getfield 63, 3) := by decide +kernel
theorem dX9_anew_232 : decode cX9_anew 232 = .ok (.iload_n 1, 1) := by decide +kernel
theorem dX9_anew_233 : decode cX9_anew 233 = .ok (.iaload, 1) := by decide +kernel
theorem dX9_anew_234 : decode cX9_anew 234 = .ok (.iconst (-1), 1) := by decide +kernel
theorem dX9_anew_235 : decode cX9_anew 235 = .ok (.if_icmp .eq 36, 3) := by decide +kernel
theorem dX9_anew_238 : decode cX9_anew 238 = .ok (.aload_n 0, 1) := by decide +kernel
theorem dX9_anew_239 : decode cX9_anew 239 = .ok (.getfield 78, 3) := by decide +kernel
theorem dX9_anew_242 : decode cX9_anew 242 = .ok (.sipush 600, 3) := by decide +kernel
theorem dX9_anew_245 : decode cX9_anew 245 = .ok (.iload_n 1, 1) := by decide +kernel
theorem dX9_anew_246 : decode cX9_anew 246 = .ok (.imul, 1) := by decide +kernel
theorem dX9_anew_247 : decode cX9_anew 247 = .ok (.aload_n 0, 1) := by decide +kernel
theorem dX9_anew_248 : decode cX9_anew 248 = .ok (.getfield 75, 3) := by decide +kernel
theorem dX9_anew_251 : decode cX9_anew 251 = .ok (.iload_n 1, 1) := by decide +kernel
theorem dX9_anew_252 : decode cX9_anew 252 = .ok (.iaload, 1) := by decide +kernel
theorem dX9_anew_253 : decode cX9_anew 253 = .ok (.iadd, 1) := by decide +kernel
theorem dX9_anew_254 : decode cX9_anew 254 = .ok (.aload_n 0, 1) := by decide +kernel
theorem dX9_anew_255 : decode cX9_anew 255 = .ok (.getfield 63, 3) := by decide +kernel
theorem dX9_anew_258 : decode cX9_anew 258 = .ok (.iload_n 1, 1) := by decide +kernel
theorem dX9_anew_259 : decode cX9_anew 259 = .ok (.iaload, 1) := by decide +kernel
theorem dX9_anew_260 : decode cX9_anew 260 = .ok (.iastore, 1) := by decide +kernel
theorem dX9_anew_261 : decode cX9_anew 261 = .ok (.aload_n 0, 1) := by decide +kernel
theorem dX9_anew_262 : decode cX9_anew 262 = .ok (.getfield 75, 3) := by decide +kernel
theorem dX9_anew_265 : decode cX9_anew 265 = .ok (.iload_n 1, 1) := by decide +kernel
theorem dX9_anew_266 : decode cX9_anew 266 = .ok (.dup2, 1) := by decide +kernel
theorem dX9_anew_267 : decode cX9_anew 267 = .ok (.iaload, 1) := by decide +kernel
theorem dX9_anew_268 : decode cX9_anew 268 = .ok (.iconst 1, 1) := by decide +kernel
theorem dX9_anew_269 : decode cX9_anew 269 = .ok (.iadd, 1) := by decide +kernel
theorem dX9_anew_270 : decode cX9_anew 270 = .ok (.iastore, 1) := by decide +kernel
theorem dX9_anew_271 : decode cX9_anew 271 = .ok (.aload_n 0, 1) := by decide +kernel
theorem dX9_anew_272 : decode cX9_anew 272 = .ok (.getfield 63, 3) := by decide +kernel
theorem dX9_anew_275 : decode cX9_anew 275 = .ok (.iload_n 1, 1) := by decide +kernel
theorem dX9_anew_276 : decode cX9_anew 276 = .ok (.aload_n 0, 1) := by decide +kernel
theorem dX9_anew_277 : decode cX9_anew 277 = .ok (.getfield 99, 3) := by decide +kernel
theorem dX9_anew_280 : decode cX9_anew 280 = .ok (.iload_n 2, 1) := by decide +kernel
theorem dX9_anew_281 : decode cX9_anew 281 = .ok (.iaload, 1) := by decide +kernel
theorem dX9_anew_282 : decode cX9_anew 282 = .ok (.iastore, 1) := by decide +kernel
theorem dX9_anew_283 : decode cX9_anew 283 = .ok (.aload_n 0, 1) := by decide +kernel
theorem dX9_anew_284 : decode cX9_anew 284 = .ok (.getfield 60, 3) := by decide +kernel
theorem dX9_anew_287 : decode cX9_anew 287 = .ok (.iload_n 1, 1) := by decide +kernel
theorem dX9_anew_288 : decode cX9_anew 288 = .ok (.aload_n 0, 1) := by decide +kernel
theorem dX9_anew_289 : decode cX9_anew 289 = .ok (.iload 7, 2) := by decide +kernel
theorem dX9_anew_291 : decode cX9_anew 291 = .ok (.invokevirtual 185, 3) := by decide +kernel
theorem dX9_anew_294 : decode cX9_anew 294 = .ok (.iastore, 1) := by decide +kernel
theorem dX9_anew_295 : decode cX9_anew 295 = .ok (.aload_n 0, 1) := by decide +kernel
theorem dX9_anew_296 : decode cX9_anew 296 = .ok (.getfield 72, 3) := by decide +kernel
theorem dX9_anew_299 : decode cX9_anew 299 = .ok (.iload_n 1, 1) := by decide +kernel
theorem dX9_anew_300 : decode cX9_anew 300 = .ok (.iconst 0, 1) := by decide +kernel
theorem dX9_anew_301 : decode cX9_anew 301 = .ok (.iastore, 1) := by decide +kernel
theorem dX9_anew_302 : decode cX9_anew 302 = .ok (.aload_n 0, 1) := by decide +kernel
theorem dX9_anew_303 : decode cX9_anew 303 = .ok (.iload_n 1, 1) := by decide +kernel
theorem dX9_anew_304 : decode cX9_anew 304 = .ok (.aload_n 0, 1) := by decide +kernel
theorem dX9_anew_305 : decode cX9_anew 305 = .ok (.getfield 105, 3) := by decide +kernel
theorem dX9_anew_308 : decode cX9_anew 308 = .ok (.iload_n 2, 1) := by decide +kernel
theorem dX9_anew_309 : decode cX9_anew 309 = .ok (.iaload, 1) := by decide +kernel
theorem dX9_anew_310 : decode cX9_anew 310 = .ok (.invokevirtual 222, 3) := by decide +kernel
theorem dX9_anew_313 : decode cX9_anew 313 = .ok (.aload_n 0, 1) := by decide +kernel
theorem dX9_anew_314 : decode cX9_anew 314 = .ok (.iload_n 1, 1) := by decide +kernel
theorem dX9_anew_315 : decode cX9_anew 315 = .ok (.invokevirtual 225, 3) := by decide +kernel
theorem dX9_anew_318 : decode cX9_anew 318 = .ok (.aload_n 0, 1) := by decide +kernel
theorem dX9_anew_319 : decode cX9_anew 319 = .ok (.getfield 51, 3) := by decide +kernel
theorem dX9_anew_322 : decode cX9_anew 322 = .ok (.iload_n 1, 1) := by decide +kernel
theorem dX9_anew_323 : decode cX9_anew 323 = .ok (.aload_n 0, 1) := by decide +kernel
theorem dX9_anew_324 : decode cX9_anew 324 = .ok (.iload_n 1, 1) := by decide +kernel
theorem dX9_anew_325 : decode cX9_anew 325 = .ok (.invokevirtual 176, 3) := by decide +kernel
theorem dX9_anew_328 : decode cX9_anew 328 = .ok (.iastore, 1) := by decide +kernel
theorem dX9_anew_329 : decode cX9_anew 329 = .ok (.aload_n 0, 1) := by decide +kernel
theorem dX9_anew_330 : decode cX9_anew 330 = .ok (.getfield 54, 3) := by decide +kernel
theorem dX9_anew_333 : decode cX9_anew 333 = .ok (.iload_n 1, 1) := by decide +kernel
theorem dX9_anew_334 : decode cX9_anew 334 = .ok (.aload_n 0, 1) := by decide +kernel
theorem dX9_anew_335 : decode cX9_anew 335 = .ok (.iload 7, 2) := by decide +kernel
theorem dX9_anew_337 : decode cX9_anew 337 = .ok (.aload_n 0, 1) := by decide +kernel
theorem dX9_anew_338 : decode cX9_anew 338 = .ok (.aload_n 0, 1) := by decide +kernel
theorem dX9_anew_339 : decode cX9_anew 339 = .ok (.getfield 51, 3) := by decide +kernel
theorem dX9_anew_342 : decode cX9_anew 342 = .ok (.iload_n 1, 1) := by decide +kernel
theorem dX9_anew_343 : decode cX9_anew 343 = .ok (.iaload, 1) := by decide +kernel
theorem dX9_anew_344 : decode cX9_anew 344 = .ok (.aload_n 0, 1) := by decide +kernel
theorem dX9_anew_345 : decode cX9_anew 345 = .ok (.getfield 117, 3) := by decide +kernel
theorem dX9_anew_348 : decode cX9_anew 348 = .ok (.iload_n 2, 1) := by decide +kernel
theorem dX9_anew_349 : decode cX9_anew 349 = .ok (.iaload, 1) := by decide +kernel
theorem dX9_anew_350 : decode cX9_anew 350 = .ok (.invokevirtual 179, 3) := by decide +kernel
theorem dX9_anew_353 : decode cX9_anew 353 = .ok (.invokevirtual 182, 3) := by decide +kernel
theorem dX9_anew_356 : decode cX9_anew 356 = .ok (.iastore, 1) := by decide +kernel
theorem dX9_anew_357 : decode cX9_anew 357 = .ok (.aload_n 0, 1) := by decide +kernel
theorem dX9_anew_358 : decode cX9_anew 358 = .ok (.getfield 57, 3) := by decide +kernel
theorem dX9_anew_361 : decode cX9_anew 361 = .ok (.iload_n 1, 1) := by decide +kernel
theorem dX9_anew_362 : decode cX9_anew 362 = .ok (.aload_n 0, 1) := by decide +kernel
theorem dX9_anew_363 : decode cX9_anew 363 = .ok (.aload_n 0, 1) := by decide +kernel
theorem dX9_anew_364 : decode cX9_anew 364 = .ok (.getfield 54, 3) := by decide +kernel
theorem dX9_anew_367 : decode cX9_anew 367 = .ok (.iload_n 1, 1) := by decide +kernel
theorem dX9_anew_368 : decode cX9_anew 368 = .ok (.iaload, 1) := by decide +kernel
theorem dX9_anew_369 : decode cX9_anew 369 = .ok (.invokevirtual 185, 3) := by decide +kernel
theorem dX9_anew_372 : decode cX9_anew 372 = .ok (.iastore, 1) := by decide +kernel
theorem dX9_anew_373 : decode cX9_anew 373 = .ok (.aload_n 0, 1) := by decide +kernel
theorem dX9_anew_374 : decode cX9_anew 374 = .ok (.getfield 69, 3) := by decide +kernel
theorem dX9_anew_377 : decode cX9_anew 377 = .ok (.iload_n 1, 1) := by decide +kernel
theorem dX9_anew_378 : decode cX9_anew 378 = .ok (.aload_n 0, 1) := by decide +kernel
theorem dX9_anew_379 : decode cX9_anew 379 = .ok (.getfield 66, 3) := by decide +kernel
theorem dX9_anew_382 : decode cX9_anew 382 = .ok (.iload_n 1, 1) := by decide +kernel
theorem dX9_anew_383 : decode cX9_anew 383 = .ok (.iaload, 1) := by decide +kernel
theorem dX9_anew_384 : decode cX9_anew 384 = .ok (.iastore, 1) := by decide +kernel
theorem dX9_anew_385 : decode cX9_anew 385 = .ok (.aload_n 0, 1) := by decide +kernel
theorem dX9_anew_386 : decode cX9_anew 386 = .ok (.getfield 66, 3) := by decide +kernel
theorem dX9_anew_389 : decode cX9_anew 389 = .ok (.iload_n 1, 1) := by decide +kernel
theorem dX9_anew_390 : decode cX9_anew 390 = .ok (.iconst 0, 1) := by decide +kernel
theorem dX9_anew_391 : decode cX9_anew 391 = .ok (.iastore, 1) := by decide +kernel
theorem dX9_anew_392 : decode cX9_anew 392 = .ok (.aload_n 0, 1) := by decide +kernel
theorem dX9_anew_393 : decode cX9_anew 393 = .ok (.aload_n 0, 1) := by decide +kernel
theorem dX9_anew_394 : decode cX9_anew 394 = .ok (.iload_n 2, 1) := by decide +kernel
theorem dX9_anew_395 : decode cX9_anew 395 = .ok (.iload 6, 2) := by decide +kernel
theorem dX9_anew_397 : decode cX9_anew 397 = .ok (.invokevirtual 202, 3) := by decide +kernel
theorem dX9_anew_400 : decode cX9_anew 400 = .ok (.invokevirtual 166, 3) := by decide +kernel
theorem dX9_anew_403 : decode cX9_anew 403 = .ok (.ireturn, 1) := by decide +kernel
theorem dX9_shows_0 : decode cX9_shows 0 = .ok (.aload_n 0, 1) := by decide +kernel
theorem dX9_shows_1 : decode cX9_shows 1 = .ok (.dup, 1) := by decide +kernel
theorem dX9_shows_2 : decode cX9_shows 2 = .ok (.getfield 232, 3) := by decide +kernel
theorem dX9_shows_5 : decode cX9_shows 5 = .ok (.iload_n 1, 1) := by decide +kernel
theorem dX9_shows_6 : decode cX9_shows 6 = .ok (.iconst (-1), 1) := by decide +kernel
theorem dX9_shows_7 : decode cX9_shows 7 = .ok (.if_icmp .eq 16, 3) := by decide +kernel
theorem dX9_shows_10 : decode cX9_shows 10 = .ok (.aload_n 0, 1) := by decide +kernel
theorem dX9_shows_11 : decode cX9_shows 11 = .ok (.getfield 35, 3) := by decide +kernel
theorem dX9_shows_14 : decode cX9_shows 14 = .ok (.iload_n 1, 1) := by decide +kernel
theorem dX9_shows_15 : decode cX9_shows 15 = .ok (.baload, 1) := by decide +kernel
theorem dX9_shows_16 : decode cX9_shows 16 = .ok (.ifCond .ne 7, 3) := by decide +kernel
theorem dX9_shows_19 : decode cX9_shows 19 = .ok (.iconst 1, 1) := by decide +kernel
theorem dX9_shows_20 : decode cX9_shows 20 = .ok (.goto 4, 3) := by decide +kernel
theorem dX9_shows_23 : decode cX9_shows 23 = .ok (.iconst 0, 1) := by decide +kernel
theorem dX9_shows_24 : decode cX9_shows 24 = .ok (.iadd, 1) := by decide +kernel
theorem dX9_shows_25 : decode cX9_shows 25 = .ok (.putfield 232, 3) := by decide +kernel
theorem dX9_shows_28 : decode cX9_shows 28 = .ok (.iload_n 1, 1) := by decide +kernel
theorem dX9_shows_29 : decode cX9_shows 29 = .ok (.iconst (-1), 1) := by decide +kernel
theorem dX9_shows_30 : decode cX9_shows 30 = .ok (.if_icmp .eq 10, 3) := by decide +kernel
theorem dX9_shows_33 : decode cX9_shows 33 = .ok (.aload_n 0, 1) := by decide +kernel
theorem dX9_shows_34 : decode cX9_shows 34 = .ok (.getfield 35, 3) := by decide +kernel
theorem dX9_shows_37 : decode cX9_shows 37 = .ok (.iload_n 1, 1) := by decide +kernel
theorem dX9_shows_38 : decode cX9_shows 38 = .ok (.iconst 1, 1) := by decide +kernel
theorem dX9_shows_39 : decode cX9_shows 39 = .ok (.bastore, 1) := by decide +kernel
theorem dX9_shows_40 : decode cX9_shows 40 = .ok (.return_, 1) := by decide +kernel
theorem dX9_see_0 : decode cX9_see 0 = .ok (.aload_n 0, 1) := by decide +kernel
theorem dX9_see_1 : decode cX9_see 1 = .ok (.iload_n 1, 1) := by decide +kernel
theorem dX9_see_2 : decode cX9_see 2 = .ok (.invokevirtual 172, 3) := by decide +kernel
theorem dX9_see_5 : decode cX9_see 5 = .ok (.ifCond .ne 9, 3) := by decide +kernel
theorem dX9_see_8 : decode cX9_see 8 = .ok (.aload_n 0, 1) := by decide +kernel
theorem dX9_see_9 : decode cX9_see 9 = .ok (.iconst 1, 1) := by decide +kernel
theorem dX9_see_10 : decode cX9_see 10 = .ok (.invokevirtual 163, 3) := by decide +kernel
theorem dX9_see_13 : decode cX9_see 13 = .ok (.ireturn, 1) := by decide +kernel
theorem dX9_see_14 : decode cX9_see 14 = .ok (.aload_n 0, 1) := by decide +kernel
theorem dX9_see_15 : decode cX9_see 15 = .ok (.getfield 48, 3) := by decide +kernel
theorem dX9_see_18 : decode cX9_see 18 = .ok (.iload_n 1, 1) := by decide +kernel
theorem dX9_see_19 : decode cX9_see 19 = .ok (.iconst 2, 1) := by decide +kernel
theorem dX9_see_20 : decode cX9_see 20 = .ok (.idiv, 1) := by decide +kernel
theorem dX9_see_21 : decode cX9_see 21 = .ok (.baload, 1) := by decide +kernel
theorem dX9_see_22 : decode cX9_see 22 = .ok (.ifCond .ne 9, 3) := by decide +kernel
theorem dX9_see_25 : decode cX9_see 25 = .ok (.aload_n 0, 1) := by decide +kernel
theorem dX9_see_26 : decode cX9_see 26 = .ok (.iconst 3, 1) := by decide +kernel
theorem dX9_see_27 : decode cX9_see 27 = .ok (.invokevirtual 163, 3) := by decide +kernel
theorem dX9_see_30 : decode cX9_see 30 = .ok (.ireturn, 1) := by decide +kernel
theorem dX9_see_31 : decode cX9_see 31 = .ok (.aload_n 0, 1) := by decide +kernel
theorem dX9_see_32 : decode cX9_see 32 = .ok (.iconst 0, 1) := by decide +kernel
theorem dX9_see_33 : decode cX9_see 33 = .ok (.putfield 232, 3) := by decide +kernel
theorem dX9_see_36 : decode cX9_see 36 = .ok (.aload_n 0, 1) := by decide +kernel
theorem dX9_see_37 : decode cX9_see 37 = .ok (.aload_n 0, 1) := by decide +kernel
theorem dX9_see_38 : decode cX9_see 38 = .ok (.getfield 51, 3) := by decide +kernel
theorem dX9_see_41 : decode cX9_see 41 = .ok (.iload_n 1, 1) := by decide +kernel
theorem dX9_see_42 : decode cX9_see 42 = .ok (.iaload, 1) := by decide +kernel
theorem dX9_see_43 : decode cX9_see 43 = .ok (.invokevirtual 235, 3) := by decide +kernel
theorem dX9_see_46 : decode cX9_see 46 = .ok (.aload_n 0, 1) := by decide +kernel
theorem dX9_see_47 : decode cX9_see 47 = .ok (.aload_n 0, 1) := by decide +kernel
theorem dX9_see_48 : decode cX9_see 48 = .ok (.getfield 54, 3) := by decide +kernel
theorem dX9_see_51 : decode cX9_see 51 = .ok (.iload_n 1, 1) := by decide +kernel
theorem dX9_see_52 : decode cX9_see 52 = .ok (.iaload, 1) := by decide +kernel
theorem dX9_see_53 : decode cX9_see 53 = .ok (.invokevirtual 235, 3) := by decide +kernel
theorem dX9_see_56 : decode cX9_see 56 = .ok (.aload_n 0, 1) := by decide +kernel
theorem dX9_see_57 : decode cX9_see 57 = .ok (.aload_n 0, 1) := by decide +kernel
theorem dX9_see_58 : decode cX9_see 58 = .ok (.getfield 57, 3) := by decide +kernel
theorem dX9_see_61 : decode cX9_see 61 = .ok (.iload_n 1, 1) := by decide +kernel
theorem dX9_see_62 : decode cX9_see 62 = .ok (.iaload, 1) := by decide +kernel
theorem dX9_see_63 : decode cX9_see 63 = .ok (.invokevirtual 235, 3) := by decide +kernel
theorem dX9_see_66 : decode cX9_see 66 = .ok (.aload_n 0, 1) := by decide +kernel
theorem dX9_see_67 : decode cX9_see 67 = .ok (.aload_n 0, 1) := by decide +kernel
theorem dX9_see_68 : decode cX9_see 68 = .ok (.getfield 60, 3) := by decide +kernel
theorem dX9_see_71 : decode cX9_see 71 = .ok (.iload_n 1, 1) := by decide +kernel
theorem dX9_see_72 : decode cX9_see 72 = .ok (.iaload, 1) := by decide +kernel
theorem dX9_see_73 : decode cX9_see 73 = .ok (.invokevirtual 235, 3) := by decide +kernel
theorem dX9_see_76 : decode cX9_see 76 = .ok (.iconst 0, 1) := by decide +kernel
theorem dX9_see_77 : decode cX9_see 77 = .ok (.istore_n 2, 1) := by decide +kernel
theorem dX9_see_78 : decode cX9_see 78 = .ok (.iload_n 2, 1) := by decide +kernel
theorem dX9_see_79 : decode cX9_see 79 = .ok (.aload_n 0, 1) := by decide +kernel
theorem dX9_see_80 : decode cX9_see 80 = .ok (.getfield 81, 3) := by decide +kernel
theorem dX9_see_83 : decode cX9_see 83 = .ok (.iload_n 1, 1) := by decide +kernel
theorem dX9_see_84 : decode cX9_see 84 = .ok (.iaload, 1) := by decide +kernel
theorem dX9_see_85 : decode cX9_see 85 = .ok (.if_icmp .ge 24, 3) := by decide +kernel
theorem dX9_see_88 : decode cX9_see 88 = .ok (.aload_n 0, 1) := by decide +kernel
theorem dX9_see_89 : decode cX9_see 89 = .ok (.aload_n 0, 1) := by decide +kernel
theorem dX9_see_90 : decode cX9_see 90 = .ok (.getfield 90, 3) := by decide +kernel
theorem dX9_see_93 : decode cX9_see 93 = .ok (.bipush 12, 2) := by decide +kernel
theorem dX9_see_95 : decode cX9_see 95 = .ok (.iload_n 1, 1) := by decide +kernel
theorem dX9_see_96 : decode cX9_see 96 = .ok (.imul, 1) := by decide +kernel
theorem dX9_see_97 : decode cX9_see 97 = .ok (.iload_n 2, 1) := by decide +kernel
theorem dX9_see_98 : decode cX9_see 98 = .ok (.iadd, 1) := by decide +kernel
theorem dX9_see_99 : decode cX9_see 99 = .ok (.iaload, 1) := by decide +kernel
theorem dX9_see_100 : decode cX9_see 100 = .ok (.invokevirtual 235, 3) := by decide +kernel
theorem dX9_see_103 : decode cX9_see 103 = .ok (.iinc 2 1, 3) := by decide +kernel
theorem dX9_see_106 : decode cX9_see 106 = .ok (.goto (-28), 3) := by decide +kernel
theorem dX9_see_109 : decode cX9_see 109 = .ok (.aload_n 0, 1) := by decide +kernel
theorem dX9_see_110 : decode cX9_see 110 = .ok (.aload_n 0, 1) := by decide +kernel
theorem dX9_see_111 : decode cX9_see 111 = .ok (.getfield 232, 3) := by decide +kernel
theorem dX9_see_114 : decode cX9_see 114 = .ok (.invokevirtual 166, 3) := by decide +kernel
theorem dX9_see_117 : decode cX9_see 117 = .ok (.ireturn, 1) := by decide +kernel
theorem dX9_know_0 : decode cX9_know 0 = .ok (.iconst 0, 1) := by decide +kernel
theorem dX9_know_1 : decode cX9_know 1 = .ok (.istore_n 1, 1) := by decide +kernel
theorem dX9_know_2 : decode cX9_know 2 = .ok (.iload_n 1, 1) := by decide +kernel
theorem dX9_know_3 : decode cX9_know 3 = .ok (.aload_n 0, 1) := by decide +kernel
theorem dX9_know_4 : decode cX9_know 4 = .ok (.getfield 149, 3) := by decide +kernel
theorem dX9_know_7 : decode cX9_know 7 = .ok (.if_icmp .ge 206, 3) := by decide +kernel
theorem dX9_know_10 : decode cX9_know 10 = .ok (.aload_n 0, 1) := by decide +kernel
theorem dX9_know_11 : decode cX9_know 11 = .ok (.getfield 26, 3) := by decide +kernel
theorem dX9_know_14 : decode cX9_know 14 = .ok (.iload_n 1, 1) := by decide +kernel
theorem dX9_know_15 : decode cX9_know 15 = .ok (.iaload, 1) := by decide +kernel
theorem dX9_know_16 : decode cX9_know 16 = .ok (.iconst (-1), 1) := by decide +kernel
theorem dX9_know_17 : decode cX9_know 17 = .ok (.if_icmp .ne 7, 3) := by decide +kernel
theorem dX9_know_20 : decode cX9_know 20 = .ok (.iconst (-1), 1) := by decide +kernel
theorem dX9_know_21 : decode cX9_know 21 = .ok (.goto 14, 3) := by decide +kernel
theorem dX9_know_24 : decode cX9_know 24 = .ok (.aload_n 0, 1) := by decide +kernel
theorem dX9_know_25 : decode cX9_know 25 = .ok (.getfield 39, 3) := by decide +kernel
theorem dX9_know_28 : decode cX9_know 28 = .ok (.aload_n 0, 1) := by decide +kernel
theorem dX9_know_29 : decode cX9_know 29 = .ok (.getfield 26, 3) := by decide +kernel
theorem dX9_know_32 : decode cX9_know 32 = .ok (.iload_n 1, 1) := by decide +kernel
theorem dX9_know_33 : decode cX9_know 33 = .ok (.iaload, 1) := by decide +kernel
theorem dX9_know_34 : decode cX9_know 34 = .ok (.iaload, 1) := by decide +kernel
theorem dX9_know_35 : decode cX9_know 35 = .ok (.istore_n 2, 1) := by decide +kernel
theorem dX9_know_36 : decode cX9_know 36 = .ok (.aload_n 0, 1) := by decide +kernel
theorem dX9_know_37 : decode cX9_know 37 = .ok (.getfield 29, 3) := by decide +kernel
theorem dX9_know_40 : decode cX9_know 40 = .ok (.iload_n 1, 1) := by decide +kernel
theorem dX9_know_41 : decode cX9_know 41 = .ok (.iaload, 1) := by decide +kernel
theorem dX9_know_42 : decode cX9_know 42 = .ok (.iconst (-1), 1) := by decide +kernel
theorem dX9_know_43 : decode cX9_know 43 = .ok (.if_icmp .ne 7, 3) := by decide +kernel
theorem dX9_know_46 : decode cX9_know 46 = .ok (.iconst (-1), 1) := by decide +kernel
theorem dX9_know_47 : decode cX9_know 47 = .ok (.goto 14, 3) := by decide +kernel
theorem dX9_know_50 : decode cX9_know 50 = .ok (.aload_n 0, 1) := by decide +kernel
theorem dX9_know_51 : decode cX9_know 51 = .ok (.getfield 39, 3) := by decide +kernel
theorem dX9_know_54 : decode cX9_know 54 = .ok (.aload_n 0, 1) := by decide +kernel
theorem dX9_know_55 : decode cX9_know 55 = .ok (.getfield 29, 3) := by decide +kernel
theorem dX9_know_58 : decode cX9_know 58 = .ok (.iload_n 1, 1) := by decide +kernel
theorem dX9_know_59 : decode cX9_know 59 = .ok (.iaload, 1) := by decide +kernel
theorem dX9_know_60 : decode cX9_know 60 = .ok (.iaload, 1) := by decide +kernel
theorem dX9_know_61 : decode cX9_know 61 = .ok (.istore_n 3, 1) := by decide +kernel
theorem dX9_know_62 : decode cX9_know 62 = .ok (.iconst (-1), 1) := by decide +kernel
theorem dX9_know_63 : decode cX9_know 63 = .ok (.istore 4, 2) := by decide +kernel
theorem dX9_know_65 : decode cX9_know 65 = .ok (.aload_n 0, 1) := by decide +kernel
theorem dX9_know_66 : decode cX9_know 66 = .ok (.getfield 22, 3) := by decide +kernel
theorem dX9_know_69 : decode cX9_know 69 = .ok (.iload_n 1, 1) := by decide +kernel
theorem dX9_know_70 : decode cX9_know 70 = .ok (.iaload, 1) := by decide +kernel
theorem dX9_know_71 : decode cX9_know 71 = .ok (.iconst 5, 1) := by decide +kernel
theorem dX9_know_72 : decode cX9_know 72 = .ok (.if_icmp .ne 36, 3) := by decide +kernel
theorem dX9_know_75 : decode cX9_know 75 = .ok (.iload_n 2, 1) := by decide +kernel
theorem dX9_know_76 : decode cX9_know 76 = .ok (.iconst (-1), 1) := by decide +kernel
theorem dX9_know_77 : decode cX9_know 77 = .ok (.if_icmp .ne 7, 3) := by decide +kernel
theorem dX9_know_80 : decode cX9_know 80 = .ok (.iload_n 3, 1) := by decide +kernel
theorem dX9_know_81 : decode cX9_know 81 = .ok (.goto 22, 3) := by decide +kernel
theorem dX9_know_84 : decode cX9_know 84 = .ok (.iload_n 3, 1) := by decide +kernel
theorem dX9_know_85 : decode cX9_know 85 = .ok (.iconst (-1), 1) := by decide +kernel
theorem dX9_know_86 : decode cX9_know 86 = .ok (.if_icmp .ne 7, 3) := by decide +kernel
theorem dX9_know_89 : decode cX9_know 89 = .ok (.iload_n 2, 1) := by decide +kernel
theorem dX9_know_90 : decode cX9_know 90 = .ok (.goto 13, 3) := by decide +kernel
theorem dX9_know_93 : decode cX9_know 93 = .ok (.iload_n 2, 1) := by decide +kernel
theorem dX9_know_94 : decode cX9_know 94 = .ok (.iload_n 3, 1) := by decide +kernel
theorem dX9_know_95 : decode cX9_know 95 = .ok (.if_icmp .ge 7, 3) := by decide +kernel
theorem dX9_know_98 : decode cX9_know 98 = .ok (.iload_n 2, 1) := by decide +kernel
theorem dX9_know_99 : decode cX9_know 99 = .ok (.goto 4, 3) := by decide +kernel
theorem dX9_know_102 : decode cX9_know 102 = .ok (.iload_n 3, 1) := by decide +kernel
theorem dX9_know_103 : decode cX9_know 103 = .ok (.istore 4, 2) := by decide +kernel
theorem dX9_know_105 : decode cX9_know 105 = .ok (.goto 69, 3) := by decide +kernel
theorem dX9_know_108 : decode cX9_know 108 = .ok (.aload_n 0, 1) := by decide +kernel
theorem dX9_know_109 : decode cX9_know 109 = .ok (.getfield 22, 3) := by decide +kernel
theorem dX9_know_112 : decode cX9_know 112 = .ok (.iload_n 1, 1) := by decide +kernel
theorem dX9_know_113 : decode cX9_know 113 = .ok (.iaload, 1) := by decide +kernel
theorem dX9_know_114 : decode cX9_know 114 = .ok (.iconst 2, 1) := by decide +kernel
theorem dX9_know_115 : decode cX9_know 115 = .ok (.if_icmp .ne 46, 3) := by decide +kernel
theorem dX9_know_118 : decode cX9_know 118 = .ok (.aload_n 0, 1) := by decide +kernel
theorem dX9_know_119 : decode cX9_know 119 = .ok (.getfield 26, 3) := by decide +kernel
theorem dX9_know_122 : decode cX9_know 122 = .ok (.iload_n 1, 1) := by decide +kernel
theorem dX9_know_123 : decode cX9_know 123 = .ok (.iaload, 1) := by decide +kernel
theorem dX9_know_124 : decode cX9_know 124 = .ok (.iconst (-1), 1) := by decide +kernel
theorem dX9_know_125 : decode cX9_know 125 = .ok (.if_icmp .ne 7, 3) := by decide +kernel
theorem dX9_know_128 : decode cX9_know 128 = .ok (.iload_n 3, 1) := by decide +kernel
theorem dX9_know_129 : decode cX9_know 129 = .ok (.goto 27, 3) := by decide +kernel
theorem dX9_know_132 : decode cX9_know 132 = .ok (.iload_n 2, 1) := by decide +kernel
theorem dX9_know_133 : decode cX9_know 133 = .ok (.iconst (-1), 1) := by decide +kernel
theorem dX9_know_134 : decode cX9_know 134 = .ok (.if_icmp .eq 8, 3) := by decide +kernel
theorem dX9_know_137 : decode cX9_know 137 = .ok (.iload_n 3, 1) := by decide +kernel
theorem dX9_know_138 : decode cX9_know 138 = .ok (.iconst (-1), 1) := by decide +kernel
theorem dX9_know_139 : decode cX9_know 139 = .ok (.if_icmp .ne 7, 3) := by decide +kernel
theorem dX9_know_142 : decode cX9_know 142 = .ok (.iconst (-1), 1) := by decide +kernel
theorem dX9_know_143 : decode cX9_know 143 = .ok (.goto 13, 3) := by decide +kernel
theorem dX9_know_146 : decode cX9_know 146 = .ok (.iload_n 2, 1) := by decide +kernel
theorem dX9_know_147 : decode cX9_know 147 = .ok (.iload_n 3, 1) := by decide +kernel
theorem dX9_know_148 : decode cX9_know 148 = .ok (.if_icmp .le 7, 3) := by decide +kernel
theorem dX9_know_151 : decode cX9_know 151 = .ok (.iload_n 2, 1) := by decide +kernel
theorem dX9_know_152 : decode cX9_know 152 = .ok (.goto 4, 3) := by decide +kernel
theorem dX9_know_155 : decode cX9_know 155 = .ok (.iload_n 3, 1) := by decide +kernel
theorem dX9_know_156 : decode cX9_know 156 = .ok (.istore 4, 2) := by decide +kernel
theorem dX9_know_158 : decode cX9_know 158 = .ok (.goto 16, 3) := by decide +kernel
theorem dX9_know_161 : decode cX9_know 161 = .ok (.aload_n 0, 1) := by decide +kernel
theorem dX9_know_162 : decode cX9_know 162 = .ok (.getfield 22, 3) := by decide +kernel
theorem dX9_know_165 : decode cX9_know 165 = .ok (.iload_n 1, 1) := by decide +kernel
theorem dX9_know_166 : decode cX9_know 166 = .ok (.iaload, 1) := by decide +kernel
theorem dX9_know_167 : decode cX9_know 167 = .ok (.iconst 3, 1) := by decide +kernel
theorem dX9_know_168 : decode cX9_know 168 = .ok (.if_icmp .eq 6, 3) := by decide +kernel
theorem dX9_know_171 : decode cX9_know 171 = .ok (.iload_n 2, 1) := by decide +kernel
theorem dX9_know_172 : decode cX9_know 172 = .ok (.istore 4, 2) := by decide +kernel
theorem dX9_know_174 : decode cX9_know 174 = .ok (.aload_n 0, 1) := by decide +kernel
theorem dX9_know_175 : decode cX9_know 175 = .ok (.getfield 39, 3) := by decide +kernel
theorem dX9_know_178 : decode cX9_know 178 = .ok (.iload_n 1, 1) := by decide +kernel
theorem dX9_know_179 : decode cX9_know 179 = .ok (.aload_n 0, 1) := by decide +kernel
theorem dX9_know_180 : decode cX9_know 180 = .ok (.getfield 35, 3) := by decide +kernel
theorem dX9_know_183 : decode cX9_know 183 = .ok (.iload_n 1, 1) := by decide +kernel
theorem dX9_know_184 : decode cX9_know 184 = .ok (.baload, 1) := by decide +kernel
theorem dX9_know_185 : decode cX9_know 185 = .ok (.ifCond .eq 7, 3) := by decide +kernel
theorem dX9_know_188 : decode cX9_know 188 = .ok (.iconst 0, 1) := by decide +kernel
theorem dX9_know_189 : decode cX9_know 189 = .ok (.goto 17, 3) := by decide +kernel
theorem dX9_know_192 : decode cX9_know 192 = .ok (.iload 4, 2) := by decide +kernel
theorem dX9_know_194 : decode cX9_know 194 = .ok (.iconst (-1), 1) := by decide +kernel
theorem dX9_know_195 : decode cX9_know 195 = .ok (.if_icmp .ne 7, 3) := by decide +kernel
theorem dX9_know_198 : decode cX9_know 198 = .ok (.iconst (-1), 1) := by decide +kernel
theorem dX9_know_199 : decode cX9_know 199 = .ok (.goto 7, 3) := by decide +kernel
theorem dX9_know_202 : decode cX9_know 202 = .ok (.iload 4, 2) := by decide +kernel
theorem dX9_know_204 : decode cX9_know 204 = .ok (.iconst 1, 1) := by decide +kernel
theorem dX9_know_205 : decode cX9_know 205 = .ok (.iadd, 1) := by decide +kernel
theorem dX9_know_206 : decode cX9_know 206 = .ok (.iastore, 1) := by decide +kernel
theorem dX9_know_207 : decode cX9_know 207 = .ok (.iinc 1 1, 3) := by decide +kernel
theorem dX9_know_210 : decode cX9_know 210 = .ok (.goto (-208), 3) := by decide +kernel
theorem dX9_know_213 : decode cX9_know 213 = .ok (.return_, 1) := by decide +kernel
theorem dX9_known_0 : decode cX9_known 0 = .ok (.aload_n 0, 1) := by decide +kernel
theorem dX9_known_1 : decode cX9_known 1 = .ok (.iload_n 1, 1) := by decide +kernel
theorem dX9_known_2 : decode cX9_known 2 = .ok (.invokevirtual 191, 3) := by decide +kernel
theorem dX9_known_5 : decode cX9_known 5 = .ok (.ifCond .ne 5, 3) := by decide +kernel
theorem dX9_known_8 : decode cX9_known 8 = .ok (.iconst (-1), 1) := by decide +kernel
theorem dX9_known_9 : decode cX9_known 9 = .ok (.ireturn, 1) := by decide +kernel
theorem dX9_known_10 : decode cX9_known 10 = .ok (.aload_n 0, 1) := by decide +kernel
theorem dX9_known_11 : decode cX9_known 11 = .ok (.invokevirtual 238, 3) := by decide +kernel
theorem dX9_known_14 : decode cX9_known 14 = .ok (.aload_n 0, 1) := by decide +kernel
theorem dX9_known_15 : decode cX9_known 15 = .ok (.getfield 39, 3) := by decide +kernel
theorem dX9_known_18 : decode cX9_known 18 = .ok (.aload_n 0, 1) := by decide +kernel
theorem dX9_known_19 : decode cX9_known 19 = .ok (.getfield 114, 3) := by decide +kernel
theorem dX9_known_22 : decode cX9_known 22 = .ok (.iload_n 1, 1) := by decide +kernel
theorem dX9_known_23 : decode cX9_known 23 = .ok (.iaload, 1) := by decide +kernel
theorem dX9_known_24 : decode cX9_known 24 = .ok (.iaload, 1) := by decide +kernel
theorem dX9_known_25 : decode cX9_known 25 = .ok (.iconst (-1), 1) := by decide +kernel
theorem dX9_known_26 : decode cX9_known 26 = .ok (.if_icmp .eq 7, 3) := by decide +kernel
theorem dX9_known_29 : decode cX9_known 29 = .ok (.iconst 1, 1) := by decide +kernel
theorem dX9_known_30 : decode cX9_known 30 = .ok (.goto 4, 3) := by decide +kernel
theorem dX9_known_33 : decode cX9_known 33 = .ok (.iconst 0, 1) := by decide +kernel
theorem dX9_known_34 : decode cX9_known 34 = .ok (.ireturn, 1) := by decide +kernel
theorem dX9_steps_0 : decode cX9_steps 0 = .ok (.aload_n 0, 1) := by decide +kernel
theorem dX9_steps_1 : decode cX9_steps 1 = .ok (.iload_n 1, 1) := by decide +kernel
theorem dX9_steps_2 : decode cX9_steps 2 = .ok (.invokevirtual 191, 3) := by decide +kernel
theorem dX9_steps_5 : decode cX9_steps 5 = .ok (.ifCond .ne 5, 3) := by decide +kernel
theorem dX9_steps_8 : decode cX9_steps 8 = .ok (.iconst (-1), 1) := by decide +kernel
theorem dX9_steps_9 : decode cX9_steps 9 = .ok (.ireturn, 1) := by decide +kernel
theorem dX9_steps_10 : decode cX9_steps 10 = .ok (.aload_n 0, 1) := by decide +kernel
theorem dX9_steps_11 : decode cX9_steps 11 = .ok (.invokevirtual 238, 3) := by decide +kernel
theorem dX9_steps_14 : decode cX9_steps 14 = .ok (.aload_n 0, 1) := by decide +kernel
theorem dX9_steps_15 : decode cX9_steps 15 = .ok (.getfield 39, 3) := by decide +kernel
theorem dX9_steps_18 : decode cX9_steps 18 = .ok (.aload_n 0, 1) := by decide +kernel
theorem dX9_steps_19 : decode cX9_steps 19 = .ok (.getfield 114, 3) := by decide +kernel
theorem dX9_steps_22 : decode cX9_steps 22 = .ok (.iload_n 1, 1) := by decide +kernel
theorem dX9_steps_23 : decode cX9_steps 23 = .ok (.iaload, 1) := by decide +kernel
theorem dX9_steps_24 : decode cX9_steps 24 = .ok (.iaload, 1) := by decide +kernel
theorem dX9_steps_25 : decode cX9_steps 25 = .ok (.ireturn, 1) := by decide +kernel
theorem dX9_heals_0 : decode cX9_heals 0 = .ok (.aload_n 0, 1) := by decide +kernel
theorem dX9_heals_1 : decode cX9_heals 1 = .ok (.invokevirtual 238, 3) := by decide +kernel
theorem dX9_heals_4 : decode cX9_heals 4 = .ok (.iconst (-1), 1) := by decide +kernel
theorem dX9_heals_5 : decode cX9_heals 5 = .ok (.istore_n 2, 1) := by decide +kernel
theorem dX9_heals_6 : decode cX9_heals 6 = .ok (.aload_n 0, 1) := by decide +kernel
theorem dX9_heals_7 : decode cX9_heals 7 = .ok (.getfield 142, 3) := by decide +kernel
theorem dX9_heals_10 : decode cX9_heals 10 = .ok (.iconst 1, 1) := by decide +kernel
theorem dX9_heals_11 : decode cX9_heals 11 = .ok (.isub, 1) := by decide +kernel
theorem dX9_heals_12 : decode cX9_heals 12 = .ok (.istore_n 3, 1) := by decide +kernel
theorem dX9_heals_13 : decode cX9_heals 13 = .ok (.iload_n 3, 1) := by decide +kernel
theorem dX9_heals_14 : decode cX9_heals 14 = .ok (.ifCond .lt 40, 3) := by decide +kernel
theorem dX9_heals_17 : decode cX9_heals 17 = .ok (.aload_n 0, 1) := by decide +kernel
theorem dX9_heals_18 : decode cX9_heals 18 = .ok (.getfield 96, 3) := by decide +kernel
theorem dX9_heals_21 : decode cX9_heals 21 = .ok (.iload_n 3, 1) := by decide +kernel
theorem dX9_heals_22 : decode cX9_heals 22 = .ok (.iaload, 1) := by decide +kernel
theorem dX9_heals_23 : decode cX9_heals 23 = .ok (.iconst 2, 1) := by decide +kernel
theorem dX9_heals_24 : decode cX9_heals 24 = .ok (.idiv, 1) := by decide +kernel
theorem dX9_heals_25 : decode cX9_heals 25 = .ok (.iload_n 1, 1) := by decide +kernel
theorem dX9_heals_26 : decode cX9_heals 26 = .ok (.if_icmp .ne 22, 3) := by decide +kernel
theorem dX9_heals_29 : decode cX9_heals 29 = .ok (.aload_n 0, 1) := by decide +kernel
theorem dX9_heals_30 : decode cX9_heals 30 = .ok (.getfield 39, 3) := by decide +kernel
theorem dX9_heals_33 : decode cX9_heals 33 = .ok (.aload_n 0, 1) := by decide +kernel
theorem dX9_heals_34 : decode cX9_heals 34 = .ok (.getfield 114, 3) := by decide +kernel
theorem dX9_heals_37 : decode cX9_heals 37 = .ok (.iload_n 3, 1) := by decide +kernel
theorem dX9_heals_38 : decode cX9_heals 38 = .ok (.iaload, 1) := by decide +kernel
theorem dX9_heals_39 : decode cX9_heals 39 = .ok (.iaload, 1) := by decide +kernel
theorem dX9_heals_40 : decode cX9_heals 40 = .ok (.iconst (-1), 1) := by decide +kernel
theorem dX9_heals_41 : decode cX9_heals 41 = .ok (.if_icmp .eq 5, 3) := by decide +kernel
theorem dX9_heals_44 : decode cX9_heals 44 = .ok (.iload_n 2, 1) := by decide +kernel
theorem dX9_heals_45 : decode cX9_heals 45 = .ok (.ireturn, 1) := by decide +kernel
theorem dX9_heals_46 : decode cX9_heals 46 = .ok (.iload_n 3, 1) := by decide +kernel
theorem dX9_heals_47 : decode cX9_heals 47 = .ok (.istore_n 2, 1) := by decide +kernel
theorem dX9_heals_48 : decode cX9_heals 48 = .ok (.iinc 3 (-1), 3) := by decide +kernel
theorem dX9_heals_51 : decode cX9_heals 51 = .ok (.goto (-38), 3) := by decide +kernel
theorem dX9_heals_54 : decode cX9_heals 54 = .ok (.iload_n 2, 1) := by decide +kernel
theorem dX9_heals_55 : decode cX9_heals 55 = .ok (.ireturn, 1) := by decide +kernel
theorem dX9_same_0 : decode cX9_same 0 = .ok (.iload_n 1, 1) := by decide +kernel
theorem dX9_same_1 : decode cX9_same 1 = .ok (.iconst 0, 1) := by decide +kernel
theorem dX9_same_2 : decode cX9_same 2 = .ok (.aload_n 0, 1) := by decide +kernel
theorem dX9_same_3 : decode cX9_same 3 = .ok (.getfield 135, 3) := by decide +kernel
theorem dX9_same_6 : decode cX9_same 6 = .ok (.iconst 1, 1) := by decide +kernel
theorem dX9_same_7 : decode cX9_same 7 = .ok (.isub, 1) := by decide +kernel
theorem dX9_same_8 : decode cX9_same 8 = .ok (.invokestatic 138, 3) := by decide +kernel
theorem dX9_same_11 : decode cX9_same 11 = .ok (.ifCond .eq 12, 3) := by decide +kernel
theorem dX9_same_14 : decode cX9_same 14 = .ok (.aload_n 0, 1) := by decide +kernel
theorem dX9_same_15 : decode cX9_same 15 = .ok (.getfield 48, 3) := by decide +kernel
theorem dX9_same_18 : decode cX9_same 18 = .ok (.iload_n 1, 1) := by decide +kernel
theorem dX9_same_19 : decode cX9_same 19 = .ok (.baload, 1) := by decide +kernel
theorem dX9_same_20 : decode cX9_same 20 = .ok (.ifCond .ne 5, 3) := by decide +kernel
theorem dX9_same_23 : decode cX9_same 23 = .ok (.iconst (-1), 1) := by decide +kernel
theorem dX9_same_24 : decode cX9_same 24 = .ok (.ireturn, 1) := by decide +kernel
theorem dX9_same_25 : decode cX9_same 25 = .ok (.iconst 2, 1) := by decide +kernel
theorem dX9_same_26 : decode cX9_same 26 = .ok (.iload_n 1, 1) := by decide +kernel
theorem dX9_same_27 : decode cX9_same 27 = .ok (.imul, 1) := by decide +kernel
theorem dX9_same_28 : decode cX9_same 28 = .ok (.istore_n 2, 1) := by decide +kernel
theorem dX9_same_29 : decode cX9_same 29 = .ok (.iload_n 2, 1) := by decide +kernel
theorem dX9_same_30 : decode cX9_same 30 = .ok (.iconst 1, 1) := by decide +kernel
theorem dX9_same_31 : decode cX9_same 31 = .ok (.iadd, 1) := by decide +kernel
theorem dX9_same_32 : decode cX9_same 32 = .ok (.istore_n 3, 1) := by decide +kernel
theorem dX9_same_33 : decode cX9_same 33 = .ok (.aload_n 0, 1) := by decide +kernel
theorem dX9_same_34 : decode cX9_same 34 = .ok (.getfield 54, 3) := by decide +kernel
theorem dX9_same_37 : decode cX9_same 37 = .ok (.iload_n 2, 1) := by decide +kernel
theorem dX9_same_38 : decode cX9_same 38 = .ok (.iaload, 1) := by decide +kernel
theorem dX9_same_39 : decode cX9_same 39 = .ok (.aload_n 0, 1) := by decide +kernel
theorem dX9_same_40 : decode cX9_same 40 = .ok (.getfield 54, 3) := by decide +kernel
theorem dX9_same_43 : decode cX9_same 43 = .ok (.iload_n 3, 1) := by decide +kernel
theorem dX9_same_44 : decode cX9_same 44 = .ok (.iaload, 1) := by decide +kernel
theorem dX9_same_45 : decode cX9_same 45 = .ok (.if_icmp .ne 7, 3) := by decide +kernel
theorem dX9_same_48 : decode cX9_same 48 = .ok (.iconst 1, 1) := by decide +kernel
theorem dX9_same_49 : decode cX9_same 49 = .ok (.goto 4, 3) := by decide +kernel
theorem dX9_same_52 : decode cX9_same 52 = .ok (.iconst 0, 1) := by decide +kernel
theorem dX9_same_53 : decode cX9_same 53 = .ok (.aload_n 0, 1) := by decide +kernel
theorem dX9_same_54 : decode cX9_same 54 = .ok (.getfield 57, 3) := by decide +kernel
theorem dX9_same_57 : decode cX9_same 57 = .ok (.iload_n 2, 1) := by decide +kernel
theorem dX9_same_58 : decode cX9_same 58 = .ok (.iaload, 1) := by decide +kernel
theorem dX9_same_59 : decode cX9_same 59 = .ok (.aload_n 0, 1) := by decide +kernel
theorem dX9_same_60 : decode cX9_same 60 = .ok (.getfield 60, 3) := by decide +kernel
theorem dX9_same_63 : decode cX9_same 63 = .ok (.iload_n 3, 1) := by decide +kernel
theorem dX9_same_64 : decode cX9_same 64 = .ok (.iaload, 1) := by decide +kernel
theorem dX9_same_65 : decode cX9_same 65 = .ok (.if_icmp .ne 7, 3) := by decide +kernel
theorem dX9_same_68 : decode cX9_same 68 = .ok (.iconst 2, 1) := by decide +kernel
theorem dX9_same_69 : decode cX9_same 69 = .ok (.goto 4, 3) := by decide +kernel
theorem dX9_same_72 : decode cX9_same 72 = .ok (.iconst 0, 1) := by decide +kernel
theorem dX9_same_73 : decode cX9_same 73 = .ok (.iadd, 1) := by decide +kernel
theorem dX9_same_74 : decode cX9_same 74 = .ok (.aload_n 0, 1) := by decide +kernel
theorem dX9_same_75 : decode cX9_same 75 = .ok (.getfield 57, 3) := by decide +kernel
theorem dX9_same_78 : decode cX9_same 78 = .ok (.iload_n 3, 1) := by decide +kernel
theorem dX9_same_79 : decode cX9_same 79 = .ok (.iaload, 1) := by decide +kernel
theorem dX9_same_80 : decode cX9_same 80 = .ok (.aload_n 0, 1) := by decide +kernel
theorem dX9_same_81 : decode cX9_same 81 = .ok (.getfield 60, 3) := by decide +kernel
theorem dX9_same_84 : decode cX9_same 84 = .ok (.iload_n 2, 1) := by decide +kernel
theorem dX9_same_85 : decode cX9_same 85 = .ok (.iaload, 1) := by decide +kernel
theorem dX9_same_86 : decode cX9_same 86 = .ok (.if_icmp .ne 7, 3) := by decide +kernel
theorem dX9_same_89 : decode cX9_same 89 = .ok (.iconst 4, 1) := by decide +kernel
theorem dX9_same_90 : decode cX9_same 90 = .ok (.goto 4, 3) := by decide +kernel
theorem dX9_same_93 : decode cX9_same 93 = .ok (.iconst 0, 1) := by decide +kernel
theorem dX9_same_94 : decode cX9_same 94 = .ok (.iadd, 1) := by decide +kernel
theorem dX9_same_95 : decode cX9_same 95 = .ok (.ireturn, 1) := by decide +kernel
theorem dX9_worthOf_0 : decode cX9_worthOf 0 = .ok (.iload_n 1, 1) := by decide +kernel
theorem dX9_worthOf_1 : decode cX9_worthOf 1 = .ok (.iconst (-1), 1) := by decide +kernel
theorem dX9_worthOf_2 : decode cX9_worthOf 2 = .ok (.if_icmp .ne 7, 3) := by decide +kernel
theorem dX9_worthOf_5 : decode cX9_worthOf 5 = .ok (.iconst (-1), 1) := by decide +kernel
theorem dX9_worthOf_6 : decode cX9_worthOf 6 = .ok (.goto 9, 3) := by decide +kernel
theorem dX9_worthOf_9 : decode cX9_worthOf 9 = .ok (.aload_n 0, 1) := by decide +kernel
theorem dX9_worthOf_10 : decode cX9_worthOf 10 = .ok (.getfield 32, 3) := by decide +kernel
theorem dX9_worthOf_13 : decode cX9_worthOf 13 = .ok (.iload_n 1, 1) := by decide +kernel
theorem dX9_worthOf_14 : decode cX9_worthOf 14 = .ok (.iaload, 1) := by decide +kernel
theorem dX9_worthOf_15 : decode cX9_worthOf 15 = .ok (.ireturn, 1) := by decide +kernel
theorem dX9_told_0 : decode cX9_told 0 = .ok (.aload_n 0, 1) := by decide +kernel
theorem dX9_told_1 : decode cX9_told 1 = .ok (.iload_n 1, 1) := by decide +kernel
theorem dX9_told_2 : decode cX9_told 2 = .ok (.invokevirtual 172, 3) := by decide +kernel
theorem dX9_told_5 : decode cX9_told 5 = .ok (.ifCond .eq 13, 3) := by decide +kernel
theorem dX9_told_8 : decode cX9_told 8 = .ok (.iload_n 2, 1) := by decide +kernel
theorem dX9_told_9 : decode cX9_told 9 = .ok (.iconst 0, 1) := by decide +kernel
theorem dX9_told_10 : decode cX9_told 10 = .ok (.bipush 9, 2) := by decide +kernel
theorem dX9_told_12 : decode cX9_told 12 = .ok (.invokestatic 138, 3) := by decide +kernel
theorem dX9_told_15 : decode cX9_told 15 = .ok (.ifCond .ne 5, 3) := by decide +kernel
theorem dX9_told_18 : decode cX9_told 18 = .ok (.iconst (-1), 1) := by decide +kernel
theorem dX9_told_19 : decode cX9_told 19 = .ok (.ireturn, 1) := by decide +kernel
theorem dX9_told_20 : decode cX9_told 20 = .ok (.iload_n 2, 1) := by decide +kernel
theorem dX9_told_21 : decode cX9_told 21 = .ok (.ifCond .ne 10, 3) := by decide +kernel
theorem dX9_told_24 : decode cX9_told 24 = .ok (.aload_n 0, 1) := by decide +kernel
theorem dX9_told_25 : decode cX9_told 25 = .ok (.getfield 42, 3) := by decide +kernel
theorem dX9_told_28 : decode cX9_told 28 = .ok (.iload_n 1, 1) := by decide +kernel
theorem dX9_told_29 : decode cX9_told 29 = .ok (.iaload, 1) := by decide +kernel
theorem dX9_told_30 : decode cX9_told 30 = .ok (.ireturn, 1) := by decide +kernel
theorem dX9_told_31 : decode cX9_told 31 = .ok (.aload_n 0, 1) := by decide +kernel
theorem dX9_told_32 : decode cX9_told 32 = .ok (.getfield 48, 3) := by decide +kernel
theorem dX9_told_35 : decode cX9_told 35 = .ok (.iload_n 1, 1) := by decide +kernel
theorem dX9_told_36 : decode cX9_told 36 = .ok (.iconst 2, 1) := by decide +kernel
theorem dX9_told_37 : decode cX9_told 37 = .ok (.idiv, 1) := by decide +kernel
theorem dX9_told_38 : decode cX9_told 38 = .ok (.baload, 1) := by decide +kernel
theorem dX9_told_39 : decode cX9_told 39 = .ok (.ifCond .ne 5, 3) := by decide +kernel
theorem dX9_told_42 : decode cX9_told 42 = .ok (.iconst (-1), 1) := by decide +kernel
theorem dX9_told_43 : decode cX9_told 43 = .ok (.ireturn, 1) := by decide +kernel
theorem dX9_told_44 : decode cX9_told 44 = .ok (.iload_n 2, 1) := by decide +kernel
theorem dX9_told_45 : decode cX9_told 45 = .ok (.tableswitch 120 1 8 #[47, 58, 70, 81, 92, 99, 106, 113], 47) := by decide +kernel
theorem dX9_told_92 : decode cX9_told 92 = .ok (.aload_n 0, 1) := by decide +kernel
theorem dX9_told_93 : decode cX9_told 93 = .ok (.aload_n 0, 1) := by decide +kernel
theorem dX9_told_94 : decode cX9_told 94 = .ok (.getfield 51, 3) := by decide +kernel
theorem dX9_told_97 : decode cX9_told 97 = .ok (.iload_n 1, 1) := by decide +kernel
theorem dX9_told_98 : decode cX9_told 98 = .ok (.iaload, 1) := by decide +kernel
theorem dX9_told_99 : decode cX9_told 99 = .ok (.invokevirtual 152, 3) := by decide +kernel
theorem dX9_told_102 : decode cX9_told 102 = .ok (.ireturn, 1) := by decide +kernel
theorem dX9_told_103 : decode cX9_told 103 = .ok (.aload_n 0, 1) := by decide +kernel
theorem dX9_told_104 : decode cX9_told 104 = .ok (.getfield 32, 3) := by decide +kernel
theorem dX9_told_107 : decode cX9_told 107 = .ok (.aload_n 0, 1) := by decide +kernel
theorem dX9_told_108 : decode cX9_told 108 = .ok (.getfield 54, 3) := by decide +kernel
theorem dX9_told_111 : decode cX9_told 111 = .ok (.iload_n 1, 1) := by decide +kernel
theorem dX9_told_112 : decode cX9_told 112 = .ok (.iaload, 1) := by decide +kernel
theorem dX9_told_113 : decode cX9_told 113 = .ok (.iaload, 1) := by decide +kernel
theorem dX9_told_114 : decode cX9_told 114 = .ok (.ireturn, 1) := by decide +kernel
theorem dX9_told_115 : decode cX9_told 115 = .ok (.aload_n 0, 1) := by decide +kernel
theorem dX9_told_116 : decode cX9_told 116 = .ok (.aload_n 0, 1) := by decide +kernel
theorem dX9_told_117 : decode cX9_told 117 = .ok (.getfield 57, 3) := by decide +kernel
theorem dX9_told_120 : decode cX9_told 120 = .ok (.iload_n 1, 1) := by decide +kernel
theorem dX9_told_121 : decode cX9_told 121 = .ok (.iaload, 1) := by decide +kernel
theorem dX9_told_122 : decode cX9_told 122 = .ok (.invokevirtual 241, 3) := by decide +kernel
theorem dX9_told_125 : decode cX9_told 125 = .ok (.ireturn, 1) := by decide +kernel
theorem dX9_told_126 : decode cX9_told 126 = .ok (.aload_n 0, 1) := by decide +kernel
theorem dX9_told_127 : decode cX9_told 127 = .ok (.aload_n 0, 1) := by decide +kernel
theorem dX9_told_128 : decode cX9_told 128 = .ok (.getfield 60, 3) := by decide +kernel
theorem dX9_told_131 : decode cX9_told 131 = .ok (.iload_n 1, 1) := by decide +kernel
theorem dX9_told_132 : decode cX9_told 132 = .ok (.iaload, 1) := by decide +kernel
theorem dX9_told_133 : decode cX9_told 133 = .ok (.invokevirtual 241, 3) := by decide +kernel
theorem dX9_told_136 : decode cX9_told 136 = .ok (.ireturn, 1) := by decide +kernel
theorem dX9_told_137 : decode cX9_told 137 = .ok (.aload_n 0, 1) := by decide +kernel
theorem dX9_told_138 : decode cX9_told 138 = .ok (.getfield 63, 3) := by decide +kernel
theorem dX9_told_141 : decode cX9_told 141 = .ok (.iload_n 1, 1) := by decide +kernel
theorem dX9_told_142 : decode cX9_told 142 = .ok (.iaload, 1) := by decide +kernel
theorem dX9_told_143 : decode cX9_told 143 = .ok (.ireturn, 1) := by decide +kernel
theorem dX9_told_144 : decode cX9_told 144 = .ok (.aload_n 0, 1) := by decide +kernel
theorem dX9_told_145 : decode cX9_told 145 = .ok (.getfield 66, 3) := by decide +kernel
theorem dX9_told_148 : decode cX9_told 148 = .ok (.iload_n 1, 1) := by decide +kernel
theorem dX9_told_149 : decode cX9_told 149 = .ok (.iaload, 1) := by decide +kernel
theorem dX9_told_150 : decode cX9_told 150 = .ok (.ireturn, 1) := by decide +kernel
theorem dX9_told_151 : decode cX9_told 151 = .ok (.aload_n 0, 1) := by decide +kernel
theorem dX9_told_152 : decode cX9_told 152 = .ok (.getfield 69, 3) := by decide +kernel
theorem dX9_told_155 : decode cX9_told 155 = .ok (.iload_n 1, 1) := by decide +kernel
theorem dX9_told_156 : decode cX9_told 156 = .ok (.iaload, 1) := by decide +kernel
theorem dX9_told_157 : decode cX9_told 157 = .ok (.ireturn, 1) := by decide +kernel
theorem dX9_told_158 : decode cX9_told 158 = .ok (.aload_n 0, 1) := by decide +kernel
theorem dX9_told_159 : decode cX9_told 159 = .ok (.getfield 72, 3) := by decide +kernel
theorem dX9_told_162 : decode cX9_told 162 = .ok (.iload_n 1, 1) := by decide +kernel
theorem dX9_told_163 : decode cX9_told 163 = .ok (.iaload, 1) := by decide +kernel
theorem dX9_told_164 : decode cX9_told 164 = .ok (.ireturn, 1) := by decide +kernel
theorem dX9_told_165 : decode cX9_told 165 = .ok (.aload_n 0, 1) := by decide +kernel
theorem dX9_told_166 : decode cX9_told 166 = .ok (.getfield 81, 3) := by decide +kernel
theorem dX9_told_169 : decode cX9_told 169 = .ok (.iload_n 1, 1) := by decide +kernel
theorem dX9_told_170 : decode cX9_told 170 = .ok (.iaload, 1) := by decide +kernel
theorem dX9_told_171 : decode cX9_told 171 = .ok (.ireturn, 1) := by decide +kernel
theorem dX9_skipped_0 : decode cX9_skipped 0 = .ok (.aload_n 0, 1) := by decide +kernel
theorem dX9_skipped_1 : decode cX9_skipped 1 = .ok (.iload_n 1, 1) := by decide +kernel
theorem dX9_skipped_2 : decode cX9_skipped 2 = .ok (.invokevirtual 172, 3) := by decide +kernel
theorem dX9_skipped_5 : decode cX9_skipped 5 = .ok (.ifCond .eq 28, 3) := by decide +kernel
theorem dX9_skipped_8 : decode cX9_skipped 8 = .ok (.iload_n 2, 1) := by decide +kernel
theorem dX9_skipped_9 : decode cX9_skipped 9 = .ok (.iconst 0, 1) := by decide +kernel
theorem dX9_skipped_10 : decode cX9_skipped 10 = .ok (.aload_n 0, 1) := by decide +kernel
theorem dX9_skipped_11 : decode cX9_skipped 11 = .ok (.getfield 81, 3) := by decide +kernel
theorem dX9_skipped_14 : decode cX9_skipped 14 = .ok (.iload_n 1, 1) := by decide +kernel
theorem dX9_skipped_15 : decode cX9_skipped 15 = .ok (.iaload, 1) := by decide +kernel
theorem dX9_skipped_16 : decode cX9_skipped 16 = .ok (.iconst 1, 1) := by decide +kernel
theorem dX9_skipped_17 : decode cX9_skipped 17 = .ok (.isub, 1) := by decide +kernel
theorem dX9_skipped_18 : decode cX9_skipped 18 = .ok (.invokestatic 138, 3) := by decide +kernel
theorem dX9_skipped_21 : decode cX9_skipped 21 = .ok (.ifCond .eq 12, 3) := by decide +kernel
theorem dX9_skipped_24 : decode cX9_skipped 24 = .ok (.iload_n 3, 1) := by decide +kernel
theorem dX9_skipped_25 : decode cX9_skipped 25 = .ok (.iconst 0, 1) := by decide +kernel
theorem dX9_skipped_26 : decode cX9_skipped 26 = .ok (.iconst 3, 1) := by decide +kernel
theorem dX9_skipped_27 : decode cX9_skipped 27 = .ok (.invokestatic 138, 3) := by decide +kernel
theorem dX9_skipped_30 : decode cX9_skipped 30 = .ok (.ifCond .ne 5, 3) := by decide +kernel
theorem dX9_skipped_33 : decode cX9_skipped 33 = .ok (.iconst (-1), 1) := by decide +kernel
theorem dX9_skipped_34 : decode cX9_skipped 34 = .ok (.ireturn, 1) := by decide +kernel
theorem dX9_skipped_35 : decode cX9_skipped 35 = .ok (.bipush 12, 2) := by decide +kernel
theorem dX9_skipped_37 : decode cX9_skipped 37 = .ok (.iload_n 1, 1) := by decide +kernel
theorem dX9_skipped_38 : decode cX9_skipped 38 = .ok (.imul, 1) := by decide +kernel
theorem dX9_skipped_39 : decode cX9_skipped 39 = .ok (.iload_n 2, 1) := by decide +kernel
theorem dX9_skipped_40 : decode cX9_skipped 40 = .ok (.iadd, 1) := by decide +kernel
theorem dX9_skipped_41 : decode cX9_skipped 41 = .ok (.istore 4, 2) := by decide +kernel
theorem dX9_skipped_43 : decode cX9_skipped 43 = .ok (.iload_n 3, 1) := by decide +kernel
theorem dX9_skipped_44 : decode cX9_skipped 44 = .ok (.ifCond .ne 13, 3) := by decide +kernel
theorem dX9_skipped_47 : decode cX9_skipped 47 = .ok (.aload_n 0, 1) := by decide +kernel
theorem dX9_skipped_48 : decode cX9_skipped 48 = .ok (.getfield 84, 3) := by decide +kernel
theorem dX9_skipped_51 : decode cX9_skipped 51 = .ok (.iload 4, 2) := by decide +kernel
theorem dX9_skipped_53 : decode cX9_skipped 53 = .ok (.iaload, 1) := by decide +kernel
theorem dX9_skipped_54 : decode cX9_skipped 54 = .ok (.goto 45, 3) := by decide +kernel
theorem dX9_skipped_57 : decode cX9_skipped 57 = .ok (.iload_n 3, 1) := by decide +kernel
theorem dX9_skipped_58 : decode cX9_skipped 58 = .ok (.iconst 1, 1) := by decide +kernel
theorem dX9_skipped_59 : decode cX9_skipped 59 = .ok (.if_icmp .ne 13, 3) := by decide +kernel
theorem dX9_skipped_62 : decode cX9_skipped 62 = .ok (.aload_n 0, 1) := by decide +kernel
theorem dX9_skipped_63 : decode cX9_skipped 63 = .ok (.getfield 87, 3) := by decide +kernel
theorem dX9_skipped_66 : decode cX9_skipped 66 = .ok (.iload 4, 2) := by decide +kernel
theorem dX9_skipped_68 : decode cX9_skipped 68 = .ok (.iaload, 1) := by decide +kernel
theorem dX9_skipped_69 : decode cX9_skipped 69 = .ok (.goto 30, 3) := by decide +kernel
theorem dX9_skipped_72 : decode cX9_skipped 72 = .ok (.iload_n 3, 1) := by decide +kernel
theorem dX9_skipped_73 : decode cX9_skipped 73 = .ok (.iconst 2, 1) := by decide +kernel
theorem dX9_skipped_74 : decode cX9_skipped 74 = .ok (.if_icmp .ne 18, 3) := by decide +kernel
theorem dX9_skipped_77 : decode cX9_skipped 77 = .ok (.aload_n 0, 1) := by decide +kernel
theorem dX9_skipped_78 : decode cX9_skipped 78 = .ok (.getfield 32, 3) := by decide +kernel
theorem dX9_skipped_81 : decode cX9_skipped 81 = .ok (.aload_n 0, 1) := by decide +kernel
theorem dX9_skipped_82 : decode cX9_skipped 82 = .ok (.getfield 90, 3) := by decide +kernel
theorem dX9_skipped_85 : decode cX9_skipped 85 = .ok (.iload 4, 2) := by decide +kernel
theorem dX9_skipped_87 : decode cX9_skipped 87 = .ok (.iaload, 1) := by decide +kernel
theorem dX9_skipped_88 : decode cX9_skipped 88 = .ok (.iaload, 1) := by decide +kernel
theorem dX9_skipped_89 : decode cX9_skipped 89 = .ok (.goto 10, 3) := by decide +kernel
theorem dX9_skipped_92 : decode cX9_skipped 92 = .ok (.aload_n 0, 1) := by decide +kernel
theorem dX9_skipped_93 : decode cX9_skipped 93 = .ok (.getfield 93, 3) := by decide +kernel
theorem dX9_skipped_96 : decode cX9_skipped 96 = .ok (.iload 4, 2) := by decide +kernel
theorem dX9_skipped_98 : decode cX9_skipped 98 = .ok (.iaload, 1) := by decide +kernel
theorem dX9_skipped_99 : decode cX9_skipped 99 = .ok (.ireturn, 1) := by decide +kernel
theorem dX9_letter_0 : decode cX9_letter 0 = .ok (.aload_n 0, 1) := by decide +kernel
theorem dX9_letter_1 : decode cX9_letter 1 = .ok (.iload_n 1, 1) := by decide +kernel
theorem dX9_letter_2 : decode cX9_letter 2 = .ok (.invokevirtual 191, 3) := by decide +kernel
theorem dX9_letter_5 : decode cX9_letter 5 = .ok (.ifCond .eq 12, 3) := by decide +kernel
theorem dX9_letter_8 : decode cX9_letter 8 = .ok (.iload_n 2, 1) := by decide +kernel
theorem dX9_letter_9 : decode cX9_letter 9 = .ok (.iconst 0, 1) := by decide +kernel
theorem dX9_letter_10 : decode cX9_letter 10 = .ok (.iconst 5, 1) := by decide +kernel
theorem dX9_letter_11 : decode cX9_letter 11 = .ok (.invokestatic 138, 3) := by decide +kernel
theorem dX9_letter_14 : decode cX9_letter 14 = .ok (.ifCond .ne 5, 3) := by decide +kernel
theorem dX9_letter_17 : decode cX9_letter 17 = .ok (.iconst (-1), 1) := by decide +kernel
theorem dX9_letter_18 : decode cX9_letter 18 = .ok (.ireturn, 1) := by decide +kernel
theorem dX9_letter_19 : decode cX9_letter 19 = .ok (.iload_n 2, 1) := by decide +kernel
theorem dX9_letter_20 : decode cX9_letter 20 = .ok (.tableswitch 71 0 4 #[36, 43, 50, 57, 64], 36) := by decide +kernel
theorem dX9_letter_56 : decode cX9_letter 56 = .ok (.aload_n 0, 1) := by decide +kernel
theorem dX9_letter_57 : decode cX9_letter 57 = .ok (.getfield 96, 3) := by decide +kernel
theorem dX9_letter_60 : decode cX9_letter 60 = .ok (.iload_n 1, 1) := by decide +kernel
theorem dX9_letter_61 : decode cX9_letter 61 = .ok (.iaload, 1) := by decide +kernel
theorem dX9_letter_62 : decode cX9_letter 62 = .ok (.ireturn, 1) := by decide +kernel
theorem dX9_letter_63 : decode cX9_letter 63 = .ok (.aload_n 0, 1) := by decide +kernel
theorem dX9_letter_64 : decode cX9_letter 64 = .ok (.getfield 99, 3) := by decide +kernel
theorem dX9_letter_67 : decode cX9_letter 67 = .ok (.iload_n 1, 1) := by decide +kernel
theorem dX9_letter_68 : decode cX9_letter 68 = .ok (.iaload, 1) := by decide +kernel
theorem dX9_letter_69 : decode cX9_letter 69 = .ok (.ireturn, 1) := by decide +kernel
theorem dX9_letter_70 : decode cX9_letter 70 = .ok (.aload_n 0, 1) := by decide +kernel
theorem dX9_letter_71 : decode cX9_letter 71 = .ok (.getfield 102, 3) := by decide +kernel
theorem dX9_letter_74 : decode cX9_letter 74 = .ok (.iload_n 1, 1) := by decide +kernel
theorem dX9_letter_75 : decode cX9_letter 75 = .ok (.iaload, 1) := by decide +kernel
theorem dX9_letter_76 : decode cX9_letter 76 = .ok (.ireturn, 1) := by decide +kernel
theorem dX9_letter_77 : decode cX9_letter 77 = .ok (.aload_n 0, 1) := by decide +kernel
theorem dX9_letter_78 : decode cX9_letter 78 = .ok (.getfield 105, 3) := by decide +kernel
theorem dX9_letter_81 : decode cX9_letter 81 = .ok (.iload_n 1, 1) := by decide +kernel
theorem dX9_letter_82 : decode cX9_letter 82 = .ok (.iaload, 1) := by decide +kernel
theorem dX9_letter_83 : decode cX9_letter 83 = .ok (.ireturn, 1) := by decide +kernel
theorem dX9_letter_84 : decode cX9_letter 84 = .ok (.aload_n 0, 1) := by decide +kernel
theorem dX9_letter_85 : decode cX9_letter 85 = .ok (.getfield 108, 3) := by decide +kernel
theorem dX9_letter_88 : decode cX9_letter 88 = .ok (.iload_n 1, 1) := by decide +kernel
theorem dX9_letter_89 : decode cX9_letter 89 = .ok (.iaload, 1) := by decide +kernel
theorem dX9_letter_90 : decode cX9_letter 90 = .ok (.ireturn, 1) := by decide +kernel
theorem dX9_letter_91 : decode cX9_letter 91 = .ok (.aload_n 0, 1) := by decide +kernel
theorem dX9_letter_92 : decode cX9_letter 92 = .ok (.getfield 111, 3) := by decide +kernel
theorem dX9_letter_95 : decode cX9_letter 95 = .ok (.iload_n 1, 1) := by decide +kernel
theorem dX9_letter_96 : decode cX9_letter 96 = .ok (.iaload, 1) := by decide +kernel
theorem dX9_letter_97 : decode cX9_letter 97 = .ok (.ireturn, 1) := by decide +kernel
theorem dX9_knownThings_0 : decode cX9_knownThings 0 = .ok (.aload_n 0, 1) := by decide +kernel
theorem dX9_knownThings_1 : decode cX9_knownThings 1 = .ok (.invokevirtual 238, 3) := by decide +kernel
theorem dX9_knownThings_4 : decode cX9_knownThings 4 = .ok (.iconst 0, 1) := by decide +kernel
theorem dX9_knownThings_5 : decode cX9_knownThings 5 = .ok (.istore_n 1, 1) := by decide +kernel
theorem dX9_knownThings_6 : decode cX9_knownThings 6 = .ok (.iconst 0, 1) := by decide +kernel
theorem dX9_knownThings_7 : decode cX9_knownThings 7 = .ok (.istore_n 2, 1) := by decide +kernel
theorem dX9_knownThings_8 : decode cX9_knownThings 8 = .ok (.iload_n 2, 1) := by decide +kernel
theorem dX9_knownThings_9 : decode cX9_knownThings 9 = .ok (.aload_n 0, 1) := by decide +kernel
theorem dX9_knownThings_10 : decode cX9_knownThings 10 = .ok (.getfield 149, 3) := by decide +kernel
theorem dX9_knownThings_13 : decode cX9_knownThings 13 = .ok (.if_icmp .ge 27, 3) := by decide +kernel
theorem dX9_knownThings_16 : decode cX9_knownThings 16 = .ok (.iload_n 1, 1) := by decide +kernel
theorem dX9_knownThings_17 : decode cX9_knownThings 17 = .ok (.aload_n 0, 1) := by decide +kernel
theorem dX9_knownThings_18 : decode cX9_knownThings 18 = .ok (.getfield 39, 3) := by decide +kernel
theorem dX9_knownThings_21 : decode cX9_knownThings 21 = .ok (.iload_n 2, 1) := by decide +kernel
theorem dX9_knownThings_22 : decode cX9_knownThings 22 = .ok (.iaload, 1) := by decide +kernel
theorem dX9_knownThings_23 : decode cX9_knownThings 23 = .ok (.iconst (-1), 1) := by decide +kernel
theorem dX9_knownThings_24 : decode cX9_knownThings 24 = .ok (.if_icmp .eq 7, 3) := by decide +kernel
theorem dX9_knownThings_27 : decode cX9_knownThings 27 = .ok (.iconst 1, 1) := by decide +kernel
theorem dX9_knownThings_28 : decode cX9_knownThings 28 = .ok (.goto 4, 3) := by decide +kernel
theorem dX9_knownThings_31 : decode cX9_knownThings 31 = .ok (.iconst 0, 1) := by decide +kernel
theorem dX9_knownThings_32 : decode cX9_knownThings 32 = .ok (.iadd, 1) := by decide +kernel
theorem dX9_knownThings_33 : decode cX9_knownThings 33 = .ok (.istore_n 1, 1) := by decide +kernel
theorem dX9_knownThings_34 : decode cX9_knownThings 34 = .ok (.iinc 2 1, 3) := by decide +kernel
theorem dX9_knownThings_37 : decode cX9_knownThings 37 = .ok (.goto (-29), 3) := by decide +kernel
theorem dX9_knownThings_40 : decode cX9_knownThings 40 = .ok (.iload_n 1, 1) := by decide +kernel
theorem dX9_knownThings_41 : decode cX9_knownThings 41 = .ok (.ireturn, 1) := by decide +kernel
theorem dX9_count_0 : decode cX9_count 0 = .ok (.iload_n 1, 1) := by decide +kernel
theorem dX9_count_1 : decode cX9_count 1 = .ok (.ifCond .ne 10, 3) := by decide +kernel
theorem dX9_count_4 : decode cX9_count 4 = .ok (.aload_n 0, 1) := by decide +kernel
theorem dX9_count_5 : decode cX9_count 5 = .ok (.getfield 135, 3) := by decide +kernel
theorem dX9_count_8 : decode cX9_count 8 = .ok (.goto 52, 3) := by decide +kernel
theorem dX9_count_11 : decode cX9_count 11 = .ok (.iload_n 1, 1) := by decide +kernel
theorem dX9_count_12 : decode cX9_count 12 = .ok (.iconst 1, 1) := by decide +kernel
theorem dX9_count_13 : decode cX9_count 13 = .ok (.if_icmp .ne 10, 3) := by decide +kernel
theorem dX9_count_16 : decode cX9_count 16 = .ok (.aload_n 0, 1) := by decide +kernel
theorem dX9_count_17 : decode cX9_count 17 = .ok (.getfield 142, 3) := by decide +kernel
theorem dX9_count_20 : decode cX9_count 20 = .ok (.goto 40, 3) := by decide +kernel
theorem dX9_count_23 : decode cX9_count 23 = .ok (.iload_n 1, 1) := by decide +kernel
theorem dX9_count_24 : decode cX9_count 24 = .ok (.iconst 2, 1) := by decide +kernel
theorem dX9_count_25 : decode cX9_count 25 = .ok (.if_icmp .ne 10, 3) := by decide +kernel
theorem dX9_count_28 : decode cX9_count 28 = .ok (.aload_n 0, 1) := by decide +kernel
theorem dX9_count_29 : decode cX9_count 29 = .ok (.getfield 149, 3) := by decide +kernel
theorem dX9_count_32 : decode cX9_count 32 = .ok (.goto 28, 3) := by decide +kernel
theorem dX9_count_35 : decode cX9_count 35 = .ok (.iload_n 1, 1) := by decide +kernel
theorem dX9_count_36 : decode cX9_count 36 = .ok (.iconst 3, 1) := by decide +kernel
theorem dX9_count_37 : decode cX9_count 37 = .ok (.if_icmp .ne 10, 3) := by decide +kernel
theorem dX9_count_40 : decode cX9_count 40 = .ok (.aload_n 0, 1) := by decide +kernel
theorem dX9_count_41 : decode cX9_count 41 = .ok (.invokevirtual 244, 3) := by decide +kernel
theorem dX9_count_44 : decode cX9_count 44 = .ok (.goto 16, 3) := by decide +kernel
theorem dX9_count_47 : decode cX9_count 47 = .ok (.iload_n 1, 1) := by decide +kernel
theorem dX9_count_48 : decode cX9_count 48 = .ok (.iconst 4, 1) := by decide +kernel
theorem dX9_count_49 : decode cX9_count 49 = .ok (.if_icmp .ne 10, 3) := by decide +kernel
theorem dX9_count_52 : decode cX9_count 52 = .ok (.aload_n 0, 1) := by decide +kernel
theorem dX9_count_53 : decode cX9_count 53 = .ok (.getfield 248, 3) := by decide +kernel
theorem dX9_count_56 : decode cX9_count 56 = .ok (.goto 4, 3) := by decide +kernel
theorem dX9_count_59 : decode cX9_count 59 = .ok (.iconst (-1), 1) := by decide +kernel
theorem dX9_count_60 : decode cX9_count 60 = .ok (.ireturn, 1) := by decide +kernel
theorem dX9_puts_0 : decode cX9_puts 0 = .ok (.aload_n 0, 1) := by decide +kernel
theorem dX9_puts_1 : decode cX9_puts 1 = .ok (.getfield 120, 3) := by decide +kernel
theorem dX9_puts_4 : decode cX9_puts 4 = .ok (.iload_n 1, 1) := by decide +kernel
theorem dX9_puts_5 : decode cX9_puts 5 = .ok (.iload_n 3, 1) := by decide +kernel
theorem dX9_puts_6 : decode cX9_puts 6 = .ok (.iconst (-1), 1) := by decide +kernel
theorem dX9_puts_7 : decode cX9_puts 7 = .ok (.if_icmp .ne 7, 3) := by decide +kernel
theorem dX9_puts_10 : decode cX9_puts 10 = .ok (.iconst 0, 1) := by decide +kernel
theorem dX9_puts_11 : decode cX9_puts 11 = .ok (.goto 4, 3) := by decide +kernel
theorem dX9_puts_14 : decode cX9_puts 14 = .ok (.iload_n 2, 1) := by decide +kernel
theorem dX9_puts_15 : decode cX9_puts 15 = .ok (.iastore, 1) := by decide +kernel
theorem dX9_puts_16 : decode cX9_puts 16 = .ok (.aload_n 0, 1) := by decide +kernel
theorem dX9_puts_17 : decode cX9_puts 17 = .ok (.getfield 123, 3) := by decide +kernel
theorem dX9_puts_20 : decode cX9_puts 20 = .ok (.iload_n 1, 1) := by decide +kernel
theorem dX9_puts_21 : decode cX9_puts 21 = .ok (.iload_n 3, 1) := by decide +kernel
theorem dX9_puts_22 : decode cX9_puts 22 = .ok (.iastore, 1) := by decide +kernel
theorem dX9_puts_23 : decode cX9_puts 23 = .ok (.aload_n 0, 1) := by decide +kernel
theorem dX9_puts_24 : decode cX9_puts 24 = .ok (.iconst 1, 1) := by decide +kernel
theorem dX9_puts_25 : decode cX9_puts 25 = .ok (.invokevirtual 166, 3) := by decide +kernel
theorem dX9_puts_28 : decode cX9_puts 28 = .ok (.ireturn, 1) := by decide +kernel
theorem dX9_hold_0 : decode cX9_hold 0 = .ok (.iload_n 2, 1) := by decide +kernel
theorem dX9_hold_1 : decode cX9_hold 1 = .ok (.ifCond .eq 38, 3) := by decide +kernel
theorem dX9_hold_4 : decode cX9_hold 4 = .ok (.iload_n 2, 1) := by decide +kernel
theorem dX9_hold_5 : decode cX9_hold 5 = .ok (.iconst 1, 1) := by decide +kernel
theorem dX9_hold_6 : decode cX9_hold 6 = .ok (.iconst 2, 1) := by decide +kernel
theorem dX9_hold_7 : decode cX9_hold 7 = .ok (.invokestatic 138, 3) := by decide +kernel
theorem dX9_hold_10 : decode cX9_hold 10 = .ok (.ifCond .eq 11, 3) := by decide +kernel
theorem dX9_hold_13 : decode cX9_hold 13 = .ok (.aload_n 0, 1) := by decide +kernel
theorem dX9_hold_14 : decode cX9_hold 14 = .ok (.iload_n 3, 1) := by decide +kernel
theorem dX9_hold_15 : decode cX9_hold 15 = .ok (.invokevirtual 191, 3) := by decide +kernel
theorem dX9_hold_18 : decode cX9_hold 18 = .ok (.ifCond .ne 21, 3) := by decide +kernel
theorem dX9_hold_21 : decode cX9_hold 21 = .ok (.iload_n 2, 1) := by decide +kernel
theorem dX9_hold_22 : decode cX9_hold 22 = .ok (.iconst 3, 1) := by decide +kernel
theorem dX9_hold_23 : decode cX9_hold 23 = .ok (.bipush 7, 2) := by decide +kernel
theorem dX9_hold_25 : decode cX9_hold 25 = .ok (.invokestatic 138, 3) := by decide +kernel
theorem dX9_hold_28 : decode cX9_hold 28 = .ok (.ifCond .eq 15, 3) := by decide +kernel
theorem dX9_hold_31 : decode cX9_hold 31 = .ok (.aload_n 0, 1) := by decide +kernel
theorem dX9_hold_32 : decode cX9_hold 32 = .ok (.iload_n 3, 1) := by decide +kernel
theorem dX9_hold_33 : decode cX9_hold 33 = .ok (.invokevirtual 172, 3) := by decide +kernel
theorem dX9_hold_36 : decode cX9_hold 36 = .ok (.ifCond .eq 7, 3) := by decide +kernel
theorem dX9_hold_39 : decode cX9_hold 39 = .ok (.iconst 1, 1) := by decide +kernel
theorem dX9_hold_40 : decode cX9_hold 40 = .ok (.goto 4, 3) := by decide +kernel
theorem dX9_hold_43 : decode cX9_hold 43 = .ok (.iconst 0, 1) := by decide +kernel
theorem dX9_hold_44 : decode cX9_hold 44 = .ok (.istore 4, 2) := by decide +kernel
theorem dX9_hold_46 : decode cX9_hold 46 = .ok (.iload_n 1, 1) := by decide +kernel
theorem dX9_hold_47 : decode cX9_hold 47 = .ok (.iconst 0, 1) := by decide +kernel
theorem dX9_hold_48 : decode cX9_hold 48 = .ok (.bipush 7, 2) := by decide +kernel
theorem dX9_hold_50 : decode cX9_hold 50 = .ok (.invokestatic 138, 3) := by decide +kernel
theorem dX9_hold_53 : decode cX9_hold 53 = .ok (.ifCond .eq 8, 3) := by decide +kernel
theorem dX9_hold_56 : decode cX9_hold 56 = .ok (.iload 4, 2) := by decide +kernel
theorem dX9_hold_58 : decode cX9_hold 58 = .ok (.ifCond .ne 9, 3) := by decide +kernel
theorem dX9_hold_61 : decode cX9_hold 61 = .ok (.aload_n 0, 1) := by decide +kernel
theorem dX9_hold_62 : decode cX9_hold 62 = .ok (.iconst 1, 1) := by decide +kernel
theorem dX9_hold_63 : decode cX9_hold 63 = .ok (.invokevirtual 163, 3) := by decide +kernel
theorem dX9_hold_66 : decode cX9_hold 66 = .ok (.ireturn, 1) := by decide +kernel
theorem dX9_hold_67 : decode cX9_hold 67 = .ok (.iload_n 2, 1) := by decide +kernel
theorem dX9_hold_68 : decode cX9_hold 68 = .ok (.iconst 2, 1) := by decide +kernel
theorem dX9_hold_69 : decode cX9_hold 69 = .ok (.if_icmp .le 20, 3) := by decide +kernel
theorem dX9_hold_72 : decode cX9_hold 72 = .ok (.aload_n 0, 1) := by decide +kernel
theorem dX9_hold_73 : decode cX9_hold 73 = .ok (.getfield 48, 3) := by decide +kernel
theorem dX9_hold_76 : decode cX9_hold 76 = .ok (.iload_n 3, 1) := by decide +kernel
theorem dX9_hold_77 : decode cX9_hold 77 = .ok (.iconst 2, 1) := by decide +kernel
theorem dX9_hold_78 : decode cX9_hold 78 = .ok (.idiv, 1) := by decide +kernel
theorem dX9_hold_79 : decode cX9_hold 79 = .ok (.baload, 1) := by decide +kernel
theorem dX9_hold_80 : decode cX9_hold 80 = .ok (.ifCond .ne 9, 3) := by decide +kernel
theorem dX9_hold_83 : decode cX9_hold 83 = .ok (.aload_n 0, 1) := by decide +kernel
theorem dX9_hold_84 : decode cX9_hold 84 = .ok (.iconst 3, 1) := by decide +kernel
theorem dX9_hold_85 : decode cX9_hold 85 = .ok (.invokevirtual 163, 3) := by decide +kernel
theorem dX9_hold_88 : decode cX9_hold 88 = .ok (.ireturn, 1) := by decide +kernel
theorem dX9_hold_89 : decode cX9_hold 89 = .ok (.iload_n 2, 1) := by decide +kernel
theorem dX9_hold_90 : decode cX9_hold 90 = .ok (.tableswitch 123 0 6 #[42, 50, 63, 71, 84, 97, 110], 42) := by decide +kernel
theorem dX9_hold_132 : decode cX9_hold 132 = .ok (.aload_n 0, 1) := by decide +kernel
theorem dX9_hold_133 : decode cX9_hold 133 = .ok (.iload_n 1, 1) := by decide +kernel
theorem dX9_hold_134 : decode cX9_hold 134 = .ok (.iconst 0, 1) := by decide +kernel
theorem dX9_hold_135 : decode cX9_hold 135 = .ok (.iconst (-1), 1) := by decide +kernel
theorem dX9_hold_136 : decode cX9_hold 136 = .ok (.invokevirtual 251, 3) := by decide +kernel
theorem dX9_hold_139 : decode cX9_hold 139 = .ok (.ireturn, 1) := by decide +kernel
theorem dX9_hold_140 : decode cX9_hold 140 = .ok (.aload_n 0, 1) := by decide +kernel
theorem dX9_hold_141 : decode cX9_hold 141 = .ok (.iload_n 1, 1) := by decide +kernel
theorem dX9_hold_142 : decode cX9_hold 142 = .ok (.iconst 2, 1) := by decide +kernel
theorem dX9_hold_143 : decode cX9_hold 143 = .ok (.aload_n 0, 1) := by decide +kernel
theorem dX9_hold_144 : decode cX9_hold 144 = .ok (.getfield 114, 3) := by decide +kernel
theorem dX9_hold_147 : decode cX9_hold 147 = .ok (.iload_n 3, 1) := by decide +kernel
theorem dX9_hold_148 : decode cX9_hold 148 = .ok (.iaload, 1) := by decide +kernel
theorem dX9_hold_149 : decode cX9_hold 149 = .ok (.invokevirtual 251, 3) := by decide +kernel
theorem dX9_hold_152 : decode cX9_hold 152 = .ok (.ireturn, 1) := by decide +kernel
theorem dX9_hold_153 : decode cX9_hold 153 = .ok (.aload_n 0, 1) := by decide +kernel
theorem dX9_hold_154 : decode cX9_hold 154 = .ok (.iload_n 1, 1) := by decide +kernel
theorem dX9_hold_155 : decode cX9_hold 155 = .ok (.iconst 1, 1) := by decide +kernel
theorem dX9_hold_156 : decode cX9_hold 156 = .ok (.iload_n 3, 1) := by decide +kernel
theorem dX9_hold_157 : decode cX9_hold 157 = .ok (.invokevirtual 251, 3) := by decide +kernel
theorem dX9_hold_160 : decode cX9_hold 160 = .ok (.ireturn, 1) := by decide +kernel
theorem dX9_hold_161 : decode cX9_hold 161 = .ok (.aload_n 0, 1) := by decide +kernel
theorem dX9_hold_162 : decode cX9_hold 162 = .ok (.iload_n 1, 1) := by decide +kernel
theorem dX9_hold_163 : decode cX9_hold 163 = .ok (.iconst 4, 1) := by decide +kernel
theorem dX9_hold_164 : decode cX9_hold 164 = .ok (.aload_n 0, 1) := by decide +kernel
theorem dX9_hold_165 : decode cX9_hold 165 = .ok (.getfield 54, 3) := by decide +kernel
theorem dX9_hold_168 : decode cX9_hold 168 = .ok (.iload_n 3, 1) := by decide +kernel
theorem dX9_hold_169 : decode cX9_hold 169 = .ok (.iaload, 1) := by decide +kernel
theorem dX9_hold_170 : decode cX9_hold 170 = .ok (.invokevirtual 251, 3) := by decide +kernel
theorem dX9_hold_173 : decode cX9_hold 173 = .ok (.ireturn, 1) := by decide +kernel
theorem dX9_hold_174 : decode cX9_hold 174 = .ok (.aload_n 0, 1) := by decide +kernel
theorem dX9_hold_175 : decode cX9_hold 175 = .ok (.iload_n 1, 1) := by decide +kernel
theorem dX9_hold_176 : decode cX9_hold 176 = .ok (.iconst 3, 1) := by decide +kernel
theorem dX9_hold_177 : decode cX9_hold 177 = .ok (.aload_n 0, 1) := by decide +kernel
theorem dX9_hold_178 : decode cX9_hold 178 = .ok (.getfield 57, 3) := by decide +kernel
theorem dX9_hold_181 : decode cX9_hold 181 = .ok (.iload_n 3, 1) := by decide +kernel
theorem dX9_hold_182 : decode cX9_hold 182 = .ok (.iaload, 1) := by decide +kernel
theorem dX9_hold_183 : decode cX9_hold 183 = .ok (.invokevirtual 251, 3) := by decide +kernel
theorem dX9_hold_186 : decode cX9_hold 186 = .ok (.ireturn, 1) := by decide +kernel
theorem dX9_hold_187 : decode cX9_hold 187 = .ok (.aload_n 0, 1) := by decide +kernel
theorem dX9_hold_188 : decode cX9_hold 188 = .ok (.iload_n 1, 1) := by decide +kernel
theorem dX9_hold_189 : decode cX9_hold 189 = .ok (.iconst 3, 1) := by decide +kernel
theorem dX9_hold_190 : decode cX9_hold 190 = .ok (.aload_n 0, 1) := by decide +kernel
theorem dX9_hold_191 : decode cX9_hold 191 = .ok (.getfield 60, 3) := by decide +kernel
theorem dX9_hold_194 : decode cX9_hold 194 = .ok (.iload_n 3, 1) := by decide +kernel
theorem dX9_hold_195 : decode cX9_hold 195 = .ok (.iaload, 1) := by decide +kernel
theorem dX9_hold_196 : decode cX9_hold 196 = .ok (.invokevirtual 251, 3) := by decide +kernel
theorem dX9_hold_199 : decode cX9_hold 199 = .ok (.ireturn, 1) := by decide +kernel
theorem dX9_hold_200 : decode cX9_hold 200 = .ok (.aload_n 0, 1) := by decide +kernel
theorem dX9_hold_201 : decode cX9_hold 201 = .ok (.iload_n 1, 1) := by decide +kernel
theorem dX9_hold_202 : decode cX9_hold 202 = .ok (.iconst 5, 1) := by decide +kernel
theorem dX9_hold_203 : decode cX9_hold 203 = .ok (.aload_n 0, 1) := by decide +kernel
theorem dX9_hold_204 : decode cX9_hold 204 = .ok (.getfield 51, 3) := by decide +kernel
theorem dX9_hold_207 : decode cX9_hold 207 = .ok (.iload_n 3, 1) := by decide +kernel
theorem dX9_hold_208 : decode cX9_hold 208 = .ok (.iaload, 1) := by decide +kernel
theorem dX9_hold_209 : decode cX9_hold 209 = .ok (.invokevirtual 251, 3) := by decide +kernel
theorem dX9_hold_212 : decode cX9_hold 212 = .ok (.ireturn, 1) := by decide +kernel
theorem dX9_hold_213 : decode cX9_hold 213 = .ok (.aload_n 0, 1) := by decide +kernel
theorem dX9_hold_214 : decode cX9_hold 214 = .ok (.getfield 126, 3) := by decide +kernel
theorem dX9_hold_217 : decode cX9_hold 217 = .ok (.iload_n 1, 1) := by decide +kernel
theorem dX9_hold_218 : decode cX9_hold 218 = .ok (.aload_n 0, 1) := by decide +kernel
theorem dX9_hold_219 : decode cX9_hold 219 = .ok (.getfield 93, 3) := by decide +kernel
theorem dX9_hold_222 : decode cX9_hold 222 = .ok (.bipush 12, 2) := by decide +kernel
theorem dX9_hold_224 : decode cX9_hold 224 = .ok (.iload_n 3, 1) := by decide +kernel
theorem dX9_hold_225 : decode cX9_hold 225 = .ok (.imul, 1) := by decide +kernel
theorem dX9_hold_226 : decode cX9_hold 226 = .ok (.iaload, 1) := by decide +kernel
theorem dX9_hold_227 : decode cX9_hold 227 = .ok (.iastore, 1) := by decide +kernel
theorem dX9_hold_228 : decode cX9_hold 228 = .ok (.aload_n 0, 1) := by decide +kernel
theorem dX9_hold_229 : decode cX9_hold 229 = .ok (.iload_n 1, 1) := by decide +kernel
theorem dX9_hold_230 : decode cX9_hold 230 = .ok (.bipush 6, 2) := by decide +kernel
theorem dX9_hold_232 : decode cX9_hold 232 = .ok (.aload_n 0, 1) := by decide +kernel
theorem dX9_hold_233 : decode cX9_hold 233 = .ok (.getfield 81, 3) := by decide +kernel
theorem dX9_hold_236 : decode cX9_hold 236 = .ok (.iload_n 3, 1) := by decide +kernel
theorem dX9_hold_237 : decode cX9_hold 237 = .ok (.iaload, 1) := by decide +kernel
theorem dX9_hold_238 : decode cX9_hold 238 = .ok (.ifCond .ne 7, 3) := by decide +kernel
theorem dX9_hold_241 : decode cX9_hold 241 = .ok (.iconst (-1), 1) := by decide +kernel
theorem dX9_hold_242 : decode cX9_hold 242 = .ok (.goto 12, 3) := by decide +kernel
theorem dX9_hold_245 : decode cX9_hold 245 = .ok (.aload_n 0, 1) := by decide +kernel
theorem dX9_hold_246 : decode cX9_hold 246 = .ok (.getfield 90, 3) := by decide +kernel
theorem dX9_hold_249 : decode cX9_hold 249 = .ok (.bipush 12, 2) := by decide +kernel
theorem dX9_hold_251 : decode cX9_hold 251 = .ok (.iload_n 3, 1) := by decide +kernel
theorem dX9_hold_252 : decode cX9_hold 252 = .ok (.imul, 1) := by decide +kernel
theorem dX9_hold_253 : decode cX9_hold 253 = .ok (.iaload, 1) := by decide +kernel
theorem dX9_hold_254 : decode cX9_hold 254 = .ok (.invokevirtual 251, 3) := by decide +kernel
theorem dX9_hold_257 : decode cX9_hold 257 = .ok (.ireturn, 1) := by decide +kernel
theorem dX9_tray_0 : decode cX9_tray 0 = .ok (.iload_n 1, 1) := by decide +kernel
theorem dX9_tray_1 : decode cX9_tray 1 = .ok (.iconst 0, 1) := by decide +kernel
theorem dX9_tray_2 : decode cX9_tray 2 = .ok (.bipush 7, 2) := by decide +kernel
theorem dX9_tray_4 : decode cX9_tray 4 = .ok (.invokestatic 138, 3) := by decide +kernel
theorem dX9_tray_7 : decode cX9_tray 7 = .ok (.ifCond .eq 12, 3) := by decide +kernel
theorem dX9_tray_10 : decode cX9_tray 10 = .ok (.aload_n 0, 1) := by decide +kernel
theorem dX9_tray_11 : decode cX9_tray 11 = .ok (.getfield 120, 3) := by decide +kernel
theorem dX9_tray_14 : decode cX9_tray 14 = .ok (.iload_n 1, 1) := by decide +kernel
theorem dX9_tray_15 : decode cX9_tray 15 = .ok (.iaload, 1) := by decide +kernel
theorem dX9_tray_16 : decode cX9_tray 16 = .ok (.goto 4, 3) := by decide +kernel
theorem dX9_tray_19 : decode cX9_tray 19 = .ok (.iconst (-1), 1) := by decide +kernel
theorem dX9_tray_20 : decode cX9_tray 20 = .ok (.ireturn, 1) := by decide +kernel
theorem dX9_ran_0 : decode cX9_ran 0 = .ok (.aload_n 0, 1) := by decide +kernel
theorem dX9_ran_1 : decode cX9_ran 1 = .ok (.getfield 248, 3) := by decide +kernel
theorem dX9_ran_4 : decode cX9_ran 4 = .ok (.bipush 40, 2) := by decide +kernel
theorem dX9_ran_6 : decode cX9_ran 6 = .ok (.if_icmp .ge 13, 3) := by decide +kernel
theorem dX9_ran_9 : decode cX9_ran 9 = .ok (.aload_n 0, 1) := by decide +kernel
theorem dX9_ran_10 : decode cX9_ran 10 = .ok (.getfield 129, 3) := by decide +kernel
theorem dX9_ran_13 : decode cX9_ran 13 = .ok (.aload_n 0, 1) := by decide +kernel
theorem dX9_ran_14 : decode cX9_ran 14 = .ok (.getfield 248, 3) := by decide +kernel
theorem dX9_ran_17 : decode cX9_ran 17 = .ok (.iload_n 1, 1) := by decide +kernel
theorem dX9_ran_18 : decode cX9_ran 18 = .ok (.iastore, 1) := by decide +kernel
theorem dX9_ran_19 : decode cX9_ran 19 = .ok (.aload_n 0, 1) := by decide +kernel
theorem dX9_ran_20 : decode cX9_ran 20 = .ok (.dup, 1) := by decide +kernel
theorem dX9_ran_21 : decode cX9_ran 21 = .ok (.getfield 248, 3) := by decide +kernel
theorem dX9_ran_24 : decode cX9_ran 24 = .ok (.iconst 1, 1) := by decide +kernel
theorem dX9_ran_25 : decode cX9_ran 25 = .ok (.iadd, 1) := by decide +kernel
theorem dX9_ran_26 : decode cX9_ran 26 = .ok (.putfield 248, 3) := by decide +kernel
theorem dX9_ran_29 : decode cX9_ran 29 = .ok (.return_, 1) := by decide +kernel
theorem dX9_isChain_0 : decode cX9_isChain 0 = .ok (.iload_n 0, 1) := by decide +kernel
theorem dX9_isChain_1 : decode cX9_isChain 1 = .ok (.iconst 1, 1) := by decide +kernel
theorem dX9_isChain_2 : decode cX9_isChain 2 = .ok (.if_icmp .eq 8, 3) := by decide +kernel
theorem dX9_isChain_5 : decode cX9_isChain 5 = .ok (.iload_n 0, 1) := by decide +kernel
theorem dX9_isChain_6 : decode cX9_isChain 6 = .ok (.iconst 2, 1) := by decide +kernel
theorem dX9_isChain_7 : decode cX9_isChain 7 = .ok (.if_icmp .ne 7, 3) := by decide +kernel
theorem dX9_isChain_10 : decode cX9_isChain 10 = .ok (.iconst 1, 1) := by decide +kernel
theorem dX9_isChain_11 : decode cX9_isChain 11 = .ok (.goto 4, 3) := by decide +kernel
theorem dX9_isChain_14 : decode cX9_isChain 14 = .ok (.iconst 0, 1) := by decide +kernel
theorem dX9_isChain_15 : decode cX9_isChain 15 = .ok (.ireturn, 1) := by decide +kernel
theorem dX9_move_0 : decode cX9_move 0 = .ok (.iload_n 1, 1) := by decide +kernel
theorem dX9_move_1 : decode cX9_move 1 = .ok (.invokestatic 255, 3) := by decide +kernel
theorem dX9_move_4 : decode cX9_move 4 = .ok (.ifCond .eq 21, 3) := by decide +kernel
theorem dX9_move_7 : decode cX9_move 7 = .ok (.aload_n 0, 1) := by decide +kernel
theorem dX9_move_8 : decode cX9_move 8 = .ok (.bipush 20, 2) := by decide +kernel
theorem dX9_move_10 : decode cX9_move 10 = .ok (.invokevirtual 258, 3) := by decide +kernel
theorem dX9_move_13 : decode cX9_move 13 = .ok (.aload_n 0, 1) := by decide +kernel
theorem dX9_move_14 : decode cX9_move 14 = .ok (.bipush 10, 2) := by decide +kernel
theorem dX9_move_16 : decode cX9_move 16 = .ok (.invokevirtual 258, 3) := by decide +kernel
theorem dX9_move_19 : decode cX9_move 19 = .ok (.iload_n 3, 1) := by decide +kernel
theorem dX9_move_20 : decode cX9_move 20 = .ok (.iload_n 2, 1) := by decide +kernel
theorem dX9_move_21 : decode cX9_move 21 = .ok (.iadd, 1) := by decide +kernel
theorem dX9_move_22 : decode cX9_move 22 = .ok (.iconst 2, 1) := by decide +kernel
theorem dX9_move_23 : decode cX9_move 23 = .ok (.imul, 1) := by decide +kernel
theorem dX9_move_24 : decode cX9_move 24 = .ok (.ireturn, 1) := by decide +kernel
theorem dX9_move_25 : decode cX9_move 25 = .ok (.aload_n 0, 1) := by decide +kernel
theorem dX9_move_26 : decode cX9_move 26 = .ok (.bipush 10, 2) := by decide +kernel
theorem dX9_move_28 : decode cX9_move 28 = .ok (.invokevirtual 258, 3) := by decide +kernel
theorem dX9_move_31 : decode cX9_move 31 = .ok (.iload_n 3, 1) := by decide +kernel
theorem dX9_move_32 : decode cX9_move 32 = .ok (.iload_n 2, 1) := by decide +kernel
theorem dX9_move_33 : decode cX9_move 33 = .ok (.iadd, 1) := by decide +kernel
theorem dX9_move_34 : decode cX9_move 34 = .ok (.ireturn, 1) := by decide +kernel
theorem dX9_mixed_0 : decode cX9_mixed 0 = .ok (.iload_n 1, 1) := by decide +kernel
theorem dX9_mixed_1 : decode cX9_mixed 1 = .ok (.iconst 3, 1) := by decide +kernel
theorem dX9_mixed_2 : decode cX9_mixed 2 = .ok (.if_icmp .ne 9, 3) := by decide +kernel
theorem dX9_mixed_5 : decode cX9_mixed 5 = .ok (.aload_n 0, 1) := by decide +kernel
theorem dX9_mixed_6 : decode cX9_mixed 6 = .ok (.bipush 40, 2) := by decide +kernel
theorem dX9_mixed_8 : decode cX9_mixed 8 = .ok (.invokevirtual 258, 3) := by decide +kernel
theorem dX9_mixed_11 : decode cX9_mixed 11 = .ok (.aload_n 0, 1) := by decide +kernel
theorem dX9_mixed_12 : decode cX9_mixed 12 = .ok (.bipush 11, 2) := by decide +kernel
theorem dX9_mixed_14 : decode cX9_mixed 14 = .ok (.invokevirtual 258, 3) := by decide +kernel
theorem dX9_mixed_17 : decode cX9_mixed 17 = .ok (.aload_n 0, 1) := by decide +kernel
theorem dX9_mixed_18 : decode cX9_mixed 18 = .ok (.iload_n 1, 1) := by decide +kernel
theorem dX9_mixed_19 : decode cX9_mixed 19 = .ok (.iload_n 2, 1) := by decide +kernel
theorem dX9_mixed_20 : decode cX9_mixed 20 = .ok (.iload_n 3, 1) := by decide +kernel
theorem dX9_mixed_21 : decode cX9_mixed 21 = .ok (.invokevirtual 261, 3) := by decide +kernel
theorem dX9_mixed_24 : decode cX9_mixed 24 = .ok (.iconst 3, 1) := by decide +kernel
theorem dX9_mixed_25 : decode cX9_mixed 25 = .ok (.imul, 1) := by decide +kernel
theorem dX9_mixed_26 : decode cX9_mixed 26 = .ok (.istore 4, 2) := by decide +kernel
theorem dX9_mixed_28 : decode cX9_mixed 28 = .ok (.iload_n 1, 1) := by decide +kernel
theorem dX9_mixed_29 : decode cX9_mixed 29 = .ok (.iconst 3, 1) := by decide +kernel
theorem dX9_mixed_30 : decode cX9_mixed 30 = .ok (.if_icmp .ne 10, 3) := by decide +kernel
theorem dX9_mixed_33 : decode cX9_mixed 33 = .ok (.iload 4, 2) := by decide +kernel
theorem dX9_mixed_35 : decode cX9_mixed 35 = .ok (.iconst 5, 1) := by decide +kernel
theorem dX9_mixed_36 : decode cX9_mixed 36 = .ok (.iadd, 1) := by decide +kernel
theorem dX9_mixed_37 : decode cX9_mixed 37 = .ok (.goto 5, 3) := by decide +kernel
theorem dX9_mixed_40 : decode cX9_mixed 40 = .ok (.iload 4, 2) := by decide +kernel
theorem dX9_mixed_42 : decode cX9_mixed 42 = .ok (.ireturn, 1) := by decide +kernel
theorem dX9_tell_0 : decode cX9_tell 0 = .ok (.iload_n 1, 1) := by decide +kernel
theorem dX9_tell_1 : decode cX9_tell 1 = .ok (.iconst 2, 1) := by decide +kernel
theorem dX9_tell_2 : decode cX9_tell 2 = .ok (.if_icmp .ne 9, 3) := by decide +kernel
theorem dX9_tell_5 : decode cX9_tell 5 = .ok (.aload_n 0, 1) := by decide +kernel
theorem dX9_tell_6 : decode cX9_tell 6 = .ok (.bipush 30, 2) := by decide +kernel
theorem dX9_tell_8 : decode cX9_tell 8 = .ok (.invokevirtual 258, 3) := by decide +kernel
theorem dX9_tell_11 : decode cX9_tell 11 = .ok (.aload_n 0, 1) := by decide +kernel
theorem dX9_tell_12 : decode cX9_tell 12 = .ok (.bipush 13, 2) := by decide +kernel
theorem dX9_tell_14 : decode cX9_tell 14 = .ok (.invokevirtual 258, 3) := by decide +kernel
theorem dX9_tell_17 : decode cX9_tell 17 = .ok (.iload_n 1, 1) := by decide +kernel
theorem dX9_tell_18 : decode cX9_tell 18 = .ok (.iconst 2, 1) := by decide +kernel
theorem dX9_tell_19 : decode cX9_tell 19 = .ok (.if_icmp .ne 11, 3) := by decide +kernel
theorem dX9_tell_22 : decode cX9_tell 22 = .ok (.iload_n 3, 1) := by decide +kernel
theorem dX9_tell_23 : decode cX9_tell 23 = .ok (.iload_n 2, 1) := by decide +kernel
theorem dX9_tell_24 : decode cX9_tell 24 = .ok (.ixor, 1) := by decide +kernel
theorem dX9_tell_25 : decode cX9_tell 25 = .ok (.iconst 1, 1) := by decide +kernel
theorem dX9_tell_26 : decode cX9_tell 26 = .ok (.isub, 1) := by decide +kernel
theorem dX9_tell_27 : decode cX9_tell 27 = .ok (.goto 6, 3) := by decide +kernel
theorem dX9_tell_30 : decode cX9_tell 30 = .ok (.iload_n 3, 1) := by decide +kernel
theorem dX9_tell_31 : decode cX9_tell 31 = .ok (.iload_n 2, 1) := by decide +kernel
theorem dX9_tell_32 : decode cX9_tell 32 = .ok (.ixor, 1) := by decide +kernel
theorem dX9_tell_33 : decode cX9_tell 33 = .ok (.ireturn, 1) := by decide +kernel
theorem dX9_keyEnd_0 : decode cX9_keyEnd 0 = .ok (.aload_n 0, 1) := by decide +kernel
theorem dX9_keyEnd_1 : decode cX9_keyEnd 1 = .ok (.bipush 12, 2) := by decide +kernel
theorem dX9_keyEnd_3 : decode cX9_keyEnd 3 = .ok (.invokevirtual 258, 3) := by decide +kernel
theorem dX9_keyEnd_6 : decode cX9_keyEnd 6 = .ok (.aload_n 0, 1) := by decide +kernel
theorem dX9_keyEnd_7 : decode cX9_keyEnd 7 = .ok (.iload_n 1, 1) := by decide +kernel
theorem dX9_keyEnd_8 : decode cX9_keyEnd 8 = .ok (.iload_n 2, 1) := by decide +kernel
theorem dX9_keyEnd_9 : decode cX9_keyEnd 9 = .ok (.iload_n 3, 1) := by decide +kernel
theorem dX9_keyEnd_10 : decode cX9_keyEnd 10 = .ok (.invokevirtual 264, 3) := by decide +kernel
theorem dX9_keyEnd_13 : decode cX9_keyEnd 13 = .ok (.istore 4, 2) := by decide +kernel
theorem dX9_keyEnd_15 : decode cX9_keyEnd 15 = .ok (.iload 4, 2) := by decide +kernel
theorem dX9_keyEnd_17 : decode cX9_keyEnd 17 = .ok (.aload_n 0, 1) := by decide +kernel
theorem dX9_keyEnd_18 : decode cX9_keyEnd 18 = .ok (.iload_n 1, 1) := by decide +kernel
theorem dX9_keyEnd_19 : decode cX9_keyEnd 19 = .ok (.iload_n 2, 1) := by decide +kernel
theorem dX9_keyEnd_20 : decode cX9_keyEnd 20 = .ok (.iload_n 3, 1) := by decide +kernel
theorem dX9_keyEnd_21 : decode cX9_keyEnd 21 = .ok (.invokevirtual 267, 3) := by decide +kernel
theorem dX9_keyEnd_24 : decode cX9_keyEnd 24 = .ok (.isub, 1) := by decide +kernel
theorem dX9_keyEnd_25 : decode cX9_keyEnd 25 = .ok (.ireturn, 1) := by decide +kernel
theorem dX9_ended_0 : decode cX9_ended 0 = .ok (.iload_n 1, 1) := by decide +kernel
theorem dX9_ended_1 : decode cX9_ended 1 = .ok (.invokestatic 255, 3) := by decide +kernel
theorem dX9_ended_4 : decode cX9_ended 4 = .ok (.ifCond .eq 19, 3) := by decide +kernel
theorem dX9_ended_7 : decode cX9_ended 7 = .ok (.aload_n 0, 1) := by decide +kernel
theorem dX9_ended_8 : decode cX9_ended 8 = .ok (.bipush 21, 2) := by decide +kernel
theorem dX9_ended_10 : decode cX9_ended 10 = .ok (.invokevirtual 258, 3) := by decide +kernel
theorem dX9_ended_13 : decode cX9_ended 13 = .ok (.aload_n 0, 1) := by decide +kernel
theorem dX9_ended_14 : decode cX9_ended 14 = .ok (.iload_n 1, 1) := by decide +kernel
theorem dX9_ended_15 : decode cX9_ended 15 = .ok (.iload_n 2, 1) := by decide +kernel
theorem dX9_ended_16 : decode cX9_ended 16 = .ok (.iload_n 3, 1) := by decide +kernel
theorem dX9_ended_17 : decode cX9_ended 17 = .ok (.iconst 1, 1) := by decide +kernel
theorem dX9_ended_18 : decode cX9_ended 18 = .ok (.iadd, 1) := by decide +kernel
theorem dX9_ended_19 : decode cX9_ended 19 = .ok (.invokevirtual 270, 3) := by decide +kernel
theorem dX9_ended_22 : decode cX9_ended 22 = .ok (.ireturn, 1) := by decide +kernel
theorem dX9_ended_23 : decode cX9_ended 23 = .ok (.iload_n 1, 1) := by decide +kernel
theorem dX9_ended_24 : decode cX9_ended 24 = .ok (.iconst 4, 1) := by decide +kernel
theorem dX9_ended_25 : decode cX9_ended 25 = .ok (.if_icmp .ne 20, 3) := by decide +kernel
theorem dX9_ended_28 : decode cX9_ended 28 = .ok (.aload_n 0, 1) := by decide +kernel
theorem dX9_ended_29 : decode cX9_ended 29 = .ok (.bipush 50, 2) := by decide +kernel
theorem dX9_ended_31 : decode cX9_ended 31 = .ok (.invokevirtual 258, 3) := by decide +kernel
theorem dX9_ended_34 : decode cX9_ended 34 = .ok (.aload_n 0, 1) := by decide +kernel
theorem dX9_ended_35 : decode cX9_ended 35 = .ok (.iload_n 1, 1) := by decide +kernel
theorem dX9_ended_36 : decode cX9_ended 36 = .ok (.iload_n 2, 1) := by decide +kernel
theorem dX9_ended_37 : decode cX9_ended 37 = .ok (.iload_n 3, 1) := by decide +kernel
theorem dX9_ended_38 : decode cX9_ended 38 = .ok (.invokevirtual 270, 3) := by decide +kernel
theorem dX9_ended_41 : decode cX9_ended 41 = .ok (.iload 4, 2) := by decide +kernel
theorem dX9_ended_43 : decode cX9_ended 43 = .ok (.iadd, 1) := by decide +kernel
theorem dX9_ended_44 : decode cX9_ended 44 = .ok (.ireturn, 1) := by decide +kernel
theorem dX9_ended_45 : decode cX9_ended 45 = .ok (.aload_n 0, 1) := by decide +kernel
theorem dX9_ended_46 : decode cX9_ended 46 = .ok (.iload_n 1, 1) := by decide +kernel
theorem dX9_ended_47 : decode cX9_ended 47 = .ok (.iload_n 2, 1) := by decide +kernel
theorem dX9_ended_48 : decode cX9_ended 48 = .ok (.iload_n 3, 1) := by decide +kernel
theorem dX9_ended_49 : decode cX9_ended 49 = .ok (.invokevirtual 270, 3) := by decide +kernel
theorem dX9_ended_52 : decode cX9_ended 52 = .ok (.ireturn, 1) := by decide +kernel
theorem dX9_act_0 : decode cX9_act 0 = .ok (.iload_n 1, 1) := by decide +kernel
theorem dX9_act_1 : decode cX9_act 1 = .ok (.iconst 0, 1) := by decide +kernel
theorem dX9_act_2 : decode cX9_act 2 = .ok (.bipush 7, 2) := by decide +kernel
theorem dX9_act_4 : decode cX9_act 4 = .ok (.invokestatic 138, 3) := by decide +kernel
theorem dX9_act_7 : decode cX9_act 7 = .ok (.ifCond .eq 12, 3) := by decide +kernel
theorem dX9_act_10 : decode cX9_act 10 = .ok (.iload_n 2, 1) := by decide +kernel
theorem dX9_act_11 : decode cX9_act 11 = .ok (.iconst 0, 1) := by decide +kernel
theorem dX9_act_12 : decode cX9_act 12 = .ok (.iconst 3, 1) := by decide +kernel
theorem dX9_act_13 : decode cX9_act 13 = .ok (.invokestatic 138, 3) := by decide +kernel
theorem dX9_act_16 : decode cX9_act 16 = .ok (.ifCond .ne 9, 3) := by decide +kernel
theorem dX9_act_19 : decode cX9_act 19 = .ok (.aload_n 0, 1) := by decide +kernel
theorem dX9_act_20 : decode cX9_act 20 = .ok (.iconst 1, 1) := by decide +kernel
theorem dX9_act_21 : decode cX9_act 21 = .ok (.invokevirtual 163, 3) := by decide +kernel
theorem dX9_act_24 : decode cX9_act 24 = .ok (.ireturn, 1) := by decide +kernel
theorem dX9_act_25 : decode cX9_act 25 = .ok (.aload_n 0, 1) := by decide +kernel
theorem dX9_act_26 : decode cX9_act 26 = .ok (.getfield 120, 3) := by decide +kernel
theorem dX9_act_29 : decode cX9_act 29 = .ok (.iload_n 1, 1) := by decide +kernel
theorem dX9_act_30 : decode cX9_act 30 = .ok (.iaload, 1) := by decide +kernel
theorem dX9_act_31 : decode cX9_act 31 = .ok (.iconst 2, 1) := by decide +kernel
theorem dX9_act_32 : decode cX9_act 32 = .ok (.if_icmp .ge 9, 3) := by decide +kernel
theorem dX9_act_35 : decode cX9_act 35 = .ok (.aload_n 0, 1) := by decide +kernel
theorem dX9_act_36 : decode cX9_act 36 = .ok (.iconst 3, 1) := by decide +kernel
theorem dX9_act_37 : decode cX9_act 37 = .ok (.invokevirtual 163, 3) := by decide +kernel
theorem dX9_act_40 : decode cX9_act 40 = .ok (.ireturn, 1) := by decide +kernel
theorem dX9_act_41 : decode cX9_act 41 = .ok (.aload_n 0, 1) := by decide +kernel
theorem dX9_act_42 : decode cX9_act 42 = .ok (.getfield 120, 3) := by decide +kernel
theorem dX9_act_45 : decode cX9_act 45 = .ok (.iload_n 1, 1) := by decide +kernel
theorem dX9_act_46 : decode cX9_act 46 = .ok (.iaload, 1) := by decide +kernel
theorem dX9_act_47 : decode cX9_act 47 = .ok (.iconst 2, 1) := by decide +kernel
theorem dX9_act_48 : decode cX9_act 48 = .ok (.isub, 1) := by decide +kernel
theorem dX9_act_49 : decode cX9_act 49 = .ok (.istore 4, 2) := by decide +kernel
theorem dX9_act_51 : decode cX9_act 51 = .ok (.aload_n 0, 1) := by decide +kernel
theorem dX9_act_52 : decode cX9_act 52 = .ok (.getfield 32, 3) := by decide +kernel
theorem dX9_act_55 : decode cX9_act 55 = .ok (.aload_n 0, 1) := by decide +kernel
theorem dX9_act_56 : decode cX9_act 56 = .ok (.getfield 123, 3) := by decide +kernel
theorem dX9_act_59 : decode cX9_act 59 = .ok (.iload_n 1, 1) := by decide +kernel
theorem dX9_act_60 : decode cX9_act 60 = .ok (.iaload, 1) := by decide +kernel
theorem dX9_act_61 : decode cX9_act 61 = .ok (.iaload, 1) := by decide +kernel
theorem dX9_act_62 : decode cX9_act 62 = .ok (.istore 5, 2) := by decide +kernel
theorem dX9_act_64 : decode cX9_act 64 = .ok (.aload_n 0, 1) := by decide +kernel
theorem dX9_act_65 : decode cX9_act 65 = .ok (.iconst 0, 1) := by decide +kernel
theorem dX9_act_66 : decode cX9_act 66 = .ok (.putfield 248, 3) := by decide +kernel
theorem dX9_act_69 : decode cX9_act 69 = .ok (.aload_n 0, 1) := by decide +kernel
theorem dX9_act_70 : decode cX9_act 70 = .ok (.iload_n 2, 1) := by decide +kernel
theorem dX9_act_71 : decode cX9_act 71 = .ok (.ifCond .ne 15, 3) := by decide +kernel
theorem dX9_act_74 : decode cX9_act 74 = .ok (.aload_n 0, 1) := by decide +kernel
theorem dX9_act_75 : decode cX9_act 75 = .ok (.iload 4, 2) := by decide +kernel
theorem dX9_act_77 : decode cX9_act 77 = .ok (.iload 5, 2) := by decide +kernel
theorem dX9_act_79 : decode cX9_act 79 = .ok (.iload_n 3, 1) := by decide +kernel
theorem dX9_act_80 : decode cX9_act 80 = .ok (.invokevirtual 261, 3) := by decide +kernel
theorem dX9_act_83 : decode cX9_act 83 = .ok (.goto 52, 3) := by decide +kernel
theorem dX9_act_86 : decode cX9_act 86 = .ok (.iload_n 2, 1) := by decide +kernel
theorem dX9_act_87 : decode cX9_act 87 = .ok (.iconst 1, 1) := by decide +kernel
theorem dX9_act_88 : decode cX9_act 88 = .ok (.if_icmp .ne 15, 3) := by decide +kernel
theorem dX9_act_91 : decode cX9_act 91 = .ok (.aload_n 0, 1) := by decide +kernel
theorem dX9_act_92 : decode cX9_act 92 = .ok (.iload 4, 2) := by decide +kernel
theorem dX9_act_94 : decode cX9_act 94 = .ok (.iload 5, 2) := by decide +kernel
theorem dX9_act_96 : decode cX9_act 96 = .ok (.iload_n 3, 1) := by decide +kernel
theorem dX9_act_97 : decode cX9_act 97 = .ok (.invokevirtual 264, 3) := by decide +kernel
theorem dX9_act_100 : decode cX9_act 100 = .ok (.goto 35, 3) := by decide +kernel
theorem dX9_act_103 : decode cX9_act 103 = .ok (.iload_n 2, 1) := by decide +kernel
theorem dX9_act_104 : decode cX9_act 104 = .ok (.iconst 2, 1) := by decide +kernel
theorem dX9_act_105 : decode cX9_act 105 = .ok (.if_icmp .ne 21, 3) := by decide +kernel
theorem dX9_act_108 : decode cX9_act 108 = .ok (.aload_n 0, 1) := by decide +kernel
theorem dX9_act_109 : decode cX9_act 109 = .ok (.iload 4, 2) := by decide +kernel
theorem dX9_act_111 : decode cX9_act 111 = .ok (.iload 5, 2) := by decide +kernel
theorem dX9_act_113 : decode cX9_act 113 = .ok (.iload_n 3, 1) := by decide +kernel
theorem dX9_act_114 : decode cX9_act 114 = .ok (.aload_n 0, 1) := by decide +kernel
theorem dX9_act_115 : decode cX9_act 115 = .ok (.getfield 126, 3) := by decide +kernel
theorem dX9_act_118 : decode cX9_act 118 = .ok (.iload_n 1, 1) := by decide +kernel
theorem dX9_act_119 : decode cX9_act 119 = .ok (.iaload, 1) := by decide +kernel
theorem dX9_act_120 : decode cX9_act 120 = .ok (.invokevirtual 273, 3) := by decide +kernel
theorem dX9_act_123 : decode cX9_act 123 = .ok (.goto 12, 3) := by decide +kernel
theorem dX9_act_126 : decode cX9_act 126 = .ok (.aload_n 0, 1) := by decide +kernel
theorem dX9_act_127 : decode cX9_act 127 = .ok (.iload 4, 2) := by decide +kernel
theorem dX9_act_129 : decode cX9_act 129 = .ok (.iload 5, 2) := by decide +kernel
theorem dX9_act_131 : decode cX9_act 131 = .ok (.iload_n 3, 1) := by decide +kernel
theorem dX9_act_132 : decode cX9_act 132 = .ok (.invokevirtual 267, 3) := by decide +kernel
theorem dX9_act_135 : decode cX9_act 135 = .ok (.invokevirtual 166, 3) := by decide +kernel
theorem dX9_act_138 : decode cX9_act 138 = .ok (.ireturn, 1) := by decide +kernel
theorem dX9_trace_0 : decode cX9_trace 0 = .ok (.iload_n 1, 1) := by decide +kernel
theorem dX9_trace_1 : decode cX9_trace 1 = .ok (.iconst 0, 1) := by decide +kernel
theorem dX9_trace_2 : decode cX9_trace 2 = .ok (.aload_n 0, 1) := by decide +kernel
theorem dX9_trace_3 : decode cX9_trace 3 = .ok (.getfield 248, 3) := by decide +kernel
theorem dX9_trace_6 : decode cX9_trace 6 = .ok (.bipush 40, 2) := by decide +kernel
theorem dX9_trace_8 : decode cX9_trace 8 = .ok (.if_icmp .ge 10, 3) := by decide +kernel
theorem dX9_trace_11 : decode cX9_trace 11 = .ok (.aload_n 0, 1) := by decide +kernel
theorem dX9_trace_12 : decode cX9_trace 12 = .ok (.getfield 248, 3) := by decide +kernel
theorem dX9_trace_15 : decode cX9_trace 15 = .ok (.goto 5, 3) := by decide +kernel
theorem dX9_trace_18 : decode cX9_trace 18 = .ok (.bipush 40, 2) := by decide +kernel
theorem dX9_trace_20 : decode cX9_trace 20 = .ok (.iconst 1, 1) := by decide +kernel
theorem dX9_trace_21 : decode cX9_trace 21 = .ok (.isub, 1) := by decide +kernel
theorem dX9_trace_22 : decode cX9_trace 22 = .ok (.invokestatic 138, 3) := by decide +kernel
theorem dX9_trace_25 : decode cX9_trace 25 = .ok (.ifCond .eq 12, 3) := by decide +kernel
theorem dX9_trace_28 : decode cX9_trace 28 = .ok (.aload_n 0, 1) := by decide +kernel
theorem dX9_trace_29 : decode cX9_trace 29 = .ok (.getfield 129, 3) := by decide +kernel
theorem dX9_trace_32 : decode cX9_trace 32 = .ok (.iload_n 1, 1) := by decide +kernel
theorem dX9_trace_33 : decode cX9_trace 33 = .ok (.iaload, 1) := by decide +kernel
theorem dX9_trace_34 : decode cX9_trace 34 = .ok (.goto 4, 3) := by decide +kernel
theorem dX9_trace_37 : decode cX9_trace 37 = .ok (.iconst (-1), 1) := by decide +kernel
theorem dX9_trace_38 : decode cX9_trace 38 = .ok (.ireturn, 1) := by decide +kernel
theorem dX9_isOf_0 : decode cX9_isOf 0 = .ok (.iload_n 0, 1) := by decide +kernel
theorem dX9_isOf_1 : decode cX9_isOf 1 = .ok (.iload_n 1, 1) := by decide +kernel
theorem dX9_isOf_2 : decode cX9_isOf 2 = .ok (.if_icmp .eq 27, 3) := by decide +kernel
theorem dX9_isOf_5 : decode cX9_isOf 5 = .ok (.iload_n 1, 1) := by decide +kernel
theorem dX9_isOf_6 : decode cX9_isOf 6 = .ok (.ifCond .eq 23, 3) := by decide +kernel
theorem dX9_isOf_9 : decode cX9_isOf 9 = .ok (.iload_n 0, 1) := by decide +kernel
theorem dX9_isOf_10 : decode cX9_isOf 10 = .ok (.iconst 2, 1) := by decide +kernel
theorem dX9_isOf_11 : decode cX9_isOf 11 = .ok (.if_icmp .ne 8, 3) := by decide +kernel
theorem dX9_isOf_14 : decode cX9_isOf 14 = .ok (.iload_n 1, 1) := by decide +kernel
theorem dX9_isOf_15 : decode cX9_isOf 15 = .ok (.iconst 1, 1) := by decide +kernel
theorem dX9_isOf_16 : decode cX9_isOf 16 = .ok (.if_icmp .eq 13, 3) := by decide +kernel
theorem dX9_isOf_19 : decode cX9_isOf 19 = .ok (.iload_n 0, 1) := by decide +kernel
theorem dX9_isOf_20 : decode cX9_isOf 20 = .ok (.iconst 5, 1) := by decide +kernel
theorem dX9_isOf_21 : decode cX9_isOf 21 = .ok (.if_icmp .ne 12, 3) := by decide +kernel
theorem dX9_isOf_24 : decode cX9_isOf 24 = .ok (.iload_n 1, 1) := by decide +kernel
theorem dX9_isOf_25 : decode cX9_isOf 25 = .ok (.iconst 3, 1) := by decide +kernel
theorem dX9_isOf_26 : decode cX9_isOf 26 = .ok (.if_icmp .ne 7, 3) := by decide +kernel
theorem dX9_isOf_29 : decode cX9_isOf 29 = .ok (.iconst 1, 1) := by decide +kernel
theorem dX9_isOf_30 : decode cX9_isOf 30 = .ok (.goto 4, 3) := by decide +kernel
theorem dX9_isOf_33 : decode cX9_isOf 33 = .ok (.iconst 0, 1) := by decide +kernel
theorem dX9_isOf_34 : decode cX9_isOf 34 = .ok (.ireturn, 1) := by decide +kernel
theorem dX9_header_0 : decode cX9_header 0 = .ok (.iload_n 2, 1) := by decide +kernel
theorem dX9_header_1 : decode cX9_header 1 = .ok (.ifCond .ne 12, 3) := by decide +kernel
theorem dX9_header_4 : decode cX9_header 4 = .ok (.aload_n 0, 1) := by decide +kernel
theorem dX9_header_5 : decode cX9_header 5 = .ok (.getfield 99, 3) := by decide +kernel
theorem dX9_header_8 : decode cX9_header 8 = .ok (.iload_n 1, 1) := by decide +kernel
theorem dX9_header_9 : decode cX9_header 9 = .ok (.iaload, 1) := by decide +kernel
theorem dX9_header_10 : decode cX9_header 10 = .ok (.goto 23, 3) := by decide +kernel
theorem dX9_header_13 : decode cX9_header 13 = .ok (.iload_n 2, 1) := by decide +kernel
theorem dX9_header_14 : decode cX9_header 14 = .ok (.iconst 1, 1) := by decide +kernel
theorem dX9_header_15 : decode cX9_header 15 = .ok (.if_icmp .ne 12, 3) := by decide +kernel
theorem dX9_header_18 : decode cX9_header 18 = .ok (.aload_n 0, 1) := by decide +kernel
theorem dX9_header_19 : decode cX9_header 19 = .ok (.getfield 102, 3) := by decide +kernel
theorem dX9_header_22 : decode cX9_header 22 = .ok (.iload_n 1, 1) := by decide +kernel
theorem dX9_header_23 : decode cX9_header 23 = .ok (.iaload, 1) := by decide +kernel
theorem dX9_header_24 : decode cX9_header 24 = .ok (.goto 9, 3) := by decide +kernel
theorem dX9_header_27 : decode cX9_header 27 = .ok (.aload_n 0, 1) := by decide +kernel
theorem dX9_header_28 : decode cX9_header 28 = .ok (.getfield 105, 3) := by decide +kernel
theorem dX9_header_31 : decode cX9_header 31 = .ok (.iload_n 1, 1) := by decide +kernel
theorem dX9_header_32 : decode cX9_header 32 = .ok (.iaload, 1) := by decide +kernel
theorem dX9_header_33 : decode cX9_header 33 = .ok (.ireturn, 1) := by decide +kernel
theorem dX9_forge_0 : decode cX9_forge 0 = .ok (.iload_n 1, 1) := by decide +kernel
theorem dX9_forge_1 : decode cX9_forge 1 = .ok (.iconst 0, 1) := by decide +kernel
theorem dX9_forge_2 : decode cX9_forge 2 = .ok (.bipush 7, 2) := by decide +kernel
theorem dX9_forge_4 : decode cX9_forge 4 = .ok (.invokestatic 138, 3) := by decide +kernel
theorem dX9_forge_7 : decode cX9_forge 7 = .ok (.ifCond .eq 24, 3) := by decide +kernel
theorem dX9_forge_10 : decode cX9_forge 10 = .ok (.iload_n 2, 1) := by decide +kernel
theorem dX9_forge_11 : decode cX9_forge 11 = .ok (.iconst 0, 1) := by decide +kernel
theorem dX9_forge_12 : decode cX9_forge 12 = .ok (.bipush 6, 2) := by decide +kernel
theorem dX9_forge_14 : decode cX9_forge 14 = .ok (.invokestatic 138, 3) := by decide +kernel
theorem dX9_forge_17 : decode cX9_forge 17 = .ok (.ifCond .eq 14, 3) := by decide +kernel
theorem dX9_forge_20 : decode cX9_forge 20 = .ok (.iload_n 3, 1) := by decide +kernel
theorem dX9_forge_21 : decode cX9_forge 21 = .ok (.bipush (-100), 2) := by decide +kernel
theorem dX9_forge_23 : decode cX9_forge 23 = .ok (.bipush 100, 2) := by decide +kernel
theorem dX9_forge_25 : decode cX9_forge 25 = .ok (.invokestatic 138, 3) := by decide +kernel
theorem dX9_forge_28 : decode cX9_forge 28 = .ok (.ifCond .ne 9, 3) := by decide +kernel
theorem dX9_forge_31 : decode cX9_forge 31 = .ok (.aload_n 0, 1) := by decide +kernel
theorem dX9_forge_32 : decode cX9_forge 32 = .ok (.iconst 1, 1) := by decide +kernel
theorem dX9_forge_33 : decode cX9_forge 33 = .ok (.invokevirtual 163, 3) := by decide +kernel
theorem dX9_forge_36 : decode cX9_forge 36 = .ok (.ireturn, 1) := by decide +kernel
theorem dX9_forge_37 : decode cX9_forge 37 = .ok (.aload_n 0, 1) := by decide +kernel
theorem dX9_forge_38 : decode cX9_forge 38 = .ok (.getfield 120, 3) := by decide +kernel
theorem dX9_forge_41 : decode cX9_forge 41 = .ok (.iload_n 1, 1) := by decide +kernel
theorem dX9_forge_42 : decode cX9_forge 42 = .ok (.iaload, 1) := by decide +kernel
theorem dX9_forge_43 : decode cX9_forge 43 = .ok (.istore 4, 2) := by decide +kernel
theorem dX9_forge_45 : decode cX9_forge 45 = .ok (.aload_n 0, 1) := by decide +kernel
theorem dX9_forge_46 : decode cX9_forge 46 = .ok (.getfield 123, 3) := by decide +kernel
theorem dX9_forge_49 : decode cX9_forge 49 = .ok (.iload_n 1, 1) := by decide +kernel
theorem dX9_forge_50 : decode cX9_forge 50 = .ok (.iaload, 1) := by decide +kernel
theorem dX9_forge_51 : decode cX9_forge 51 = .ok (.istore 5, 2) := by decide +kernel
theorem dX9_forge_53 : decode cX9_forge 53 = .ok (.iload_n 2, 1) := by decide +kernel
theorem dX9_forge_54 : decode cX9_forge 54 = .ok (.tableswitch 340 0 5 #[38, 103, 162, 181, 265, 318], 38) := by decide +kernel
theorem dX9_forge_92 : decode cX9_forge 92 = .ok (.iload_n 3, 1) := by decide +kernel
theorem dX9_forge_93 : decode cX9_forge 93 = .ok (.bipush 6, 2) := by decide +kernel
theorem dX9_forge_95 : decode cX9_forge 95 = .ok (.irem, 1) := by decide +kernel
theorem dX9_forge_96 : decode cX9_forge 96 = .ok (.bipush 6, 2) := by decide +kernel
theorem dX9_forge_98 : decode cX9_forge 98 = .ok (.iadd, 1) := by decide +kernel
theorem dX9_forge_99 : decode cX9_forge 99 = .ok (.bipush 6, 2) := by decide +kernel
theorem dX9_forge_101 : decode cX9_forge 101 = .ok (.irem, 1) := by decide +kernel
theorem dX9_forge_102 : decode cX9_forge 102 = .ok (.istore 6, 2) := by decide +kernel
theorem dX9_forge_104 : decode cX9_forge 104 = .ok (.iload 4, 2) := by decide +kernel
theorem dX9_forge_106 : decode cX9_forge 106 = .ok (.ifCond .ne 12, 3) := by decide +kernel
theorem dX9_forge_109 : decode cX9_forge 109 = .ok (.aload_n 0, 1) := by decide +kernel
theorem dX9_forge_110 : decode cX9_forge 110 = .ok (.bipush 10, 2) := by decide +kernel
theorem dX9_forge_112 : decode cX9_forge 112 = .ok (.invokevirtual 163, 3) := by decide +kernel
theorem dX9_forge_115 : decode cX9_forge 115 = .ok (.goto 41, 3) := by decide +kernel
theorem dX9_forge_118 : decode cX9_forge 118 = .ok (.iload 4, 2) := by decide +kernel
theorem dX9_forge_120 : decode cX9_forge 120 = .ok (.iconst 1, 1) := by decide +kernel
theorem dX9_forge_121 : decode cX9_forge 121 = .ok (.if_icmp .eq 15, 3) := by decide +kernel
theorem dX9_forge_124 : decode cX9_forge 124 = .ok (.iload 4, 2) := by decide +kernel
theorem dX9_forge_126 : decode cX9_forge 126 = .ok (.iconst 2, 1) := by decide +kernel
theorem dX9_forge_127 : decode cX9_forge 127 = .ok (.isub, 1) := by decide +kernel
theorem dX9_forge_128 : decode cX9_forge 128 = .ok (.iload 6, 2) := by decide +kernel
theorem dX9_forge_130 : decode cX9_forge 130 = .ok (.invokestatic 276, 3) := by decide +kernel
theorem dX9_forge_133 : decode cX9_forge 133 = .ok (.ifCond .ne 12, 3) := by decide +kernel
theorem dX9_forge_136 : decode cX9_forge 136 = .ok (.aload_n 0, 1) := by decide +kernel
theorem dX9_forge_137 : decode cX9_forge 137 = .ok (.bipush 11, 2) := by decide +kernel
theorem dX9_forge_139 : decode cX9_forge 139 = .ok (.invokevirtual 163, 3) := by decide +kernel
theorem dX9_forge_142 : decode cX9_forge 142 = .ok (.goto 14, 3) := by decide +kernel
theorem dX9_forge_145 : decode cX9_forge 145 = .ok (.aload_n 0, 1) := by decide +kernel
theorem dX9_forge_146 : decode cX9_forge 146 = .ok (.aload_n 0, 1) := by decide +kernel
theorem dX9_forge_147 : decode cX9_forge 147 = .ok (.getfield 32, 3) := by decide +kernel
theorem dX9_forge_150 : decode cX9_forge 150 = .ok (.iload 5, 2) := by decide +kernel
theorem dX9_forge_152 : decode cX9_forge 152 = .ok (.iaload, 1) := by decide +kernel
theorem dX9_forge_153 : decode cX9_forge 153 = .ok (.invokevirtual 166, 3) := by decide +kernel
theorem dX9_forge_156 : decode cX9_forge 156 = .ok (.ireturn, 1) := by decide +kernel
theorem dX9_forge_157 : decode cX9_forge 157 = .ok (.iload 4, 2) := by decide +kernel
theorem dX9_forge_159 : decode cX9_forge 159 = .ok (.ifCond .ne 12, 3) := by decide +kernel
theorem dX9_forge_162 : decode cX9_forge 162 = .ok (.aload_n 0, 1) := by decide +kernel
theorem dX9_forge_163 : decode cX9_forge 163 = .ok (.bipush 10, 2) := by decide +kernel
theorem dX9_forge_165 : decode cX9_forge 165 = .ok (.invokevirtual 163, 3) := by decide +kernel
theorem dX9_forge_168 : decode cX9_forge 168 = .ok (.goto 47, 3) := by decide +kernel
theorem dX9_forge_171 : decode cX9_forge 171 = .ok (.iload 4, 2) := by decide +kernel
theorem dX9_forge_173 : decode cX9_forge 173 = .ok (.iconst 1, 1) := by decide +kernel
theorem dX9_forge_174 : decode cX9_forge 174 = .ok (.if_icmp .eq 12, 3) := by decide +kernel
theorem dX9_forge_177 : decode cX9_forge 177 = .ok (.aload_n 0, 1) := by decide +kernel
theorem dX9_forge_178 : decode cX9_forge 178 = .ok (.bipush 11, 2) := by decide +kernel
theorem dX9_forge_180 : decode cX9_forge 180 = .ok (.invokevirtual 163, 3) := by decide +kernel
theorem dX9_forge_183 : decode cX9_forge 183 = .ok (.goto 32, 3) := by decide +kernel
theorem dX9_forge_186 : decode cX9_forge 186 = .ok (.iload_n 3, 1) := by decide +kernel
theorem dX9_forge_187 : decode cX9_forge 187 = .ok (.iconst 0, 1) := by decide +kernel
theorem dX9_forge_188 : decode cX9_forge 188 = .ok (.iconst 2, 1) := by decide +kernel
theorem dX9_forge_189 : decode cX9_forge 189 = .ok (.invokestatic 138, 3) := by decide +kernel
theorem dX9_forge_192 : decode cX9_forge 192 = .ok (.ifCond .eq 17, 3) := by decide +kernel
theorem dX9_forge_195 : decode cX9_forge 195 = .ok (.aload_n 0, 1) := by decide +kernel
theorem dX9_forge_196 : decode cX9_forge 196 = .ok (.aload_n 0, 1) := by decide +kernel
theorem dX9_forge_197 : decode cX9_forge 197 = .ok (.iload 5, 2) := by decide +kernel
theorem dX9_forge_199 : decode cX9_forge 199 = .ok (.iload_n 3, 1) := by decide +kernel
theorem dX9_forge_200 : decode cX9_forge 200 = .ok (.invokevirtual 279, 3) := by decide +kernel
theorem dX9_forge_203 : decode cX9_forge 203 = .ok (.invokevirtual 166, 3) := by decide +kernel
theorem dX9_forge_206 : decode cX9_forge 206 = .ok (.goto 9, 3) := by decide +kernel
theorem dX9_forge_209 : decode cX9_forge 209 = .ok (.aload_n 0, 1) := by decide +kernel
theorem dX9_forge_210 : decode cX9_forge 210 = .ok (.bipush 12, 2) := by decide +kernel
theorem dX9_forge_212 : decode cX9_forge 212 = .ok (.invokevirtual 163, 3) := by decide +kernel
theorem dX9_forge_215 : decode cX9_forge 215 = .ok (.ireturn, 1) := by decide +kernel
theorem dX9_forge_216 : decode cX9_forge 216 = .ok (.iload_n 3, 1) := by decide +kernel
theorem dX9_forge_217 : decode cX9_forge 217 = .ok (.ifCond .ge 12, 3) := by decide +kernel
theorem dX9_forge_220 : decode cX9_forge 220 = .ok (.aload_n 0, 1) := by decide +kernel
theorem dX9_forge_221 : decode cX9_forge 221 = .ok (.bipush 13, 2) := by decide +kernel
theorem dX9_forge_223 : decode cX9_forge 223 = .ok (.invokevirtual 163, 3) := by decide +kernel
theorem dX9_forge_226 : decode cX9_forge 226 = .ok (.goto 8, 3) := by decide +kernel
theorem dX9_forge_229 : decode cX9_forge 229 = .ok (.aload_n 0, 1) := by decide +kernel
theorem dX9_forge_230 : decode cX9_forge 230 = .ok (.iload_n 3, 1) := by decide +kernel
theorem dX9_forge_231 : decode cX9_forge 231 = .ok (.invokevirtual 166, 3) := by decide +kernel
theorem dX9_forge_234 : decode cX9_forge 234 = .ok (.ireturn, 1) := by decide +kernel
theorem dX9_forge_235 : decode cX9_forge 235 = .ok (.iload 4, 2) := by decide +kernel
theorem dX9_forge_237 : decode cX9_forge 237 = .ok (.ifCond .ne 12, 3) := by decide +kernel
theorem dX9_forge_240 : decode cX9_forge 240 = .ok (.aload_n 0, 1) := by decide +kernel
theorem dX9_forge_241 : decode cX9_forge 241 = .ok (.bipush 10, 2) := by decide +kernel
theorem dX9_forge_243 : decode cX9_forge 243 = .ok (.invokevirtual 163, 3) := by decide +kernel
theorem dX9_forge_246 : decode cX9_forge 246 = .ok (.goto 72, 3) := by decide +kernel
theorem dX9_forge_249 : decode cX9_forge 249 = .ok (.iload 4, 2) := by decide +kernel
theorem dX9_forge_251 : decode cX9_forge 251 = .ok (.iconst 1, 1) := by decide +kernel
theorem dX9_forge_252 : decode cX9_forge 252 = .ok (.if_icmp .eq 12, 3) := by decide +kernel
theorem dX9_forge_255 : decode cX9_forge 255 = .ok (.aload_n 0, 1) := by decide +kernel
theorem dX9_forge_256 : decode cX9_forge 256 = .ok (.bipush 11, 2) := by decide +kernel
theorem dX9_forge_258 : decode cX9_forge 258 = .ok (.invokevirtual 163, 3) := by decide +kernel
theorem dX9_forge_261 : decode cX9_forge 261 = .ok (.goto 57, 3) := by decide +kernel
theorem dX9_forge_264 : decode cX9_forge 264 = .ok (.iload_n 3, 1) := by decide +kernel
theorem dX9_forge_265 : decode cX9_forge 265 = .ok (.iconst 0, 1) := by decide +kernel
theorem dX9_forge_266 : decode cX9_forge 266 = .ok (.iconst 2, 1) := by decide +kernel
theorem dX9_forge_267 : decode cX9_forge 267 = .ok (.invokestatic 138, 3) := by decide +kernel
theorem dX9_forge_270 : decode cX9_forge 270 = .ok (.ifCond .eq 42, 3) := by decide +kernel
theorem dX9_forge_273 : decode cX9_forge 273 = .ok (.aload_n 0, 1) := by decide +kernel
theorem dX9_forge_274 : decode cX9_forge 274 = .ok (.iload_n 3, 1) := by decide +kernel
theorem dX9_forge_275 : decode cX9_forge 275 = .ok (.ifCond .le 13, 3) := by decide +kernel
theorem dX9_forge_278 : decode cX9_forge 278 = .ok (.aload_n 0, 1) := by decide +kernel
theorem dX9_forge_279 : decode cX9_forge 279 = .ok (.getfield 102, 3) := by decide +kernel
theorem dX9_forge_282 : decode cX9_forge 282 = .ok (.iload 5, 2) := by decide +kernel
theorem dX9_forge_284 : decode cX9_forge 284 = .ok (.iaload, 1) := by decide +kernel
theorem dX9_forge_285 : decode cX9_forge 285 = .ok (.goto 4, 3) := by decide +kernel
theorem dX9_forge_288 : decode cX9_forge 288 = .ok (.iconst 0, 1) := by decide +kernel
theorem dX9_forge_289 : decode cX9_forge 289 = .ok (.iload_n 3, 1) := by decide +kernel
theorem dX9_forge_290 : decode cX9_forge 290 = .ok (.iconst 1, 1) := by decide +kernel
theorem dX9_forge_291 : decode cX9_forge 291 = .ok (.if_icmp .le 13, 3) := by decide +kernel
theorem dX9_forge_294 : decode cX9_forge 294 = .ok (.aload_n 0, 1) := by decide +kernel
theorem dX9_forge_295 : decode cX9_forge 295 = .ok (.getfield 105, 3) := by decide +kernel
theorem dX9_forge_298 : decode cX9_forge 298 = .ok (.iload 5, 2) := by decide +kernel
theorem dX9_forge_300 : decode cX9_forge 300 = .ok (.iaload, 1) := by decide +kernel
theorem dX9_forge_301 : decode cX9_forge 301 = .ok (.goto 4, 3) := by decide +kernel
theorem dX9_forge_304 : decode cX9_forge 304 = .ok (.iconst 0, 1) := by decide +kernel
theorem dX9_forge_305 : decode cX9_forge 305 = .ok (.iadd, 1) := by decide +kernel
theorem dX9_forge_306 : decode cX9_forge 306 = .ok (.invokevirtual 166, 3) := by decide +kernel
theorem dX9_forge_309 : decode cX9_forge 309 = .ok (.goto 9, 3) := by decide +kernel
theorem dX9_forge_312 : decode cX9_forge 312 = .ok (.aload_n 0, 1) := by decide +kernel
theorem dX9_forge_313 : decode cX9_forge 313 = .ok (.bipush 12, 2) := by decide +kernel
theorem dX9_forge_315 : decode cX9_forge 315 = .ok (.invokevirtual 163, 3) := by decide +kernel
theorem dX9_forge_318 : decode cX9_forge 318 = .ok (.ireturn, 1) := by decide +kernel
theorem dX9_forge_319 : decode cX9_forge 319 = .ok (.iload 4, 2) := by decide +kernel
theorem dX9_forge_321 : decode cX9_forge 321 = .ok (.ifCond .ne 11, 3) := by decide +kernel
theorem dX9_forge_324 : decode cX9_forge 324 = .ok (.aload_n 0, 1) := by decide +kernel
theorem dX9_forge_325 : decode cX9_forge 325 = .ok (.iconst 0, 1) := by decide +kernel
theorem dX9_forge_326 : decode cX9_forge 326 = .ok (.invokevirtual 166, 3) := by decide +kernel
theorem dX9_forge_329 : decode cX9_forge 329 = .ok (.goto 42, 3) := by decide +kernel
theorem dX9_forge_332 : decode cX9_forge 332 = .ok (.iload 4, 2) := by decide +kernel
theorem dX9_forge_334 : decode cX9_forge 334 = .ok (.iconst 1, 1) := by decide +kernel
theorem dX9_forge_335 : decode cX9_forge 335 = .ok (.if_icmp .ne 12, 3) := by decide +kernel
theorem dX9_forge_338 : decode cX9_forge 338 = .ok (.aload_n 0, 1) := by decide +kernel
theorem dX9_forge_339 : decode cX9_forge 339 = .ok (.bipush 11, 2) := by decide +kernel
theorem dX9_forge_341 : decode cX9_forge 341 = .ok (.invokevirtual 163, 3) := by decide +kernel
theorem dX9_forge_344 : decode cX9_forge 344 = .ok (.goto 27, 3) := by decide +kernel
theorem dX9_forge_347 : decode cX9_forge 347 = .ok (.iload 4, 2) := by decide +kernel
theorem dX9_forge_349 : decode cX9_forge 349 = .ok (.iconst 2, 1) := by decide +kernel
theorem dX9_forge_350 : decode cX9_forge 350 = .ok (.isub, 1) := by decide +kernel
theorem dX9_forge_351 : decode cX9_forge 351 = .ok (.invokestatic 255, 3) := by decide +kernel
theorem dX9_forge_354 : decode cX9_forge 354 = .ok (.ifCond .eq 11, 3) := by decide +kernel
theorem dX9_forge_357 : decode cX9_forge 357 = .ok (.aload_n 0, 1) := by decide +kernel
theorem dX9_forge_358 : decode cX9_forge 358 = .ok (.iconst 1, 1) := by decide +kernel
theorem dX9_forge_359 : decode cX9_forge 359 = .ok (.invokevirtual 166, 3) := by decide +kernel
theorem dX9_forge_362 : decode cX9_forge 362 = .ok (.goto 9, 3) := by decide +kernel
theorem dX9_forge_365 : decode cX9_forge 365 = .ok (.aload_n 0, 1) := by decide +kernel
theorem dX9_forge_366 : decode cX9_forge 366 = .ok (.bipush 14, 2) := by decide +kernel
theorem dX9_forge_368 : decode cX9_forge 368 = .ok (.invokevirtual 163, 3) := by decide +kernel
theorem dX9_forge_371 : decode cX9_forge 371 = .ok (.ireturn, 1) := by decide +kernel
theorem dX9_forge_372 : decode cX9_forge 372 = .ok (.iload_n 3, 1) := by decide +kernel
theorem dX9_forge_373 : decode cX9_forge 373 = .ok (.ifCond .ne 12, 3) := by decide +kernel
theorem dX9_forge_376 : decode cX9_forge 376 = .ok (.aload_n 0, 1) := by decide +kernel
theorem dX9_forge_377 : decode cX9_forge 377 = .ok (.bipush 15, 2) := by decide +kernel
theorem dX9_forge_379 : decode cX9_forge 379 = .ok (.invokevirtual 163, 3) := by decide +kernel
theorem dX9_forge_382 : decode cX9_forge 382 = .ok (.goto 11, 3) := by decide +kernel
theorem dX9_forge_385 : decode cX9_forge 385 = .ok (.aload_n 0, 1) := by decide +kernel
theorem dX9_forge_386 : decode cX9_forge 386 = .ok (.bipush 100, 2) := by decide +kernel
theorem dX9_forge_388 : decode cX9_forge 388 = .ok (.iload_n 3, 1) := by decide +kernel
theorem dX9_forge_389 : decode cX9_forge 389 = .ok (.idiv, 1) := by decide +kernel
theorem dX9_forge_390 : decode cX9_forge 390 = .ok (.invokevirtual 166, 3) := by decide +kernel
theorem dX9_forge_393 : decode cX9_forge 393 = .ok (.ireturn, 1) := by decide +kernel
theorem dX9_forge_394 : decode cX9_forge 394 = .ok (.iload_n 3, 1) := by decide +kernel
theorem dX9_forge_395 : decode cX9_forge 395 = .ok (.iconst 1, 1) := by decide +kernel
theorem dX9_forge_396 : decode cX9_forge 396 = .ok (.iand, 1) := by decide +kernel
theorem dX9_forge_397 : decode cX9_forge 397 = .ok (.ifCond .ne 12, 3) := by decide +kernel
theorem dX9_forge_400 : decode cX9_forge 400 = .ok (.aload_n 0, 1) := by decide +kernel
theorem dX9_forge_401 : decode cX9_forge 401 = .ok (.bipush 10, 2) := by decide +kernel
theorem dX9_forge_403 : decode cX9_forge 403 = .ok (.invokevirtual 163, 3) := by decide +kernel
theorem dX9_forge_406 : decode cX9_forge 406 = .ok (.goto 8, 3) := by decide +kernel
theorem dX9_forge_409 : decode cX9_forge 409 = .ok (.aload_n 0, 1) := by decide +kernel
theorem dX9_forge_410 : decode cX9_forge 410 = .ok (.iconst 1, 1) := by decide +kernel
theorem dX9_forge_411 : decode cX9_forge 411 = .ok (.invokevirtual 166, 3) := by decide +kernel
theorem dX9_forge_414 : decode cX9_forge 414 = .ok (.ireturn, 1) := by decide +kernel
theorem dX9_status_0 : decode cX9_status 0 = .ok (.aload_n 0, 1) := by decide +kernel
theorem dX9_status_1 : decode cX9_status 1 = .ok (.getfield 132, 3) := by decide +kernel
theorem dX9_status_4 : decode cX9_status 4 = .ok (.ireturn, 1) := by decide +kernel
theorem dJ9_floorMod_7cf53_0 : decode cJ9_floorMod_7cf53 0 = .ok (.iload_n 0, 1) := by decide +kernel
theorem dJ9_floorMod_7cf53_1 : decode cJ9_floorMod_7cf53 1 = .ok (.iload_n 1, 1) := by decide +kernel
theorem dJ9_floorMod_7cf53_2 : decode cJ9_floorMod_7cf53 2 = .ok (.irem, 1) := by decide +kernel
theorem dJ9_floorMod_7cf53_3 : decode cJ9_floorMod_7cf53 3 = .ok (.istore_n 2, 1) := by decide +kernel
theorem dJ9_floorMod_7cf53_4 : decode cJ9_floorMod_7cf53 4 = .ok (.iload_n 0, 1) := by decide +kernel
theorem dJ9_floorMod_7cf53_5 : decode cJ9_floorMod_7cf53 5 = .ok (.iload_n 1, 1) := by decide +kernel
theorem dJ9_floorMod_7cf53_6 : decode cJ9_floorMod_7cf53 6 = .ok (.ixor, 1) := by decide +kernel
theorem dJ9_floorMod_7cf53_7 : decode cJ9_floorMod_7cf53 7 = .ok (.ifCond .ge 11, 3) := by decide +kernel
theorem dJ9_floorMod_7cf53_10 : decode cJ9_floorMod_7cf53 10 = .ok (.iload_n 2, 1) := by decide +kernel
theorem dJ9_floorMod_7cf53_11 : decode cJ9_floorMod_7cf53 11 = .ok (.ifCond .eq 7, 3) := by decide +kernel
theorem dJ9_floorMod_7cf53_14 : decode cJ9_floorMod_7cf53 14 = .ok (.iload_n 2, 1) := by decide +kernel
theorem dJ9_floorMod_7cf53_15 : decode cJ9_floorMod_7cf53 15 = .ok (.iload_n 1, 1) := by decide +kernel
theorem dJ9_floorMod_7cf53_16 : decode cJ9_floorMod_7cf53 16 = .ok (.iadd, 1) := by decide +kernel
theorem dJ9_floorMod_7cf53_17 : decode cJ9_floorMod_7cf53 17 = .ok (.ireturn, 1) := by decide +kernel
theorem dJ9_floorMod_7cf53_18 : decode cJ9_floorMod_7cf53 18 = .ok (.iload_n 2, 1) := by decide +kernel
theorem dJ9_floorMod_7cf53_19 : decode cJ9_floorMod_7cf53 19 = .ok (.ireturn, 1) := by decide +kernel
theorem dJ9_max_7cf53_0 : decode cJ9_max_7cf53 0 = .ok (.iload_n 0, 1) := by decide +kernel
theorem dJ9_max_7cf53_1 : decode cJ9_max_7cf53 1 = .ok (.iload_n 1, 1) := by decide +kernel
theorem dJ9_max_7cf53_2 : decode cJ9_max_7cf53 2 = .ok (.if_icmp .lt 7, 3) := by decide +kernel
theorem dJ9_max_7cf53_5 : decode cJ9_max_7cf53 5 = .ok (.iload_n 0, 1) := by decide +kernel
theorem dJ9_max_7cf53_6 : decode cJ9_max_7cf53 6 = .ok (.goto 4, 3) := by decide +kernel
theorem dJ9_max_7cf53_9 : decode cJ9_max_7cf53 9 = .ok (.iload_n 1, 1) := by decide +kernel
theorem dJ9_max_7cf53_10 : decode cJ9_max_7cf53 10 = .ok (.ireturn, 1) := by decide +kernel
theorem dJ9_min_7cf53_0 : decode cJ9_min_7cf53 0 = .ok (.iload_n 0, 1) := by decide +kernel
theorem dJ9_min_7cf53_1 : decode cJ9_min_7cf53 1 = .ok (.iload_n 1, 1) := by decide +kernel
theorem dJ9_min_7cf53_2 : decode cJ9_min_7cf53 2 = .ok (.if_icmp .gt 7, 3) := by decide +kernel
theorem dJ9_min_7cf53_5 : decode cJ9_min_7cf53 5 = .ok (.iload_n 0, 1) := by decide +kernel
theorem dJ9_min_7cf53_6 : decode cJ9_min_7cf53 6 = .ok (.goto 4, 3) := by decide +kernel
theorem dJ9_min_7cf53_9 : decode cJ9_min_7cf53 9 = .ok (.iload_n 1, 1) := by decide +kernel
theorem dJ9_min_7cf53_10 : decode cJ9_min_7cf53 10 = .ok (.ireturn, 1) := by decide +kernel
theorem dJxa1e45_init_da8c8_0 : decode cJxa1e45_init_da8c8 0 = .ok (.aload_n 0, 1) := by decide +kernel
theorem dJxa1e45_init_da8c8_1 : decode cJxa1e45_init_da8c8 1 = .ok (.invokespecial 1, 3) := by decide +kernel
theorem dJxa1e45_init_da8c8_4 : decode cJxa1e45_init_da8c8 4 = .ok (.return_, 1) := by decide +kernel
theorem dJxc12de_init_da8c8_0 : decode cJxc12de_init_da8c8 0 = .ok (.aload_n 0, 1) := by decide +kernel
theorem dJxc12de_init_da8c8_1 : decode cJxc12de_init_da8c8 1 = .ok (.invokespecial 1, 3) := by decide +kernel
theorem dJxc12de_init_da8c8_4 : decode cJxc12de_init_da8c8 4 = .ok (.aload_n 0, 1) := by decide +kernel
theorem dJxc12de_init_da8c8_5 : decode cJxc12de_init_da8c8 5 = .ok (.iconst 0, 1) := by decide +kernel
theorem dJxc12de_init_da8c8_6 : decode cJxc12de_init_da8c8 6 = .ok (.putfield 7, 3) := by decide +kernel
theorem dJxc12de_init_da8c8_9 : decode cJxc12de_init_da8c8 9 = .ok (.return_, 1) := by decide +kernel
theorem dJx4a65c_init_da8c8_0 : decode cJx4a65c_init_da8c8 0 = .ok (.aload_n 0, 1) := by decide +kernel
theorem dJx4a65c_init_da8c8_1 : decode cJx4a65c_init_da8c8 1 = .ok (.invokespecial 1, 3) := by decide +kernel
theorem dJx4a65c_init_da8c8_4 : decode cJx4a65c_init_da8c8 4 = .ok (.aload_n 0, 1) := by decide +kernel
theorem dJx4a65c_init_da8c8_5 : decode cJx4a65c_init_da8c8 5 = .ok (.getstatic 39, 3) := by decide +kernel
theorem dJx4a65c_init_da8c8_8 : decode cJx4a65c_init_da8c8 8 = .ok (.putfield 9, 3) := by decide +kernel
theorem dJx4a65c_init_da8c8_11 : decode cJx4a65c_init_da8c8 11 = .ok (.return_, 1) := by decide +kernel
theorem dJx4a65c_grow_92f84_0 : decode cJx4a65c_grow_92f84 0 = .ok (.aload_n 0, 1) := by decide +kernel
theorem dJx4a65c_grow_92f84_1 : decode cJx4a65c_grow_92f84 1 = .ok (.getfield 9, 3) := by decide +kernel
theorem dJx4a65c_grow_92f84_4 : decode cJx4a65c_grow_92f84 4 = .ok (.arraylength, 1) := by decide +kernel
theorem dJx4a65c_grow_92f84_5 : decode cJx4a65c_grow_92f84 5 = .ok (.istore_n 2, 1) := by decide +kernel
theorem dJx4a65c_grow_92f84_6 : decode cJx4a65c_grow_92f84 6 = .ok (.iload_n 2, 1) := by decide +kernel
theorem dJx4a65c_grow_92f84_7 : decode cJx4a65c_grow_92f84 7 = .ok (.ifCond .gt 13, 3) := by decide +kernel
theorem dJx4a65c_grow_92f84_10 : decode cJx4a65c_grow_92f84 10 = .ok (.aload_n 0, 1) := by decide +kernel
theorem dJx4a65c_grow_92f84_11 : decode cJx4a65c_grow_92f84 11 = .ok (.getfield 9, 3) := by decide +kernel
theorem dJx4a65c_grow_92f84_14 : decode cJx4a65c_grow_92f84 14 = .ok (.getstatic 39, 3) := by decide +kernel
theorem dJx4a65c_grow_92f84_17 : decode cJx4a65c_grow_92f84 17 = .ok (.if_acmp .eq 28, 3) := by decide +kernel
theorem dJx4a65c_grow_92f84_20 : decode cJx4a65c_grow_92f84 20 = .ok (.iload_n 2, 1) := by decide +kernel
theorem dJx4a65c_grow_92f84_21 : decode cJx4a65c_grow_92f84 21 = .ok (.iload_n 1, 1) := by decide +kernel
theorem dJx4a65c_grow_92f84_22 : decode cJx4a65c_grow_92f84 22 = .ok (.iload_n 2, 1) := by decide +kernel
theorem dJx4a65c_grow_92f84_23 : decode cJx4a65c_grow_92f84 23 = .ok (.isub, 1) := by decide +kernel
theorem dJx4a65c_grow_92f84_24 : decode cJx4a65c_grow_92f84 24 = .ok (.iload_n 2, 1) := by decide +kernel
theorem dJx4a65c_grow_92f84_25 : decode cJx4a65c_grow_92f84 25 = .ok (.iconst 1, 1) := by decide +kernel
theorem dJx4a65c_grow_92f84_26 : decode cJx4a65c_grow_92f84 26 = .ok (.ishr, 1) := by decide +kernel
theorem dJx4a65c_grow_92f84_27 : decode cJx4a65c_grow_92f84 27 = .ok (.invokestatic 73, 3) := by decide +kernel
theorem dJx4a65c_grow_92f84_30 : decode cJx4a65c_grow_92f84 30 = .ok (.istore_n 3, 1) := by decide +kernel
theorem dJx4a65c_grow_92f84_31 : decode cJx4a65c_grow_92f84 31 = .ok (.aload_n 0, 1) := by decide +kernel
theorem dJx4a65c_grow_92f84_32 : decode cJx4a65c_grow_92f84 32 = .ok (.aload_n 0, 1) := by decide +kernel
theorem dJx4a65c_grow_92f84_33 : decode cJx4a65c_grow_92f84 33 = .ok (.getfield 9, 3) := by decide +kernel
theorem dJx4a65c_grow_92f84_36 : decode cJx4a65c_grow_92f84 36 = .ok (.iload_n 3, 1) := by decide +kernel
theorem dJx4a65c_grow_92f84_37 : decode cJx4a65c_grow_92f84 37 = .ok (.invokestatic 66, 3) := by decide +kernel
theorem dJx4a65c_grow_92f84_40 : decode cJx4a65c_grow_92f84 40 = .ok (.dup_x1, 1) := by decide +kernel
theorem dJx4a65c_grow_92f84_41 : decode cJx4a65c_grow_92f84 41 = .ok (.putfield 9, 3) := by decide +kernel
theorem dJx4a65c_grow_92f84_44 : decode cJx4a65c_grow_92f84 44 = .ok (.areturn, 1) := by decide +kernel
theorem dJx4a65c_grow_92f84_45 : decode cJx4a65c_grow_92f84 45 = .ok (.aload_n 0, 1) := by decide +kernel
theorem dJx4a65c_grow_92f84_46 : decode cJx4a65c_grow_92f84 46 = .ok (.bipush 10, 2) := by decide +kernel
theorem dJx4a65c_grow_92f84_48 : decode cJx4a65c_grow_92f84 48 = .ok (.iload_n 1, 1) := by decide +kernel
theorem dJx4a65c_grow_92f84_49 : decode cJx4a65c_grow_92f84 49 = .ok (.invokestatic 79, 3) := by decide +kernel
theorem dJx4a65c_grow_92f84_52 : decode cJx4a65c_grow_92f84 52 = .ok (.anewarray 7, 3) := by decide +kernel
theorem dJx4a65c_grow_92f84_55 : decode cJx4a65c_grow_92f84 55 = .ok (.dup_x1, 1) := by decide +kernel
theorem dJx4a65c_grow_92f84_56 : decode cJx4a65c_grow_92f84 56 = .ok (.putfield 9, 3) := by decide +kernel
theorem dJx4a65c_grow_92f84_59 : decode cJx4a65c_grow_92f84 59 = .ok (.areturn, 1) := by decide +kernel
theorem dJx4a65c_grow_d5877_0 : decode cJx4a65c_grow_d5877 0 = .ok (.aload_n 0, 1) := by decide +kernel
theorem dJx4a65c_grow_d5877_1 : decode cJx4a65c_grow_d5877 1 = .ok (.aload_n 0, 1) := by decide +kernel
theorem dJx4a65c_grow_d5877_2 : decode cJx4a65c_grow_d5877 2 = .ok (.getfield 48, 3) := by decide +kernel
theorem dJx4a65c_grow_d5877_5 : decode cJx4a65c_grow_d5877 5 = .ok (.iconst 1, 1) := by decide +kernel
theorem dJx4a65c_grow_d5877_6 : decode cJx4a65c_grow_d5877 6 = .ok (.iadd, 1) := by decide +kernel
theorem dJx4a65c_grow_d5877_7 : decode cJx4a65c_grow_d5877 7 = .ok (.invokevirtual 69, 3) := by decide +kernel
theorem dJx4a65c_grow_d5877_10 : decode cJx4a65c_grow_d5877 10 = .ok (.areturn, 1) := by decide +kernel
theorem dJx4a65c_size_8abf5_0 : decode cJx4a65c_size_8abf5 0 = .ok (.aload_n 0, 1) := by decide +kernel
theorem dJx4a65c_size_8abf5_1 : decode cJx4a65c_size_8abf5 1 = .ok (.getfield 48, 3) := by decide +kernel
theorem dJx4a65c_size_8abf5_4 : decode cJx4a65c_size_8abf5 4 = .ok (.ireturn, 1) := by decide +kernel
theorem dJx4a65c_elementData_915e3_0 : decode cJx4a65c_elementData_915e3 0 = .ok (.aload_n 0, 1) := by decide +kernel
theorem dJx4a65c_elementData_915e3_1 : decode cJx4a65c_elementData_915e3 1 = .ok (.getfield 9, 3) := by decide +kernel
theorem dJx4a65c_elementData_915e3_4 : decode cJx4a65c_elementData_915e3 4 = .ok (.iload_n 1, 1) := by decide +kernel
theorem dJx4a65c_elementData_915e3_5 : decode cJx4a65c_elementData_915e3 5 = .ok (.aaload, 1) := by decide +kernel
theorem dJx4a65c_elementData_915e3_6 : decode cJx4a65c_elementData_915e3 6 = .ok (.areturn, 1) := by decide +kernel
theorem dJx4a65c_get_915e3_0 : decode cJx4a65c_get_915e3 0 = .ok (.iload_n 1, 1) := by decide +kernel
theorem dJx4a65c_get_915e3_1 : decode cJx4a65c_get_915e3 1 = .ok (.aload_n 0, 1) := by decide +kernel
theorem dJx4a65c_get_915e3_2 : decode cJx4a65c_get_915e3 2 = .ok (.getfield 48, 3) := by decide +kernel
theorem dJx4a65c_get_915e3_5 : decode cJx4a65c_get_915e3 5 = .ok (.invokestatic 118, 3) := by decide +kernel
theorem dJx4a65c_get_915e3_8 : decode cJx4a65c_get_915e3 8 = .ok (.pop, 1) := by decide +kernel
theorem dJx4a65c_get_915e3_9 : decode cJx4a65c_get_915e3 9 = .ok (.aload_n 0, 1) := by decide +kernel
theorem dJx4a65c_get_915e3_10 : decode cJx4a65c_get_915e3 10 = .ok (.iload_n 1, 1) := by decide +kernel
theorem dJx4a65c_get_915e3_11 : decode cJx4a65c_get_915e3 11 = .ok (.invokevirtual 123, 3) := by decide +kernel
theorem dJx4a65c_get_915e3_14 : decode cJx4a65c_get_915e3 14 = .ok (.areturn, 1) := by decide +kernel
theorem dJx4a65c_add_72be8_0 : decode cJx4a65c_add_72be8 0 = .ok (.iload_n 3, 1) := by decide +kernel
theorem dJx4a65c_add_72be8_1 : decode cJx4a65c_add_72be8 1 = .ok (.aload_n 2, 1) := by decide +kernel
theorem dJx4a65c_add_72be8_2 : decode cJx4a65c_add_72be8 2 = .ok (.arraylength, 1) := by decide +kernel
theorem dJx4a65c_add_72be8_3 : decode cJx4a65c_add_72be8 3 = .ok (.if_icmp .ne 8, 3) := by decide +kernel
theorem dJx4a65c_add_72be8_6 : decode cJx4a65c_add_72be8 6 = .ok (.aload_n 0, 1) := by decide +kernel
theorem dJx4a65c_add_72be8_7 : decode cJx4a65c_add_72be8 7 = .ok (.invokevirtual 129, 3) := by decide +kernel
theorem dJx4a65c_add_72be8_10 : decode cJx4a65c_add_72be8 10 = .ok (.astore_n 2, 1) := by decide +kernel
theorem dJx4a65c_add_72be8_11 : decode cJx4a65c_add_72be8 11 = .ok (.aload_n 2, 1) := by decide +kernel
theorem dJx4a65c_add_72be8_12 : decode cJx4a65c_add_72be8 12 = .ok (.iload_n 3, 1) := by decide +kernel
theorem dJx4a65c_add_72be8_13 : decode cJx4a65c_add_72be8 13 = .ok (.aload_n 1, 1) := by decide +kernel
theorem dJx4a65c_add_72be8_14 : decode cJx4a65c_add_72be8 14 = .ok (.aastore, 1) := by decide +kernel
theorem dJx4a65c_add_72be8_15 : decode cJx4a65c_add_72be8 15 = .ok (.aload_n 0, 1) := by decide +kernel
theorem dJx4a65c_add_72be8_16 : decode cJx4a65c_add_72be8 16 = .ok (.iload_n 3, 1) := by decide +kernel
theorem dJx4a65c_add_72be8_17 : decode cJx4a65c_add_72be8 17 = .ok (.iconst 1, 1) := by decide +kernel
theorem dJx4a65c_add_72be8_18 : decode cJx4a65c_add_72be8 18 = .ok (.iadd, 1) := by decide +kernel
theorem dJx4a65c_add_72be8_19 : decode cJx4a65c_add_72be8 19 = .ok (.putfield 48, 3) := by decide +kernel
theorem dJx4a65c_add_72be8_22 : decode cJx4a65c_add_72be8 22 = .ok (.return_, 1) := by decide +kernel
theorem dJx4a65c_add_9ea2d_0 : decode cJx4a65c_add_9ea2d 0 = .ok (.aload_n 0, 1) := by decide +kernel
theorem dJx4a65c_add_9ea2d_1 : decode cJx4a65c_add_9ea2d 1 = .ok (.dup, 1) := by decide +kernel
theorem dJx4a65c_add_9ea2d_2 : decode cJx4a65c_add_9ea2d 2 = .ok (.getfield 63, 3) := by decide +kernel
theorem dJx4a65c_add_9ea2d_5 : decode cJx4a65c_add_9ea2d 5 = .ok (.iconst 1, 1) := by decide +kernel
theorem dJx4a65c_add_9ea2d_6 : decode cJx4a65c_add_9ea2d 6 = .ok (.iadd, 1) := by decide +kernel
theorem dJx4a65c_add_9ea2d_7 : decode cJx4a65c_add_9ea2d 7 = .ok (.putfield 63, 3) := by decide +kernel
theorem dJx4a65c_add_9ea2d_10 : decode cJx4a65c_add_9ea2d 10 = .ok (.aload_n 0, 1) := by decide +kernel
theorem dJx4a65c_add_9ea2d_11 : decode cJx4a65c_add_9ea2d 11 = .ok (.aload_n 1, 1) := by decide +kernel
theorem dJx4a65c_add_9ea2d_12 : decode cJx4a65c_add_9ea2d 12 = .ok (.aload_n 0, 1) := by decide +kernel
theorem dJx4a65c_add_9ea2d_13 : decode cJx4a65c_add_9ea2d 13 = .ok (.getfield 9, 3) := by decide +kernel
theorem dJx4a65c_add_9ea2d_16 : decode cJx4a65c_add_9ea2d 16 = .ok (.aload_n 0, 1) := by decide +kernel
theorem dJx4a65c_add_9ea2d_17 : decode cJx4a65c_add_9ea2d 17 = .ok (.getfield 48, 3) := by decide +kernel
theorem dJx4a65c_add_9ea2d_20 : decode cJx4a65c_add_9ea2d 20 = .ok (.invokevirtual 131, 3) := by decide +kernel
theorem dJx4a65c_add_9ea2d_23 : decode cJx4a65c_add_9ea2d 23 = .ok (.iconst 1, 1) := by decide +kernel
theorem dJx4a65c_add_9ea2d_24 : decode cJx4a65c_add_9ea2d 24 = .ok (.ireturn, 1) := by decide +kernel
theorem dJ7_copyOf_1904c_0 : decode cJ7_copyOf_1904c 0 = .ok (.aload_n 0, 1) := by decide +kernel
theorem dJ7_copyOf_1904c_1 : decode cJ7_copyOf_1904c 1 = .ok (.iload_n 1, 1) := by decide +kernel
theorem dJ7_copyOf_1904c_2 : decode cJ7_copyOf_1904c 2 = .ok (.aload_n 0, 1) := by decide +kernel
theorem dJ7_copyOf_1904c_3 : decode cJ7_copyOf_1904c 3 = .ok (.invokevirtual 86, 3) := by decide +kernel
theorem dJ7_copyOf_1904c_6 : decode cJ7_copyOf_1904c 6 = .ok (.invokestatic 300, 3) := by decide +kernel
theorem dJ7_copyOf_1904c_9 : decode cJ7_copyOf_1904c 9 = .ok (.areturn, 1) := by decide +kernel
theorem dJ7_copyOf_6403c_0 : decode cJ7_copyOf_6403c 0 = .ok (.aload_n 2, 1) := by decide +kernel
theorem dJ7_copyOf_6403c_1 : decode cJ7_copyOf_6403c 1 = .ok (.ldc 110, 2) := by decide +kernel
theorem dJ7_copyOf_6403c_3 : decode cJ7_copyOf_6403c 3 = .ok (.if_acmp .ne 10, 3) := by decide +kernel
theorem dJ7_copyOf_6403c_6 : decode cJ7_copyOf_6403c 6 = .ok (.iload_n 1, 1) := by decide +kernel
theorem dJ7_copyOf_6403c_7 : decode cJ7_copyOf_6403c 7 = .ok (.anewarray 2, 3) := by decide +kernel
theorem dJ7_copyOf_6403c_10 : decode cJ7_copyOf_6403c 10 = .ok (.goto 14, 3) := by decide +kernel
theorem dJ7_copyOf_6403c_13 : decode cJ7_copyOf_6403c 13 = .ok (.aload_n 2, 1) := by decide +kernel
theorem dJ7_copyOf_6403c_14 : decode cJ7_copyOf_6403c 14 = .ok (.invokevirtual 90, 3) := by decide +kernel
theorem dJ7_copyOf_6403c_17 : decode cJ7_copyOf_6403c 17 = .ok (.iload_n 1, 1) := by decide +kernel
theorem dJ7_copyOf_6403c_18 : decode cJ7_copyOf_6403c 18 = .ok (.invokestatic 95, 3) := by decide +kernel
theorem dJ7_copyOf_6403c_21 : decode cJ7_copyOf_6403c 21 = .ok (.checkcast 110, 3) := by decide +kernel
theorem dJ7_copyOf_6403c_24 : decode cJ7_copyOf_6403c 24 = .ok (.astore_n 3, 1) := by decide +kernel
theorem dJ7_copyOf_6403c_25 : decode cJ7_copyOf_6403c 25 = .ok (.aload_n 0, 1) := by decide +kernel
theorem dJ7_copyOf_6403c_26 : decode cJ7_copyOf_6403c 26 = .ok (.iconst 0, 1) := by decide +kernel
theorem dJ7_copyOf_6403c_27 : decode cJ7_copyOf_6403c 27 = .ok (.aload_n 3, 1) := by decide +kernel
theorem dJ7_copyOf_6403c_28 : decode cJ7_copyOf_6403c 28 = .ok (.iconst 0, 1) := by decide +kernel
theorem dJ7_copyOf_6403c_29 : decode cJ7_copyOf_6403c 29 = .ok (.aload_n 0, 1) := by decide +kernel
theorem dJ7_copyOf_6403c_30 : decode cJ7_copyOf_6403c 30 = .ok (.arraylength, 1) := by decide +kernel
theorem dJ7_copyOf_6403c_31 : decode cJ7_copyOf_6403c 31 = .ok (.iload_n 1, 1) := by decide +kernel
theorem dJ7_copyOf_6403c_32 : decode cJ7_copyOf_6403c 32 = .ok (.invokestatic 304, 3) := by decide +kernel
theorem dJ7_copyOf_6403c_35 : decode cJ7_copyOf_6403c 35 = .ok (.invokestatic 150, 3) := by decide +kernel
theorem dJ7_copyOf_6403c_38 : decode cJ7_copyOf_6403c 38 = .ok (.aload_n 3, 1) := by decide +kernel
theorem dJ7_copyOf_6403c_39 : decode cJ7_copyOf_6403c 39 = .ok (.areturn, 1) := by decide +kernel
theorem dJ15_checkIndex_7cf53_0 : decode cJ15_checkIndex_7cf53 0 = .ok (.iload_n 0, 1) := by decide +kernel
theorem dJ15_checkIndex_7cf53_1 : decode cJ15_checkIndex_7cf53 1 = .ok (.iload_n 1, 1) := by decide +kernel
theorem dJ15_checkIndex_7cf53_2 : decode cJ15_checkIndex_7cf53 2 = .ok (.aconst_null, 1) := by decide +kernel
theorem dJ15_checkIndex_7cf53_3 : decode cJ15_checkIndex_7cf53 3 = .ok (.invokestatic 105, 3) := by decide +kernel
theorem dJ15_checkIndex_7cf53_6 : decode cJ15_checkIndex_7cf53 6 = .ok (.ireturn, 1) := by decide +kernel
theorem dJ8_newLength_cabcc_0 : decode cJ8_newLength_cabcc 0 = .ok (.iload_n 0, 1) := by decide +kernel
theorem dJ8_newLength_cabcc_1 : decode cJ8_newLength_cabcc 1 = .ok (.iload_n 1, 1) := by decide +kernel
theorem dJ8_newLength_cabcc_2 : decode cJ8_newLength_cabcc 2 = .ok (.iload_n 2, 1) := by decide +kernel
theorem dJ8_newLength_cabcc_3 : decode cJ8_newLength_cabcc 3 = .ok (.invokestatic 194, 3) := by decide +kernel
theorem dJ8_newLength_cabcc_6 : decode cJ8_newLength_cabcc 6 = .ok (.iadd, 1) := by decide +kernel
theorem dJ8_newLength_cabcc_7 : decode cJ8_newLength_cabcc 7 = .ok (.istore_n 3, 1) := by decide +kernel
theorem dJ8_newLength_cabcc_8 : decode cJ8_newLength_cabcc 8 = .ok (.iconst 0, 1) := by decide +kernel
theorem dJ8_newLength_cabcc_9 : decode cJ8_newLength_cabcc 9 = .ok (.iload_n 3, 1) := by decide +kernel
theorem dJ8_newLength_cabcc_10 : decode cJ8_newLength_cabcc 10 = .ok (.if_icmp .ge 11, 3) := by decide +kernel
theorem dJ8_newLength_cabcc_13 : decode cJ8_newLength_cabcc 13 = .ok (.iload_n 3, 1) := by decide +kernel
theorem dJ8_newLength_cabcc_14 : decode cJ8_newLength_cabcc 14 = .ok (.ldc 200, 2) := by decide +kernel
theorem dJ8_newLength_cabcc_16 : decode cJ8_newLength_cabcc 16 = .ok (.if_icmp .gt 5, 3) := by decide +kernel
theorem dJ8_newLength_cabcc_19 : decode cJ8_newLength_cabcc 19 = .ok (.iload_n 3, 1) := by decide +kernel
theorem dJ8_newLength_cabcc_20 : decode cJ8_newLength_cabcc 20 = .ok (.ireturn, 1) := by decide +kernel
theorem dJ8_newLength_cabcc_21 : decode cJ8_newLength_cabcc 21 = .ok (.iload_n 0, 1) := by decide +kernel
theorem dJ8_newLength_cabcc_22 : decode cJ8_newLength_cabcc 22 = .ok (.iload_n 1, 1) := by decide +kernel
theorem dJ8_newLength_cabcc_23 : decode cJ8_newLength_cabcc 23 = .ok (.invokestatic 201, 3) := by decide +kernel
theorem dJ8_newLength_cabcc_26 : decode cJ8_newLength_cabcc 26 = .ok (.ireturn, 1) := by decide +kernel
theorem dJ8_hugeLength_7cf53_0 : decode cJ8_hugeLength_7cf53 0 = .ok (.iload_n 0, 1) := by decide +kernel
theorem dJ8_hugeLength_7cf53_1 : decode cJ8_hugeLength_7cf53 1 = .ok (.iload_n 1, 1) := by decide +kernel
theorem dJ8_hugeLength_7cf53_2 : decode cJ8_hugeLength_7cf53 2 = .ok (.iadd, 1) := by decide +kernel
theorem dJ8_hugeLength_7cf53_3 : decode cJ8_hugeLength_7cf53 3 = .ok (.istore_n 2, 1) := by decide +kernel
theorem dJ8_hugeLength_7cf53_4 : decode cJ8_hugeLength_7cf53 4 = .ok (.iload_n 2, 1) := by decide +kernel
theorem dJ8_hugeLength_7cf53_5 : decode cJ8_hugeLength_7cf53 5 = .ok (.ifCond .ge 44, 3) := by decide +kernel
theorem dJ8_hugeLength_7cf53_8 : decode cJ8_hugeLength_7cf53 8 = .ok (.new 204, 3) := by decide +kernel
theorem dJ8_hugeLength_7cf53_11 : decode cJ8_hugeLength_7cf53 11 = .ok (.dup, 1) := by decide +kernel
theorem dJ8_hugeLength_7cf53_12 : decode cJ8_hugeLength_7cf53 12 = .ok (.new 89, 3) := by decide +kernel
theorem dJ8_hugeLength_7cf53_15 : decode cJ8_hugeLength_7cf53 15 = .ok (.dup, 1) := by decide +kernel
theorem dJ8_hugeLength_7cf53_16 : decode cJ8_hugeLength_7cf53 16 = .ok (.invokespecial 91, 3) := by decide +kernel
theorem dJ8_hugeLength_7cf53_19 : decode cJ8_hugeLength_7cf53 19 = .ok (.ldc 206, 2) := by decide +kernel
theorem dJ8_hugeLength_7cf53_21 : decode cJ8_hugeLength_7cf53 21 = .ok (.invokevirtual 94, 3) := by decide +kernel
theorem dJ8_hugeLength_7cf53_24 : decode cJ8_hugeLength_7cf53 24 = .ok (.iload_n 0, 1) := by decide +kernel
theorem dJ8_hugeLength_7cf53_25 : decode cJ8_hugeLength_7cf53 25 = .ok (.invokevirtual 98, 3) := by decide +kernel
theorem dJ8_hugeLength_7cf53_28 : decode cJ8_hugeLength_7cf53 28 = .ok (.ldc 208, 2) := by decide +kernel
theorem dJ8_hugeLength_7cf53_30 : decode cJ8_hugeLength_7cf53 30 = .ok (.invokevirtual 94, 3) := by decide +kernel
theorem dJ8_hugeLength_7cf53_33 : decode cJ8_hugeLength_7cf53 33 = .ok (.iload_n 1, 1) := by decide +kernel
theorem dJ8_hugeLength_7cf53_34 : decode cJ8_hugeLength_7cf53 34 = .ok (.invokevirtual 98, 3) := by decide +kernel
theorem dJ8_hugeLength_7cf53_37 : decode cJ8_hugeLength_7cf53 37 = .ok (.ldc 210, 2) := by decide +kernel
theorem dJ8_hugeLength_7cf53_39 : decode cJ8_hugeLength_7cf53 39 = .ok (.invokevirtual 94, 3) := by decide +kernel
theorem dJ8_hugeLength_7cf53_42 : decode cJ8_hugeLength_7cf53 42 = .ok (.invokevirtual 101, 3) := by decide +kernel
theorem dJ8_hugeLength_7cf53_45 : decode cJ8_hugeLength_7cf53 45 = .ok (.invokespecial 212, 3) := by decide +kernel
theorem dJ8_hugeLength_7cf53_48 : decode cJ8_hugeLength_7cf53 48 = .ok (.athrow, 1) := by decide +kernel
theorem dJ8_hugeLength_7cf53_49 : decode cJ8_hugeLength_7cf53 49 = .ok (.iload_n 2, 1) := by decide +kernel
theorem dJ8_hugeLength_7cf53_50 : decode cJ8_hugeLength_7cf53 50 = .ok (.ldc 200, 2) := by decide +kernel
theorem dJ8_hugeLength_7cf53_52 : decode cJ8_hugeLength_7cf53 52 = .ok (.if_icmp .gt 6, 3) := by decide +kernel
theorem dJ8_hugeLength_7cf53_55 : decode cJ8_hugeLength_7cf53 55 = .ok (.ldc 200, 2) := by decide +kernel
theorem dJ8_hugeLength_7cf53_57 : decode cJ8_hugeLength_7cf53 57 = .ok (.ireturn, 1) := by decide +kernel
theorem dJ8_hugeLength_7cf53_58 : decode cJ8_hugeLength_7cf53 58 = .ok (.iload_n 2, 1) := by decide +kernel
theorem dJ8_hugeLength_7cf53_59 : decode cJ8_hugeLength_7cf53 59 = .ok (.ireturn, 1) := by decide +kernel
theorem dJ3_checkIndex_8e157_0 : decode cJ3_checkIndex_8e157 0 = .ok (.iload_n 0, 1) := by decide +kernel
theorem dJ3_checkIndex_8e157_1 : decode cJ3_checkIndex_8e157 1 = .ok (.ifCond .lt 8, 3) := by decide +kernel
theorem dJ3_checkIndex_8e157_4 : decode cJ3_checkIndex_8e157 4 = .ok (.iload_n 0, 1) := by decide +kernel
theorem dJ3_checkIndex_8e157_5 : decode cJ3_checkIndex_8e157 5 = .ok (.iload_n 1, 1) := by decide +kernel
theorem dJ3_checkIndex_8e157_6 : decode cJ3_checkIndex_8e157 6 = .ok (.if_icmp .lt 10, 3) := by decide +kernel
theorem dJ3_checkIndex_8e157_9 : decode cJ3_checkIndex_8e157 9 = .ok (.aload_n 2, 1) := by decide +kernel
theorem dJ3_checkIndex_8e157_10 : decode cJ3_checkIndex_8e157 10 = .ok (.iload_n 0, 1) := by decide +kernel
theorem dJ3_checkIndex_8e157_11 : decode cJ3_checkIndex_8e157 11 = .ok (.iload_n 1, 1) := by decide +kernel
theorem dJ3_checkIndex_8e157_12 : decode cJ3_checkIndex_8e157 12 = .ok (.invokestatic 95, 3) := by decide +kernel
theorem dJ3_checkIndex_8e157_15 : decode cJ3_checkIndex_8e157 15 = .ok (.athrow, 1) := by decide +kernel
theorem dJ3_checkIndex_8e157_16 : decode cJ3_checkIndex_8e157 16 = .ok (.iload_n 0, 1) := by decide +kernel
theorem dJ3_checkIndex_8e157_17 : decode cJ3_checkIndex_8e157 17 = .ok (.ireturn, 1) := by decide +kernel
theorem dL_law_0 : decode cL_law 0 = .ok (.new 7, 3) := by decide +kernel
theorem dL_law_3 : decode cL_law 3 = .ok (.dup, 1) := by decide +kernel
theorem dL_law_4 : decode cL_law 4 = .ok (.invokespecial 9, 3) := by decide +kernel
theorem dL_law_7 : decode cL_law 7 = .ok (.astore_n 1, 1) := by decide +kernel
theorem dL_law_8 : decode cL_law 8 = .ok (.new 10, 3) := by decide +kernel
theorem dL_law_11 : decode cL_law 11 = .ok (.dup, 1) := by decide +kernel
theorem dL_law_12 : decode cL_law 12 = .ok (.invokespecial 12, 3) := by decide +kernel
theorem dL_law_15 : decode cL_law 15 = .ok (.astore_n 2, 1) := by decide +kernel
theorem dL_law_16 : decode cL_law 16 = .ok (.iconst 0, 1) := by decide +kernel
theorem dL_law_17 : decode cL_law 17 = .ok (.istore_n 3, 1) := by decide +kernel
theorem dL_law_18 : decode cL_law 18 = .ok (.iload_n 3, 1) := by decide +kernel
theorem dL_law_19 : decode cL_law 19 = .ok (.aload_n 0, 1) := by decide +kernel
theorem dL_law_20 : decode cL_law 20 = .ok (.arraylength, 1) := by decide +kernel
theorem dL_law_21 : decode cL_law 21 = .ok (.iconst 4, 1) := by decide +kernel
theorem dL_law_22 : decode cL_law 22 = .ok (.isub, 1) := by decide +kernel
theorem dL_law_23 : decode cL_law 23 = .ok (.if_icmp .gt 792, 3) := by decide +kernel
theorem dL_law_26 : decode cL_law 26 = .ok (.aload_n 0, 1) := by decide +kernel
theorem dL_law_27 : decode cL_law 27 = .ok (.iload_n 3, 1) := by decide +kernel
theorem dL_law_28 : decode cL_law 28 = .ok (.iaload, 1) := by decide +kernel
theorem dL_law_29 : decode cL_law 29 = .ok (.bipush 31, 2) := by decide +kernel
theorem dL_law_31 : decode cL_law 31 = .ok (.iand, 1) := by decide +kernel
theorem dL_law_32 : decode cL_law 32 = .ok (.tableswitch 777 0 22 #[108, 141, 174, 187, 220, 243, 276, 309, 342, 365, 388, 411, 434, 457, 490, 533, 566, 589, 632, 655, 698, 721, 764], 108) := by decide +kernel
theorem dL_law_140 : decode cL_law 140 = .ok (.aload_n 1, 1) := by decide +kernel
theorem dL_law_141 : decode cL_law 141 = .ok (.aload_n 0, 1) := by decide +kernel
theorem dL_law_142 : decode cL_law 142 = .ok (.iload_n 3, 1) := by decide +kernel
theorem dL_law_143 : decode cL_law 143 = .ok (.iconst 1, 1) := by decide +kernel
theorem dL_law_144 : decode cL_law 144 = .ok (.iadd, 1) := by decide +kernel
theorem dL_law_145 : decode cL_law 145 = .ok (.iaload, 1) := by decide +kernel
theorem dL_law_146 : decode cL_law 146 = .ok (.aload_n 0, 1) := by decide +kernel
theorem dL_law_147 : decode cL_law 147 = .ok (.iload_n 3, 1) := by decide +kernel
theorem dL_law_148 : decode cL_law 148 = .ok (.iconst 2, 1) := by decide +kernel
theorem dL_law_149 : decode cL_law 149 = .ok (.iadd, 1) := by decide +kernel
theorem dL_law_150 : decode cL_law 150 = .ok (.iaload, 1) := by decide +kernel
theorem dL_law_151 : decode cL_law 151 = .ok (.invokevirtual 13, 3) := by decide +kernel
theorem dL_law_154 : decode cL_law 154 = .ok (.aload_n 2, 1) := by decide +kernel
theorem dL_law_155 : decode cL_law 155 = .ok (.aload_n 0, 1) := by decide +kernel
theorem dL_law_156 : decode cL_law 156 = .ok (.iload_n 3, 1) := by decide +kernel
theorem dL_law_157 : decode cL_law 157 = .ok (.iconst 1, 1) := by decide +kernel
theorem dL_law_158 : decode cL_law 158 = .ok (.iadd, 1) := by decide +kernel
theorem dL_law_159 : decode cL_law 159 = .ok (.iaload, 1) := by decide +kernel
theorem dL_law_160 : decode cL_law 160 = .ok (.aload_n 0, 1) := by decide +kernel
theorem dL_law_161 : decode cL_law 161 = .ok (.iload_n 3, 1) := by decide +kernel
theorem dL_law_162 : decode cL_law 162 = .ok (.iconst 2, 1) := by decide +kernel
theorem dL_law_163 : decode cL_law 163 = .ok (.iadd, 1) := by decide +kernel
theorem dL_law_164 : decode cL_law 164 = .ok (.iaload, 1) := by decide +kernel
theorem dL_law_165 : decode cL_law 165 = .ok (.invokevirtual 17, 3) := by decide +kernel
theorem dL_law_168 : decode cL_law 168 = .ok (.if_icmp .eq 641, 3) := by decide +kernel
theorem dL_law_171 : decode cL_law 171 = .ok (.iconst 0, 1) := by decide +kernel
theorem dL_law_172 : decode cL_law 172 = .ok (.ireturn, 1) := by decide +kernel
theorem dL_law_173 : decode cL_law 173 = .ok (.aload_n 1, 1) := by decide +kernel
theorem dL_law_174 : decode cL_law 174 = .ok (.aload_n 0, 1) := by decide +kernel
theorem dL_law_175 : decode cL_law 175 = .ok (.iload_n 3, 1) := by decide +kernel
theorem dL_law_176 : decode cL_law 176 = .ok (.iconst 1, 1) := by decide +kernel
theorem dL_law_177 : decode cL_law 177 = .ok (.iadd, 1) := by decide +kernel
theorem dL_law_178 : decode cL_law 178 = .ok (.iaload, 1) := by decide +kernel
theorem dL_law_179 : decode cL_law 179 = .ok (.aload_n 0, 1) := by decide +kernel
theorem dL_law_180 : decode cL_law 180 = .ok (.iload_n 3, 1) := by decide +kernel
theorem dL_law_181 : decode cL_law 181 = .ok (.iconst 2, 1) := by decide +kernel
theorem dL_law_182 : decode cL_law 182 = .ok (.iadd, 1) := by decide +kernel
theorem dL_law_183 : decode cL_law 183 = .ok (.iaload, 1) := by decide +kernel
theorem dL_law_184 : decode cL_law 184 = .ok (.invokevirtual 18, 3) := by decide +kernel
theorem dL_law_187 : decode cL_law 187 = .ok (.aload_n 2, 1) := by decide +kernel
theorem dL_law_188 : decode cL_law 188 = .ok (.aload_n 0, 1) := by decide +kernel
theorem dL_law_189 : decode cL_law 189 = .ok (.iload_n 3, 1) := by decide +kernel
theorem dL_law_190 : decode cL_law 190 = .ok (.iconst 1, 1) := by decide +kernel
theorem dL_law_191 : decode cL_law 191 = .ok (.iadd, 1) := by decide +kernel
theorem dL_law_192 : decode cL_law 192 = .ok (.iaload, 1) := by decide +kernel
theorem dL_law_193 : decode cL_law 193 = .ok (.aload_n 0, 1) := by decide +kernel
theorem dL_law_194 : decode cL_law 194 = .ok (.iload_n 3, 1) := by decide +kernel
theorem dL_law_195 : decode cL_law 195 = .ok (.iconst 2, 1) := by decide +kernel
theorem dL_law_196 : decode cL_law 196 = .ok (.iadd, 1) := by decide +kernel
theorem dL_law_197 : decode cL_law 197 = .ok (.iaload, 1) := by decide +kernel
theorem dL_law_198 : decode cL_law 198 = .ok (.invokevirtual 21, 3) := by decide +kernel
theorem dL_law_201 : decode cL_law 201 = .ok (.if_icmp .eq 608, 3) := by decide +kernel
theorem dL_law_204 : decode cL_law 204 = .ok (.iconst 0, 1) := by decide +kernel
theorem dL_law_205 : decode cL_law 205 = .ok (.ireturn, 1) := by decide +kernel
theorem dL_law_206 : decode cL_law 206 = .ok (.aload_n 1, 1) := by decide +kernel
theorem dL_law_207 : decode cL_law 207 = .ok (.invokevirtual 22, 3) := by decide +kernel
theorem dL_law_210 : decode cL_law 210 = .ok (.aload_n 2, 1) := by decide +kernel
theorem dL_law_211 : decode cL_law 211 = .ok (.invokevirtual 26, 3) := by decide +kernel
theorem dL_law_214 : decode cL_law 214 = .ok (.if_icmp .eq 595, 3) := by decide +kernel
theorem dL_law_217 : decode cL_law 217 = .ok (.iconst 0, 1) := by decide +kernel
theorem dL_law_218 : decode cL_law 218 = .ok (.ireturn, 1) := by decide +kernel
theorem dL_law_219 : decode cL_law 219 = .ok (.aload_n 1, 1) := by decide +kernel
theorem dL_law_220 : decode cL_law 220 = .ok (.aload_n 0, 1) := by decide +kernel
theorem dL_law_221 : decode cL_law 221 = .ok (.iload_n 3, 1) := by decide +kernel
theorem dL_law_222 : decode cL_law 222 = .ok (.iconst 1, 1) := by decide +kernel
theorem dL_law_223 : decode cL_law 223 = .ok (.iadd, 1) := by decide +kernel
theorem dL_law_224 : decode cL_law 224 = .ok (.iaload, 1) := by decide +kernel
theorem dL_law_225 : decode cL_law 225 = .ok (.aload_n 0, 1) := by decide +kernel
theorem dL_law_226 : decode cL_law 226 = .ok (.iload_n 3, 1) := by decide +kernel
theorem dL_law_227 : decode cL_law 227 = .ok (.iconst 2, 1) := by decide +kernel
theorem dL_law_228 : decode cL_law 228 = .ok (.iadd, 1) := by decide +kernel
theorem dL_law_229 : decode cL_law 229 = .ok (.iaload, 1) := by decide +kernel
theorem dL_law_230 : decode cL_law 230 = .ok (.invokevirtual 27, 3) := by decide +kernel
theorem dL_law_233 : decode cL_law 233 = .ok (.aload_n 2, 1) := by decide +kernel
theorem dL_law_234 : decode cL_law 234 = .ok (.aload_n 0, 1) := by decide +kernel
theorem dL_law_235 : decode cL_law 235 = .ok (.iload_n 3, 1) := by decide +kernel
theorem dL_law_236 : decode cL_law 236 = .ok (.iconst 1, 1) := by decide +kernel
theorem dL_law_237 : decode cL_law 237 = .ok (.iadd, 1) := by decide +kernel
theorem dL_law_238 : decode cL_law 238 = .ok (.iaload, 1) := by decide +kernel
theorem dL_law_239 : decode cL_law 239 = .ok (.aload_n 0, 1) := by decide +kernel
theorem dL_law_240 : decode cL_law 240 = .ok (.iload_n 3, 1) := by decide +kernel
theorem dL_law_241 : decode cL_law 241 = .ok (.iconst 2, 1) := by decide +kernel
theorem dL_law_242 : decode cL_law 242 = .ok (.iadd, 1) := by decide +kernel
theorem dL_law_243 : decode cL_law 243 = .ok (.iaload, 1) := by decide +kernel
theorem dL_law_244 : decode cL_law 244 = .ok (.invokevirtual 30, 3) := by decide +kernel
theorem dL_law_247 : decode cL_law 247 = .ok (.if_icmp .eq 562, 3) := by decide +kernel
theorem dL_law_250 : decode cL_law 250 = .ok (.iconst 0, 1) := by decide +kernel
theorem dL_law_251 : decode cL_law 251 = .ok (.ireturn, 1) := by decide +kernel
theorem dL_law_252 : decode cL_law 252 = .ok (.aload_n 1, 1) := by decide +kernel
theorem dL_law_253 : decode cL_law 253 = .ok (.aload_n 0, 1) := by decide +kernel
theorem dL_law_254 : decode cL_law 254 = .ok (.iload_n 3, 1) := by decide +kernel
theorem dL_law_255 : decode cL_law 255 = .ok (.iconst 1, 1) := by decide +kernel
theorem dL_law_256 : decode cL_law 256 = .ok (.iadd, 1) := by decide +kernel
theorem dL_law_257 : decode cL_law 257 = .ok (.iaload, 1) := by decide +kernel
theorem dL_law_258 : decode cL_law 258 = .ok (.invokevirtual 31, 3) := by decide +kernel
theorem dL_law_261 : decode cL_law 261 = .ok (.aload_n 2, 1) := by decide +kernel
theorem dL_law_262 : decode cL_law 262 = .ok (.aload_n 0, 1) := by decide +kernel
theorem dL_law_263 : decode cL_law 263 = .ok (.iload_n 3, 1) := by decide +kernel
theorem dL_law_264 : decode cL_law 264 = .ok (.iconst 1, 1) := by decide +kernel
theorem dL_law_265 : decode cL_law 265 = .ok (.iadd, 1) := by decide +kernel
theorem dL_law_266 : decode cL_law 266 = .ok (.iaload, 1) := by decide +kernel
theorem dL_law_267 : decode cL_law 267 = .ok (.invokevirtual 35, 3) := by decide +kernel
theorem dL_law_270 : decode cL_law 270 = .ok (.if_icmp .eq 539, 3) := by decide +kernel
theorem dL_law_273 : decode cL_law 273 = .ok (.iconst 0, 1) := by decide +kernel
theorem dL_law_274 : decode cL_law 274 = .ok (.ireturn, 1) := by decide +kernel
theorem dL_law_275 : decode cL_law 275 = .ok (.aload_n 1, 1) := by decide +kernel
theorem dL_law_276 : decode cL_law 276 = .ok (.aload_n 0, 1) := by decide +kernel
theorem dL_law_277 : decode cL_law 277 = .ok (.iload_n 3, 1) := by decide +kernel
theorem dL_law_278 : decode cL_law 278 = .ok (.iconst 1, 1) := by decide +kernel
theorem dL_law_279 : decode cL_law 279 = .ok (.iadd, 1) := by decide +kernel
theorem dL_law_280 : decode cL_law 280 = .ok (.iaload, 1) := by decide +kernel
theorem dL_law_281 : decode cL_law 281 = .ok (.aload_n 0, 1) := by decide +kernel
theorem dL_law_282 : decode cL_law 282 = .ok (.iload_n 3, 1) := by decide +kernel
theorem dL_law_283 : decode cL_law 283 = .ok (.iconst 2, 1) := by decide +kernel
theorem dL_law_284 : decode cL_law 284 = .ok (.iadd, 1) := by decide +kernel
theorem dL_law_285 : decode cL_law 285 = .ok (.iaload, 1) := by decide +kernel
theorem dL_law_286 : decode cL_law 286 = .ok (.invokevirtual 36, 3) := by decide +kernel
theorem dL_law_289 : decode cL_law 289 = .ok (.aload_n 2, 1) := by decide +kernel
theorem dL_law_290 : decode cL_law 290 = .ok (.aload_n 0, 1) := by decide +kernel
theorem dL_law_291 : decode cL_law 291 = .ok (.iload_n 3, 1) := by decide +kernel
theorem dL_law_292 : decode cL_law 292 = .ok (.iconst 1, 1) := by decide +kernel
theorem dL_law_293 : decode cL_law 293 = .ok (.iadd, 1) := by decide +kernel
theorem dL_law_294 : decode cL_law 294 = .ok (.iaload, 1) := by decide +kernel
theorem dL_law_295 : decode cL_law 295 = .ok (.aload_n 0, 1) := by decide +kernel
theorem dL_law_296 : decode cL_law 296 = .ok (.iload_n 3, 1) := by decide +kernel
theorem dL_law_297 : decode cL_law 297 = .ok (.iconst 2, 1) := by decide +kernel
theorem dL_law_298 : decode cL_law 298 = .ok (.iadd, 1) := by decide +kernel
theorem dL_law_299 : decode cL_law 299 = .ok (.iaload, 1) := by decide +kernel
theorem dL_law_300 : decode cL_law 300 = .ok (.invokevirtual 39, 3) := by decide +kernel
theorem dL_law_303 : decode cL_law 303 = .ok (.if_icmp .eq 506, 3) := by decide +kernel
theorem dL_law_306 : decode cL_law 306 = .ok (.iconst 0, 1) := by decide +kernel
theorem dL_law_307 : decode cL_law 307 = .ok (.ireturn, 1) := by decide +kernel
theorem dL_law_308 : decode cL_law 308 = .ok (.aload_n 1, 1) := by decide +kernel
theorem dL_law_309 : decode cL_law 309 = .ok (.aload_n 0, 1) := by decide +kernel
theorem dL_law_310 : decode cL_law 310 = .ok (.iload_n 3, 1) := by decide +kernel
theorem dL_law_311 : decode cL_law 311 = .ok (.iconst 1, 1) := by decide +kernel
theorem dL_law_312 : decode cL_law 312 = .ok (.iadd, 1) := by decide +kernel
theorem dL_law_313 : decode cL_law 313 = .ok (.iaload, 1) := by decide +kernel
theorem dL_law_314 : decode cL_law 314 = .ok (.aload_n 0, 1) := by decide +kernel
theorem dL_law_315 : decode cL_law 315 = .ok (.iload_n 3, 1) := by decide +kernel
theorem dL_law_316 : decode cL_law 316 = .ok (.iconst 2, 1) := by decide +kernel
theorem dL_law_317 : decode cL_law 317 = .ok (.iadd, 1) := by decide +kernel
theorem dL_law_318 : decode cL_law 318 = .ok (.iaload, 1) := by decide +kernel
theorem dL_law_319 : decode cL_law 319 = .ok (.invokevirtual 40, 3) := by decide +kernel
theorem dL_law_322 : decode cL_law 322 = .ok (.aload_n 2, 1) := by decide +kernel
theorem dL_law_323 : decode cL_law 323 = .ok (.aload_n 0, 1) := by decide +kernel
theorem dL_law_324 : decode cL_law 324 = .ok (.iload_n 3, 1) := by decide +kernel
theorem dL_law_325 : decode cL_law 325 = .ok (.iconst 1, 1) := by decide +kernel
theorem dL_law_326 : decode cL_law 326 = .ok (.iadd, 1) := by decide +kernel
theorem dL_law_327 : decode cL_law 327 = .ok (.iaload, 1) := by decide +kernel
theorem dL_law_328 : decode cL_law 328 = .ok (.aload_n 0, 1) := by decide +kernel
theorem dL_law_329 : decode cL_law 329 = .ok (.iload_n 3, 1) := by decide +kernel
theorem dL_law_330 : decode cL_law 330 = .ok (.iconst 2, 1) := by decide +kernel
theorem dL_law_331 : decode cL_law 331 = .ok (.iadd, 1) := by decide +kernel
theorem dL_law_332 : decode cL_law 332 = .ok (.iaload, 1) := by decide +kernel
theorem dL_law_333 : decode cL_law 333 = .ok (.invokevirtual 43, 3) := by decide +kernel
theorem dL_law_336 : decode cL_law 336 = .ok (.if_icmp .eq 473, 3) := by decide +kernel
theorem dL_law_339 : decode cL_law 339 = .ok (.iconst 0, 1) := by decide +kernel
theorem dL_law_340 : decode cL_law 340 = .ok (.ireturn, 1) := by decide +kernel
theorem dL_law_341 : decode cL_law 341 = .ok (.aload_n 1, 1) := by decide +kernel
theorem dL_law_342 : decode cL_law 342 = .ok (.aload_n 0, 1) := by decide +kernel
theorem dL_law_343 : decode cL_law 343 = .ok (.iload_n 3, 1) := by decide +kernel
theorem dL_law_344 : decode cL_law 344 = .ok (.iconst 1, 1) := by decide +kernel
theorem dL_law_345 : decode cL_law 345 = .ok (.iadd, 1) := by decide +kernel
theorem dL_law_346 : decode cL_law 346 = .ok (.iaload, 1) := by decide +kernel
theorem dL_law_347 : decode cL_law 347 = .ok (.aload_n 0, 1) := by decide +kernel
theorem dL_law_348 : decode cL_law 348 = .ok (.iload_n 3, 1) := by decide +kernel
theorem dL_law_349 : decode cL_law 349 = .ok (.iconst 2, 1) := by decide +kernel
theorem dL_law_350 : decode cL_law 350 = .ok (.iadd, 1) := by decide +kernel
theorem dL_law_351 : decode cL_law 351 = .ok (.iaload, 1) := by decide +kernel
theorem dL_law_352 : decode cL_law 352 = .ok (.invokevirtual 44, 3) := by decide +kernel
theorem dL_law_355 : decode cL_law 355 = .ok (.aload_n 2, 1) := by decide +kernel
theorem dL_law_356 : decode cL_law 356 = .ok (.aload_n 0, 1) := by decide +kernel
theorem dL_law_357 : decode cL_law 357 = .ok (.iload_n 3, 1) := by decide +kernel
theorem dL_law_358 : decode cL_law 358 = .ok (.iconst 1, 1) := by decide +kernel
theorem dL_law_359 : decode cL_law 359 = .ok (.iadd, 1) := by decide +kernel
theorem dL_law_360 : decode cL_law 360 = .ok (.iaload, 1) := by decide +kernel
theorem dL_law_361 : decode cL_law 361 = .ok (.aload_n 0, 1) := by decide +kernel
theorem dL_law_362 : decode cL_law 362 = .ok (.iload_n 3, 1) := by decide +kernel
theorem dL_law_363 : decode cL_law 363 = .ok (.iconst 2, 1) := by decide +kernel
theorem dL_law_364 : decode cL_law 364 = .ok (.iadd, 1) := by decide +kernel
theorem dL_law_365 : decode cL_law 365 = .ok (.iaload, 1) := by decide +kernel
theorem dL_law_366 : decode cL_law 366 = .ok (.invokevirtual 47, 3) := by decide +kernel
theorem dL_law_369 : decode cL_law 369 = .ok (.if_icmp .eq 440, 3) := by decide +kernel
theorem dL_law_372 : decode cL_law 372 = .ok (.iconst 0, 1) := by decide +kernel
theorem dL_law_373 : decode cL_law 373 = .ok (.ireturn, 1) := by decide +kernel
theorem dL_law_374 : decode cL_law 374 = .ok (.aload_n 1, 1) := by decide +kernel
theorem dL_law_375 : decode cL_law 375 = .ok (.aload_n 0, 1) := by decide +kernel
theorem dL_law_376 : decode cL_law 376 = .ok (.iload_n 3, 1) := by decide +kernel
theorem dL_law_377 : decode cL_law 377 = .ok (.iconst 1, 1) := by decide +kernel
theorem dL_law_378 : decode cL_law 378 = .ok (.iadd, 1) := by decide +kernel
theorem dL_law_379 : decode cL_law 379 = .ok (.iaload, 1) := by decide +kernel
theorem dL_law_380 : decode cL_law 380 = .ok (.invokevirtual 48, 3) := by decide +kernel
theorem dL_law_383 : decode cL_law 383 = .ok (.aload_n 2, 1) := by decide +kernel
theorem dL_law_384 : decode cL_law 384 = .ok (.aload_n 0, 1) := by decide +kernel
theorem dL_law_385 : decode cL_law 385 = .ok (.iload_n 3, 1) := by decide +kernel
theorem dL_law_386 : decode cL_law 386 = .ok (.iconst 1, 1) := by decide +kernel
theorem dL_law_387 : decode cL_law 387 = .ok (.iadd, 1) := by decide +kernel
theorem dL_law_388 : decode cL_law 388 = .ok (.iaload, 1) := by decide +kernel
theorem dL_law_389 : decode cL_law 389 = .ok (.invokevirtual 51, 3) := by decide +kernel
theorem dL_law_392 : decode cL_law 392 = .ok (.if_icmp .eq 417, 3) := by decide +kernel
theorem dL_law_395 : decode cL_law 395 = .ok (.iconst 0, 1) := by decide +kernel
theorem dL_law_396 : decode cL_law 396 = .ok (.ireturn, 1) := by decide +kernel
theorem dL_law_397 : decode cL_law 397 = .ok (.aload_n 1, 1) := by decide +kernel
theorem dL_law_398 : decode cL_law 398 = .ok (.aload_n 0, 1) := by decide +kernel
theorem dL_law_399 : decode cL_law 399 = .ok (.iload_n 3, 1) := by decide +kernel
theorem dL_law_400 : decode cL_law 400 = .ok (.iconst 1, 1) := by decide +kernel
theorem dL_law_401 : decode cL_law 401 = .ok (.iadd, 1) := by decide +kernel
theorem dL_law_402 : decode cL_law 402 = .ok (.iaload, 1) := by decide +kernel
theorem dL_law_403 : decode cL_law 403 = .ok (.invokevirtual 52, 3) := by decide +kernel
theorem dL_law_406 : decode cL_law 406 = .ok (.aload_n 2, 1) := by decide +kernel
theorem dL_law_407 : decode cL_law 407 = .ok (.aload_n 0, 1) := by decide +kernel
theorem dL_law_408 : decode cL_law 408 = .ok (.iload_n 3, 1) := by decide +kernel
theorem dL_law_409 : decode cL_law 409 = .ok (.iconst 1, 1) := by decide +kernel
theorem dL_law_410 : decode cL_law 410 = .ok (.iadd, 1) := by decide +kernel
theorem dL_law_411 : decode cL_law 411 = .ok (.iaload, 1) := by decide +kernel
theorem dL_law_412 : decode cL_law 412 = .ok (.invokevirtual 55, 3) := by decide +kernel
theorem dL_law_415 : decode cL_law 415 = .ok (.if_icmp .eq 394, 3) := by decide +kernel
theorem dL_law_418 : decode cL_law 418 = .ok (.iconst 0, 1) := by decide +kernel
theorem dL_law_419 : decode cL_law 419 = .ok (.ireturn, 1) := by decide +kernel
theorem dL_law_420 : decode cL_law 420 = .ok (.aload_n 1, 1) := by decide +kernel
theorem dL_law_421 : decode cL_law 421 = .ok (.aload_n 0, 1) := by decide +kernel
theorem dL_law_422 : decode cL_law 422 = .ok (.iload_n 3, 1) := by decide +kernel
theorem dL_law_423 : decode cL_law 423 = .ok (.iconst 1, 1) := by decide +kernel
theorem dL_law_424 : decode cL_law 424 = .ok (.iadd, 1) := by decide +kernel
theorem dL_law_425 : decode cL_law 425 = .ok (.iaload, 1) := by decide +kernel
theorem dL_law_426 : decode cL_law 426 = .ok (.invokevirtual 56, 3) := by decide +kernel
theorem dL_law_429 : decode cL_law 429 = .ok (.aload_n 2, 1) := by decide +kernel
theorem dL_law_430 : decode cL_law 430 = .ok (.aload_n 0, 1) := by decide +kernel
theorem dL_law_431 : decode cL_law 431 = .ok (.iload_n 3, 1) := by decide +kernel
theorem dL_law_432 : decode cL_law 432 = .ok (.iconst 1, 1) := by decide +kernel
theorem dL_law_433 : decode cL_law 433 = .ok (.iadd, 1) := by decide +kernel
theorem dL_law_434 : decode cL_law 434 = .ok (.iaload, 1) := by decide +kernel
theorem dL_law_435 : decode cL_law 435 = .ok (.invokevirtual 59, 3) := by decide +kernel
theorem dL_law_438 : decode cL_law 438 = .ok (.if_icmp .eq 371, 3) := by decide +kernel
theorem dL_law_441 : decode cL_law 441 = .ok (.iconst 0, 1) := by decide +kernel
theorem dL_law_442 : decode cL_law 442 = .ok (.ireturn, 1) := by decide +kernel
theorem dL_law_443 : decode cL_law 443 = .ok (.aload_n 1, 1) := by decide +kernel
theorem dL_law_444 : decode cL_law 444 = .ok (.aload_n 0, 1) := by decide +kernel
theorem dL_law_445 : decode cL_law 445 = .ok (.iload_n 3, 1) := by decide +kernel
theorem dL_law_446 : decode cL_law 446 = .ok (.iconst 1, 1) := by decide +kernel
theorem dL_law_447 : decode cL_law 447 = .ok (.iadd, 1) := by decide +kernel
theorem dL_law_448 : decode cL_law 448 = .ok (.iaload, 1) := by decide +kernel
theorem dL_law_449 : decode cL_law 449 = .ok (.invokevirtual 60, 3) := by decide +kernel
theorem dL_law_452 : decode cL_law 452 = .ok (.aload_n 2, 1) := by decide +kernel
theorem dL_law_453 : decode cL_law 453 = .ok (.aload_n 0, 1) := by decide +kernel
theorem dL_law_454 : decode cL_law 454 = .ok (.iload_n 3, 1) := by decide +kernel
theorem dL_law_455 : decode cL_law 455 = .ok (.iconst 1, 1) := by decide +kernel
theorem dL_law_456 : decode cL_law 456 = .ok (.iadd, 1) := by decide +kernel
theorem dL_law_457 : decode cL_law 457 = .ok (.iaload, 1) := by decide +kernel
theorem dL_law_458 : decode cL_law 458 = .ok (.invokevirtual 63, 3) := by decide +kernel
theorem dL_law_461 : decode cL_law 461 = .ok (.if_icmp .eq 348, 3) := by decide +kernel
theorem dL_law_464 : decode cL_law 464 = .ok (.iconst 0, 1) := by decide +kernel
theorem dL_law_465 : decode cL_law 465 = .ok (.ireturn, 1) := by decide +kernel
theorem dL_law_466 : decode cL_law 466 = .ok (.aload_n 1, 1) := by decide +kernel
theorem dL_law_467 : decode cL_law 467 = .ok (.aload_n 0, 1) := by decide +kernel
theorem dL_law_468 : decode cL_law 468 = .ok (.iload_n 3, 1) := by decide +kernel
theorem dL_law_469 : decode cL_law 469 = .ok (.iconst 1, 1) := by decide +kernel
theorem dL_law_470 : decode cL_law 470 = .ok (.iadd, 1) := by decide +kernel
theorem dL_law_471 : decode cL_law 471 = .ok (.iaload, 1) := by decide +kernel
theorem dL_law_472 : decode cL_law 472 = .ok (.invokevirtual 64, 3) := by decide +kernel
theorem dL_law_475 : decode cL_law 475 = .ok (.aload_n 2, 1) := by decide +kernel
theorem dL_law_476 : decode cL_law 476 = .ok (.aload_n 0, 1) := by decide +kernel
theorem dL_law_477 : decode cL_law 477 = .ok (.iload_n 3, 1) := by decide +kernel
theorem dL_law_478 : decode cL_law 478 = .ok (.iconst 1, 1) := by decide +kernel
theorem dL_law_479 : decode cL_law 479 = .ok (.iadd, 1) := by decide +kernel
theorem dL_law_480 : decode cL_law 480 = .ok (.iaload, 1) := by decide +kernel
theorem dL_law_481 : decode cL_law 481 = .ok (.invokevirtual 67, 3) := by decide +kernel
theorem dL_law_484 : decode cL_law 484 = .ok (.if_icmp .eq 325, 3) := by decide +kernel
theorem dL_law_487 : decode cL_law 487 = .ok (.iconst 0, 1) := by decide +kernel
theorem dL_law_488 : decode cL_law 488 = .ok (.ireturn, 1) := by decide +kernel
theorem dL_law_489 : decode cL_law 489 = .ok (.aload_n 1, 1) := by decide +kernel
theorem dL_law_490 : decode cL_law 490 = .ok (.aload_n 0, 1) := by decide +kernel
theorem dL_law_491 : decode cL_law 491 = .ok (.iload_n 3, 1) := by decide +kernel
theorem dL_law_492 : decode cL_law 492 = .ok (.iconst 1, 1) := by decide +kernel
theorem dL_law_493 : decode cL_law 493 = .ok (.iadd, 1) := by decide +kernel
theorem dL_law_494 : decode cL_law 494 = .ok (.iaload, 1) := by decide +kernel
theorem dL_law_495 : decode cL_law 495 = .ok (.aload_n 0, 1) := by decide +kernel
theorem dL_law_496 : decode cL_law 496 = .ok (.iload_n 3, 1) := by decide +kernel
theorem dL_law_497 : decode cL_law 497 = .ok (.iconst 2, 1) := by decide +kernel
theorem dL_law_498 : decode cL_law 498 = .ok (.iadd, 1) := by decide +kernel
theorem dL_law_499 : decode cL_law 499 = .ok (.iaload, 1) := by decide +kernel
theorem dL_law_500 : decode cL_law 500 = .ok (.invokevirtual 68, 3) := by decide +kernel
theorem dL_law_503 : decode cL_law 503 = .ok (.aload_n 2, 1) := by decide +kernel
theorem dL_law_504 : decode cL_law 504 = .ok (.aload_n 0, 1) := by decide +kernel
theorem dL_law_505 : decode cL_law 505 = .ok (.iload_n 3, 1) := by decide +kernel
theorem dL_law_506 : decode cL_law 506 = .ok (.iconst 1, 1) := by decide +kernel
theorem dL_law_507 : decode cL_law 507 = .ok (.iadd, 1) := by decide +kernel
theorem dL_law_508 : decode cL_law 508 = .ok (.iaload, 1) := by decide +kernel
theorem dL_law_509 : decode cL_law 509 = .ok (.aload_n 0, 1) := by decide +kernel
theorem dL_law_510 : decode cL_law 510 = .ok (.iload_n 3, 1) := by decide +kernel
theorem dL_law_511 : decode cL_law 511 = .ok (.iconst 2, 1) := by decide +kernel
theorem dL_law_512 : decode cL_law 512 = .ok (.iadd, 1) := by decide +kernel
theorem dL_law_513 : decode cL_law 513 = .ok (.iaload, 1) := by decide +kernel
theorem dL_law_514 : decode cL_law 514 = .ok (.invokevirtual 71, 3) := by decide +kernel
theorem dL_law_517 : decode cL_law 517 = .ok (.if_icmp .eq 292, 3) := by decide +kernel
theorem dL_law_520 : decode cL_law 520 = .ok (.iconst 0, 1) := by decide +kernel
theorem dL_law_521 : decode cL_law 521 = .ok (.ireturn, 1) := by decide +kernel
theorem dL_law_522 : decode cL_law 522 = .ok (.aload_n 1, 1) := by decide +kernel
theorem dL_law_523 : decode cL_law 523 = .ok (.aload_n 0, 1) := by decide +kernel
theorem dL_law_524 : decode cL_law 524 = .ok (.iload_n 3, 1) := by decide +kernel
theorem dL_law_525 : decode cL_law 525 = .ok (.iconst 1, 1) := by decide +kernel
theorem dL_law_526 : decode cL_law 526 = .ok (.iadd, 1) := by decide +kernel
theorem dL_law_527 : decode cL_law 527 = .ok (.iaload, 1) := by decide +kernel
theorem dL_law_528 : decode cL_law 528 = .ok (.aload_n 0, 1) := by decide +kernel
theorem dL_law_529 : decode cL_law 529 = .ok (.iload_n 3, 1) := by decide +kernel
theorem dL_law_530 : decode cL_law 530 = .ok (.iconst 2, 1) := by decide +kernel
theorem dL_law_531 : decode cL_law 531 = .ok (.iadd, 1) := by decide +kernel
theorem dL_law_532 : decode cL_law 532 = .ok (.iaload, 1) := by decide +kernel
theorem dL_law_533 : decode cL_law 533 = .ok (.aload_n 0, 1) := by decide +kernel
theorem dL_law_534 : decode cL_law 534 = .ok (.iload_n 3, 1) := by decide +kernel
theorem dL_law_535 : decode cL_law 535 = .ok (.iconst 3, 1) := by decide +kernel
theorem dL_law_536 : decode cL_law 536 = .ok (.iadd, 1) := by decide +kernel
theorem dL_law_537 : decode cL_law 537 = .ok (.iaload, 1) := by decide +kernel
theorem dL_law_538 : decode cL_law 538 = .ok (.invokevirtual 72, 3) := by decide +kernel
theorem dL_law_541 : decode cL_law 541 = .ok (.aload_n 2, 1) := by decide +kernel
theorem dL_law_542 : decode cL_law 542 = .ok (.aload_n 0, 1) := by decide +kernel
theorem dL_law_543 : decode cL_law 543 = .ok (.iload_n 3, 1) := by decide +kernel
theorem dL_law_544 : decode cL_law 544 = .ok (.iconst 1, 1) := by decide +kernel
theorem dL_law_545 : decode cL_law 545 = .ok (.iadd, 1) := by decide +kernel
theorem dL_law_546 : decode cL_law 546 = .ok (.iaload, 1) := by decide +kernel
theorem dL_law_547 : decode cL_law 547 = .ok (.aload_n 0, 1) := by decide +kernel
theorem dL_law_548 : decode cL_law 548 = .ok (.iload_n 3, 1) := by decide +kernel
theorem dL_law_549 : decode cL_law 549 = .ok (.iconst 2, 1) := by decide +kernel
theorem dL_law_550 : decode cL_law 550 = .ok (.iadd, 1) := by decide +kernel
theorem dL_law_551 : decode cL_law 551 = .ok (.iaload, 1) := by decide +kernel
theorem dL_law_552 : decode cL_law 552 = .ok (.aload_n 0, 1) := by decide +kernel
theorem dL_law_553 : decode cL_law 553 = .ok (.iload_n 3, 1) := by decide +kernel
theorem dL_law_554 : decode cL_law 554 = .ok (.iconst 3, 1) := by decide +kernel
theorem dL_law_555 : decode cL_law 555 = .ok (.iadd, 1) := by decide +kernel
theorem dL_law_556 : decode cL_law 556 = .ok (.iaload, 1) := by decide +kernel
theorem dL_law_557 : decode cL_law 557 = .ok (.invokevirtual 76, 3) := by decide +kernel
theorem dL_law_560 : decode cL_law 560 = .ok (.if_icmp .eq 249, 3) := by decide +kernel
theorem dL_law_563 : decode cL_law 563 = .ok (.iconst 0, 1) := by decide +kernel
theorem dL_law_564 : decode cL_law 564 = .ok (.ireturn, 1) := by decide +kernel
theorem dL_law_565 : decode cL_law 565 = .ok (.aload_n 1, 1) := by decide +kernel
theorem dL_law_566 : decode cL_law 566 = .ok (.aload_n 0, 1) := by decide +kernel
theorem dL_law_567 : decode cL_law 567 = .ok (.iload_n 3, 1) := by decide +kernel
theorem dL_law_568 : decode cL_law 568 = .ok (.iconst 1, 1) := by decide +kernel
theorem dL_law_569 : decode cL_law 569 = .ok (.iadd, 1) := by decide +kernel
theorem dL_law_570 : decode cL_law 570 = .ok (.iaload, 1) := by decide +kernel
theorem dL_law_571 : decode cL_law 571 = .ok (.aload_n 0, 1) := by decide +kernel
theorem dL_law_572 : decode cL_law 572 = .ok (.iload_n 3, 1) := by decide +kernel
theorem dL_law_573 : decode cL_law 573 = .ok (.iconst 2, 1) := by decide +kernel
theorem dL_law_574 : decode cL_law 574 = .ok (.iadd, 1) := by decide +kernel
theorem dL_law_575 : decode cL_law 575 = .ok (.iaload, 1) := by decide +kernel
theorem dL_law_576 : decode cL_law 576 = .ok (.invokevirtual 77, 3) := by decide +kernel
theorem dL_law_579 : decode cL_law 579 = .ok (.aload_n 2, 1) := by decide +kernel
theorem dL_law_580 : decode cL_law 580 = .ok (.aload_n 0, 1) := by decide +kernel
theorem dL_law_581 : decode cL_law 581 = .ok (.iload_n 3, 1) := by decide +kernel
theorem dL_law_582 : decode cL_law 582 = .ok (.iconst 1, 1) := by decide +kernel
theorem dL_law_583 : decode cL_law 583 = .ok (.iadd, 1) := by decide +kernel
theorem dL_law_584 : decode cL_law 584 = .ok (.iaload, 1) := by decide +kernel
theorem dL_law_585 : decode cL_law 585 = .ok (.aload_n 0, 1) := by decide +kernel
theorem dL_law_586 : decode cL_law 586 = .ok (.iload_n 3, 1) := by decide +kernel
theorem dL_law_587 : decode cL_law 587 = .ok (.iconst 2, 1) := by decide +kernel
theorem dL_law_588 : decode cL_law 588 = .ok (.iadd, 1) := by decide +kernel
theorem dL_law_589 : decode cL_law 589 = .ok (.iaload, 1) := by decide +kernel
theorem dL_law_590 : decode cL_law 590 = .ok (.invokevirtual 80, 3) := by decide +kernel
theorem dL_law_593 : decode cL_law 593 = .ok (.if_icmp .eq 216, 3) := by decide +kernel
theorem dL_law_596 : decode cL_law 596 = .ok (.iconst 0, 1) := by decide +kernel
theorem dL_law_597 : decode cL_law 597 = .ok (.ireturn, 1) := by decide +kernel
theorem dL_law_598 : decode cL_law 598 = .ok (.aload_n 1, 1) := by decide +kernel
theorem dL_law_599 : decode cL_law 599 = .ok (.aload_n 0, 1) := by decide +kernel
theorem dL_law_600 : decode cL_law 600 = .ok (.iload_n 3, 1) := by decide +kernel
theorem dL_law_601 : decode cL_law 601 = .ok (.iconst 1, 1) := by decide +kernel
theorem dL_law_602 : decode cL_law 602 = .ok (.iadd, 1) := by decide +kernel
theorem dL_law_603 : decode cL_law 603 = .ok (.iaload, 1) := by decide +kernel
theorem dL_law_604 : decode cL_law 604 = .ok (.invokevirtual 81, 3) := by decide +kernel
theorem dL_law_607 : decode cL_law 607 = .ok (.aload_n 2, 1) := by decide +kernel
theorem dL_law_608 : decode cL_law 608 = .ok (.aload_n 0, 1) := by decide +kernel
theorem dL_law_609 : decode cL_law 609 = .ok (.iload_n 3, 1) := by decide +kernel
theorem dL_law_610 : decode cL_law 610 = .ok (.iconst 1, 1) := by decide +kernel
theorem dL_law_611 : decode cL_law 611 = .ok (.iadd, 1) := by decide +kernel
theorem dL_law_612 : decode cL_law 612 = .ok (.iaload, 1) := by decide +kernel
theorem dL_law_613 : decode cL_law 613 = .ok (.invokevirtual 84, 3) := by decide +kernel
theorem dL_law_616 : decode cL_law 616 = .ok (.if_icmp .eq 193, 3) := by decide +kernel
theorem dL_law_619 : decode cL_law 619 = .ok (.iconst 0, 1) := by decide +kernel
theorem dL_law_620 : decode cL_law 620 = .ok (.ireturn, 1) := by decide +kernel
theorem dL_law_621 : decode cL_law 621 = .ok (.aload_n 1, 1) := by decide +kernel
theorem dL_law_622 : decode cL_law 622 = .ok (.aload_n 0, 1) := by decide +kernel
theorem dL_law_623 : decode cL_law 623 = .ok (.iload_n 3, 1) := by decide +kernel
theorem dL_law_624 : decode cL_law 624 = .ok (.iconst 1, 1) := by decide +kernel
theorem dL_law_625 : decode cL_law 625 = .ok (.iadd, 1) := by decide +kernel
theorem dL_law_626 : decode cL_law 626 = .ok (.iaload, 1) := by decide +kernel
theorem dL_law_627 : decode cL_law 627 = .ok (.aload_n 0, 1) := by decide +kernel
theorem dL_law_628 : decode cL_law 628 = .ok (.iload_n 3, 1) := by decide +kernel
theorem dL_law_629 : decode cL_law 629 = .ok (.iconst 2, 1) := by decide +kernel
theorem dL_law_630 : decode cL_law 630 = .ok (.iadd, 1) := by decide +kernel
theorem dL_law_631 : decode cL_law 631 = .ok (.iaload, 1) := by decide +kernel
theorem dL_law_632 : decode cL_law 632 = .ok (.aload_n 0, 1) := by decide +kernel
theorem dL_law_633 : decode cL_law 633 = .ok (.iload_n 3, 1) := by decide +kernel
theorem dL_law_634 : decode cL_law 634 = .ok (.iconst 3, 1) := by decide +kernel
theorem dL_law_635 : decode cL_law 635 = .ok (.iadd, 1) := by decide +kernel
theorem dL_law_636 : decode cL_law 636 = .ok (.iaload, 1) := by decide +kernel
theorem dL_law_637 : decode cL_law 637 = .ok (.invokevirtual 85, 3) := by decide +kernel
theorem dL_law_640 : decode cL_law 640 = .ok (.aload_n 2, 1) := by decide +kernel
theorem dL_law_641 : decode cL_law 641 = .ok (.aload_n 0, 1) := by decide +kernel
theorem dL_law_642 : decode cL_law 642 = .ok (.iload_n 3, 1) := by decide +kernel
theorem dL_law_643 : decode cL_law 643 = .ok (.iconst 1, 1) := by decide +kernel
theorem dL_law_644 : decode cL_law 644 = .ok (.iadd, 1) := by decide +kernel
theorem dL_law_645 : decode cL_law 645 = .ok (.iaload, 1) := by decide +kernel
theorem dL_law_646 : decode cL_law 646 = .ok (.aload_n 0, 1) := by decide +kernel
theorem dL_law_647 : decode cL_law 647 = .ok (.iload_n 3, 1) := by decide +kernel
theorem dL_law_648 : decode cL_law 648 = .ok (.iconst 2, 1) := by decide +kernel
theorem dL_law_649 : decode cL_law 649 = .ok (.iadd, 1) := by decide +kernel
theorem dL_law_650 : decode cL_law 650 = .ok (.iaload, 1) := by decide +kernel
theorem dL_law_651 : decode cL_law 651 = .ok (.aload_n 0, 1) := by decide +kernel
theorem dL_law_652 : decode cL_law 652 = .ok (.iload_n 3, 1) := by decide +kernel
theorem dL_law_653 : decode cL_law 653 = .ok (.iconst 3, 1) := by decide +kernel
theorem dL_law_654 : decode cL_law 654 = .ok (.iadd, 1) := by decide +kernel
theorem dL_law_655 : decode cL_law 655 = .ok (.iaload, 1) := by decide +kernel
theorem dL_law_656 : decode cL_law 656 = .ok (.invokevirtual 88, 3) := by decide +kernel
theorem dL_law_659 : decode cL_law 659 = .ok (.if_icmp .eq 150, 3) := by decide +kernel
theorem dL_law_662 : decode cL_law 662 = .ok (.iconst 0, 1) := by decide +kernel
theorem dL_law_663 : decode cL_law 663 = .ok (.ireturn, 1) := by decide +kernel
theorem dL_law_664 : decode cL_law 664 = .ok (.aload_n 1, 1) := by decide +kernel
theorem dL_law_665 : decode cL_law 665 = .ok (.aload_n 0, 1) := by decide +kernel
theorem dL_law_666 : decode cL_law 666 = .ok (.iload_n 3, 1) := by decide +kernel
theorem dL_law_667 : decode cL_law 667 = .ok (.iconst 1, 1) := by decide +kernel
theorem dL_law_668 : decode cL_law 668 = .ok (.iadd, 1) := by decide +kernel
theorem dL_law_669 : decode cL_law 669 = .ok (.iaload, 1) := by decide +kernel
theorem dL_law_670 : decode cL_law 670 = .ok (.invokevirtual 89, 3) := by decide +kernel
theorem dL_law_673 : decode cL_law 673 = .ok (.aload_n 2, 1) := by decide +kernel
theorem dL_law_674 : decode cL_law 674 = .ok (.aload_n 0, 1) := by decide +kernel
theorem dL_law_675 : decode cL_law 675 = .ok (.iload_n 3, 1) := by decide +kernel
theorem dL_law_676 : decode cL_law 676 = .ok (.iconst 1, 1) := by decide +kernel
theorem dL_law_677 : decode cL_law 677 = .ok (.iadd, 1) := by decide +kernel
theorem dL_law_678 : decode cL_law 678 = .ok (.iaload, 1) := by decide +kernel
theorem dL_law_679 : decode cL_law 679 = .ok (.invokevirtual 92, 3) := by decide +kernel
theorem dL_law_682 : decode cL_law 682 = .ok (.if_icmp .eq 127, 3) := by decide +kernel
theorem dL_law_685 : decode cL_law 685 = .ok (.iconst 0, 1) := by decide +kernel
theorem dL_law_686 : decode cL_law 686 = .ok (.ireturn, 1) := by decide +kernel
theorem dL_law_687 : decode cL_law 687 = .ok (.aload_n 1, 1) := by decide +kernel
theorem dL_law_688 : decode cL_law 688 = .ok (.aload_n 0, 1) := by decide +kernel
theorem dL_law_689 : decode cL_law 689 = .ok (.iload_n 3, 1) := by decide +kernel
theorem dL_law_690 : decode cL_law 690 = .ok (.iconst 1, 1) := by decide +kernel
theorem dL_law_691 : decode cL_law 691 = .ok (.iadd, 1) := by decide +kernel
theorem dL_law_692 : decode cL_law 692 = .ok (.iaload, 1) := by decide +kernel
theorem dL_law_693 : decode cL_law 693 = .ok (.aload_n 0, 1) := by decide +kernel
theorem dL_law_694 : decode cL_law 694 = .ok (.iload_n 3, 1) := by decide +kernel
theorem dL_law_695 : decode cL_law 695 = .ok (.iconst 2, 1) := by decide +kernel
theorem dL_law_696 : decode cL_law 696 = .ok (.iadd, 1) := by decide +kernel
theorem dL_law_697 : decode cL_law 697 = .ok (.iaload, 1) := by decide +kernel
theorem dL_law_698 : decode cL_law 698 = .ok (.aload_n 0, 1) := by decide +kernel
theorem dL_law_699 : decode cL_law 699 = .ok (.iload_n 3, 1) := by decide +kernel
theorem dL_law_700 : decode cL_law 700 = .ok (.iconst 3, 1) := by decide +kernel
theorem dL_law_701 : decode cL_law 701 = .ok (.iadd, 1) := by decide +kernel
theorem dL_law_702 : decode cL_law 702 = .ok (.iaload, 1) := by decide +kernel
theorem dL_law_703 : decode cL_law 703 = .ok (.invokevirtual 93, 3) := by decide +kernel
theorem dL_law_706 : decode cL_law 706 = .ok (.aload_n 2, 1) := by decide +kernel
theorem dL_law_707 : decode cL_law 707 = .ok (.aload_n 0, 1) := by decide +kernel
theorem dL_law_708 : decode cL_law 708 = .ok (.iload_n 3, 1) := by decide +kernel
theorem dL_law_709 : decode cL_law 709 = .ok (.iconst 1, 1) := by decide +kernel
theorem dL_law_710 : decode cL_law 710 = .ok (.iadd, 1) := by decide +kernel
theorem dL_law_711 : decode cL_law 711 = .ok (.iaload, 1) := by decide +kernel
theorem dL_law_712 : decode cL_law 712 = .ok (.aload_n 0, 1) := by decide +kernel
theorem dL_law_713 : decode cL_law 713 = .ok (.iload_n 3, 1) := by decide +kernel
theorem dL_law_714 : decode cL_law 714 = .ok (.iconst 2, 1) := by decide +kernel
theorem dL_law_715 : decode cL_law 715 = .ok (.iadd, 1) := by decide +kernel
theorem dL_law_716 : decode cL_law 716 = .ok (.iaload, 1) := by decide +kernel
theorem dL_law_717 : decode cL_law 717 = .ok (.aload_n 0, 1) := by decide +kernel
theorem dL_law_718 : decode cL_law 718 = .ok (.iload_n 3, 1) := by decide +kernel
theorem dL_law_719 : decode cL_law 719 = .ok (.iconst 3, 1) := by decide +kernel
theorem dL_law_720 : decode cL_law 720 = .ok (.iadd, 1) := by decide +kernel
theorem dL_law_721 : decode cL_law 721 = .ok (.iaload, 1) := by decide +kernel
theorem dL_law_722 : decode cL_law 722 = .ok (.invokevirtual 96, 3) := by decide +kernel
theorem dL_law_725 : decode cL_law 725 = .ok (.if_icmp .eq 84, 3) := by decide +kernel
theorem dL_law_728 : decode cL_law 728 = .ok (.iconst 0, 1) := by decide +kernel
theorem dL_law_729 : decode cL_law 729 = .ok (.ireturn, 1) := by decide +kernel
theorem dL_law_730 : decode cL_law 730 = .ok (.aload_n 1, 1) := by decide +kernel
theorem dL_law_731 : decode cL_law 731 = .ok (.aload_n 0, 1) := by decide +kernel
theorem dL_law_732 : decode cL_law 732 = .ok (.iload_n 3, 1) := by decide +kernel
theorem dL_law_733 : decode cL_law 733 = .ok (.iconst 1, 1) := by decide +kernel
theorem dL_law_734 : decode cL_law 734 = .ok (.iadd, 1) := by decide +kernel
theorem dL_law_735 : decode cL_law 735 = .ok (.iaload, 1) := by decide +kernel
theorem dL_law_736 : decode cL_law 736 = .ok (.invokevirtual 97, 3) := by decide +kernel
theorem dL_law_739 : decode cL_law 739 = .ok (.aload_n 2, 1) := by decide +kernel
theorem dL_law_740 : decode cL_law 740 = .ok (.aload_n 0, 1) := by decide +kernel
theorem dL_law_741 : decode cL_law 741 = .ok (.iload_n 3, 1) := by decide +kernel
theorem dL_law_742 : decode cL_law 742 = .ok (.iconst 1, 1) := by decide +kernel
theorem dL_law_743 : decode cL_law 743 = .ok (.iadd, 1) := by decide +kernel
theorem dL_law_744 : decode cL_law 744 = .ok (.iaload, 1) := by decide +kernel
theorem dL_law_745 : decode cL_law 745 = .ok (.invokevirtual 100, 3) := by decide +kernel
theorem dL_law_748 : decode cL_law 748 = .ok (.if_icmp .eq 61, 3) := by decide +kernel
theorem dL_law_751 : decode cL_law 751 = .ok (.iconst 0, 1) := by decide +kernel
theorem dL_law_752 : decode cL_law 752 = .ok (.ireturn, 1) := by decide +kernel
theorem dL_law_753 : decode cL_law 753 = .ok (.aload_n 1, 1) := by decide +kernel
theorem dL_law_754 : decode cL_law 754 = .ok (.aload_n 0, 1) := by decide +kernel
theorem dL_law_755 : decode cL_law 755 = .ok (.iload_n 3, 1) := by decide +kernel
theorem dL_law_756 : decode cL_law 756 = .ok (.iconst 1, 1) := by decide +kernel
theorem dL_law_757 : decode cL_law 757 = .ok (.iadd, 1) := by decide +kernel
theorem dL_law_758 : decode cL_law 758 = .ok (.iaload, 1) := by decide +kernel
theorem dL_law_759 : decode cL_law 759 = .ok (.aload_n 0, 1) := by decide +kernel
theorem dL_law_760 : decode cL_law 760 = .ok (.iload_n 3, 1) := by decide +kernel
theorem dL_law_761 : decode cL_law 761 = .ok (.iconst 2, 1) := by decide +kernel
theorem dL_law_762 : decode cL_law 762 = .ok (.iadd, 1) := by decide +kernel
theorem dL_law_763 : decode cL_law 763 = .ok (.iaload, 1) := by decide +kernel
theorem dL_law_764 : decode cL_law 764 = .ok (.aload_n 0, 1) := by decide +kernel
theorem dL_law_765 : decode cL_law 765 = .ok (.iload_n 3, 1) := by decide +kernel
theorem dL_law_766 : decode cL_law 766 = .ok (.iconst 3, 1) := by decide +kernel
theorem dL_law_767 : decode cL_law 767 = .ok (.iadd, 1) := by decide +kernel
theorem dL_law_768 : decode cL_law 768 = .ok (.iaload, 1) := by decide +kernel
theorem dL_law_769 : decode cL_law 769 = .ok (.invokevirtual 101, 3) := by decide +kernel
theorem dL_law_772 : decode cL_law 772 = .ok (.aload_n 2, 1) := by decide +kernel
theorem dL_law_773 : decode cL_law 773 = .ok (.aload_n 0, 1) := by decide +kernel
theorem dL_law_774 : decode cL_law 774 = .ok (.iload_n 3, 1) := by decide +kernel
theorem dL_law_775 : decode cL_law 775 = .ok (.iconst 1, 1) := by decide +kernel
theorem dL_law_776 : decode cL_law 776 = .ok (.iadd, 1) := by decide +kernel
theorem dL_law_777 : decode cL_law 777 = .ok (.iaload, 1) := by decide +kernel
theorem dL_law_778 : decode cL_law 778 = .ok (.aload_n 0, 1) := by decide +kernel
theorem dL_law_779 : decode cL_law 779 = .ok (.iload_n 3, 1) := by decide +kernel
theorem dL_law_780 : decode cL_law 780 = .ok (.iconst 2, 1) := by decide +kernel
theorem dL_law_781 : decode cL_law 781 = .ok (.iadd, 1) := by decide +kernel
theorem dL_law_782 : decode cL_law 782 = .ok (.iaload, 1) := by decide +kernel
theorem dL_law_783 : decode cL_law 783 = .ok (.aload_n 0, 1) := by decide +kernel
theorem dL_law_784 : decode cL_law 784 = .ok (.iload_n 3, 1) := by decide +kernel
theorem dL_law_785 : decode cL_law 785 = .ok (.iconst 3, 1) := by decide +kernel
theorem dL_law_786 : decode cL_law 786 = .ok (.iadd, 1) := by decide +kernel
theorem dL_law_787 : decode cL_law 787 = .ok (.iaload, 1) := by decide +kernel
theorem dL_law_788 : decode cL_law 788 = .ok (.invokevirtual 104, 3) := by decide +kernel
theorem dL_law_791 : decode cL_law 791 = .ok (.if_icmp .eq 18, 3) := by decide +kernel
theorem dL_law_794 : decode cL_law 794 = .ok (.iconst 0, 1) := by decide +kernel
theorem dL_law_795 : decode cL_law 795 = .ok (.ireturn, 1) := by decide +kernel
theorem dL_law_796 : decode cL_law 796 = .ok (.aload_n 1, 1) := by decide +kernel
theorem dL_law_797 : decode cL_law 797 = .ok (.invokevirtual 105, 3) := by decide +kernel
theorem dL_law_800 : decode cL_law 800 = .ok (.aload_n 2, 1) := by decide +kernel
theorem dL_law_801 : decode cL_law 801 = .ok (.invokevirtual 108, 3) := by decide +kernel
theorem dL_law_804 : decode cL_law 804 = .ok (.if_icmp .eq 5, 3) := by decide +kernel
theorem dL_law_807 : decode cL_law 807 = .ok (.iconst 0, 1) := by decide +kernel
theorem dL_law_808 : decode cL_law 808 = .ok (.ireturn, 1) := by decide +kernel
theorem dL_law_809 : decode cL_law 809 = .ok (.iinc 3 4, 3) := by decide +kernel
theorem dL_law_812 : decode cL_law 812 = .ok (.goto (-794), 3) := by decide +kernel
theorem dL_law_815 : decode cL_law 815 = .ok (.iconst 1, 1) := by decide +kernel
theorem dL_law_816 : decode cL_law 816 = .ok (.ireturn, 1) := by decide +kernel
abbrev vwCl : List vw_C := [(RJx4a65c, TJx4a65c, 3), (RX0, TX0, 2), (RX1, TX1, 16), (RX2, TX2, 6), (RX3, TX3, 12), (RX4, TX4, 8), (RX5, TX5, 3), (RX6, TX6, 2), (RX7, TX7, 2), (RX8, TX8, 11), (RX9, TX9, 46)]
end
section
/-! THE MACHINE LAYER: a heap of named objects (roles) with whole numbers, and one judgement Sf over it; every rule is proved from the kit's row for that instruction -/
abbrev Role : Type := Nat × Nat
abbrev AVal : Type := Int ⊕ Option Role
abbrev vI (x : Int) : AVal := .inl x
abbrev vR (r : Role) : AVal := .inr (some r)
abbrev vN : AVal := .inr none
abbrev vQ (o : Option Role) : AVal := .inr o
def jI (z : Int) : Int32 := Int32.ofInt z
def Mem : Type := (Role → Option Nat) × (Role → Nat → Int) × (Role → Nat → Option Role) × Nat × Nat
def Mem.len (M : Mem) : Role → Option Nat := M.1
def Mem.I (M : Mem) : Role → Nat → Int := M.2.1
def Mem.P (M : Mem) : Role → Nat → Option Role := M.2.2.1
def Mem.rc (M : Mem) : Nat := M.2.2.2.1
def Mem.rs (M : Mem) : Nat := M.2.2.2.2
def Mem.putI (M : Mem) (r : Role) (k : Nat) (v : Int) : Mem := (M.1, fun r' k' => if r' = r ∧ k' = k then v else M.2.1 r' k', M.2.2)
def Mem.putP (M : Mem) (r : Role) (k : Nat) (v : Option Role) : Mem := (M.1, M.2.1, fun r' k' => if r' = r ∧ k' = k then v else M.2.2.1 r' k', M.2.2.2)
def Mem.new (M : Mem) (r : Role) (n cost : Nat) : Mem := (fun r' => if r' = r then some n else M.1 r', fun r' k => if r' = r then 0 else M.2.1 r' k, fun r' k => if r' = r then none else M.2.2.1 r' k, M.2.2.2.1 - 1, M.2.2.2.2 - cost)
-- what a role is by its first number: .inl class (place in vwCl), .inr array (place in aT)
def kd (c : Nat) : Nat ⊕ Nat := match c with
  | 1 => .inl 9 | 2 => .inl 1 | 3 => .inl 6 | 4 => .inl 0 | 5 => .inr 7 | 6 => .inr 2 | 7 => .inl 2 | 8 => .inr 5 | 9 => .inr 4 | 10 => .inr 0
  | 11 => .inr 3 | 12 => .inl 3 | 13 => .inr 0 | 14 => .inr 6 | 15 => .inl 8 | 16 => .inl 7 | 17 => .inr 0 | 18 => .inl 5 | 19 => .inl 4
  | 20 => .inr 7 | 30 => .inl 10 | 31 => .inr 0 | 32 => .inr 1 | _ => .inr 0
def ro (c : Nat) : Bool := c == 20 || c == 40 || c == 41
def nS (c : Nat) : Prop := c ≠ 40 ∧ c ≠ 41
def aT (j : Nat) : FieldType := match j with
  | 0 => .int | 1 => .boolean | 2 => .object "RatchetPost$End" | 3 => .object "RatchetPost$Letter" | 4 => .object "RatchetPost$Skipped" | 5 => .object "RatchetPost$Thing" | 6 => .object "RatchetPost$Tray" | _ => .object "java/lang/Object"
def tysL (aC : Nat → ClassId) : List (ClassId × FieldType) := [(aC 0, aT 0), (aC 1, aT 1), (aC 2, aT 2), (aC 3, aT 3), (aC 4, aT 4), (aC 5, aT 5), (aC 6, aT 6), (aC 7, aT 7)]
def cT (ci : Nat) : u_T := match ci with
  | 0 => TJx4a65c | 1 => TX0 | 2 => TX1 | 3 => TX2 | 4 => TX3 | 5 => TX4 | 6 => TX5 | 7 => TX6 | 8 => TX7 | 9 => TX8 | _ => TX9
def cTy (ci : Nat) : Nat → FieldType := match ci with
  | 0 => tyJx4a65c | 1 => tyX0 | 2 => tyX1 | 3 => tyX2 | 4 => tyX3 | 5 => tyX4 | 6 => tyX5 | 7 => tyX6 | 8 => tyX7 | 9 => tyX8 | _ => tyX9
def cN (ci : Nat) : Nat := match ci with
  | 0 => 3 | 1 => 2 | 2 => 16 | 3 => 6 | 4 => 12 | 5 => 8 | 6 => 3 | 7 => 2 | 8 => 2 | 9 => 11 | _ => 46
def cR (ci : Nat) : String := match ci with
  | 0 => RJx4a65c | 1 => RX0 | 2 => RX1 | 3 => RX2 | 4 => RX3 | 5 => RX4 | 6 => RX5 | 7 => RX6 | 8 => RX7 | 9 => RX8 | _ => RX9
def isRef (t : FieldType) : Bool := match t with
  | .object _ => true | .array _ => true | _ => false
def fR (ci k : Nat) : Bool := isRef (cTy ci k)
theorem vwCl_at (ci : Nat) (h : ci < 11) : vwCl[ci]? = some (cR ci, cT ci, cN ci) := by
  rcases (show ci = 0 ∨ ci = 1 ∨ ci = 2 ∨ ci = 3 ∨ ci = 4 ∨ ci = 5 ∨ ci = 6 ∨ ci = 7 ∨ ci = 8 ∨ ci = 9 ∨ ci = 10 by omega) with h | h | h | h | h | h | h | h | h | h | h <;> subst h <;> rfl
theorem tysL_at (aC : Nat → ClassId) (j : Nat) (h : j < 8) : (tysL aC)[j]? = some (aC j, aT j) := by
  rcases (show j = 0 ∨ j = 1 ∨ j = 2 ∨ j = 3 ∨ j = 4 ∨ j = 5 ∨ j = 6 ∨ j = 7 by omega) with h | h | h | h | h | h | h | h <;> subst h <;> rfl
-- the contents of a cell
def vOf (A : Role → Nat) (b : Bool) (i : Int) (p : Option Role) : Value := if b then va_rf (p.map A) else .int (jI i)
def ent (aC : Nat → ClassId) (A : Role → Nat) (M : Mem) (r : Role) (n : Nat) : va_E := match kd r.1 with
  | .inl ci => .inr (ci, (List.range (cN ci)).map fun k => vOf A (fR ci k) (M.I r k) (M.P r k))
  | .inr j => if j < 2 then .inl (aC j, n, .inl fun k => jI (M.I r k)) else .inl (aC j, n, .inr (.inr (.inr (.inr fun k => (M.P r k).map A))))
def conc (A : Role → Nat) (v : AVal) : Value := match v with
  | .inl z => .int (jI z)
  | .inr o => va_rf (o.map A)
-- the run's constants: launch, class ids, array class ids, where the run's own cells begin, the empty array, the script's cell, its length and numbers, the mirror of Object[]
abbrev Ge : Type := Launch × va_G × (Nat → ClassId) × Nat × Nat × Nat × Nat × (Nat → Int32) × Nat
def gL (G : Ge) : Launch := G.1
def gD (G : Ge) : va_G := G.2.1
def gA (G : Ge) : Nat → ClassId := G.2.2.1
def gB (G : Ge) : Nat := G.2.2.2.1
def gE (G : Ge) : Nat := G.2.2.2.2.1
def gS (G : Ge) : Nat := G.2.2.2.2.2.1
def gN (G : Ge) : Nat := G.2.2.2.2.2.2.1
def gX (G : Ge) : Nat → Int32 := G.2.2.2.2.2.2.2.1
def gM (G : Ge) : Nat := G.2.2.2.2.2.2.2.2
def Wr (G : Ge) : Nat → Prop := fun q => gB G ≤ q
-- the words that a method's callers hand on
def wG : List Cond := lw_tbl.filter goodWord
theorem wG_of (i : Nat) {w : Cond} (h : lw_tbl[i]? = some w) (hg : goodWord w = true) : w ∈ wG := List.mem_filter.mpr ⟨List.mem_of_getElem? h, hg⟩
theorem wG_good : GoodIn wG wG := fun w h => ⟨h, good_of_word (List.mem_filter.mp h).2⟩
-- words that are handed on by hand: kept as facts of a state
def wNst : List Cond := [.methodLinkNest RX8 9 yX5_init RX8, .methodLinkNest RX5 11 yX0_init RX8, .methodLinkNest RX8 39 yX7_init RX8, .methodLinkNest RX8 42 yX6_init RX8]
def wAO : List String := ["RatchetPost$End", "RatchetPost$Letter", "RatchetPost$Skipped", "RatchetPost$Thing", "RatchetPost$Tray", "java/lang/Object"]
def nmZ : String := "DEFAULTCAPACITY_EMPTY_ELEMENTDATA"
def nmO : String := "[Ljava/lang/Object;"
def KF (G : Ge) (U : State) (H : Heap) : Prop :=
  va_K (gD G) vwCl (tysL (gA G)) U ∧ va_Z RJx4a65c nmZ nmO (.ref (gE G)) (Wr G) U H ∧ va_T (.object "java/lang/Object") (gE G) 0 (fun _ => .null) (Wr G) U H ∧
  (va_X (gS G) (gN G) (gX G) U H ∧ ¬ Wr G (gS G) ∧ gS G < H.size) ∧ va_Mi nmO (gM G) U ∧ va_Nc RX4 RX3 U ∧ (∀ w ∈ wNst, va_Nw w U) ∧ (∀ C ∈ wAO, va_AO C U) ∧
  (va_Nw (.castable RX4 "java/lang/Object") U ∧ va_Nw (.castable RX3 RX4) U ∧ va_Dc U)
theorem KF.moved {G : Ge} {s U : State} {H : Heap} (hW : s.WarmedH U.vm) (h : KF G s H) : KF G U H := by
  obtain ⟨h1, h2, h3, ⟨h4, h5, h5b⟩, h6, h7, h8, h9, h10, h11, h12⟩ := h
  have hv := hW.alike
  refine ⟨va_K.moved hv h1, h2.moved hv, h3.moved hv, ⟨h4.moved hv, h5, h5b⟩, h6.moved hv, h7.moved hv, fun w hw => ?_, fun C hC => (h9 C hC).moved hv, h10.warmC hW, h11.warmC hW, h12.moved hv⟩
  have hz := h8 w hw
  simp only [wNst, List.mem_cons, List.not_mem_nil, or_false] at hw
  rcases hw with rfl | rfl | rfl | rfl <;> exact hz.warmM hW
theorem KF.kept {G : Ge} {U : State} {H H1 : Heap} (h : KF G U H) (hz : H.size ≤ H1.size) (hq : ∀ a : Nat, a < H.size → ¬ Wr G a → H1[a]? = H[a]?) : KF G U H1 := by
  obtain ⟨h1, h2, h3, ⟨h4, h5, h5b⟩, h6⟩ := h
  exact ⟨h1, h2.kept hq, h3.kept hq, ⟨h4.kept (hq _ h5b h5), h5, Nat.lt_of_lt_of_le h5b hz⟩, h6⟩
-- the picture of a heap
def Wl (aC : Nat → ClassId) (A : Role → Nat) (M : Mem) (ws : va_W) : Prop :=
  (∀ r n, M.len r = some n → ro r.1 = false → ∃ k : Nat, ws[k]? = some (A r, ent aC A M r n)) ∧ ∀ (k : Nat) (q : Nat × va_E), ws[k]? = some q → ∃ r n, M.len r = some n ∧ ro r.1 = false ∧ q = (A r, ent aC A M r n)
def okV (M : Mem) (v : AVal) : Prop := ∀ r, v = .inr (some r) → M.len r ≠ none
def Clo (M : Mem) : Prop := ∀ r k r', M.len r ≠ none → M.P r k = some r' → M.len r' ≠ none
def Pic (G : Ge) (A : Role → Nat) (M : Mem) (H : Heap) : Prop :=
  (∃ ws, Wl (gA G) A M ws ∧ va_P (gD G) vwCl ws H ∧ va_D (Wr G) ws) ∧ (∀ r r', M.len r ≠ none → M.len r' ≠ none → nS r.1 → nS r'.1 → A r = A r' → r = r') ∧
  Clo M ∧ (M.len (20, 0) = some 0 ∧ A (20, 0) = gE G) ∧ (M.len (40, 0) = some (gN G) ∧ A (40, 0) = gS G ∧ M.len (41, 0) = some 0 ∧ A (41, 0) = gM G) ∧ ∀ r, M.len r ≠ none → ro r.1 = true → r = (20, 0) ∨ r = (40, 0) ∨ r = (41, 0)
def sumN (n : Nat) (H : Heap) : Nat := ((H.toList.drop n).map (·.slots.size)).sum
def Bud (M : Mem) (n0 : Nat) (H : Heap) (rc0 rs0 : Nat) : Prop := H.size + M.rc ≤ n0 + rc0 ∧ sumN n0 H + M.rs ≤ rs0
def Lok (A : Role → Nat) (ls : Array Slot) (nL : Nat) (L : List (Option AVal)) : Prop := ls.size = nL ∧ lv_wf ls ∧ ∀ (i : Nat) (v : AVal), L[i]? = some (some v) → ls[i]? = some (.val (conc A v))
def Wf (M : Mem) (L : List (Option AVal)) (st : List AVal) : Prop := (∀ v ∈ st, okV M v) ∧ ∀ v, some v ∈ L → okV M v
def Ext (M0 : Mem) (A0 : Role → Nat) (M : Mem) (A : Role → Nat) : Prop := ∀ r, M0.len r ≠ none → M.len r ≠ none ∧ A r = A0 r
def KeepSz (H0 H : Heap) : Prop := ∀ (a : Nat) (c : Cell), H0[a]? = some c → ∃ c' : Cell, H[a]? = some c' ∧ c'.slots.size = c.slots.size
-- a method: its name, code, number of locals, return type, room for calls
abbrev Mi : Type := MethodName × ByteArray × Nat × Option FieldType × Nat
def rmD (D rc rs : Nat) : Room := { frames := D, cells := rc, slots := rs, locals := 64 * D }
def Qcf (G : Ge) (Q : Option AVal → Mem → Prop) (M0 : Mem) (A0 : Role → Nat) (rc0 rs0 : Nat) : Array Value → State → Outcome → State → Prop := fun _ st o t =>
  ∃ (v : Option AVal) (M : Mem) (A : Role → Nat), o = .returned (v.map (conc A)) ∧ Q v M ∧ Pic G A M t.heap ∧ (∀ w, v = some w → okV M w) ∧ Ext M0 A0 M A ∧ st.heap.size ≤ t.heap.size ∧ (∀ q : Nat, q < st.heap.size → ¬ Wr G q → t.heap[q]? = st.heap[q]?) ∧ KeepSz st.heap t.heap ∧ Bud M st.heap.size t.heap rc0 rs0
def Cx (G : Ge) (mi : Mi) (rc0 rs0 : Nat) (p : Program) (R : Room) (s : State) (m : MethodId) (args : Array Value) (meth : Method) (c : Code) : Prop :=
  p.tables.exec = Jvm.exec ∧ c.code = mi.2.1 ∧ meth.sig.returnType = mi.2.2.2.1 ∧ c.maxLocals = mi.2.2.1 ∧ s.vm.findClass mi.1.cls = some m.cls ∧ (∀ w ∈ wG, w.before args s = true) ∧ KF G s s.heap ∧ meth.locks = false ∧ meth.name = mi.1.name ∧ R = rmD mi.2.2.2.2 rc0 rs0 ∧ gB G ≤ s.heap.size
def Cf (G : Ge) (mi : Mi) (L : List (Option AVal)) (st : List AVal) (M : Mem) (s : State) (H : Heap) (locs : List Loc) (cells slots : Nat) (ls : Array Slot) (rc0 rs0 : Nat) (A A0 : Role → Nat) (M0 : Mem) : Prop :=
  Pic G A M H ∧ va_S (Wr G) s.heap H locs ∧ (cells + M.rc ≤ rc0 ∧ slots + M.rs ≤ rs0) ∧ Lok A ls mi.2.2.1 L ∧ Wf M L st ∧ Ext M0 A0 M A
def Sf (G : Ge) (mi : Mi) (Q : Option AVal → Mem → Prop) (pc : Nat) (L : List (Option AVal)) (st : List AVal) (M : Mem) : Prop :=
  ∀ (p : Program) (e : Env) (R : Room) (s : State) (m : MethodId) (args : Array Value) (below : List Frame) (meth : Method) (c : Code) (H : Heap) (locs : List Loc) (cells slots : Nat) (ls : Array Slot) (rc0 rs0 : Nat) (A A0 : Role → Nat) (M0 : Mem),
    Cx G mi rc0 rs0 p R s m args meth c → Cf G mi L st M s H locs cells slots ls rc0 rs0 A A0 M0 →
    W p (gL G) e R s m args below meth c H locs cells slots (MQ below (Qcf G Q M0 A0 rc0 rs0) args s rc0 rs0 (Wr G)) (F0 m pc ls (st.map (conc A)))
-- a contract
def Ct (G : Ge) (mi : Mi) (as : List AVal) (M : Mem) (Q : Option AVal → Mem → Prop) : Prop :=
  ∀ A : Role → Nat, Met (gL G) mi.1 (Cond.code mi.1 mi.2.1 mi.2.2.1 mi.2.2.2.1 :: wG) (rmD mi.2.2.2.2 M.rc M.rs) (va_Pc (as.map (conc A)) (fun U => Pic G A M U.heap ∧ KF G U U.heap ∧ gB G ≤ U.heap.size ∧ (∀ v ∈ as, okV M v))) (Qcf G Q M A M.rc M.rs) M.rc M.rs (Wr G)
end
section
/-! THE RULES of locals, stack, arithmetic and branches -/
theorem jI_add (a b : Int) : jI a + jI b = jI (a + b) := (Int32.ofInt_add a b).symm
theorem jI_sub (a b : Int) : jI a - jI b = jI (a - b) := (Int32.ofInt_sub a b).symm
theorem jI_mul (a b : Int) : jI a * jI b = jI (a * b) := (Int32.ofInt_mul a b).symm
theorem jI_toInt {z : Int} (h : -2147483648 ≤ z ∧ z < 2147483648) : (jI z).toInt = z := Int32.toInt_ofInt_of_le h.1 h.2
theorem jI_of (x : Int32) : jI x.toInt = x := Int32.ofInt_toInt x
theorem jI_lt {a b : Int} (ha : -2147483648 ≤ a ∧ a < 2147483648) (hb : -2147483648 ≤ b ∧ b < 2147483648) : jI a < jI b ↔ a < b := by rw [Int32.lt_iff_toInt_lt, jI_toInt ha, jI_toInt hb]
theorem jI_le {a b : Int} (ha : -2147483648 ≤ a ∧ a < 2147483648) (hb : -2147483648 ≤ b ∧ b < 2147483648) : jI a ≤ jI b ↔ a ≤ b := by rw [Int32.le_iff_toInt_le, jI_toInt ha, jI_toInt hb]
theorem jI_eq {a b : Int} (ha : -2147483648 ≤ a ∧ a < 2147483648) (hb : -2147483648 ≤ b ∧ b < 2147483648) : jI a = jI b ↔ a = b := by rw [← Int32.toInt_inj, jI_toInt ha, jI_toInt hb]
theorem jI_r0 : (-2147483648 : Int) ≤ 0 ∧ (0 : Int) < 2147483648 := by decide
theorem jI_0 : jI 0 = 0 := rfl
theorem jI_div {a b : Int} (ha : -2147483648 ≤ a ∧ a < 2147483648) (hb : 0 < b ∧ b < 2147483648) : jI a / jI b = jI (a.tdiv b) := by
  have h1 : Int32.minValue.toInt = -2147483648 := by decide
  have h2 : Int32.maxValue.toInt = 2147483647 := by decide
  exact (Int32.ofInt_tdiv (a := a) (b := b) (by omega) (by omega) (by omega) (by omega)).symm
theorem jI_rem {a b : Int} (ha : -2147483648 ≤ a ∧ a < 2147483648) (hb : 0 < b ∧ b < 2147483648) : jI a - jI a / jI b * jI b = jI (a.tmod b) := by
  rw [jI_div ha hb, jI_mul, jI_sub, Int.tmod_def, Int.mul_comm]
theorem jI_ne0 {b : Int} (hb : -2147483648 ≤ b ∧ b < 2147483648) (h : b ≠ 0) : ¬ jI b = 0 := fun h0 => h ((jI_eq hb jI_r0).mp h0)
theorem conc_cat (A : Role → Nat) (v : AVal) : (conc A v).category = 1 := by
  rcases v with z | o
  · rfl
  · cases o <;> rfl
theorem okV_int (M : Mem) (z : Int) : okV M (vI z) := fun r h => by cases h
theorem okV_nul (M : Mem) : okV M vN := fun r h => by cases h
theorem Wf.push {M : Mem} {L : List (Option AVal)} {st : List AVal} {v : AVal} (h : Wf M L st) (hv : okV M v) : Wf M L (v :: st) := ⟨List.forall_mem_cons.mpr ⟨hv, h.1⟩, h.2⟩
theorem Wf.pushI {M : Mem} {L : List (Option AVal)} {st : List AVal} (z : Int) (h : Wf M L st) : Wf M L (vI z :: st) := h.push (okV_int M z)
theorem Wf.pop {M : Mem} {L : List (Option AVal)} {st : List AVal} {v : AVal} (h : Wf M L (v :: st)) : Wf M L st := ⟨fun w hw => h.1 w (List.mem_cons_of_mem _ hw), h.2⟩
theorem Wf.top {M : Mem} {L : List (Option AVal)} {st : List AVal} {v : AVal} (h : Wf M L (v :: st)) : okV M v := h.1 v List.mem_cons_self
theorem Wf.loc {M : Mem} {L : List (Option AVal)} {st : List AVal} {v : AVal} {i : Nat} (h : Wf M L st) (hL : L[i]? = some (some v)) : okV M v := h.2 v (List.mem_of_getElem? hL)
theorem Wf.sto {M : Mem} {L : List (Option AVal)} {st : List AVal} {v : AVal} {i : Nat} (h : Wf M L st) (hv : okV M v) : Wf M (L.set i (some v)) st := ⟨h.1, fun w hw => by
  rcases List.mem_or_eq_of_mem_set hw with h1 | h1
  · exact h.2 w h1
  · cases h1; exact hv⟩
theorem Cf.st {G : Ge} {mi : Mi} {L : List (Option AVal)} {st st' : List AVal} {M : Mem} {s : State} {H : Heap} {locs : List Loc} {ls : Array Slot} {rc0 rs0 cells slots : Nat} {A A0 : Role → Nat} {M0 : Mem} (h : Cf G mi L st M s H locs cells slots ls rc0 rs0 A A0 M0) (hw : Wf M L st → Wf M L st') : Cf G mi L st' M s H locs cells slots ls rc0 rs0 A A0 M0 :=
  ⟨h.1, h.2.1, h.2.2.1, h.2.2.2.1, hw h.2.2.2.2.1, h.2.2.2.2.2⟩
theorem Cf.loc {G : Ge} {mi : Mi} {L : List (Option AVal)} {st : List AVal} {M : Mem} {s : State} {H : Heap} {locs : List Loc} {ls : Array Slot} {rc0 rs0 cells slots : Nat} {A A0 : Role → Nat} {M0 : Mem} (h : Cf G mi L st M s H locs cells slots ls rc0 rs0 A A0 M0) {i : Nat} {v : AVal} (hL : L[i]? = some (some v)) : ls[i]? = some (.val (conc A v)) := h.2.2.2.1.2.2 i v hL
theorem Cf.wf {G : Ge} {mi : Mi} {L : List (Option AVal)} {st : List AVal} {M : Mem} {s : State} {H : Heap} {locs : List Loc} {ls : Array Slot} {rc0 rs0 cells slots : Nat} {A A0 : Role → Nat} {M0 : Mem} (h : Cf G mi L st M s H locs cells slots ls rc0 rs0 A A0 M0) : Wf M L st := h.2.2.2.2.1
-- the locals as the kit lists them
def lvL (A : Role → Nat) (L : List (Option AVal)) : List (Nat × Value) := (List.range L.length).filterMap fun j => match L[j]? with
  | some (some v) => some (j, conc A v)
  | _ => none
theorem lvL_mem {A : Role → Nat} {L : List (Option AVal)} {j : Nat} {w : Value} : (j, w) ∈ lvL A L ↔ ∃ v, L[j]? = some (some v) ∧ w = conc A v := by
  unfold lvL
  rw [List.mem_filterMap]
  constructor
  · rintro ⟨i, -, hi⟩
    split at hi
    · rename_i v hv
      cases hi
      exact ⟨v, hv, rfl⟩
    · cases hi
  · rintro ⟨v, hv, rfl⟩
    refine ⟨j, List.mem_range.mpr (List.getElem?_eq_some_iff.mp hv).1, ?_⟩
    simp [hv]
theorem Lok.has {A : Role → Nat} {ls : Array Slot} {nL : Nat} {L : List (Option AVal)} (h : Lok A ls nL L) : lv_has ls nL (lvL A L) := ⟨h.1, h.2.1, fun q hq => by
  obtain ⟨v, h1, h2⟩ := lvL_mem.mp (show (q.1, q.2) ∈ lvL A L from hq)
  rw [h2]
  exact h.2.2 _ _ h1⟩
theorem Lok.sto {A : Role → Nat} {ls : Array Slot} {nL i : Nat} {L : List (Option AVal)} {v : AVal} (h : lv_has ls nL ((i, conc A v) :: (lvL A L).filter (fun q => !(q.1 == i) && !(q.1 + 1 == i && q.2.category == 2)))) : Lok A ls nL (L.set i (some v)) := by
  refine ⟨h.1, h.2.1, fun j w hj => ?_⟩
  rw [List.getElem?_set] at hj
  by_cases hij : i = j
  · subst hij
    rw [if_pos rfl] at hj
    split at hj
    · cases hj
      exact h.2.2 (i, conc A v) List.mem_cons_self
    · cases hj
  · rw [if_neg hij] at hj
    refine h.2.2 (j, conc A w) (List.mem_cons_of_mem _ (List.mem_filter.mpr ⟨lvL_mem.mpr ⟨w, hj, rfl⟩, ?_⟩))
    have h1 : ¬ j = i := fun e => hij e.symm
    have h2 := conc_cat A w
    simp [h1, h2]
theorem Cf.sto {G : Ge} {mi : Mi} {L : List (Option AVal)} {st st' : List AVal} {M : Mem} {s : State} {H : Heap} {locs : List Loc} {ls ls' : Array Slot} {rc0 rs0 i cells slots : Nat} {v : AVal} {A A0 : Role → Nat} {M0 : Mem} (h : Cf G mi L st M s H locs cells slots ls rc0 rs0 A A0 M0) (hl : lv_has ls' mi.2.2.1 ((i, conc A v) :: (lvL A L).filter (fun q => !(q.1 == i) && !(q.1 + 1 == i && q.2.category == 2)))) (hw : Wf M L st → okV M v ∧ Wf M L st') : Cf G mi (L.set i (some v)) st' M s H locs cells slots ls' rc0 rs0 A A0 M0 :=
  ⟨h.1, h.2.1, h.2.2.1, Lok.sto hl, (hw h.2.2.2.2.1).2.sto (hw h.2.2.2.2.1).1, h.2.2.2.2.2⟩
section
variable {G : Ge} {mi : Mi} {Q : Option AVal → Mem → Prop} {pc : Nat} {L : List (Option AVal)} {st : List AVal} {M : Mem}
theorem S_iconst {n : Int} (hd : decode mi.2.1 pc = .ok (.iconst n, 1)) (k : Sf G mi Q (pc + 1) L (vI n :: st) M) : Sf G mi Q pc L (st) M := by
  intro p e R s m args below meth c H locs cells slots ls rc0 rs0 A A0 M0 hC hF
  exact lv_iconst hC.1 hC.2.1 hd rfl (k p e R s m args below meth c H locs cells slots ls rc0 rs0 A A0 M0 hC (hF.st (fun h => h.pushI n)))
theorem S_bipush {n : Int} (hd : decode mi.2.1 pc = .ok (.bipush n, 2)) (hn : (Int8.ofInt n).toInt32 = jI n) (k : Sf G mi Q (pc + 2) L (vI n :: st) M) : Sf G mi Q pc L (st) M := by
  intro p e R s m args below meth c H locs cells slots ls rc0 rs0 A A0 M0 hC hF
  exact lv_bipush hC.1 hC.2.1 hd hn (k p e R s m args below meth c H locs cells slots ls rc0 rs0 A A0 M0 hC (hF.st (fun h => h.pushI n)))
theorem S_sipush {n : Int} (hd : decode mi.2.1 pc = .ok (.sipush n, 3)) (hn : (Int16.ofInt n).toInt32 = jI n) (k : Sf G mi Q (pc + 3) L (vI n :: st) M) : Sf G mi Q pc L (st) M := by
  intro p e R s m args below meth c H locs cells slots ls rc0 rs0 A A0 M0 hC hF
  exact lv_sipush hC.1 hC.2.1 hd hn (k p e R s m args below meth c H locs cells slots ls rc0 rs0 A A0 M0 hC (hF.st (fun h => h.pushI n)))
theorem S_null  (hd : decode mi.2.1 pc = .ok (.aconst_null, 1)) (k : Sf G mi Q (pc + 1) L (vN :: st) M) : Sf G mi Q pc L (st) M := by
  intro p e R s m args below meth c H locs cells slots ls rc0 rs0 A A0 M0 hC hF
  exact lv_null hC.1 hC.2.1 hd (k p e R s m args below meth c H locs cells slots ls rc0 rs0 A A0 M0 hC (hF.st (fun h => h.push (okV_nul _))))
theorem S_iload_n {j : Fin 4} {x : Int} (hd : decode mi.2.1 pc = .ok (.iload_n j, 1)) (hL : L[(j : Nat)]? = some (some (vI x))) (k : Sf G mi Q (pc + 1) L (vI x :: st) M) : Sf G mi Q pc L (st) M := by
  intro p e R s m args below meth c H locs cells slots ls rc0 rs0 A A0 M0 hC hF
  exact lv_iload_n hC.1 hC.2.1 hd rfl (hF.loc hL) (k p e R s m args below meth c H locs cells slots ls rc0 rs0 A A0 M0 hC (hF.st (fun h => h.pushI x)))
theorem S_iload {j : Nat} {x : Int} (hd : decode mi.2.1 pc = .ok (.iload j, 2)) (hL : L[j]? = some (some (vI x))) (k : Sf G mi Q (pc + 2) L (vI x :: st) M) : Sf G mi Q pc L (st) M := by
  intro p e R s m args below meth c H locs cells slots ls rc0 rs0 A A0 M0 hC hF
  exact lv_iload hC.1 hC.2.1 hd (hF.loc hL) (k p e R s m args below meth c H locs cells slots ls rc0 rs0 A A0 M0 hC (hF.st (fun h => h.pushI x)))
theorem S_aload_n {j : Fin 4} {o : Option Role} (hd : decode mi.2.1 pc = .ok (.aload_n j, 1)) (hL : L[(j : Nat)]? = some (some (vQ o))) (k : Sf G mi Q (pc + 1) L (vQ o :: st) M) : Sf G mi Q pc L st M := by
  intro p e R s m args below meth c H locs cells slots ls rc0 rs0 A A0 M0 hC hF
  have k1 := k p e R s m args below meth c H locs cells slots ls rc0 rs0 A A0 M0 hC (hF.st (fun h => h.push (h.loc hL)))
  have h1 := hF.loc hL
  cases o with
  | none => exact lv_aload_nN hC.1 hC.2.1 hd rfl h1 k1
  | some r => exact lv_aload_n hC.1 hC.2.1 hd rfl h1 k1
theorem S_aload {j : Nat} {o : Option Role} (hd : decode mi.2.1 pc = .ok (.aload j, 2)) (hL : L[j]? = some (some (vQ o))) (k : Sf G mi Q (pc + 2) L (vQ o :: st) M) : Sf G mi Q pc L st M := by
  intro p e R s m args below meth c H locs cells slots ls rc0 rs0 A A0 M0 hC hF
  have k1 := k p e R s m args below meth c H locs cells slots ls rc0 rs0 A A0 M0 hC (hF.st (fun h => h.push (h.loc hL)))
  have h1 := hF.loc hL
  cases o with
  | none => exact lv_aloadN hC.1 hC.2.1 hd h1 k1
  | some r => exact lv_aload hC.1 hC.2.1 hd h1 k1
theorem S_istore_n {j : Fin 4} {x : Int} (hd : decode mi.2.1 pc = .ok (.istore_n j, 1)) (hn : (j : Nat) < mi.2.2.1) (k : Sf G mi Q (pc + 1) (L.set (j : Nat) (some (vI x))) st M) : Sf G mi Q pc L (vI x :: st) M := by
  intro p e R s m args below meth c H locs cells slots ls rc0 rs0 A A0 M0 hC hF
  exact lv_istore_n hC.1 hC.2.1 hd rfl hF.2.2.2.1.has hn rfl (fun ls' hl => k p e R s m args below meth c H locs cells slots ls' rc0 rs0 A A0 M0 hC (hF.sto (v := vI x) hl (fun h => ⟨okV_int _ _, h.pop⟩)))
theorem S_istore {j : Nat} {x : Int} (hd : decode mi.2.1 pc = .ok (.istore j, 2)) (hn : j < mi.2.2.1) (k : Sf G mi Q (pc + 2) (L.set j (some (vI x))) st M) : Sf G mi Q pc L (vI x :: st) M := by
  intro p e R s m args below meth c H locs cells slots ls rc0 rs0 A A0 M0 hC hF
  exact lv_istore hC.1 hC.2.1 hd hF.2.2.2.1.has hn rfl (fun ls' hl => k p e R s m args below meth c H locs cells slots ls' rc0 rs0 A A0 M0 hC (hF.sto (v := vI x) hl (fun h => ⟨okV_int _ _, h.pop⟩)))
theorem S_astore_n {j : Fin 4} {o : Option Role} (hd : decode mi.2.1 pc = .ok (.astore_n j, 1)) (hn : (j : Nat) < mi.2.2.1) (k : Sf G mi Q (pc + 1) (L.set (j : Nat) (some (vQ o))) st M) : Sf G mi Q pc L (vQ o :: st) M := by
  intro p e R s m args below meth c H locs cells slots ls rc0 rs0 A A0 M0 hC hF
  cases o with
  | none => exact lv_astore_nN hC.1 hC.2.1 hd rfl hF.2.2.2.1.has hn rfl (fun ls' hl => k p e R s m args below meth c H locs cells slots ls' rc0 rs0 A A0 M0 hC (hF.sto (v := vQ none) hl (fun h => ⟨h.top, h.pop⟩)))
  | some r => exact lv_astore_n hC.1 hC.2.1 hd rfl hF.2.2.2.1.has hn rfl (fun ls' hl => k p e R s m args below meth c H locs cells slots ls' rc0 rs0 A A0 M0 hC (hF.sto (v := vQ (some r)) hl (fun h => ⟨h.top, h.pop⟩)))
theorem S_astore {j : Nat} {o : Option Role} (hd : decode mi.2.1 pc = .ok (.astore j, 2)) (hn : j < mi.2.2.1) (k : Sf G mi Q (pc + 2) (L.set j (some (vQ o))) st M) : Sf G mi Q pc L (vQ o :: st) M := by
  intro p e R s m args below meth c H locs cells slots ls rc0 rs0 A A0 M0 hC hF
  cases o with
  | none => exact lv_astoreN hC.1 hC.2.1 hd hF.2.2.2.1.has hn rfl (fun ls' hl => k p e R s m args below meth c H locs cells slots ls' rc0 rs0 A A0 M0 hC (hF.sto (v := vQ none) hl (fun h => ⟨h.top, h.pop⟩)))
  | some r => exact lv_astore hC.1 hC.2.1 hd hF.2.2.2.1.has hn rfl (fun ls' hl => k p e R s m args below meth c H locs cells slots ls' rc0 rs0 A A0 M0 hC (hF.sto (v := vQ (some r)) hl (fun h => ⟨h.top, h.pop⟩)))
theorem S_iinc {j : Nat} {n x : Int} (hd : decode mi.2.1 pc = .ok (.iinc j n, 3)) (hL : L[j]? = some (some (vI x))) (hn : j < mi.2.2.1) (k : Sf G mi Q (pc + 3) (L.set j (some (vI (x + n)))) st M) : Sf G mi Q pc L st M := by
  intro p e R s m args below meth c H locs cells slots ls rc0 rs0 A A0 M0 hC hF
  obtain ⟨i, hi⟩ := List.getElem?_of_mem (lvL_mem.mpr ⟨vI x, hL, rfl⟩ : (j, conc A (vI x)) ∈ lvL A L)
  exact lv_iinc (v := jI (x + n)) hC.1 hC.2.1 hd hF.2.2.2.1.has (k := i) hi (jI_add x n) hn rfl (fun ls' hl => k p e R s m args below meth c H locs cells slots ls' rc0 rs0 A A0 M0 hC (hF.sto (v := vI (x + n)) hl (fun h => ⟨okV_int _ _, h⟩)))
theorem S_dup {v : AVal} (hd : decode mi.2.1 pc = .ok (.dup, 1)) (k : Sf G mi Q (pc + 1) L (v :: v :: st) M) : Sf G mi Q pc L (v :: st) M := by
  intro p e R s m args below meth c H locs cells slots ls rc0 rs0 A A0 M0 hC hF
  exact lv_dup hC.1 hC.2.1 hd (conc_cat _ _) (k p e R s m args below meth c H locs cells slots ls rc0 rs0 A A0 M0 hC (hF.st (fun h => h.push h.top)))
theorem S_dup_x1 {v u : AVal} (hd : decode mi.2.1 pc = .ok (.dup_x1, 1)) (k : Sf G mi Q (pc + 1) L (v :: u :: v :: st) M) : Sf G mi Q pc L (v :: u :: st) M := by
  intro p e R s m args below meth c H locs cells slots ls rc0 rs0 A A0 M0 hC hF
  exact lv_dup_x1 hC.1 hC.2.1 hd (conc_cat _ _) (conc_cat _ _) (k p e R s m args below meth c H locs cells slots ls rc0 rs0 A A0 M0 hC (hF.st (fun h => ((h.pop.pop.push h.top).push h.pop.top).push h.top)))
theorem S_dup2 {v u : AVal} (hd : decode mi.2.1 pc = .ok (.dup2, 1)) (k : Sf G mi Q (pc + 1) L (v :: u :: v :: u :: st) M) : Sf G mi Q pc L (v :: u :: st) M := by
  intro p e R s m args below meth c H locs cells slots ls rc0 rs0 A A0 M0 hC hF
  exact lv_dup2_11 hC.1 hC.2.1 hd (conc_cat _ _) (conc_cat _ _) (k p e R s m args below meth c H locs cells slots ls rc0 rs0 A A0 M0 hC (hF.st (fun h => (h.push h.pop.top).push h.top)))
theorem S_pop {v : AVal} (hd : decode mi.2.1 pc = .ok (.pop, 1)) (k : Sf G mi Q (pc + 1) L (st) M) : Sf G mi Q pc L (v :: st) M := by
  intro p e R s m args below meth c H locs cells slots ls rc0 rs0 A A0 M0 hC hF
  exact lv_pop hC.1 hC.2.1 hd (conc_cat _ _) (k p e R s m args below meth c H locs cells slots ls rc0 rs0 A A0 M0 hC (hF.st (fun h => h.pop)))
theorem S_iadd {x y : Int} (hd : decode mi.2.1 pc = .ok (.iadd, 1)) (k : Sf G mi Q (pc + 1) L (vI (x + y) :: st) M) : Sf G mi Q pc L (vI y :: vI x :: st) M := by
  intro p e R s m args below meth c H locs cells slots ls rc0 rs0 A A0 M0 hC hF
  exact lv_iadd hC.1 hC.2.1 hd (by rw [jI_add]; exact k p e R s m args below meth c H locs cells slots ls rc0 rs0 A A0 M0 hC (hF.st (fun h => h.pop.pop.pushI _)))
theorem S_isub {x y : Int} (hd : decode mi.2.1 pc = .ok (.isub, 1)) (k : Sf G mi Q (pc + 1) L (vI (x - y) :: st) M) : Sf G mi Q pc L (vI y :: vI x :: st) M := by
  intro p e R s m args below meth c H locs cells slots ls rc0 rs0 A A0 M0 hC hF
  exact lv_isub hC.1 hC.2.1 hd (by rw [jI_sub]; exact k p e R s m args below meth c H locs cells slots ls rc0 rs0 A A0 M0 hC (hF.st (fun h => h.pop.pop.pushI _)))
theorem S_imul {x y : Int} (hd : decode mi.2.1 pc = .ok (.imul, 1)) (k : Sf G mi Q (pc + 1) L (vI (x * y) :: st) M) : Sf G mi Q pc L (vI y :: vI x :: st) M := by
  intro p e R s m args below meth c H locs cells slots ls rc0 rs0 A A0 M0 hC hF
  exact lv_imul hC.1 hC.2.1 hd (by rw [jI_mul]; exact k p e R s m args below meth c H locs cells slots ls rc0 rs0 A A0 M0 hC (hF.st (fun h => h.pop.pop.pushI _)))
theorem S_idiv {x y : Int} (hd : decode mi.2.1 pc = .ok (.idiv, 1)) (hx : -2147483648 ≤ x ∧ x < 2147483648) (hy : 0 < y ∧ y < 2147483648) (k : Sf G mi Q (pc + 1) L (vI (x.tdiv y) :: st) M) : Sf G mi Q pc L (vI y :: vI x :: st) M := by
  intro p e R s m args below meth c H locs cells slots ls rc0 rs0 A A0 M0 hC hF
  exact lv_idiv hC.1 hC.2.1 hd (jI_ne0 (by omega) (by omega)) (by rw [jI_div hx hy]; exact k p e R s m args below meth c H locs cells slots ls rc0 rs0 A A0 M0 hC (hF.st (fun h => h.pop.pop.pushI _)))
theorem S_irem {x y : Int} (hd : decode mi.2.1 pc = .ok (.irem, 1)) (hx : -2147483648 ≤ x ∧ x < 2147483648) (hy : 0 < y ∧ y < 2147483648) (k : Sf G mi Q (pc + 1) L (vI (x.tmod y) :: st) M) : Sf G mi Q pc L (vI y :: vI x :: st) M := by
  intro p e R s m args below meth c H locs cells slots ls rc0 rs0 A A0 M0 hC hF
  exact lv_irem hC.1 hC.2.1 hd (jI_ne0 (by omega) (by omega)) (by rw [jI_rem hx hy]; exact k p e R s m args below meth c H locs cells slots ls rc0 rs0 A A0 M0 hC (hF.st (fun h => h.pop.pop.pushI _)))
theorem S_idivV {x y : Int} (hd : decode mi.2.1 pc = .ok (.idiv, 1)) (hy : -2147483648 ≤ y ∧ y < 2147483648) (h0 : y ≠ 0) (k : Sf G mi Q (pc + 1) L (vI (jI x / jI y).toInt :: st) M) : Sf G mi Q pc L (vI y :: vI x :: st) M := by
  intro p e R s m args below meth c H locs cells slots ls rc0 rs0 A A0 M0 hC hF
  exact lv_idiv hC.1 hC.2.1 hd (jI_ne0 hy h0) (by have k1 := k p e R s m args below meth c H locs cells slots ls rc0 rs0 A A0 M0 hC (hF.st (fun h => h.pop.pop.pushI _)); simp only [List.map_cons] at k1; rw [show conc A (vI (jI x / jI y).toInt) = .int (jI x / jI y) from congrArg Value.int (jI_of _)] at k1; exact k1)
theorem S_iremV {x y : Int} (hd : decode mi.2.1 pc = .ok (.irem, 1)) (hy : -2147483648 ≤ y ∧ y < 2147483648) (h0 : y ≠ 0) (k : Sf G mi Q (pc + 1) L (vI (jI x - jI x / jI y * jI y).toInt :: st) M) : Sf G mi Q pc L (vI y :: vI x :: st) M := by
  intro p e R s m args below meth c H locs cells slots ls rc0 rs0 A A0 M0 hC hF
  exact lv_irem hC.1 hC.2.1 hd (jI_ne0 hy h0) (by have k1 := k p e R s m args below meth c H locs cells slots ls rc0 rs0 A A0 M0 hC (hF.st (fun h => h.pop.pop.pushI _)); simp only [List.map_cons] at k1; rw [show conc A (vI (jI x - jI x / jI y * jI y).toInt) = .int (jI x - jI x / jI y * jI y) from congrArg Value.int (jI_of _)] at k1; exact k1)
theorem S_iand {x y : Int} (hd : decode mi.2.1 pc = .ok (.iand, 1)) (k : Sf G mi Q (pc + 1) L (vI (jI x &&& jI y).toInt :: st) M) : Sf G mi Q pc L (vI y :: vI x :: st) M := by
  intro p e R s m args below meth c H locs cells slots ls rc0 rs0 A A0 M0 hC hF
  exact lv_iand hC.1 hC.2.1 hd (by have k1 := k p e R s m args below meth c H locs cells slots ls rc0 rs0 A A0 M0 hC (hF.st (fun h => h.pop.pop.pushI _)); simp only [List.map_cons] at k1; rw [show conc A (vI (jI x &&& jI y).toInt) = .int (jI x &&& jI y) from congrArg Value.int (jI_of _)] at k1; exact k1)
theorem S_ixor {x y : Int} (hd : decode mi.2.1 pc = .ok (.ixor, 1)) (k : Sf G mi Q (pc + 1) L (vI (jI x ^^^ jI y).toInt :: st) M) : Sf G mi Q pc L (vI y :: vI x :: st) M := by
  intro p e R s m args below meth c H locs cells slots ls rc0 rs0 A A0 M0 hC hF
  exact lv_ixor hC.1 hC.2.1 hd (by have k1 := k p e R s m args below meth c H locs cells slots ls rc0 rs0 A A0 M0 hC (hF.st (fun h => h.pop.pop.pushI _)); simp only [List.map_cons] at k1; rw [show conc A (vI (jI x ^^^ jI y).toInt) = .int (jI x ^^^ jI y) from congrArg Value.int (jI_of _)] at k1; exact k1)
theorem S_goto {off : Int} (tgt : Nat) (hd : decode mi.2.1 pc = .ok (.goto off, 3)) (ht : (pc : Int) + off = (tgt : Int)) (k : Sf G mi Q tgt L (st) M) : Sf G mi Q pc L (st) M := by
  intro p e R s m args below meth c H locs cells slots ls rc0 rs0 A A0 M0 hC hF
  exact lv_goto hC.1 hC.2.1 hd ht (k p e R s m args below meth c H locs cells slots ls rc0 rs0 A A0 M0 hC (hF.st id))
theorem S_icmp_lt {x y off : Int} (tgt : Nat) (hd : decode mi.2.1 pc = .ok (.if_icmp .lt off, 3)) (ht : (pc : Int) + off = (tgt : Int)) (hr : (-2147483648 ≤ x ∧ x < 2147483648) ∧ (-2147483648 ≤ y ∧ y < 2147483648)) (kt : x < y → Sf G mi Q tgt L st M) (kf : ¬ (x < y) → Sf G mi Q (pc + 3) L st M) : Sf G mi Q pc L (vI y :: vI x :: st) M := by
  intro p e R s m args below meth c H locs cells slots ls rc0 rs0 A A0 M0 hC hF
  obtain ⟨hx, hy⟩ := hr
  exact lv_icmp_lt hC.1 hC.2.1 hd ht (fun h => kt ((jI_lt hx hy).mp h) p e R s m args below meth c H locs cells slots ls rc0 rs0 A A0 M0 hC (hF.st (fun h => h.pop.pop))) (fun h => kf (fun h2 => h ((jI_lt hx hy).mpr h2)) p e R s m args below meth c H locs cells slots ls rc0 rs0 A A0 M0 hC (hF.st (fun h => h.pop.pop)))
theorem S_icmp_ge {x y off : Int} (tgt : Nat) (hd : decode mi.2.1 pc = .ok (.if_icmp .ge off, 3)) (ht : (pc : Int) + off = (tgt : Int)) (hr : (-2147483648 ≤ x ∧ x < 2147483648) ∧ (-2147483648 ≤ y ∧ y < 2147483648)) (kt : y ≤ x → Sf G mi Q tgt L st M) (kf : ¬ (y ≤ x) → Sf G mi Q (pc + 3) L st M) : Sf G mi Q pc L (vI y :: vI x :: st) M := by
  intro p e R s m args below meth c H locs cells slots ls rc0 rs0 A A0 M0 hC hF
  obtain ⟨hx, hy⟩ := hr
  exact lv_icmp_ge hC.1 hC.2.1 hd ht (fun h => kt ((jI_le hy hx).mp h) p e R s m args below meth c H locs cells slots ls rc0 rs0 A A0 M0 hC (hF.st (fun h => h.pop.pop))) (fun h => kf (fun h2 => h ((jI_le hy hx).mpr h2)) p e R s m args below meth c H locs cells slots ls rc0 rs0 A A0 M0 hC (hF.st (fun h => h.pop.pop)))
theorem S_icmp_gt {x y off : Int} (tgt : Nat) (hd : decode mi.2.1 pc = .ok (.if_icmp .gt off, 3)) (ht : (pc : Int) + off = (tgt : Int)) (hr : (-2147483648 ≤ x ∧ x < 2147483648) ∧ (-2147483648 ≤ y ∧ y < 2147483648)) (kt : y < x → Sf G mi Q tgt L st M) (kf : ¬ (y < x) → Sf G mi Q (pc + 3) L st M) : Sf G mi Q pc L (vI y :: vI x :: st) M := by
  intro p e R s m args below meth c H locs cells slots ls rc0 rs0 A A0 M0 hC hF
  obtain ⟨hx, hy⟩ := hr
  exact lv_icmp_gt hC.1 hC.2.1 hd ht (fun h => kt ((jI_lt hy hx).mp h) p e R s m args below meth c H locs cells slots ls rc0 rs0 A A0 M0 hC (hF.st (fun h => h.pop.pop))) (fun h => kf (fun h2 => h ((jI_lt hy hx).mpr h2)) p e R s m args below meth c H locs cells slots ls rc0 rs0 A A0 M0 hC (hF.st (fun h => h.pop.pop)))
theorem S_icmp_le {x y off : Int} (tgt : Nat) (hd : decode mi.2.1 pc = .ok (.if_icmp .le off, 3)) (ht : (pc : Int) + off = (tgt : Int)) (hr : (-2147483648 ≤ x ∧ x < 2147483648) ∧ (-2147483648 ≤ y ∧ y < 2147483648)) (kt : x ≤ y → Sf G mi Q tgt L st M) (kf : ¬ (x ≤ y) → Sf G mi Q (pc + 3) L st M) : Sf G mi Q pc L (vI y :: vI x :: st) M := by
  intro p e R s m args below meth c H locs cells slots ls rc0 rs0 A A0 M0 hC hF
  obtain ⟨hx, hy⟩ := hr
  exact lv_icmp_le hC.1 hC.2.1 hd ht (fun h => kt ((jI_le hx hy).mp h) p e R s m args below meth c H locs cells slots ls rc0 rs0 A A0 M0 hC (hF.st (fun h => h.pop.pop))) (fun h => kf (fun h2 => h ((jI_le hx hy).mpr h2)) p e R s m args below meth c H locs cells slots ls rc0 rs0 A A0 M0 hC (hF.st (fun h => h.pop.pop)))
theorem S_icmp_eq {x y off : Int} (tgt : Nat) (hd : decode mi.2.1 pc = .ok (.if_icmp .eq off, 3)) (ht : (pc : Int) + off = (tgt : Int)) (hr : (-2147483648 ≤ x ∧ x < 2147483648) ∧ (-2147483648 ≤ y ∧ y < 2147483648)) (kt : x = y → Sf G mi Q tgt L st M) (kf : ¬ (x = y) → Sf G mi Q (pc + 3) L st M) : Sf G mi Q pc L (vI y :: vI x :: st) M := by
  intro p e R s m args below meth c H locs cells slots ls rc0 rs0 A A0 M0 hC hF
  obtain ⟨hx, hy⟩ := hr
  exact lv_icmp_eq hC.1 hC.2.1 hd ht (fun h => kt ((jI_eq hx hy).mp h) p e R s m args below meth c H locs cells slots ls rc0 rs0 A A0 M0 hC (hF.st (fun h => h.pop.pop))) (fun h => kf (fun h2 => h ((jI_eq hx hy).mpr h2)) p e R s m args below meth c H locs cells slots ls rc0 rs0 A A0 M0 hC (hF.st (fun h => h.pop.pop)))
theorem S_icmp_ne {x y off : Int} (tgt : Nat) (hd : decode mi.2.1 pc = .ok (.if_icmp .ne off, 3)) (ht : (pc : Int) + off = (tgt : Int)) (hr : (-2147483648 ≤ x ∧ x < 2147483648) ∧ (-2147483648 ≤ y ∧ y < 2147483648)) (kt : x ≠ y → Sf G mi Q tgt L st M) (kf : ¬ (x ≠ y) → Sf G mi Q (pc + 3) L st M) : Sf G mi Q pc L (vI y :: vI x :: st) M := by
  intro p e R s m args below meth c H locs cells slots ls rc0 rs0 A A0 M0 hC hF
  obtain ⟨hx, hy⟩ := hr
  exact lv_icmp_ne hC.1 hC.2.1 hd ht (fun h => kt (fun h2 => h (congrArg jI h2)) p e R s m args below meth c H locs cells slots ls rc0 rs0 A A0 M0 hC (hF.st (fun h => h.pop.pop))) (fun h => kf (fun h2 => h2 ((jI_eq hx hy).mp h)) p e R s m args below meth c H locs cells slots ls rc0 rs0 A A0 M0 hC (hF.st (fun h => h.pop.pop)))
theorem S_if_lt {x off : Int} (tgt : Nat) (hd : decode mi.2.1 pc = .ok (.ifCond .lt off, 3)) (ht : (pc : Int) + off = (tgt : Int)) (hx : (-2147483648 ≤ x ∧ x < 2147483648)) (kt : x < 0 → Sf G mi Q tgt L st M) (kf : ¬ (x < 0) → Sf G mi Q (pc + 3) L st M) : Sf G mi Q pc L (vI x :: st) M := by
  intro p e R s m args below meth c H locs cells slots ls rc0 rs0 A A0 M0 hC hF
  exact lv_if_lt hC.1 hC.2.1 hd ht (fun h => kt ((jI_lt hx jI_r0).mp h) p e R s m args below meth c H locs cells slots ls rc0 rs0 A A0 M0 hC (hF.st (fun h => h.pop))) (fun h => kf (fun h2 => h ((jI_lt hx jI_r0).mpr h2)) p e R s m args below meth c H locs cells slots ls rc0 rs0 A A0 M0 hC (hF.st (fun h => h.pop)))
theorem S_if_ge {x off : Int} (tgt : Nat) (hd : decode mi.2.1 pc = .ok (.ifCond .ge off, 3)) (ht : (pc : Int) + off = (tgt : Int)) (hx : (-2147483648 ≤ x ∧ x < 2147483648)) (kt : 0 ≤ x → Sf G mi Q tgt L st M) (kf : ¬ (0 ≤ x) → Sf G mi Q (pc + 3) L st M) : Sf G mi Q pc L (vI x :: st) M := by
  intro p e R s m args below meth c H locs cells slots ls rc0 rs0 A A0 M0 hC hF
  exact lv_if_ge hC.1 hC.2.1 hd ht (fun h => kt ((jI_le jI_r0 hx).mp h) p e R s m args below meth c H locs cells slots ls rc0 rs0 A A0 M0 hC (hF.st (fun h => h.pop))) (fun h => kf (fun h2 => h ((jI_le jI_r0 hx).mpr h2)) p e R s m args below meth c H locs cells slots ls rc0 rs0 A A0 M0 hC (hF.st (fun h => h.pop)))
theorem S_if_gt {x off : Int} (tgt : Nat) (hd : decode mi.2.1 pc = .ok (.ifCond .gt off, 3)) (ht : (pc : Int) + off = (tgt : Int)) (hx : (-2147483648 ≤ x ∧ x < 2147483648)) (kt : 0 < x → Sf G mi Q tgt L st M) (kf : ¬ (0 < x) → Sf G mi Q (pc + 3) L st M) : Sf G mi Q pc L (vI x :: st) M := by
  intro p e R s m args below meth c H locs cells slots ls rc0 rs0 A A0 M0 hC hF
  exact lv_if_gt hC.1 hC.2.1 hd ht (fun h => kt ((jI_lt jI_r0 hx).mp h) p e R s m args below meth c H locs cells slots ls rc0 rs0 A A0 M0 hC (hF.st (fun h => h.pop))) (fun h => kf (fun h2 => h ((jI_lt jI_r0 hx).mpr h2)) p e R s m args below meth c H locs cells slots ls rc0 rs0 A A0 M0 hC (hF.st (fun h => h.pop)))
theorem S_if_le {x off : Int} (tgt : Nat) (hd : decode mi.2.1 pc = .ok (.ifCond .le off, 3)) (ht : (pc : Int) + off = (tgt : Int)) (hx : (-2147483648 ≤ x ∧ x < 2147483648)) (kt : x ≤ 0 → Sf G mi Q tgt L st M) (kf : ¬ (x ≤ 0) → Sf G mi Q (pc + 3) L st M) : Sf G mi Q pc L (vI x :: st) M := by
  intro p e R s m args below meth c H locs cells slots ls rc0 rs0 A A0 M0 hC hF
  exact lv_if_le hC.1 hC.2.1 hd ht (fun h => kt ((jI_le hx jI_r0).mp h) p e R s m args below meth c H locs cells slots ls rc0 rs0 A A0 M0 hC (hF.st (fun h => h.pop))) (fun h => kf (fun h2 => h ((jI_le hx jI_r0).mpr h2)) p e R s m args below meth c H locs cells slots ls rc0 rs0 A A0 M0 hC (hF.st (fun h => h.pop)))
theorem S_if_eq {x off : Int} (tgt : Nat) (hd : decode mi.2.1 pc = .ok (.ifCond .eq off, 3)) (ht : (pc : Int) + off = (tgt : Int)) (hx : (-2147483648 ≤ x ∧ x < 2147483648)) (kt : x = 0 → Sf G mi Q tgt L st M) (kf : ¬ (x = 0) → Sf G mi Q (pc + 3) L st M) : Sf G mi Q pc L (vI x :: st) M := by
  intro p e R s m args below meth c H locs cells slots ls rc0 rs0 A A0 M0 hC hF
  exact lv_if_eq hC.1 hC.2.1 hd ht (fun h => kt ((jI_eq hx jI_r0).mp h) p e R s m args below meth c H locs cells slots ls rc0 rs0 A A0 M0 hC (hF.st (fun h => h.pop))) (fun h => kf (fun h2 => h ((jI_eq hx jI_r0).mpr h2)) p e R s m args below meth c H locs cells slots ls rc0 rs0 A A0 M0 hC (hF.st (fun h => h.pop)))
theorem S_if_ne {x off : Int} (tgt : Nat) (hd : decode mi.2.1 pc = .ok (.ifCond .ne off, 3)) (ht : (pc : Int) + off = (tgt : Int)) (hx : (-2147483648 ≤ x ∧ x < 2147483648)) (kt : x ≠ 0 → Sf G mi Q tgt L st M) (kf : ¬ (x ≠ 0) → Sf G mi Q (pc + 3) L st M) : Sf G mi Q pc L (vI x :: st) M := by
  intro p e R s m args below meth c H locs cells slots ls rc0 rs0 A A0 M0 hC hF
  exact lv_if_ne hC.1 hC.2.1 hd ht (fun h => kt (fun h2 => h (congrArg jI h2)) p e R s m args below meth c H locs cells slots ls rc0 rs0 A A0 M0 hC (hF.st (fun h => h.pop))) (fun h => kf (fun h2 => h2 ((jI_eq hx jI_r0).mp h)) p e R s m args below meth c H locs cells slots ls rc0 rs0 A A0 M0 hC (hF.st (fun h => h.pop)))
theorem S_ifnull {o : Option Role} {off : Int} (tgt : Nat) (hd : decode mi.2.1 pc = .ok (.ifnull off, 3)) (ht : (pc : Int) + off = (tgt : Int)) (kt : o = none → Sf G mi Q tgt L st M) (kf : o ≠ none → Sf G mi Q (pc + 3) L st M) : Sf G mi Q pc L (vQ o :: st) M := by
  intro p e R s m args below meth c H locs cells slots ls rc0 rs0 A A0 M0 hC hF
  cases o with
  | none => exact lv_ifnullN hC.1 hC.2.1 hd ht (kt rfl p e R s m args below meth c H locs cells slots ls rc0 rs0 A A0 M0 hC (hF.st (fun h => h.pop)))
  | some r => exact lv_ifnull hC.1 hC.2.1 hd (kf (fun h => by cases h) p e R s m args below meth c H locs cells slots ls rc0 rs0 A A0 M0 hC (hF.st (fun h => h.pop)))
theorem S_ifnonnull {o : Option Role} {off : Int} (tgt : Nat) (hd : decode mi.2.1 pc = .ok (.ifnonnull off, 3)) (ht : (pc : Int) + off = (tgt : Int)) (kt : o ≠ none → Sf G mi Q tgt L st M) (kf : o = none → Sf G mi Q (pc + 3) L st M) : Sf G mi Q pc L (vQ o :: st) M := by
  intro p e R s m args below meth c H locs cells slots ls rc0 rs0 A A0 M0 hC hF
  cases o with
  | none => exact lv_ifnonnullN hC.1 hC.2.1 hd (kf rfl p e R s m args below meth c H locs cells slots ls rc0 rs0 A A0 M0 hC (hF.st (fun h => h.pop)))
  | some r => exact lv_ifnonnull hC.1 hC.2.1 hd ht (kt (fun h => by cases h) p e R s m args below meth c H locs cells slots ls rc0 rs0 A A0 M0 hC (hF.st (fun h => h.pop)))
theorem acmp_inj {H : Heap} {A : Role → Nat} {o1 o2 : Option Role} (hP : Pic G A M H) (hw : Wf M L (vQ o2 :: vQ o1 :: st)) (hg : (∀ r, o1 = some r → nS r.1) ∧ ∀ r, o2 = some r → nS r.1) (h : o1.map A = o2.map A) : o1 = o2 := by
  cases o1 with
  | none => cases o2 with
    | none => rfl
    | some r => cases h
  | some r => cases o2 with
    | none => cases h
    | some r' => rw [hP.2.1 r r' (hw.pop.top r rfl) (hw.top r' rfl) (hg.1 r rfl) (hg.2 r' rfl) (Option.some.inj h)]
theorem S_acmp_eq {o1 o2 : Option Role} {off : Int} (tgt : Nat) (hd : decode mi.2.1 pc = .ok (.if_acmp .eq off, 3)) (ht : (pc : Int) + off = (tgt : Int)) (hg : (∀ r, o1 = some r → nS r.1) ∧ ∀ r, o2 = some r → nS r.1) (kt : o1 = o2 → Sf G mi Q tgt L st M) (kf : o1 ≠ o2 → Sf G mi Q (pc + 3) L st M) : Sf G mi Q pc L (vQ o2 :: vQ o1 :: st) M := by
  intro p e R s m args below meth c H locs cells slots ls rc0 rs0 A A0 M0 hC hF
  exact lv_acmp_eq hC.1 hC.2.1 hd ht (fun h => kt (acmp_inj hF.1 hF.wf hg h) p e R s m args below meth c H locs cells slots ls rc0 rs0 A A0 M0 hC (hF.st (fun h => h.pop.pop))) (fun h => kf (fun h2 => h (by rw [h2])) p e R s m args below meth c H locs cells slots ls rc0 rs0 A A0 M0 hC (hF.st (fun h => h.pop.pop)))
theorem S_acmp_ne {o1 o2 : Option Role} {off : Int} (tgt : Nat) (hd : decode mi.2.1 pc = .ok (.if_acmp .ne off, 3)) (ht : (pc : Int) + off = (tgt : Int)) (hg : (∀ r, o1 = some r → nS r.1) ∧ ∀ r, o2 = some r → nS r.1) (kt : o1 ≠ o2 → Sf G mi Q tgt L st M) (kf : o1 = o2 → Sf G mi Q (pc + 3) L st M) : Sf G mi Q pc L (vQ o2 :: vQ o1 :: st) M := by
  intro p e R s m args below meth c H locs cells slots ls rc0 rs0 A A0 M0 hC hF
  exact lv_acmp_ne hC.1 hC.2.1 hd ht (fun h => kt (fun h2 => h (by rw [h2])) p e R s m args below meth c H locs cells slots ls rc0 rs0 A A0 M0 hC (hF.st (fun h => h.pop.pop))) (fun h => kf (acmp_inj hF.1 hF.wf hg h) p e R s m args below meth c H locs cells slots ls rc0 rs0 A A0 M0 hC (hF.st (fun h => h.pop.pop)))
theorem S_acmp_same {o : Option Role} {off : Int} (tgt : Nat) (hd : decode mi.2.1 pc = .ok (.if_acmp .ne off, 3)) (ht : (pc : Int) + off = (tgt : Int)) (kf : Sf G mi Q (pc + 3) L st M) : Sf G mi Q pc L (vQ o :: vQ o :: st) M := by
  intro p e R s m args below meth c H locs cells slots ls rc0 rs0 A A0 M0 hC hF
  exact lv_acmp_ne hC.1 hC.2.1 hd ht (fun h => absurd rfl h) (fun h => kf p e R s m args below meth c H locs cells slots ls rc0 rs0 A A0 M0 hC (hF.st (fun h => h.pop.pop)))
theorem S_tableIn {dflt lo hi x : Int} {offs : Array Int} {len : Nat} {off : Int} (tgt : Nat) (hd : decode mi.2.1 pc = .ok (.tableswitch dflt lo hi offs, len)) (hx : -2147483648 ≤ x ∧ x < 2147483648) (h : lo ≤ x ∧ x ≤ hi) (ho : offs[(x - lo).toNat]? = some off) (ht : (pc : Int) + off = (tgt : Int)) (k : Sf G mi Q tgt L st M) : Sf G mi Q pc L (vI x :: st) M := by
  intro p e R s m args below meth c H locs cells slots ls rc0 rs0 A A0 M0 hC hF
  exact lv_tableIn hC.1 hC.2.1 hd (by rw [jI_toInt hx]; omega) (by rw [jI_toInt hx]; omega) (by rw [jI_toInt hx]; exact ho) ht (k p e R s m args below meth c H locs cells slots ls rc0 rs0 A A0 M0 hC (hF.st (fun h => h.pop)))
theorem S_tableOut {dflt lo hi x : Int} {offs : Array Int} {len : Nat} (tgt : Nat) (hd : decode mi.2.1 pc = .ok (.tableswitch dflt lo hi offs, len)) (hx : -2147483648 ≤ x ∧ x < 2147483648) (h : x < lo ∨ hi < x) (ht : (pc : Int) + dflt = (tgt : Int)) (k : Sf G mi Q tgt L st M) : Sf G mi Q pc L (vI x :: st) M := by
  intro p e R s m args below meth c H locs cells slots ls rc0 rs0 A A0 M0 hC hF
  exact lv_tableOut hC.1 hC.2.1 hd (by rw [jI_toInt hx]; exact h) ht (k p e R s m args below meth c H locs cells slots ls rc0 rs0 A A0 M0 hC (hF.st (fun h => h.pop)))
theorem S_lookup {dflt x : Int} {ps : Array (Int × Int)} {len : Nat} {off : Int} (tgt : Nat) (hd : decode mi.2.1 pc = .ok (.lookupswitch dflt ps, len)) (hp : (ps.toList.zip (ps.toList.drop 1)).all (fun (a, next) => a.1 < next.1) = true) (hx : -2147483648 ≤ x ∧ x < 2147483648) (ho : Op.lookupswitch.offset ps.toList dflt x = off) (ht : (pc : Int) + off = (tgt : Int)) (k : Sf G mi Q tgt L st M) : Sf G mi Q pc L (vI x :: st) M := by
  intro p e R s m args below meth c H locs cells slots ls rc0 rs0 A A0 M0 hC hF
  exact lv_lookup hC.1 hC.2.1 hd hp (by rw [jI_toInt hx]; exact ho) ht (k p e R s m args below meth c H locs cells slots ls rc0 rs0 A A0 M0 hC (hF.st (fun h => h.pop)))
theorem Sf.eq {pc2 : Nat} (h : pc = pc2) (k : Sf G mi Q pc2 L st M) : Sf G mi Q pc L st M := h ▸ k
theorem Sf.imp {Q' : Option AVal → Mem → Prop} (hq : ∀ v M', Q' v M' → Q v M') (k : Sf G mi Q' pc L st M) : Sf G mi Q pc L st M := by
  intro p e R s m args below meth c H locs cells slots ls rc0 rs0 A A0 M0 hC hF
  intro T hT X
  obtain ⟨t, h1, o, h2, h3, ⟨v, M1, A1, h4, h5, h6⟩, h7⟩ := k p e R s m args below meth c H locs cells slots ls rc0 rs0 A A0 M0 hC hF T hT X
  exact ⟨t, h1, o, h2, h3, ⟨v, M1, A1, h4, hq _ _ h5, h6⟩, h7⟩
end
end
section
/-! THE HEAP'S RULES -/
theorem uIn_of (C : String) (T : u_T) (N : Nat) (ps : List Nat) (h : u_ws C T N = ps.filterMap (fun i => lw_tbl[i]?)) (hg : (u_ws C T N).all goodWord = true) : ∀ w ∈ u_ws C T N, w ∈ wG := fun w hw => by
  have h1 := List.all_eq_true.mp hg w hw
  rw [h] at hw
  obtain ⟨i, -, hi⟩ := List.mem_filterMap.mp hw
  exact List.mem_filter.mpr ⟨List.mem_of_getElem? hi, h1⟩
theorem uIn_0 : ∀ w ∈ u_ws (cR 0) (cT 0) (cN 0), w ∈ wG := uIn_of _ _ _ [136, 132, 134] (by decide +kernel) (by decide +kernel)
theorem uIn_1 : ∀ w ∈ u_ws (cR 1) (cT 1) (cN 1), w ∈ wG := uIn_of _ _ _ [108, 110] (by decide +kernel) (by decide +kernel)
theorem uIn_2 : ∀ w ∈ u_ws (cR 2) (cT 2) (cN 2), w ∈ wG := uIn_of _ _ _ [289, 291, 293, 295, 297, 299, 301, 303, 305, 307, 309, 311, 313, 315, 317, 319] (by decide +kernel) (by decide +kernel)
theorem uIn_3 : ∀ w ∈ u_ws (cR 3) (cT 3) (cN 3), w ∈ wG := uIn_of _ _ _ [515, 517, 519, 521, 523, 525] (by decide +kernel) (by decide +kernel)
theorem uIn_4 : ∀ w ∈ u_ws (cR 4) (cT 4) (cN 4), w ∈ wG := uIn_of _ _ _ [605, 606, 607, 608, 609, 610, 611, 612, 597, 599, 601, 603] (by decide +kernel) (by decide +kernel)
theorem uIn_5 : ∀ w ∈ u_ws (cR 5) (cT 5) (cN 5), w ∈ wG := uIn_of _ _ _ [359, 361, 363, 365, 367, 369, 371, 373] (by decide +kernel) (by decide +kernel)
theorem uIn_6 : ∀ w ∈ u_ws (cR 6) (cT 6) (cN 6), w ∈ wG := uIn_of _ _ _ [145, 147, 149] (by decide +kernel) (by decide +kernel)
theorem uIn_7 : ∀ w ∈ u_ws (cR 7) (cT 7) (cN 7), w ∈ wG := uIn_of _ _ _ [182, 184] (by decide +kernel) (by decide +kernel)
theorem uIn_8 : ∀ w ∈ u_ws (cR 8) (cT 8) (cN 8), w ∈ wG := uIn_of _ _ _ [167, 169] (by decide +kernel) (by decide +kernel)
theorem uIn_9 : ∀ w ∈ u_ws (cR 9) (cT 9) (cN 9), w ∈ wG := uIn_of _ _ _ [199, 201, 203, 205, 207, 209, 211, 213, 215, 217, 219] (by decide +kernel) (by decide +kernel)
theorem uIn_10 : ∀ w ∈ u_ws (cR 10) (cT 10) (cN 10), w ∈ wG := uIn_of _ _ _ [844, 846, 848, 850, 852, 854, 856, 858, 860, 862, 864, 866, 868, 870, 872, 874, 876, 878, 880, 882, 884, 886, 888, 890, 892, 894, 896, 898, 900, 902, 904, 906, 908, 910, 912, 914, 916, 918, 920, 922, 924, 926, 928, 930, 932, 934] (by decide +kernel) (by decide +kernel)
theorem uIn (ci : Nat) (h : ci < 11) : ∀ w ∈ u_ws (cR ci) (cT ci) (cN ci), w ∈ wG := by
  rcases (show ci = 0 ∨ ci = 1 ∨ ci = 2 ∨ ci = 3 ∨ ci = 4 ∨ ci = 5 ∨ ci = 6 ∨ ci = 7 ∨ ci = 8 ∨ ci = 9 ∨ ci = 10 by omega) with h | h | h | h | h | h | h | h | h | h | h <;> subst h
  · exact uIn_0
  · exact uIn_1
  · exact uIn_2
  · exact uIn_3
  · exact uIn_4
  · exact uIn_5
  · exact uIn_6
  · exact uIn_7
  · exact uIn_8
  · exact uIn_9
  · exact uIn_10
theorem cTy_ok (ci : Nat) (h : ci < 11) : ∀ k, k < cN ci → parseFieldDescriptor (cT ci k).2.2.1 = some (cTy ci k) := by
  rcases (show ci = 0 ∨ ci = 1 ∨ ci = 2 ∨ ci = 3 ∨ ci = 4 ∨ ci = 5 ∨ ci = 6 ∨ ci = 7 ∨ ci = 8 ∨ ci = 9 ∨ ci = 10 by omega) with h | h | h | h | h | h | h | h | h | h | h <;> subst h
  · exact tyJx4a65c_ok
  · exact tyX0_ok
  · exact tyX1_ok
  · exact tyX2_ok
  · exact tyX3_ok
  · exact tyX4_ok
  · exact tyX5_ok
  · exact tyX6_ok
  · exact tyX7_ok
  · exact tyX8_ok
  · exact tyX9_ok
theorem cNm_ok (ci : Nat) (h : ci < 11) : ∀ a, a < cN ci → ∀ b, b < cN ci → a ≠ b → (cT ci a).2.1 ≠ (cT ci b).2.1 := by
  rcases (show ci = 0 ∨ ci = 1 ∨ ci = 2 ∨ ci = 3 ∨ ci = 4 ∨ ci = 5 ∨ ci = 6 ∨ ci = 7 ∨ ci = 8 ∨ ci = 9 ∨ ci = 10 by omega) with h | h | h | h | h | h | h | h | h | h | h <;> subst h
  · exact nmJx4a65c
  · exact nmX0
  · exact nmX1
  · exact nmX2
  · exact nmX3
  · exact nmX4
  · exact nmX5
  · exact nmX6
  · exact nmX7
  · exact nmX8
  · exact nmX9
-- a field's link: own class, pool number, class of the object, place of the field
def Fl (own : String) (idx ci k : Nat) : Prop := ci < 11 ∧ k < cN ci ∧ ∃ ref, Cond.fieldLink own idx ref (cT ci k).2.1 (cT ci k).2.2.1 ∈ wG ∧ (ref = (cT ci k).1 ∨ Cond.sameField ref (cT ci k).1 (cT ci k).2.1 (cT ci k).2.2.1 ∈ wG)
theorem Fl.same {own ref : String} {ci k : Nat} {s : State} {args : Array Value} (hts : ∀ w ∈ wG, w.before args s = true) (h : ref = (cT ci k).1 ∨ Cond.sameField ref (cT ci k).1 (cT ci k).2.1 (cT ci k).2.2.1 ∈ wG) : ∀ x, s.fieldFound? (cT ci k).1 (cT ci k).2.1 (cT ci k).2.2.1 = some x → s.fieldFound? ref (cT ci k).2.1 (cT ci k).2.2.1 = some x := fun x hx => by
  rcases h with h | h
  · rw [h]; exact hx
  · exact u_same (hts _ h) x hx
theorem ent_congr {aC : Nat → ClassId} {A : Role → Nat} {M M' : Mem} {r : Role} {n : Nat} (hI : ∀ k, M'.I r k = M.I r k) (hP : ∀ k, M'.P r k = M.P r k) : ent aC A M' r n = ent aC A M r n := by
  have h1 : M'.I r = M.I r := funext hI
  have h2 : M'.P r = M.P r := funext hP
  unfold ent
  rw [h1, h2]
theorem ent_obj {aC : Nat → ClassId} {A : Role → Nat} {M : Mem} {r : Role} {n ci : Nat} (hk : kd r.1 = .inl ci) : ent aC A M r n = .inr (ci, (List.range (cN ci)).map fun k => vOf A (fR ci k) (M.I r k) (M.P r k)) := by
  unfold ent; rw [hk]
theorem ent_int {aC : Nat → ClassId} {A : Role → Nat} {M : Mem} {r : Role} {n j : Nat} (hk : kd r.1 = .inr j) (hj : j < 2) : ent aC A M r n = .inl (aC j, n, .inl fun k => jI (M.I r k)) := by
  unfold ent; rw [hk]; exact if_pos hj
theorem ent_ref {aC : Nat → ClassId} {A : Role → Nat} {M : Mem} {r : Role} {n j : Nat} (hk : kd r.1 = .inr j) (hj : 2 ≤ j) : ent aC A M r n = .inl (aC j, n, .inr (.inr (.inr (.inr fun k => (M.P r k).map A)))) := by
  unfold ent; rw [hk]; exact if_neg (by omega)
theorem ro_obj {r : Role} {ci : Nat} (hk : kd r.1 = .inl ci) : ro r.1 = false := by
  by_cases h : ro r.1 = true
  · have h2 : (r.1 = 20 ∨ r.1 = 40) ∨ r.1 = 41 := by simpa [ro] using h
    rcases h2 with (h2 | h2) | h2 <;> rw [h2] at hk <;> cases hk
  · simpa using h
theorem ro_ne {c : Nat} (h : ro c = false) : nS c := ⟨fun e => (by rw [e] at h; cases h), fun e => (by rw [e] at h; cases h)⟩
theorem okV.get {M : Mem} {r : Role} (h : okV M (vR r)) : ∃ n, M.len r = some n := Option.ne_none_iff_exists'.mp (h r rfl)
theorem Pic.upd2 {G : Ge} {A : Role → Nat} {M M' : Mem} {H : Heap} {r q : Role} {n nq : Nat} (hP : Pic G A M H) (hl : M.len r = some n) (hr : ro r.1 = false) (hlq : M.len q = some nq) (hrq : ro q.1 = false) (hlen : M'.len = M.len) (hot : ∀ r', r' ≠ r → ∀ k, M'.I r' k = M.I r' k ∧ M'.P r' k = M.P r' k) (hc : Clo M') :
    ∃ (ws : va_W) (k0 : Nat), (ws[k0]? = some (A r, ent (gA G) A M r n) ∧ ∃ kq : Nat, ws[kq]? = some (A q, ent (gA G) A M q nq)) ∧ va_P (gD G) vwCl ws H ∧ va_D (Wr G) ws ∧ ∀ H1 : Heap, va_P (gD G) vwCl (ws.set k0 (A r, ent (gA G) A M' r n)) H1 → va_D (Wr G) (ws.set k0 (A r, ent (gA G) A M' r n)) → Pic G A M' H1 := by
  obtain ⟨⟨ws, ⟨w1, w2⟩, p, d⟩, hrest⟩ := hP
  obtain ⟨kq, hkq⟩ := w1 q nq hlq hrq
  obtain ⟨k0, hk0⟩ := w1 r n hl hr
  refine ⟨ws, k0, ⟨hk0, kq, hkq⟩, p, d, fun H1 hp hd => ?_⟩
  obtain ⟨inj, clo, e1, e2, e3⟩ := hrest
  have hlt : k0 < ws.length := (List.getElem?_eq_some_iff.mp hk0).1
  refine ⟨⟨_, ⟨fun r' n' hl' hr' => ?_, fun k q hq => ?_⟩, hp, hd⟩, by rw [hlen]; exact inj, hc, by rw [hlen]; exact e1, by rw [hlen]; exact e2, by rw [hlen]; exact e3⟩
  · rw [hlen] at hl'
    by_cases h : r' = r
    · subst h
      cases hl.symm.trans hl'
      exact ⟨k0, by rw [List.getElem?_set_self hlt]⟩
    · obtain ⟨k', hk'⟩ := w1 r' n' hl' hr'
      have hne : k0 ≠ k' := fun e => by
        subst e
        rw [hk0] at hk'
        exact h (inj r' r (by rw [hl']; simp) (by rw [hl]; simp) (ro_ne hr') (ro_ne hr) (congrArg Prod.fst (Option.some.inj hk')).symm)
      exact ⟨k', by rw [List.getElem?_set_ne hne, hk', ent_congr (fun k => (hot r' h k).1) (fun k => (hot r' h k).2)]⟩
  · by_cases h : k = k0
    · subst h
      rw [List.getElem?_set_self hlt] at hq
      exact ⟨r, n, by rw [hlen]; exact hl, hr, (Option.some.inj hq).symm⟩
    · rw [List.getElem?_set_ne (fun e => h e.symm)] at hq
      obtain ⟨r', n', h1, h2, h3⟩ := w2 k q hq
      have hne : r' ≠ r := fun e => by
        subst e
        exact h (d.1 k k0 q _ hq hk0 (by rw [h3]))
      exact ⟨r', n', by rw [hlen]; exact h1, h2, by rw [h3, ent_congr (fun k => (hot r' hne k).1) (fun k => (hot r' hne k).2)]⟩
theorem Pic.upd {G : Ge} {A : Role → Nat} {M M' : Mem} {H : Heap} {r : Role} {n : Nat} (hP : Pic G A M H) (hl : M.len r = some n) (hr : ro r.1 = false) (hlen : M'.len = M.len) (hot : ∀ r', r' ≠ r → ∀ k, M'.I r' k = M.I r' k ∧ M'.P r' k = M.P r' k) (hc : Clo M') :
    ∃ (ws : va_W) (k0 : Nat), ws[k0]? = some (A r, ent (gA G) A M r n) ∧ va_P (gD G) vwCl ws H ∧ va_D (Wr G) ws ∧ ∀ H1 : Heap, va_P (gD G) vwCl (ws.set k0 (A r, ent (gA G) A M' r n)) H1 → va_D (Wr G) (ws.set k0 (A r, ent (gA G) A M' r n)) → Pic G A M' H1 := by
  obtain ⟨ws, k0, h1, h2⟩ := hP.upd2 hl hr hl hr hlen hot hc
  exact ⟨ws, k0, h1.1, h2⟩
theorem map_set {α β : Type} (f g : α → β) (d : Nat) : ∀ (l : List α) (v : β), (∀ k a, l[k]? = some a → k ≠ d → g a = f a) → (∀ a, l[d]? = some a → g a = v) → l.map g = (l.map f).set d v := by
  intro l v h1 h2
  apply List.ext_getElem?
  intro k
  rw [List.getElem?_set, List.getElem?_map, List.getElem?_map]
  by_cases hk : d = k
  · subst hk
    rw [if_pos rfl]
    cases hl : l[d]? with
    | none => rw [if_neg (by rw [List.length_map]; exact fun h => by rw [List.getElem?_eq_getElem h] at hl; cases hl)]; rfl
    | some a => rw [if_pos (by rw [List.length_map]; exact (List.getElem?_eq_some_iff.mp hl).1)]; simp [h2 a hl]
  · rw [if_neg hk]
    cases hl : l[k]? with
    | none => rfl
    | some a => simp [h1 k a hl (fun e => hk e.symm)]
theorem ent_putI {aC : Nat → ClassId} {A : Role → Nat} {M : Mem} {r : Role} {n ci k : Nat} {z : Int} (hk : kd r.1 = .inl ci) (hN : k < cN ci) (hf : fR ci k = false) : ent aC A (M.putI r k z) r n = .inr (ci, ((List.range (cN ci)).map fun k => vOf A (fR ci k) (M.I r k) (M.P r k)).set k (.int (jI z))) := by
  rw [ent_obj hk]
  congr 2
  refine map_set _ _ k _ _ (fun j a hj hne => ?_) (fun a ha => ?_)
  · rw [List.getElem?_range (by have := (List.getElem?_eq_some_iff.mp hj).1; simpa using this)] at hj
    cases hj
    show vOf A (fR ci j) (if r = r ∧ j = k then z else M.2.1 r j) _ = _
    rw [if_neg (fun h => hne h.2)]; rfl
  · rw [List.getElem?_range hN] at ha
    cases ha
    show vOf A (fR ci k) (if r = r ∧ k = k then z else M.2.1 r k) _ = _
    rw [if_pos ⟨rfl, rfl⟩, hf]; rfl
theorem ent_putP {aC : Nat → ClassId} {A : Role → Nat} {M : Mem} {r : Role} {n ci k : Nat} {o : Option Role} (hk : kd r.1 = .inl ci) (hN : k < cN ci) (hf : fR ci k = true) : ent aC A (M.putP r k o) r n = .inr (ci, ((List.range (cN ci)).map fun k => vOf A (fR ci k) (M.I r k) (M.P r k)).set k (va_rf (o.map A))) := by
  rw [ent_obj hk]
  congr 2
  refine map_set _ _ k _ _ (fun j a hj hne => ?_) (fun a ha => ?_)
  · rw [List.getElem?_range (by have := (List.getElem?_eq_some_iff.mp hj).1; simpa using this)] at hj
    cases hj
    show vOf A (fR ci j) _ (if r = r ∧ j = k then o else M.2.2.1 r j) = _
    rw [if_neg (fun h => hne h.2)]; rfl
  · rw [List.getElem?_range hN] at ha
    cases ha
    show vOf A (fR ci k) _ (if r = r ∧ k = k then o else M.2.2.1 r k) = _
    rw [if_pos ⟨rfl, rfl⟩, hf]; rfl
theorem Clo.putI {M : Mem} {r : Role} {k : Nat} {z : Int} (h : Clo M) : Clo (M.putI r k z) := h
theorem Clo.putP {M : Mem} {r : Role} {k : Nat} {o : Option Role} (h : Clo M) (ho : okV M (vQ o)) : Clo (M.putP r k o) := fun r1 k1 r2 hr hp => by
  have hp : (if r1 = r ∧ k1 = k then o else M.2.2.1 r1 k1) = some r2 := hp
  by_cases hh : r1 = r ∧ k1 = k
  · rw [if_pos hh] at hp
    subst hp
    exact ho r2 rfl
  · rw [if_neg hh] at hp
    exact h r1 k1 r2 hr hp
theorem other_putI {M : Mem} {r : Role} {k : Nat} {z : Int} : ∀ r', r' ≠ r → ∀ j, (M.putI r k z).I r' j = M.I r' j ∧ (M.putI r k z).P r' j = M.P r' j := fun r' h j => ⟨if_neg (fun hh => h hh.1), rfl⟩
theorem other_putP {M : Mem} {r : Role} {k : Nat} {o : Option Role} : ∀ r', r' ≠ r → ∀ j, (M.putP r k o).I r' j = M.I r' j ∧ (M.putP r k o).P r' j = M.P r' j := fun r' h j => ⟨rfl, if_neg (fun hh => h hh.1)⟩
theorem ty_of_int {t : FieldType} {z : Int} (hz : t = .int ∨ (t = .boolean ∧ (z = 0 ∨ z = 1))) : narrow t (.int (jI z)) = .int (jI z) ∧ fits t (.int (jI z)) = true := by
  rcases hz with h | ⟨h, h2 | h2⟩ <;> subst h
  · exact ⟨rfl, rfl⟩
  · subst h2; exact ⟨rfl, rfl⟩
  · subst h2; exact ⟨rfl, rfl⟩
theorem ty_of_ref {t : FieldType} {o : Option Nat} (h : isRef t = true) : narrow t (va_rf o) = va_rf o ∧ fits t (va_rf o) = true := by
  cases t <;> first | (cases h; done) | (cases o <;> exact ⟨rfl, rfl⟩)
theorem Cf.mem {G : Ge} {mi : Mi} {L : List (Option AVal)} {st st' : List AVal} {M M' : Mem} {s : State} {H H1 : Heap} {locs locs1 : List Loc} {ls : Array Slot} {rc0 rs0 cells slots : Nat} {A A0 : Role → Nat} {M0 : Mem} (h : Cf G mi L st M s H locs cells slots ls rc0 rs0 A A0 M0) (hP : Pic G A M' H1) (hS : va_S (Wr G) s.heap H1 locs1) (hl : M'.len = M.len) (hc : M'.rc = M.rc ∧ M'.rs = M.rs) (hw : ∀ v ∈ st', v ∈ st) : Cf G mi L st' M' s H1 locs1 cells slots ls rc0 rs0 A A0 M0 := by
  obtain ⟨-, -, h3, h4, h5, h6⟩ := h
  refine ⟨hP, hS, by rw [hc.1, hc.2]; exact h3, h4, ⟨fun v hv r hr => by rw [hl]; exact h5.1 v (hw v hv) r hr, fun v hv r hr => by rw [hl]; exact h5.2 v hv r hr⟩, fun r hr => by rw [hl]; exact h6 r hr⟩
theorem jI_clamp {j : Nat} (h : j < 2147483648) : (jI (j : Int)).toNatClampNeg = j := by
  have h1 : (jI (j : Int)).toInt = j := jI_toInt ⟨by omega, by omega⟩
  show (jI (j : Int)).toInt.toNat = j
  rw [h1]; exact Int.toNat_natCast j
theorem jI_in {j n : Nat} (h : j < n ∧ j < 2147483648) : vp_in (jI (j : Int)) n := vp_in_iff.mpr (by rw [jI_toInt ⟨by omega, by omega⟩]; omega)
section
variable {G : Ge} {mi : Mi} {Q : Option AVal → Mem → Prop} {pc : Nat} {L : List (Option AVal)} {st : List AVal} {M : Mem}
theorem S_getI {idx ci k : Nat} {r : Role} {v : Int} (hl : Fl mi.1.cls idx ci k) (hd : decode mi.2.1 pc = .ok (.getfield idx, 3)) (hk : kd r.1 = .inl ci) (hf : fR ci k = false) (hv : M.I r k = v) (kk : Sf G mi Q (pc + 3) L (vI v :: st) M) : Sf G mi Q pc L (vR r :: st) M := by
  intro p e R s m args below meth c H locs cells slots ls rc0 rs0 A A0 M0 hC hF
  subst hv
  obtain ⟨hci, hkN, ref, hlk, hsm⟩ := hl
  obtain ⟨n, hn⟩ := hF.wf.top.get
  obtain ⟨ws, k0, h0, hp, -⟩ := hF.1.upd (M' := M) hn (ro_obj hk) rfl (fun _ _ _ => ⟨rfl, rfl⟩) hF.1.2.2.1
  rw [ent_obj hk] at h0
  refine va_get (v := .int (jI (M.I r k))) hC.1 hC.2.1 hC.2.2.2.2.2.1 (uIn ci hci) hC.2.2.2.2.1 hC.2.2.2.2.2.2.1.1 hp k0 h0 (vwCl_at ci hci) k hkN (hC.2.2.2.2.2.1 _ hlk) (Fl.same (own := ref) hC.2.2.2.2.2.1 hsm) ?_ hd (kk p e R s m args below meth c H locs cells slots ls rc0 rs0 A A0 M0 hC (hF.st (fun h => h.pop.pushI _)))
  rw [List.getElem?_map, List.getElem?_range hkN]
  simp [vOf, hf]
theorem S_getP {idx ci k : Nat} {r : Role} {o : Option Role} (hl : Fl mi.1.cls idx ci k) (hd : decode mi.2.1 pc = .ok (.getfield idx, 3)) (hk : kd r.1 = .inl ci) (hf : fR ci k = true) (hv : M.P r k = o) (kk : Sf G mi Q (pc + 3) L (vQ o :: st) M) : Sf G mi Q pc L (vR r :: st) M := by
  intro p e R s m args below meth c H locs cells slots ls rc0 rs0 A A0 M0 hC hF
  subst hv
  obtain ⟨hci, hkN, ref, hlk, hsm⟩ := hl
  obtain ⟨n, hn⟩ := hF.wf.top.get
  obtain ⟨ws, k0, h0, hp, -⟩ := hF.1.upd (M' := M) hn (ro_obj hk) rfl (fun _ _ _ => ⟨rfl, rfl⟩) hF.1.2.2.1
  rw [ent_obj hk] at h0
  refine va_get (v := va_rf ((M.P r k).map A)) hC.1 hC.2.1 hC.2.2.2.2.2.1 (uIn ci hci) hC.2.2.2.2.1 hC.2.2.2.2.2.2.1.1 hp k0 h0 (vwCl_at ci hci) k hkN (hC.2.2.2.2.2.1 _ hlk) (Fl.same (own := ref) hC.2.2.2.2.2.1 hsm) ?_ hd (kk p e R s m args below meth c H locs cells slots ls rc0 rs0 A A0 M0 hC (hF.st (fun h => h.pop.push (fun r' hr' => hF.1.2.2.1 r k r' (by rw [hn]; simp) (Sum.inr.inj hr')))))
  rw [List.getElem?_map, List.getElem?_range hkN]
  simp [vOf, hf]
theorem S_putI {idx ci k : Nat} {r : Role} {z : Int} (hl : Fl mi.1.cls idx ci k) (hd : decode mi.2.1 pc = .ok (.putfield idx, 3)) (hk : kd r.1 = .inl ci) (hf : fR ci k = false) (hfin : (cT ci k).2.2.2 = false) (hz : cTy ci k = .int ∨ (cTy ci k = .boolean ∧ (z = 0 ∨ z = 1))) (kk : Sf G mi Q (pc + 3) L st (M.putI r k z)) : Sf G mi Q pc L (vI z :: vR r :: st) M := by
  intro p e R s m args below meth c H locs cells slots ls rc0 rs0 A A0 M0 hC hF
  obtain ⟨hci, hkN, ref, hlk, hsm⟩ := hl
  obtain ⟨n, hn⟩ := hF.wf.pop.top.get
  obtain ⟨ws, k0, h0, hp, hD, hup⟩ := hF.1.upd (M' := M.putI r k z) hn (ro_obj hk) rfl other_putI hF.1.2.2.1.putI
  rw [ent_putI hk hkN hf] at hup
  rw [ent_obj hk] at h0
  exact va_put hC.1 hC.2.1 hC.2.2.2.2.2.1 (uIn ci hci) (cTy ci) (cTy_ok ci hci) (cNm_ok ci hci) hC.2.2.2.2.1 hC.2.2.2.2.2.2.1.1 hp hD hF.2.1 k0 h0 (vwCl_at ci hci) k hkN (hC.2.2.2.2.2.1 _ hlk) (Fl.same (own := ref) hC.2.2.2.2.2.1 hsm) hfin (cTy_ok ci hci k hkN) (ty_of_int hz).1 (ty_of_int hz).2 (by simpa using hkN) hd
    (fun H1 locs1 hP1 hD1 hS1 => kk p e R s m args below meth c H1 locs1 cells slots ls rc0 rs0 A A0 M0 hC (hF.mem (hup H1 hP1 hD1) hS1 rfl ⟨rfl, rfl⟩ (fun v hv => List.mem_cons_of_mem _ (List.mem_cons_of_mem _ hv))))
theorem S_putP {idx ci k : Nat} {r : Role} {o : Option Role} (hl : Fl mi.1.cls idx ci k) (hd : decode mi.2.1 pc = .ok (.putfield idx, 3)) (hk : kd r.1 = .inl ci) (hf : fR ci k = true) (hfin : (cT ci k).2.2.2 = false) (kk : Sf G mi Q (pc + 3) L st (M.putP r k o)) : Sf G mi Q pc L (vQ o :: vR r :: st) M := by
  intro p e R s m args below meth c H locs cells slots ls rc0 rs0 A A0 M0 hC hF
  obtain ⟨hci, hkN, ref, hlk, hsm⟩ := hl
  obtain ⟨n, hn⟩ := hF.wf.pop.top.get
  obtain ⟨ws, k0, h0, hp, hD, hup⟩ := hF.1.upd (M' := M.putP r k o) hn (ro_obj hk) rfl other_putP (hF.1.2.2.1.putP hF.wf.top)
  rw [ent_putP hk hkN hf] at hup
  rw [ent_obj hk] at h0
  exact va_put hC.1 hC.2.1 hC.2.2.2.2.2.1 (uIn ci hci) (cTy ci) (cTy_ok ci hci) (cNm_ok ci hci) hC.2.2.2.2.1 hC.2.2.2.2.2.2.1.1 hp hD hF.2.1 k0 h0 (vwCl_at ci hci) k hkN (hC.2.2.2.2.2.1 _ hlk) (Fl.same (own := ref) hC.2.2.2.2.2.1 hsm) hfin (cTy_ok ci hci k hkN) (ty_of_ref hf).1 (ty_of_ref hf).2 (by simpa using hkN) hd
    (fun H1 locs1 hP1 hD1 hS1 => kk p e R s m args below meth c H1 locs1 cells slots ls rc0 rs0 A A0 M0 hC (hF.mem (hup H1 hP1 hD1) hS1 rfl ⟨rfl, rfl⟩ (fun v hv => List.mem_cons_of_mem _ (List.mem_cons_of_mem _ hv))))
theorem S_putIF {idx ci k : Nat} {r : Role} {z : Int} (hl : Fl mi.1.cls idx ci k) (hd : decode mi.2.1 pc = .ok (.putfield idx, 3)) (hk : kd r.1 = .inl ci) (hf : fR ci k = false) (hfin : (cT ci k).2.2.2 = true) (hin2 : mi.1.name = "<init>") (hdecl : (cT ci k).1 = mi.1.cls) (hz : cTy ci k = .int ∨ (cTy ci k = .boolean ∧ (z = 0 ∨ z = 1))) (kk : Sf G mi Q (pc + 3) L st (M.putI r k z)) : Sf G mi Q pc L (vI z :: vR r :: st) M := by
  intro p e R s m args below meth c H locs cells slots ls rc0 rs0 A A0 M0 hC hF
  obtain ⟨hci, hkN, ref, hlk, hsm⟩ := hl
  obtain ⟨n, hn⟩ := hF.wf.pop.top.get
  obtain ⟨ws, k0, h0, hp, hD, hup⟩ := hF.1.upd (M' := M.putI r k z) hn (ro_obj hk) rfl other_putI hF.1.2.2.1.putI
  rw [ent_putI hk hkN hf] at hup
  rw [ent_obj hk] at h0
  exact va_putF hC.1 hC.2.1 hC.2.2.2.2.2.1 (uIn ci hci) (cTy ci) (cTy_ok ci hci) (cNm_ok ci hci) hC.2.2.2.2.1 hC.2.2.2.2.2.2.1.1 hp hD hF.2.1 k0 h0 (vwCl_at ci hci) k hkN (hC.2.2.2.2.2.1 _ hlk) (Fl.same (own := ref) hC.2.2.2.2.2.1 hsm) hfin (by rw [hC.2.2.2.2.2.2.2.2.1]; exact hin2) hdecl (cTy_ok ci hci k hkN) (ty_of_int hz).1 (ty_of_int hz).2 (by simpa using hkN) hd
    (fun H1 locs1 hP1 hD1 hS1 => kk p e R s m args below meth c H1 locs1 cells slots ls rc0 rs0 A A0 M0 hC (hF.mem (hup H1 hP1 hD1) hS1 rfl ⟨rfl, rfl⟩ (fun v hv => List.mem_cons_of_mem _ (List.mem_cons_of_mem _ hv))))
theorem S_putPF {idx ci k : Nat} {r : Role} {o : Option Role} (hl : Fl mi.1.cls idx ci k) (hd : decode mi.2.1 pc = .ok (.putfield idx, 3)) (hk : kd r.1 = .inl ci) (hf : fR ci k = true) (hfin : (cT ci k).2.2.2 = true) (hin2 : mi.1.name = "<init>") (hdecl : (cT ci k).1 = mi.1.cls) (kk : Sf G mi Q (pc + 3) L st (M.putP r k o)) : Sf G mi Q pc L (vQ o :: vR r :: st) M := by
  intro p e R s m args below meth c H locs cells slots ls rc0 rs0 A A0 M0 hC hF
  obtain ⟨hci, hkN, ref, hlk, hsm⟩ := hl
  obtain ⟨n, hn⟩ := hF.wf.pop.top.get
  obtain ⟨ws, k0, h0, hp, hD, hup⟩ := hF.1.upd (M' := M.putP r k o) hn (ro_obj hk) rfl other_putP (hF.1.2.2.1.putP hF.wf.top)
  rw [ent_putP hk hkN hf] at hup
  rw [ent_obj hk] at h0
  exact va_putF hC.1 hC.2.1 hC.2.2.2.2.2.1 (uIn ci hci) (cTy ci) (cTy_ok ci hci) (cNm_ok ci hci) hC.2.2.2.2.1 hC.2.2.2.2.2.2.1.1 hp hD hF.2.1 k0 h0 (vwCl_at ci hci) k hkN (hC.2.2.2.2.2.1 _ hlk) (Fl.same (own := ref) hC.2.2.2.2.2.1 hsm) hfin (by rw [hC.2.2.2.2.2.2.2.2.1]; exact hin2) hdecl (cTy_ok ci hci k hkN) (ty_of_ref hf).1 (ty_of_ref hf).2 (by simpa using hkN) hd
    (fun H1 locs1 hP1 hD1 hS1 => kk p e R s m args below meth c H1 locs1 cells slots ls rc0 rs0 A A0 M0 hC (hF.mem (hup H1 hP1 hD1) hS1 rfl ⟨rfl, rfl⟩ (fun v hv => List.mem_cons_of_mem _ (List.mem_cons_of_mem _ hv))))
theorem S_iald {n : Nat} {r : Role} {i v : Int} (j : Nat) (hd : decode mi.2.1 pc = .ok (.iaload, 1)) (hk : kd r.1 = .inr 0) (hr : ro r.1 = false) (hn : M.len r = some n) (hj : i = (j : Int)) (hjn : j < n ∧ j < 2147483648) (hv : M.I r j = v) (kk : Sf G mi Q (pc + 1) L (vI v :: st) M) : Sf G mi Q pc L (vI i :: vR r :: st) M := by
  intro p e R s m args below meth c H locs cells slots ls rc0 rs0 A A0 M0 hC hF
  subst hv; subst hj
  obtain ⟨ws, k0, h0, hp, -⟩ := hF.1.upd (M' := M) hn hr rfl (fun _ _ _ => ⟨rfl, rfl⟩) hF.1.2.2.1
  rw [ent_int hk (by decide)] at h0
  have k1 := kk p e R s m args below meth c H locs cells slots ls rc0 rs0 A A0 M0 hC (hF.st (fun h => h.pop.pop.pushI _))
  refine va_iald hC.1 hC.2.1 hC.2.2.2.2.2.2.1.1 hp k0 0 h0 (tysL_at _ 0 (by decide)) (jI_in hjn) hd ?_
  rw [jI_clamp hjn.2]
  exact k1
theorem S_bald {n : Nat} {r : Role} {i v : Int} (j : Nat) (hd : decode mi.2.1 pc = .ok (.baload, 1)) (hk : kd r.1 = .inr 1) (hr : ro r.1 = false) (hn : M.len r = some n) (hj : i = (j : Int)) (hjn : j < n ∧ j < 2147483648) (hv : M.I r j = v) (kk : Sf G mi Q (pc + 1) L (vI v :: st) M) : Sf G mi Q pc L (vI i :: vR r :: st) M := by
  intro p e R s m args below meth c H locs cells slots ls rc0 rs0 A A0 M0 hC hF
  subst hv; subst hj
  obtain ⟨ws, k0, h0, hp, -⟩ := hF.1.upd (M' := M) hn hr rfl (fun _ _ _ => ⟨rfl, rfl⟩) hF.1.2.2.1
  rw [ent_int hk (by decide)] at h0
  have k1 := kk p e R s m args below meth c H locs cells slots ls rc0 rs0 A A0 M0 hC (hF.st (fun h => h.pop.pop.pushI _))
  refine va_zald hC.1 hC.2.1 hC.2.2.2.2.2.2.1.1 hp k0 1 h0 (tysL_at _ 1 (by decide)) (jI_in hjn) hd ?_
  rw [jI_clamp hjn.2]
  exact k1
theorem ent_putA {aC : Nat → ClassId} {A : Role → Nat} {r : Role} {n j d : Nat} {z : Int} (hk : kd r.1 = .inr d) (hd : d < 2) : ent aC A (M.putI r j z) r n = .inl (aC d, n, .inl (upd (fun k => jI (M.I r k)) j (jI z))) := by
  rw [ent_int hk hd]
  congr 4
  funext k
  show jI (if r = r ∧ k = j then z else M.2.1 r k) = if k = j then jI z else jI (M.I r k)
  by_cases h : k = j
  · rw [if_pos ⟨rfl, h⟩, if_pos h]
  · rw [if_neg (fun q => h q.2), if_neg h]; rfl
theorem ent_putAP {aC : Nat → ClassId} {A : Role → Nat} {r : Role} {n j d : Nat} {o : Option Role} (hk : kd r.1 = .inr d) (hd : 2 ≤ d) : ent aC A (M.putP r j o) r n = .inl (aC d, n, .inr (.inr (.inr (.inr (va_up (fun k => (M.P r k).map A) j (o.map A)))))) := by
  rw [ent_ref hk hd]
  congr 7
  funext k
  show (if r = r ∧ k = j then o else M.2.2.1 r k).map A = if k = j then o.map A else (M.P r k).map A
  by_cases h : k = j
  · rw [if_pos ⟨rfl, h⟩, if_pos h]
  · rw [if_neg (fun q => h q.2), if_neg h]; rfl
theorem S_iast {n : Nat} {r : Role} {i z : Int} (j : Nat) (hd : decode mi.2.1 pc = .ok (.iastore, 1)) (hk : kd r.1 = .inr 0) (hr : ro r.1 = false) (hn : M.len r = some n) (hj : i = (j : Int)) (hjn : j < n ∧ j < 2147483648) (kk : Sf G mi Q (pc + 1) L st (M.putI r j z)) : Sf G mi Q pc L (vI z :: vI i :: vR r :: st) M := by
  intro p e R s m args below meth c H locs cells slots ls rc0 rs0 A A0 M0 hC hF
  subst hj
  obtain ⟨ws, k0, h0, hp, hD, hup⟩ := hF.1.upd (M' := M.putI r j z) hn hr rfl other_putI hF.1.2.2.1.putI
  rw [ent_putA hk (by decide)] at hup
  rw [ent_int hk (by decide)] at h0
  refine va_iast hC.1 hC.2.1 hC.2.2.2.2.2.2.1.1 hp hD hF.2.1 k0 0 h0 (tysL_at _ 0 (by decide)) (jI_in hjn) hd (fun H1 locs1 hP1 hD1 hS1 => ?_)
  rw [jI_clamp hjn.2] at hP1 hD1
  exact kk p e R s m args below meth c H1 locs1 cells slots ls rc0 rs0 A A0 M0 hC (hF.mem (hup H1 hP1 hD1) hS1 rfl ⟨rfl, rfl⟩ (fun v hv => List.mem_cons_of_mem _ (List.mem_cons_of_mem _ (List.mem_cons_of_mem _ hv))))
theorem S_bast {n : Nat} {r : Role} {i z : Int} (j : Nat) (hd : decode mi.2.1 pc = .ok (.bastore, 1)) (hk : kd r.1 = .inr 1) (hr : ro r.1 = false) (hn : M.len r = some n) (hj : i = (j : Int)) (hjn : j < n ∧ j < 2147483648) (hz : z = 0 ∨ z = 1) (kk : Sf G mi Q (pc + 1) L st (M.putI r j z)) : Sf G mi Q pc L (vI z :: vI i :: vR r :: st) M := by
  intro p e R s m args below meth c H locs cells slots ls rc0 rs0 A A0 M0 hC hF
  subst hj
  obtain ⟨ws, k0, h0, hp, hD, hup⟩ := hF.1.upd (M' := M.putI r j z) hn hr rfl other_putI hF.1.2.2.1.putI
  rw [ent_putA hk (by decide)] at hup
  rw [ent_int hk (by decide)] at h0
  have hnz : vp_nar .boolean (jI z) = jI z := by rcases hz with h | h <;> subst h <;> rfl
  refine va_zast hC.1 hC.2.1 hC.2.2.2.2.2.2.1.1 hp hD hF.2.1 k0 1 h0 (tysL_at _ 1 (by decide)) (jI_in hjn) hd (fun H1 locs1 hP1 hD1 hS1 => ?_)
  rw [jI_clamp hjn.2, hnz] at hP1 hD1
  exact kk p e R s m args below meth c H1 locs1 cells slots ls rc0 rs0 A A0 M0 hC (hF.mem (hup H1 hP1 hD1) hS1 rfl ⟨rfl, rfl⟩ (fun v hv => List.mem_cons_of_mem _ (List.mem_cons_of_mem _ (List.mem_cons_of_mem _ hv))))
theorem aT_ref (d : Nat) (h : 2 ≤ d) : ∃ C, aT d = .object C := by
  unfold aT
  split <;> first | (exfalso; omega) | exact ⟨_, rfl⟩
theorem S_aald {n d : Nat} {r : Role} {i : Int} {o : Option Role} (j : Nat) (hd : decode mi.2.1 pc = .ok (.aaload, 1)) (hk : kd r.1 = .inr d) (h2 : 2 ≤ d ∧ d < 8) (hr : ro r.1 = false) (hn : M.len r = some n) (hj : i = (j : Int)) (hjn : j < n ∧ j < 2147483648) (hv : M.P r j = o) (kk : Sf G mi Q (pc + 1) L (vQ o :: st) M) : Sf G mi Q pc L (vI i :: vR r :: st) M := by
  intro p e R s m args below meth c H locs cells slots ls rc0 rs0 A A0 M0 hC hF
  subst hv; subst hj
  obtain ⟨ws, k0, h0, hp, -⟩ := hF.1.upd (M' := M) hn hr rfl (fun _ _ _ => ⟨rfl, rfl⟩) hF.1.2.2.1
  rw [ent_ref hk h2.1] at h0
  have k1 := kk p e R s m args below meth c H locs cells slots ls rc0 rs0 A A0 M0 hC (hF.st (fun h => h.pop.pop.push (fun r' hr' => hF.1.2.2.1 r j r' (by rw [hn]; simp) (Sum.inr.inj hr'))))
  obtain ⟨C, hCd⟩ := aT_ref d h2.1
  have ht := tysL_at (gA G) d h2.2
  rw [hCd] at ht
  refine va_aldq hC.1 hC.2.1 hC.2.2.2.2.2.2.1.1 hp k0 d h0 ht (jI_in hjn) hd ?_
  rw [jI_clamp hjn.2]
  exact k1
theorem S_aastN {n d : Nat} {r : Role} {i : Int} (j : Nat) (hd : decode mi.2.1 pc = .ok (.aastore, 1)) (hk : kd r.1 = .inr d) (h2 : 2 ≤ d ∧ d < 8) (hr : ro r.1 = false) (hn : M.len r = some n) (hj : i = (j : Int)) (hjn : j < n ∧ j < 2147483648) (kk : Sf G mi Q (pc + 1) L st (M.putP r j none)) : Sf G mi Q pc L (vN :: vI i :: vR r :: st) M := by
  intro p e R s m args below meth c H locs cells slots ls rc0 rs0 A A0 M0 hC hF
  subst hj
  obtain ⟨ws, k0, h0, hp, hD, hup⟩ := hF.1.upd (M' := M.putP r j none) hn hr rfl other_putP (hF.1.2.2.1.putP (okV_nul _))
  rw [ent_putAP hk h2.1] at hup
  rw [ent_ref hk h2.1] at h0
  obtain ⟨C, hCd⟩ := aT_ref d h2.1
  have ht := tysL_at (gA G) d h2.2
  rw [hCd] at ht
  refine va_astqN hC.1 hC.2.1 hC.2.2.2.2.2.2.1.1 hp hD hF.2.1 k0 d h0 ht (jI_in hjn) hd (fun H1 locs1 hP1 hD1 hS1 => ?_)
  rw [jI_clamp hjn.2] at hP1 hD1
  exact kk p e R s m args below meth c H1 locs1 cells slots ls rc0 rs0 A A0 M0 hC (hF.mem (hup H1 hP1 hD1) hS1 rfl ⟨rfl, rfl⟩ (fun v hv => List.mem_cons_of_mem _ (List.mem_cons_of_mem _ (List.mem_cons_of_mem _ hv))))
theorem S_aast {n d ci : Nat} {r q : Role} {i : Int} (j : Nat) (hd : decode mi.2.1 pc = .ok (.aastore, 1)) (hk : kd r.1 = .inr d) (h2 : 2 ≤ d ∧ d < 8) (hr : ro r.1 = false) (hq : kd q.1 = .inl ci) (hci : ci < 11) (he : aT d = .object (cR ci)) (hn : M.len r = some n) (hj : i = (j : Int)) (hjn : j < n ∧ j < 2147483648) (kk : Sf G mi Q (pc + 1) L st (M.putP r j (some q))) : Sf G mi Q pc L (vR q :: vI i :: vR r :: st) M := by
  intro p e R s m args below meth c H locs cells slots ls rc0 rs0 A A0 M0 hC hF
  subst hj
  have ht := tysL_at (gA G) d h2.2
  rw [he] at ht
  obtain ⟨nq, hnq⟩ := hF.wf.top.get
  obtain ⟨ws', k0', h0', hp', hD', hup'⟩ := hF.1.upd2 hn hr hnq (ro_obj hq) (M' := M.putP r j (some q)) rfl other_putP (hF.1.2.2.1.putP hF.wf.top)
  obtain ⟨kq, hkq⟩ := h0'.2
  have h0'' := h0'.1
  rw [ent_putAP hk h2.1] at hup'
  rw [ent_ref hk h2.1] at h0''
  rw [ent_obj hq] at hkq
  refine va_astq hC.1 hC.2.1 hC.2.2.2.2.2.2.1.1 hp' hD' hF.2.1 k0' d kq ci h0'' (r := (cR ci, cT ci, cN ci)) ht hkq (vwCl_at ci hci) (jI_in hjn) hd (fun H1 locs1 hP1 hD1 hS1 => ?_)
  rw [jI_clamp hjn.2] at hP1 hD1
  exact kk p e R s m args below meth c H1 locs1 cells slots ls rc0 rs0 A A0 M0 hC (hF.mem (hup' H1 hP1 hD1) hS1 rfl ⟨rfl, rfl⟩ (fun v hv => List.mem_cons_of_mem _ (List.mem_cons_of_mem _ (List.mem_cons_of_mem _ hv))))
theorem S_aastO {n : Nat} {r q : Role} {i : Int} (j : Nat) (hd : decode mi.2.1 pc = .ok (.aastore, 1)) (hk : kd r.1 = .inr 7) (hr : ro r.1 = false) (hq : kd q.1 = .inl 5) (hn : M.len r = some n) (hj : i = (j : Int)) (hjn : j < n ∧ j < 2147483648) (kk : Sf G mi Q (pc + 1) L st (M.putP r j (some q))) : Sf G mi Q pc L (vR q :: vI i :: vR r :: st) M := by
  intro p e R s m args below meth c H locs cells slots ls rc0 rs0 A A0 M0 hC hF
  subst hj
  obtain ⟨nq, hnq⟩ := hF.wf.top.get
  obtain ⟨ws', k0', h0', hp', hD', hup'⟩ := hF.1.upd2 hn hr hnq (ro_obj hq) (M' := M.putP r j (some q)) rfl other_putP (hF.1.2.2.1.putP hF.wf.top)
  obtain ⟨kq, hkq⟩ := h0'.2
  have h0'' := h0'.1
  rw [ent_putAP hk (by decide)] at hup'
  rw [ent_ref hk (by decide)] at h0''
  rw [ent_obj hq] at hkq
  refine va_astqO hC.1 hC.2.1 hC.2.2.2.2.2.2.1.1 hp' hD' hF.2.1 k0' 7 kq 5 (E := "java/lang/Object") (r := (cR 5, cT 5, cN 5)) h0'' (tysL_at _ 7 (by decide)) hC.2.2.2.2.2.2.1.2.2.2.2.2.2.2.2.1 hkq (vwCl_at 5 (by decide)) (jI_in hjn) hd (fun H1 locs1 hP1 hD1 hS1 => ?_)
  rw [jI_clamp hjn.2] at hP1 hD1
  exact kk p e R s m args below meth c H1 locs1 cells slots ls rc0 rs0 A A0 M0 hC (hF.mem (hup' H1 hP1 hD1) hS1 rfl ⟨rfl, rfl⟩ (fun v hv => List.mem_cons_of_mem _ (List.mem_cons_of_mem _ (List.mem_cons_of_mem _ hv))))
theorem S_alen {n d : Nat} {r : Role} (hd : decode mi.2.1 pc = .ok (.arraylength, 1)) (hk : kd r.1 = .inr d) (h2 : d < 8) (hr : ro r.1 = false) (hn : M.len r = some n) (kk : Sf G mi Q (pc + 1) L (vI n :: st) M) : Sf G mi Q pc L (vR r :: st) M := by
  intro p e R s m args below meth c H locs cells slots ls rc0 rs0 A A0 M0 hC hF
  obtain ⟨ws, k0, h0, hp, -⟩ := hF.1.upd (M' := M) hn hr rfl (fun _ _ _ => ⟨rfl, rfl⟩) hF.1.2.2.1
  have k1 := kk p e R s m args below meth c H locs cells slots ls rc0 rs0 A A0 M0 hC (hF.st (fun h => h.pop.pushI _))
  by_cases h3 : d < 2
  · rw [ent_int hk h3] at h0
    exact va_alen (v := jI n) hC.1 hC.2.1 hC.2.2.2.2.2.2.1.1 hp k0 d h0 (tysL_at _ d h2) rfl hd k1
  · rw [ent_ref hk (by omega)] at h0
    exact va_alen (v := jI n) hC.1 hC.2.1 hC.2.2.2.2.2.2.1.1 hp k0 d h0 (tysL_at _ d h2) rfl hd k1
theorem S_alenE (hd : decode mi.2.1 pc = .ok (.arraylength, 1)) (kk : Sf G mi Q (pc + 1) L (vI 0 :: st) M) : Sf G mi Q pc L (vR (20, 0) :: st) M := by
  intro p e R s m args below meth c H locs cells slots ls rc0 rs0 A A0 M0 hC hF
  obtain ⟨cell, h1, h2, h3, h4, h5, h6, h7⟩ := hC.2.2.2.2.2.2.1.2.2.1
  have k1 := kk p e R s m args below meth c H locs cells slots ls rc0 rs0 A A0 M0 hC (hF.st (fun h => h.pop.pushI _))
  have e1 : A (20, 0) = gE G := hF.1.2.2.2.1.2
  show W _ _ _ _ _ _ _ _ _ _ _ _ _ _ _ (F0 m pc ls (.ref (A (20, 0)) :: _))
  rw [e1]
  exact W.alen (n := jI 0) hC.1 hC.2.1 (by rw [hF.2.1.2.1 _ (Array.getElem?_eq_some_iff.mp h1).1 h7]; exact h1) h2 (by rw [h5]; rfl) rfl rfl hd k1
end
end
section
/-! RETURNS, CALLS, NEW OBJECTS -/
theorem W.narrow {p : Program} {l : Launch} {e : Env} {R : Room} {s : State} {m : MethodId} {args : Array Value} {below : List Frame} {meth : Method} {c : Code} {H : Heap} {locs : List Loc} {cells slots : Nat} {Q : State → Prop} {g : JFrame}
    (h : H.size - s.heap.size ≤ cells → sumN s.heap.size H ≤ slots → s.heap.size ≤ H.size → KeepSz s.heap H → W p l e R s m args below meth c H locs (H.size - s.heap.size) (sumN s.heap.size H) Q g) : W p l e R s m args below meth c H locs cells slots Q g := by
  intro T hT X
  subst hT
  obtain ⟨a1, a2, a3, a4, a5, a6⟩ := id X.same
  have b2 : s.heap.size ≤ T.heap.size := a2
  have b3 : T.heap.size ≤ s.heap.size + cells := a3
  refine h (by omega) a5 b2 (fun a c hc => ?_) T rfl { X with same := ⟨a1, a2, ?_, a4, Nat.le_refl _, a6⟩ }
  · obtain ⟨c', h1, -, h3, -⟩ := a6 a c hc
    exact ⟨c', h1, h3⟩
  · show T.heap.size ≤ s.heap.size + (T.heap.size - s.heap.size)
    omega
theorem conc_ext {M : Mem} {A A1 : Role → Nat} {v : AVal} (h : ∀ r, M.len r ≠ none → A1 r = A r) (hv : okV M v) : conc A1 v = conc A v := by
  rcases v with z | o
  · rfl
  · cases o with
    | none => rfl
    | some r => exact congrArg Value.ref (h r (hv r rfl))
theorem map_ext {M : Mem} {A A1 : Role → Nat} {st : List AVal} (h : ∀ r, M.len r ≠ none → A1 r = A r) (hv : ∀ v ∈ st, okV M v) : st.map (conc A1) = st.map (conc A) := List.map_congr_left fun v hv1 => conc_ext h (hv v hv1)
theorem okV.mono {M M1 : Mem} {v : AVal} (h : ∀ r, M.len r ≠ none → M1.len r ≠ none) (hv : okV M v) : okV M1 v := fun r hr => h r (hv r hr)
theorem Lok.ext {M : Mem} {A A1 : Role → Nat} {ls : Array Slot} {nL : Nat} {L : List (Option AVal)} (hL : Lok A ls nL L) (h : ∀ r, M.len r ≠ none → A1 r = A r) (hv : ∀ v, some v ∈ L → okV M v) : Lok A1 ls nL L := ⟨hL.1, hL.2.1, fun i v hi => by rw [conc_ext h (hv v (List.mem_of_getElem? hi))]; exact hL.2.2 i v hi⟩
theorem sumN_split {n0 : Nat} {H H1 : Heap} (h0 : n0 ≤ H.size) (hk : KeepSz H H1) : sumN n0 H1 = sumN n0 H + sumN H.size H1 := by
  have e : H1.toList.map (·.slots.size) = H.toList.map (·.slots.size) ++ (H1.toList.drop H.size).map (·.slots.size) := by
    apply List.ext_getElem?
    intro i
    rw [List.getElem?_append]
    by_cases hi : i < (H.toList.map (·.slots.size)).length
    · rw [if_pos hi, List.getElem?_map, List.getElem?_map, Array.getElem?_toList, Array.getElem?_toList]
      rw [List.length_map, Array.length_toList] at hi
      obtain ⟨c', h1, h2⟩ := hk i H[i] (Array.getElem?_eq_getElem hi)
      rw [h1, Array.getElem?_eq_getElem hi]
      simp [h2]
    · rw [if_neg hi]
      rw [List.length_map, Array.length_toList] at hi ⊢
      rw [List.getElem?_map, List.getElem?_map, List.getElem?_drop]
      rw [show H.size + (i - H.size) = i by omega]
  have e2 : ((H1.toList.map (·.slots.size)).drop n0) = (H.toList.map (·.slots.size)).drop n0 ++ (H1.toList.drop H.size).map (·.slots.size) := by
    rw [← List.drop_append_of_le_length (by simpa using h0)]
    exact congrArg (List.drop n0) e
  unfold sumN
  rw [List.map_drop, e2, List.sum_append]
  simp only [List.map_drop]
theorem mem_stk {v : AVal} {r : Role} {As st : List AVal} (hv : v ∈ vR r :: As) : v ∈ As.reverse ++ vR r :: st := by
  rcases List.mem_cons.mp hv with h | h
  · rw [h]; exact List.mem_append_right _ List.mem_cons_self
  · exact List.mem_append_left _ (List.mem_reverse.mpr h)
theorem Cf.qc {G : Ge} {mi : Mi} {Q : Option AVal → Mem → Prop} {L : List (Option AVal)} {st : List AVal} {M : Mem} {s : State} {H : Heap} {locs : List Loc} {ls : Array Slot} {rc0 rs0 cells slots : Nat} {A A0 : Role → Nat} {M0 : Mem} (hF : Cf G mi L st M s H locs cells slots ls rc0 rs0 A A0 M0) {v : Option AVal} (hQ : Q v M) (hv : ∀ w, v = some w → okV M w) (h1 : H.size - s.heap.size ≤ cells) (h2 : sumN s.heap.size H ≤ slots) (h3 : s.heap.size ≤ H.size) (hk : KeepSz s.heap H) (a : Array Value) : ∀ t : State, t.heap = H → s.WarmedH t.vm → Qcf G Q M0 A0 rc0 rs0 a s (.returned (v.map (conc A))) t := fun t ht _ => by
  obtain ⟨f1, f2, f3, f4, f5, f6⟩ := hF
  subst ht
  exact ⟨v, M, A, rfl, hQ, f1, hv, f6, h3, f2.2.1, hk, by unfold Bud; omega⟩
theorem cat_sum (A : Role → Nat) : ∀ st : List AVal, ((st.map (conc A)).map fun v => v.category).sum ≤ st.length := by
  intro st
  induction st with
  | nil => exact Nat.le_refl 0
  | cons v st ih =>
    simp only [List.map_cons, List.sum_cons, List.length_cons, conc_cat]
    omega
theorem FrB (G : Ge) (as : List AVal) (A : Role → Nat) (M : Mem) : FrameBlind (va_Pc (as.map (conc A)) (fun U => Pic G A M U.heap ∧ KF G U U.heap ∧ gB G ≤ U.heap.size ∧ (∀ v ∈ as, okV M v))) := fun a U g mk q => by
  obtain ⟨q0, q1, q2, q3, q4⟩ := q
  exact ⟨q0, q1, KF.moved (s := U) (U := U.calling g mk a) (State.WarmedH.refl U) q2, q3, q4⟩
theorem Cx.pre {G : Ge} {mi : Mi} {rc0 rs0 : Nat} {p : Program} {R : Room} {s : State} {m : MethodId} {args : Array Value} {meth : Method} {c : Code} (hC : Cx G mi rc0 rs0 p R s m args meth c) {H : Heap} {locs : List Loc} (hS : va_S (Wr G) s.heap H locs) {as : List AVal} {A : Role → Nat} {M : Mem} (hP : Pic G A M H) (ho : ∀ v ∈ as, okV M v) : ∀ U : State, U.heap = H → s.WarmedH U.vm → va_Pc (as.map (conc A)) (fun U => Pic G A M U.heap ∧ KF G U U.heap ∧ gB G ≤ U.heap.size ∧ (∀ v ∈ as, okV M v)) (as.map (conc A)).toArray U := fun U hU hW => by
  subst hU
  exact ⟨rfl, hP, (hC.2.2.2.2.2.2.1.kept hS.1 hS.2.1).moved hW, Nat.le_trans hC.2.2.2.2.2.2.2.2.2.2 hS.1, ho⟩
def okM (mi : Mi) (n : Nat) : Prop := Cond.initialized mi.1.cls ∈ wG ∧ Cond.code mi.1 mi.2.1 mi.2.2.1 mi.2.2.2.1 ∈ wG ∧ (mi.1.cls ≠ "java/lang/invoke/MethodHandle" ∧ mi.1.cls ≠ "java/lang/invoke/VarHandle" ∧ (parseMethodDescriptor mi.1.desc).map (fun d => d.parameters.length) = some n) ∧ mi.2.2.1 ≤ 40
theorem okM.good {mi : Mi} {n : Nat} (h : okM mi n) : GoodIn wG (Cond.code mi.1 mi.2.1 mi.2.2.1 mi.2.2.2.1 :: wG) := fun w hw => by
  rcases List.mem_cons.mp hw with rfl | hw
  · exact wG_good _ h.2.1
  · exact wG_good _ hw
theorem call_on {G : Ge} {mi : Mi} {Q Q1 : Option AVal → Mem → Prop} {pc : Nat} {L : List (Option AVal)} {stk : List Value} {st as : List AVal} {M : Mem} {p : Program} {e : Env} {R : Room} {s : State} {m : MethodId} {args a : Array Value} {below : List Frame} {meth : Method} {c : Code} {H : Heap} {locs : List Loc} {cells slots : Nat} {ls : Array Slot} {rc0 rs0 : Nat} {A A0 : Role → Nat} {M0 : Mem}
    (hC : Cx G mi rc0 rs0 p R s m args meth c) (hF : Cf G mi L st M s H locs cells slots ls rc0 rs0 A A0 M0) (n1 : H.size - s.heap.size ≤ cells) (n2 : sumN s.heap.size H ≤ slots) (n3 : s.heap.size ≤ H.size)
    (hr : va_Run p (gL G) e R s m args below meth c H locs cells slots M.rc M.rs (F0 m pc ls stk) (st.map (conc A)) (Qcf G Q1 M A M.rc M.rs a) (Wr G))
    (kk : ∀ v M1, Q1 v M1 → Sf G mi Q (pc + 3) L (v.toList ++ st) M1) : W p (gL G) e R s m args below meth c H locs cells slots (MQ below (Qcf G Q M0 A0 rc0 rs0) args s rc0 rs0 (Wr G)) (F0 m pc ls stk) := by
  intro T hT X
  obtain ⟨v, st₀, t, T', L1, h0, X', hL, e1, e2, ⟨v', M1, A1, hv, hq, hP1, hok, hext, hz, hun, hks, hbud⟩, stp⟩ := hr T hT X
  have hvv : v = v'.map (conc A1) := by cases hv; rfl
  rw [h0] at hz hun hks hbud
  rw [← e1] at hP1 hz hun hks hbud
  have hmA : ∀ r, M.len r ≠ none → A1 r = A r := fun r hr => (hext r hr).2
  have hmM : ∀ r, M.len r ≠ none → M1.len r ≠ none := fun r hr => (hext r hr).1
  have k1 : W p (gL G) e R s m args below meth c T'.heap (locs ++ L1) (cells + M.rc) (slots + M.rs) (MQ below (Qcf G Q M0 A0 rc0 rs0) args s rc0 rs0 (Wr G)) (F0 m (pc + 3) ls ((v'.toList ++ st).map (conc A1))) := by
    refine W.narrow (fun m1 m2 m3 m4 => ?_)
    refine kk v' M1 hq p e R s m args below meth c T'.heap (locs ++ L1) _ _ ls rc0 rs0 A1 A0 M0 hC ⟨hP1, ⟨Nat.le_trans hF.2.1.1 hz, fun q h1 h2 => (hun q (Nat.lt_of_lt_of_le h1 hF.2.1.1) h2).trans (hF.2.1.2.1 q h1 h2), fun q hq => (List.mem_append.mp hq).elim (hF.2.1.2.2 q) (hL q)⟩, ?_, hF.2.2.2.1.ext hmA hF.wf.2, ⟨fun w hw => ?_, fun w hw => (hF.wf.2 w hw).mono hmM⟩, fun r hr => ⟨hmM r (hF.2.2.2.2.2 r hr).1, (hmA r (hF.2.2.2.2.2 r hr).1).trans (hF.2.2.2.2.2 r hr).2⟩⟩
    · have hb := hF.2.2.1
      have hs := sumN_split n3 hks
      obtain ⟨b1, b2⟩ := hbud
      constructor <;> omega
    · rcases List.mem_append.mp hw with hw | hw
      · exact hok w (by cases v' with
          | none => cases hw
          | some y => rw [show w = y by simpa using hw])
      · exact (hF.wf.1 w hw).mono hmM
  obtain ⟨t2, a1, b1⟩ := k1 T' rfl X'
  refine ⟨t2, stp t2 ?_, b1⟩
  have hst : v.toList ++ st.map (conc A) = (v'.toList ++ st).map (conc A1) := by
    rw [List.map_append, map_ext hmA hF.wf.1, hvv]
    cases v' <;> rfl
  show Steps p.tables e below (T'.setTop { (F0 m pc ls stk) with pc := pc + 3, stack := v.toList ++ st.map (conc A) }) t2
  rw [hst]
  exact a1
section
variable {G : Ge} {mi : Mi} {Q : Option AVal → Mem → Prop} {pc : Nat} {L : List (Option AVal)} {st : List AVal} {M : Mem}
theorem S_iret {v : Int} {ty : FieldType} (hd : decode mi.2.1 pc = .ok (.ireturn, 1)) (hr : mi.2.2.2.1 = some ty) (hz : ty = .int ∨ (ty = .boolean ∧ (v = 0 ∨ v = 1))) (hQ : Q (some (vI v)) M) : Sf G mi Q pc L [vI v] M := by
  intro p e R s m args below meth c H locs cells slots ls rc0 rs0 A A0 M0 hC hF
  refine W.narrow (fun n1 n2 n3 n4 => ?_)
  have hb := hF.2.2.1
  refine W.widen (k := rc0) (n := rs0) (by omega) (by omega) ?_
  exact W.zret (v := jI v) hC.1 hC.2.1 (hC.2.2.1.trans hr) (ty_of_int hz).1 (hF.qc (v := some (vI v)) hQ (fun w hw => by cases hw; exact okV_int _ _) n1 n2 n3 n4 args) hF.2.1.2.2 hd hC.2.2.2.2.2.2.2.1
theorem S_vret (hd : decode mi.2.1 pc = .ok (.return_, 1)) (hr : mi.2.2.2.1 = none) (hQ : Q none M) : Sf G mi Q pc L [] M := by
  intro p e R s m args below meth c H locs cells slots ls rc0 rs0 A A0 M0 hC hF
  refine W.narrow (fun n1 n2 n3 n4 => ?_)
  have hb := hF.2.2.1
  refine W.widen (k := rc0) (n := rs0) (by omega) (by omega) ?_
  exact W.vret hC.1 hC.2.1 (hC.2.2.1.trans hr) (hF.qc (v := none) hQ (fun w hw => by cases hw) n1 n2 n3 n4 args) hF.2.1.2.2 hd hC.2.2.2.2.2.2.2.1
theorem S_aret {o : Option Role} {ty : FieldType} (hd : decode mi.2.1 pc = .ok (.areturn, 1)) (hr : mi.2.2.2.1 = some ty) (hz : isRef ty = true) (hQ : Q (some (vQ o)) M) : Sf G mi Q pc L [vQ o] M := by
  intro p e R s m args below meth c H locs cells slots ls rc0 rs0 A A0 M0 hC hF
  refine W.narrow (fun n1 n2 n3 n4 => ?_)
  have hb := hF.2.2.1
  refine W.widen (k := rc0) (n := rs0) (by omega) (by omega) ?_
  refine W.aret (v := conc A (vQ o)) hC.1 hC.2.1 (hC.2.2.1.trans hr) ?_ ?_ (hF.qc (v := some (vQ o)) hQ (fun w hw => by cases hw; exact hF.wf.top) n1 n2 n3 n4 args) hF.2.1.2.2 hd hC.2.2.2.2.2.2.2.1
  · cases ty <;> first | (cases hz; done) | exact Or.inl ⟨_, rfl⟩ | exact Or.inr ⟨_, rfl⟩
  · cases o with
    | none => exact Or.inl rfl
    | some r => exact Or.inr ⟨A r, rfl⟩
theorem S_objInit {idx : Nat} {r : Role} (hl : Cond.methodLink mi.1.cls idx objectInit ∈ wG ∧ Cond.instanceMethod objectInit ∈ wG ∧ Cond.code objectInit ⟨#[0xb1]⟩ 1 none ∈ wG) (hd : decode mi.2.1 pc = .ok (.invokespecial idx, 3)) (hD : 1 ≤ mi.2.2.2.2) (hst : st.length ≤ 8) (k : Sf G mi Q (pc + 3) L st M) : Sf G mi Q pc L (vR r :: st) M := by
  intro p e R s m args below meth c H locs cells slots ls rc0 rs0 A A0 M0 hC hF
  have hsum : ((st.map (conc A)).map fun v => v.category).sum ≤ 8 := Nat.le_trans (cat_sum A st) hst
  refine W.objInit hC.1 hC.2.1 hC.2.2.2.2.1 (hC.2.2.2.2.2.1 _ hl.1) (hC.2.2.2.2.2.1 _ hl.2.1) (hC.2.2.2.2.2.1 _ hl.2.2) rfl (hF.2.2.2.1.1.trans hC.2.2.2.1.symm) rfl hd ?_ ?_ (k p e R s m args below meth c H locs cells slots ls rc0 rs0 A A0 M0 hC (hF.st (fun h => h.pop)))
  · rw [hC.2.2.2.2.2.2.2.2.2.1]; exact hD
  · rw [hC.2.2.2.2.2.2.2.2.2.1]
    show 2 * 0 + _ + 12 ≤ 64 * mi.2.2.2.2
    omega
theorem S_callV {idx n : Nat} {mi' : Mi} {r : Role} {ci : Nat} {Q1 : Option AVal → Mem → Prop} (As : List AVal) (hl0 : okM mi' n) (hl : Cond.methodLink mi.1.cls idx mi'.1 ∈ wG ∧ Cond.instanceMethod mi'.1 ∈ wG ∧ Cond.selects mi'.1.cls mi'.1 mi'.1 ∈ wG) (hd : decode mi.2.1 pc = .ok (.invokevirtual idx, 3)) (hk : kd r.1 = .inl ci) (hci : ci < 11) (hcl : mi'.1.cls = cR ci) (hDp : mi'.2.2.2.2 + 1 ≤ mi.2.2.2.2) (hlen : As.length = n) (hst : st.length ≤ 8) {stk : List AVal} (hstk : stk = As.reverse ++ vR r :: st) (hm : Ct G mi' (vR r :: As) M Q1) (kk : ∀ v M1, Q1 v M1 → Sf G mi Q (pc + 3) L (v.toList ++ st) M1) : Sf G mi Q pc L stk M := by
  intro p e R s m args below meth c H locs cells slots ls rc0 rs0 A A0 M0 hC hF
  subst hstk
  refine W.narrow (fun n1 n2 n3 n4 => ?_)
  have hb := hF.2.2.1
  have hsum : ((st.map (conc A)).map fun v => v.category).sum ≤ 8 := Nat.le_trans (cat_sum A st) hst
  have ho : ∀ v ∈ (vR r :: As), okV M v := fun v hv => hF.wf.1 v (mem_stk hv)
  have hF1 : Cf G mi L st M s H locs (H.size - s.heap.size) (sumN s.heap.size H) ls rc0 rs0 A A0 M0 := ⟨hF.1, hF.2.1, by omega, hF.2.2.2.1, ⟨fun v hv => hF.wf.1 v (List.mem_append_right _ (List.mem_cons_of_mem _ hv)), hF.wf.2⟩, hF.2.2.2.2.2⟩
  have hM := hm A
  refine call_on (as := vR r :: As) hC hF1 (Nat.le_refl _) (Nat.le_refl _) n3 (a := (vR r :: As).map (conc A) |>.toArray) ?_ kk
  obtain ⟨nr, hnr⟩ := (ho (vR r) List.mem_cons_self).get
  obtain ⟨ws, k0, h0, hp, -⟩ := hF.1.upd (M' := M) hnr (ro_obj hk) rfl (fun _ _ _ => ⟨rfl, rfl⟩) hF.1.2.2.1
  rw [ent_obj hk] at h0
  exact va_runV (As := As.map (conc A)) (b := A r) ⟨hC.1, hC.2.1, hC.2.2.2.1, hC.2.2.2.2.1, hC.2.2.2.2.2.1⟩ hM ⟨callB_of n hC.2.2.2.2.2.1 hl0.good rfl rfl rfl (hC.2.2.2.2.2.1 _ hl0.1) (hC.2.2.2.2.2.1 _ hl.1) hl0.2.2.1 ⟨by rw [hC.2.2.2.2.2.2.2.2.2.1]; exact hDp, by rw [hC.2.2.2.2.2.2.2.2.2.1]; show 8 + (mi'.2.2.1 + 11) + 64 * mi'.2.2.2.2 ≤ 64 * mi.2.2.2.2; have := hl0.2.2.2; omega⟩, hC.2.2.2.2.2.1 _ hl.2.1, hC.2.2.2.2.2.1 _ hl.2.2⟩ ⟨FrB _ _ _ _, by have hrv := va_recv hC.2.2.2.2.2.2.1.1 hp (vwCl_at ci hci) h0; rw [hcl]; exact hrv, hC.pre hF.2.1 hF.1 ho⟩ rfl (by rw [List.length_map]; exact hlen) (hF.2.2.2.1.1) (by show _ = _; rw [List.map_append, List.map_reverse, List.map_cons]; rfl) (by show 2 * 0 + _ ≤ 8; omega) hd ⟨by rw [hC.2.2.2.2.2.2.2.2.2.1]; show H.size - s.heap.size + M.rc ≤ rc0; omega, by rw [hC.2.2.2.2.2.2.2.2.2.1]; show sumN s.heap.size H + M.rs ≤ rs0; omega⟩
theorem S_callS {idx n : Nat} {mi' : Mi} {Q1 : Option AVal → Mem → Prop} (As : List AVal) (hl0 : okM mi' n) (hl : Cond.methodLink mi.1.cls idx mi'.1 ∈ wG ∧ Cond.static mi'.1 ∈ wG) (hd : decode mi.2.1 pc = .ok (.invokestatic idx, 3))  (hDp : mi'.2.2.2.2 + 1 ≤ mi.2.2.2.2) (hlen : As.length = n) (hst : st.length ≤ 8) {stk : List AVal} (hstk : stk = As.reverse ++ st) (hm : Ct G mi' (As) M Q1) (kk : ∀ v M1, Q1 v M1 → Sf G mi Q (pc + 3) L (v.toList ++ st) M1) : Sf G mi Q pc L stk M := by
  intro p e R s m args below meth c H locs cells slots ls rc0 rs0 A A0 M0 hC hF
  subst hstk
  refine W.narrow (fun n1 n2 n3 n4 => ?_)
  have hb := hF.2.2.1
  have hsum : ((st.map (conc A)).map fun v => v.category).sum ≤ 8 := Nat.le_trans (cat_sum A st) hst
  have ho : ∀ v ∈ (As), okV M v := fun v hv => hF.wf.1 v (List.mem_append_left _ (List.mem_reverse.mpr hv))
  have hF1 : Cf G mi L st M s H locs (H.size - s.heap.size) (sumN s.heap.size H) ls rc0 rs0 A A0 M0 := ⟨hF.1, hF.2.1, by omega, hF.2.2.2.1, ⟨fun v hv => hF.wf.1 v (List.mem_append_right _ hv), hF.wf.2⟩, hF.2.2.2.2.2⟩
  have hM := hm A
  refine call_on (as := As) hC hF1 (Nat.le_refl _) (Nat.le_refl _) n3 (a := (As).map (conc A) |>.toArray) ?_ kk
  exact va_runS (As := As.map (conc A)) ⟨hC.1, hC.2.1, hC.2.2.2.1, hC.2.2.2.2.1, hC.2.2.2.2.2.1⟩ hM ⟨callB_of n hC.2.2.2.2.2.1 hl0.good rfl rfl rfl (hC.2.2.2.2.2.1 _ hl0.1) (hC.2.2.2.2.2.1 _ hl.1) hl0.2.2.1 ⟨by rw [hC.2.2.2.2.2.2.2.2.2.1]; exact hDp, by rw [hC.2.2.2.2.2.2.2.2.2.1]; show 8 + (mi'.2.2.1 + 11) + 64 * mi'.2.2.2.2 ≤ 64 * mi.2.2.2.2; have := hl0.2.2.2; omega⟩, hC.2.2.2.2.2.1 _ hl.2⟩ ⟨FrB _ _ _ _, hC.pre hF.2.1 hF.1 ho⟩ rfl (by rw [List.length_map]; exact hlen) (hF.2.2.2.1.1) (by show _ = _; rw [List.map_append, List.map_reverse]) (by show 2 * 0 + _ ≤ 8; omega) hd ⟨by rw [hC.2.2.2.2.2.2.2.2.2.1]; show H.size - s.heap.size + M.rc ≤ rc0; omega, by rw [hC.2.2.2.2.2.2.2.2.2.1]; show sumN s.heap.size H + M.rs ≤ rs0; omega⟩
theorem S_callI {idx n : Nat} {mi' : Mi} {r : Role} {Q1 : Option AVal → Mem → Prop} (As : List AVal) (hl0 : okM mi' n) (hl : Cond.methodLink mi.1.cls idx mi'.1 ∈ wG ∧ Cond.instanceMethod mi'.1 ∈ wG) (hd : decode mi.2.1 pc = .ok (.invokespecial idx, 3)) (hini : mi'.1.name = "<init>") (hret : mi'.2.2.2.1 = none) (hDp : mi'.2.2.2.2 + 1 ≤ mi.2.2.2.2) (hlen : As.length = n) (hst : st.length ≤ 8) {stk : List AVal} (hstk : stk = As.reverse ++ vR r :: st) (hm : Ct G mi' (vR r :: As) M Q1) (kk : ∀ v M1, Q1 v M1 → Sf G mi Q (pc + 3) L (v.toList ++ st) M1) : Sf G mi Q pc L stk M := by
  intro p e R s m args below meth c H locs cells slots ls rc0 rs0 A A0 M0 hC hF
  subst hstk
  refine W.narrow (fun n1 n2 n3 n4 => ?_)
  have hb := hF.2.2.1
  have hsum : ((st.map (conc A)).map fun v => v.category).sum ≤ 8 := Nat.le_trans (cat_sum A st) hst
  have ho : ∀ v ∈ (vR r :: As), okV M v := fun v hv => hF.wf.1 v (mem_stk hv)
  have hF1 : Cf G mi L st M s H locs (H.size - s.heap.size) (sumN s.heap.size H) ls rc0 rs0 A A0 M0 := ⟨hF.1, hF.2.1, by omega, hF.2.2.2.1, ⟨fun v hv => hF.wf.1 v (List.mem_append_right _ (List.mem_cons_of_mem _ hv)), hF.wf.2⟩, hF.2.2.2.2.2⟩
  have hM := hm A
  refine call_on (as := vR r :: As) hC hF1 (Nat.le_refl _) (Nat.le_refl _) n3 (a := (vR r :: As).map (conc A) |>.toArray) ?_ kk
  obtain ⟨y', b', nl', rt', D'⟩ := mi'
  have hrt : rt' = none := hret
  subst hrt
  exact va_runI (As := As.map (conc A)) (b := A r) ⟨hC.1, hC.2.1, hC.2.2.2.1, hC.2.2.2.2.1, hC.2.2.2.2.2.1⟩ hM ⟨callB_of n hC.2.2.2.2.2.1 hl0.good rfl rfl rfl (hC.2.2.2.2.2.1 _ hl0.1) (hC.2.2.2.2.2.1 _ hl.1) hl0.2.2.1 ⟨by rw [hC.2.2.2.2.2.2.2.2.2.1]; exact hDp, by rw [hC.2.2.2.2.2.2.2.2.2.1]; show 8 + (nl' + 11) + 64 * D' ≤ 64 * mi.2.2.2.2; have h9 : nl' ≤ 40 := hl0.2.2.2; have h8 : D' + 1 ≤ mi.2.2.2.2 := hDp; omega⟩, hini, hC.2.2.2.2.2.1 _ hl.2⟩ ⟨FrB _ _ _ _, hC.pre hF.2.1 hF.1 ho⟩ rfl (by rw [List.length_map]; exact hlen) (hF.2.2.2.1.1) (by show _ = _; rw [List.map_append, List.map_reverse, List.map_cons]; rfl) (by show 2 * 0 + _ ≤ 8; omega) hd ⟨by rw [hC.2.2.2.2.2.2.2.2.2.1]; show H.size - s.heap.size + M.rc ≤ rc0; omega, by rw [hC.2.2.2.2.2.2.2.2.2.1]; show sumN s.heap.size H + M.rs ≤ rs0; omega⟩
theorem S_callIN {idx n : Nat} {mi' : Mi} {r : Role} {Q1 : Option AVal → Mem → Prop} (As : List AVal) (hl0 : okM mi' n) {host : String} (hl : Cond.methodLinkNest mi.1.cls idx mi'.1 host ∈ wNst ∧ Cond.instanceMethod mi'.1 ∈ wG) (hd : decode mi.2.1 pc = .ok (.invokespecial idx, 3)) (hini : mi'.1.name = "<init>") (hret : mi'.2.2.2.1 = none) (hDp : mi'.2.2.2.2 + 1 ≤ mi.2.2.2.2) (hlen : As.length = n) (hst : st.length ≤ 8) {stk : List AVal} (hstk : stk = As.reverse ++ vR r :: st) (hm : Ct G mi' (vR r :: As) M Q1) (kk : ∀ v M1, Q1 v M1 → Sf G mi Q (pc + 3) L (v.toList ++ st) M1) : Sf G mi Q pc L stk M := by
  intro p e R s m args below meth c H locs cells slots ls rc0 rs0 A A0 M0 hC hF
  subst hstk
  refine W.narrow (fun n1 n2 n3 n4 => ?_)
  have hb := hF.2.2.1
  have hsum : ((st.map (conc A)).map fun v => v.category).sum ≤ 8 := Nat.le_trans (cat_sum A st) hst
  have ho : ∀ v ∈ (vR r :: As), okV M v := fun v hv => hF.wf.1 v (mem_stk hv)
  have hF1 : Cf G mi L st M s H locs (H.size - s.heap.size) (sumN s.heap.size H) ls rc0 rs0 A A0 M0 := ⟨hF.1, hF.2.1, by omega, hF.2.2.2.1, ⟨fun v hv => hF.wf.1 v (List.mem_append_right _ (List.mem_cons_of_mem _ hv)), hF.wf.2⟩, hF.2.2.2.2.2⟩
  have hM := hm A
  refine call_on (as := vR r :: As) hC hF1 (Nat.le_refl _) (Nat.le_refl _) n3 (a := (vR r :: As).map (conc A) |>.toArray) ?_ kk
  obtain ⟨y', b', nl', rt', D'⟩ := mi'
  have hrt : rt' = none := hret
  subst hrt
  exact va_runIN (As := As.map (conc A)) (b := A r) ⟨hC.1, hC.2.1, hC.2.2.2.1, hC.2.2.2.2.1, hC.2.2.2.2.2.1⟩ hM ⟨va_cnB n hC.2.2.2.2.2.1 hl0.good rfl rfl rfl (hC.2.2.2.2.2.2.1.2.2.2.2.2.2.1 _ hl.1) (hC.2.2.2.2.2.1 _ hl0.1) hl0.2.2.1 ⟨by rw [hC.2.2.2.2.2.2.2.2.2.1]; exact hDp, by rw [hC.2.2.2.2.2.2.2.2.2.1]; show 8 + (nl' + 11) + 64 * D' ≤ 64 * mi.2.2.2.2; have h9 : nl' ≤ 40 := hl0.2.2.2; have h8 : D' + 1 ≤ mi.2.2.2.2 := hDp; omega⟩, hini, hC.2.2.2.2.2.1 _ hl.2⟩ ⟨FrB _ _ _ _, hC.pre hF.2.1 hF.1 ho⟩ rfl (by rw [List.length_map]; exact hlen) (hF.2.2.2.1.1) (by show _ = _; rw [List.map_append, List.map_reverse, List.map_cons]; rfl) (by show 2 * 0 + _ ≤ 8; omega) hd ⟨by rw [hC.2.2.2.2.2.2.2.2.2.1]; show H.size - s.heap.size + M.rc ≤ rc0; omega, by rw [hC.2.2.2.2.2.2.2.2.2.1]; show sumN s.heap.size H + M.rs ≤ rs0; omega⟩
end
-- a contract out of a body
theorem lv_args_mem : ∀ (vs : List Value) (j i : Nat) (v : Value), (∀ w ∈ vs, w.category = 1) → vs[i]? = some v → (j + i, v) ∈ lv_args j vs := by
  intro vs
  induction vs with
  | nil => intro j i v _ h; cases h
  | cons w vs ih =>
    intro j i v hc h
    have hw : w.category = 1 := hc w List.mem_cons_self
    show (j + i, v) ∈ (j, w) :: lv_args (if w.category = 2 then j + 2 else j + 1) vs
    rw [hw, if_neg (by decide)]
    cases i with
    | zero => cases h; exact List.mem_cons_self
    | succ i =>
      have := ih (j + 1) i v (fun w hw => hc w (List.mem_cons_of_mem _ hw)) h
      rw [show j + (i + 1) = j + 1 + i by omega]
      exact List.mem_cons_of_mem _ this
theorem sl_len : ∀ vs : List Value, (∀ w ∈ vs, w.category = 1) → (lg_sl vs).length = vs.length := by
  intro vs
  induction vs with
  | nil => intro _; rfl
  | cons w vs ih =>
    intro hc
    have hw : w.category = 1 := hc w List.mem_cons_self
    have h2 := ih (fun w hw => hc w (List.mem_cons_of_mem _ hw))
    show ((if w.category = 2 then [Slot.val w, .second] else [.val w]) ++ lg_sl vs).length = _
    rw [hw, if_neg (by decide), List.length_append, h2]
    simp only [List.length_cons, List.length_nil]
    omega
theorem Ct.of {G : Ge} {mi : Mi} {as : List AVal} {M : Mem} {Q : Option AVal → Mem → Prop} (hy : plainName mi.1.cls = true) (L : List (Option AVal)) (hL : L = as.map some ++ List.replicate (mi.2.2.1 - as.length) none) (hn : as.length ≤ mi.2.2.1) (hb : Sf G mi Q 0 L [] M) : Ct G mi as M Q := by
  intro A
  subst hL
  refine Met.ofW (cc := mi.2.1) (maxL := mi.2.2.1) (ret := mi.2.2.2.1) hy rfl ?_
  intro p e s m args below meth c s₁ B hml hv
  obtain ⟨rfl, hP, hK, hB, hok⟩ := hv
  have hcat : ∀ w ∈ as.map (conc A), w.category = 1 := fun w hw => by
    obtain ⟨v, -, rfl⟩ := List.mem_map.mp hw
    exact conc_cat A v
  have hl := lv_entry (as.map (conc A)) (n := mi.2.2.1) (by rw [sl_len _ hcat, List.length_map]; exact hn)
  rw [lg_entry_eq]
  generalize (lg_sl (as.map (conc A)) ++ List.replicate (mi.2.2.1 - (lg_sl (as.map (conc A))).length) Slot.unset).toArray = ls at hl ⊢
  refine hb p e _ s m _ below meth c s.heap [] 0 0 ls M.rc M.rs A A M ⟨B.exec, B.bytes, B.returns, hml, findClass_of_methodNamed B.named, fun w hw => atoms_spec B.pre w (List.mem_cons_of_mem _ hw), hK, B.notSynchronized, (name_of_methodNamed B.named B.method).1, rfl, hB⟩ ⟨hP, va_S.rf, by omega, ⟨hl.1, hl.2.1, fun i v hi => ?_⟩, ⟨fun v hv => absurd hv List.not_mem_nil, fun v hv => ?_⟩, fun r hr => ⟨hr, rfl⟩⟩
  · rw [List.getElem?_append] at hi
    split at hi
    · rw [List.getElem?_map] at hi
      cases h : as[i]? with
      | none => rw [h] at hi; cases hi
      | some w =>
        rw [h] at hi
        cases hi
        have := lv_args_mem (as.map (conc A)) 0 i (conc A v) hcat (by rw [List.getElem?_map, h]; rfl)
        rw [Nat.zero_add] at this
        exact hl.2.2 _ this
    · rw [List.getElem?_replicate] at hi
      split at hi
      · cases hi
      · cases hi
  · rcases List.mem_append.mp hv with h | h
    · obtain ⟨w, hw, e1⟩ := List.mem_map.mp h
      cases e1
      exact hok v hw
    · have := (List.mem_replicate.mp h).2
      cases this
theorem Ct.imp {G : Ge} {mi : Mi} {as : List AVal} {M : Mem} {Q Q' : Option AVal → Mem → Prop} (hq : ∀ v M', Q' v M' → Q v M') (h : Ct G mi as M Q') : Ct G mi as M Q := by
  intro A p e ha hc hk s m args below hf hap hP hT
  obtain ⟨t, o, h1, h2, h3, ⟨v, M1, A1, h4, h5, h6⟩, h7⟩ := h A p e ha hc hk s m args below hf hap hP hT
  exact ⟨t, o, h1, h2, h3, ⟨v, M1, A1, h4, hq _ _ h5, h6⟩, h7⟩
end
section
/-! NEW CELLS, CASTS, AND WHAT THE JDK'S LIST NEEDS -/
def upA (A : Role → Nat) (r : Role) (q : Nat) : Role → Nat := fun r' => if r' = r then q else A r'
theorem upA_self (A : Role → Nat) (r : Role) (q : Nat) : upA A r q r = q := if_pos rfl
theorem upA_ne {A : Role → Nat} {r r' : Role} {q : Nat} (h : r' ≠ r) : upA A r q r' = A r' := if_neg h
theorem ne_fresh {M : Mem} {r r' : Role} (hfr : M.len r = none) (h : M.len r' ≠ none) : r' ≠ r := fun e => h (by rw [e]; exact hfr)
theorem ent_new_old {aC : Nat → ClassId} {A : Role → Nat} {M : Mem} {r r' : Role} {n n' cost q : Nat} (hfr : M.len r = none) (hc : Clo M) (hr' : M.len r' ≠ none) : ent aC (upA A r q) (M.new r n cost) r' n' = ent aC A M r' n' := by
  have hne := ne_fresh hfr hr'
  have h1 : (M.new r n cost).I r' = M.I r' := funext fun k => if_neg hne
  have h2 : (fun k => ((M.new r n cost).P r' k).map (upA A r q)) = fun k => (M.P r' k).map A := funext fun k => by
    have h3 : (M.new r n cost).P r' k = M.P r' k := if_neg hne
    rw [h3]
    cases h4 : M.P r' k with
    | none => rfl
    | some r'' => exact congrArg some (upA_ne (ne_fresh hfr (hc r' k r'' hr' h4)))
  have h2' : ∀ k, ((M.new r n cost).P r' k).map (upA A r q) = (M.P r' k).map A := fun k => congrFun h2 k
  unfold ent vOf
  rw [h1]
  simp only [h2']
theorem Pic.push {G : Ge} {A : Role → Nat} {M : Mem} {H : Heap} {r : Role} {n cost : Nat} (hP : Pic G A M H) (hr : ro r.1 = false) (hfr : M.len r = none) (hE : ¬ Wr G (gE G)) :
    ∃ ws : va_W, va_P (gD G) vwCl ws H ∧ va_D (Wr G) ws ∧ ∀ (q : Nat) (H1 : Heap), va_P (gD G) vwCl (ws ++ [(q, ent (gA G) (upA A r q) (M.new r n cost) r n)]) H1 → va_D (Wr G) (ws ++ [(q, ent (gA G) (upA A r q) (M.new r n cost) r n)]) → Pic G (upA A r q) (M.new r n cost) H1 := by
  obtain ⟨⟨ws, ⟨w1, w2⟩, p, d⟩, inj, clo, e1, e2, e3⟩ := hP
  have hl : ∀ r', (M.new r n cost).len r' = if r' = r then some n else M.len r' := fun _ => rfl
  have hr20 : ((20, 0) : Role) ≠ r := fun e => by rw [← e] at hr; cases hr
  have hr40 : ((40, 0) : Role) ≠ r := fun e => by rw [← e] at hr; cases hr
  have hr41 : ((41, 0) : Role) ≠ r := fun e => by rw [← e] at hr; cases hr
  refine ⟨ws, p, d, fun q H1 hp hd => ?_⟩
  have hlast : ∀ x : Nat × va_E, (ws ++ [x])[ws.length]? = some x := fun x => by rw [List.getElem?_append_right (Nat.le_refl _), Nat.sub_self]; rfl
  have hqW : Wr G q := hd.2 ws.length _ (hlast _)
  have key : ∀ r', M.len r' ≠ none → nS r'.1 → A r' ≠ q := fun r' h1 h2 e => by
    by_cases hro : ro r'.1 = true
    · rcases e3 r' h1 hro with h | h | h
      · subst h; rw [e1.2] at e; rw [← e] at hqW; exact hE hqW
      · subst h; exact h2.1 rfl
      · subst h; exact h2.2 rfl
    · obtain ⟨n', hn'⟩ := Option.ne_none_iff_exists'.mp h1
      obtain ⟨k, hk⟩ := w1 r' n' hn' (by simpa using hro)
      have hlt := (List.getElem?_eq_some_iff.mp hk).1
      have := hd.1 k ws.length _ _ (by rw [List.getElem?_append_left hlt]; exact hk) (hlast _) e
      omega
  refine ⟨⟨_, ⟨fun r' n' hl' hr' => ?_, fun k x hx => ?_⟩, hp, hd⟩, fun r1 r2 h1 h2 h3 h4 h5 => ?_, fun r1 k r2 h1 h2 => ?_, ⟨by rw [hl, if_neg hr20]; exact e1.1, by rw [upA_ne hr20]; exact e1.2⟩, ⟨by rw [hl, if_neg hr40]; exact e2.1, by rw [upA_ne hr40]; exact e2.2.1, by rw [hl, if_neg hr41]; exact e2.2.2.1, by rw [upA_ne hr41]; exact e2.2.2.2⟩, fun r1 h1 h2 => ?_⟩
  · rw [hl] at hl'
    by_cases h : r' = r
    · subst h
      rw [if_pos rfl] at hl'
      cases hl'
      exact ⟨ws.length, by rw [hlast, upA_self]⟩
    · rw [if_neg h] at hl'
      obtain ⟨k, hk⟩ := w1 r' n' hl' hr'
      have hlt := (List.getElem?_eq_some_iff.mp hk).1
      exact ⟨k, by rw [List.getElem?_append_left hlt, hk, upA_ne h, ent_new_old hfr clo (by rw [hl']; simp)]⟩
  · by_cases hlt : k < ws.length
    · rw [List.getElem?_append_left hlt] at hx
      obtain ⟨r', n', h1, h2, h3⟩ := w2 k x hx
      have hne := ne_fresh hfr (show M.len r' ≠ none by rw [h1]; simp)
      exact ⟨r', n', by rw [hl, if_neg hne]; exact h1, h2, by rw [h3, upA_ne hne, ent_new_old hfr clo (by rw [h1]; simp)]⟩
    · rw [List.getElem?_append_right (by omega)] at hx
      have hz : k - ws.length < 1 := (List.getElem?_eq_some_iff.mp hx).1
      rw [show k - ws.length = 0 by omega] at hx
      cases hx
      exact ⟨r, n, by rw [hl, if_pos rfl], hr, by rw [upA_self]⟩
  · rw [hl] at h1 h2
    by_cases a1 : r1 = r
    · by_cases a2 : r2 = r
      · rw [a1, a2]
      · rw [if_neg a2] at h2
        rw [a1, upA_self, upA_ne a2] at h5
        exact absurd h5.symm (key r2 h2 h4)
    · rw [if_neg a1] at h1
      by_cases a2 : r2 = r
      · rw [a2, upA_self, upA_ne a1] at h5
        exact absurd h5 (key r1 h1 h3)
      · rw [if_neg a2] at h2
        rw [upA_ne a1, upA_ne a2] at h5
        exact inj r1 r2 h1 h2 h3 h4 h5
  · rw [hl] at h1 ⊢
    have h2 : (if r1 = r then none else M.2.2.1 r1 k) = some r2 := h2
    by_cases a1 : r1 = r
    · rw [if_pos a1] at h2; cases h2
    · rw [if_neg a1] at h1 h2
      have := clo r1 k r2 h1 h2
      rw [if_neg (ne_fresh hfr this)]
      exact this
  · rw [hl] at h1
    by_cases a1 : r1 = r
    · rw [a1, hr] at h2; cases h2
    · rw [if_neg a1] at h1
      exact e3 r1 h1 h2
theorem ent_new {aC : Nat → ClassId} {A : Role → Nat} {M : Mem} {r : Role} {n cost : Nat} (hk : ∃ ci, kd r.1 = .inl ci) : ∀ ci, kd r.1 = .inl ci → ent aC A (M.new r n cost) r n = .inr (ci, (List.range (cN ci)).map fun k => vOf A (fR ci k) 0 none) := fun ci hci => by
  rw [ent_obj hci]
  have h1 : (M.new r n cost).I r = fun _ => 0 := funext fun k => if_pos rfl
  have h2 : (M.new r n cost).P r = fun _ => none := funext fun k => if_pos rfl
  rw [h1, h2]
theorem new_I {M : Mem} {r : Role} {n cost : Nat} : (M.new r n cost).I r = fun _ => 0 := funext fun k => if_pos rfl
theorem new_P {M : Mem} {r : Role} {n cost : Nat} : (M.new r n cost).P r = fun _ => none := funext fun k => if_pos rfl
theorem Cf.push {G : Ge} {mi : Mi} {L : List (Option AVal)} {st : List AVal} {M : Mem} {s : State} {H H1 : Heap} {locs : List Loc} {ls : Array Slot} {rc0 rs0 cells slots n cost q : Nat} {r : Role} {A A0 : Role → Nat} {M0 : Mem} {st' : List AVal} (h : Cf G mi L st M s H locs cells slots ls rc0 rs0 A A0 M0) (hfr : M.len r = none) (hc1 : 1 ≤ M.rc) (hc2 : cost ≤ M.rs) (hP : Pic G (upA A r q) (M.new r n cost) H1) (hS : va_S (Wr G) s.heap H1 locs) (hst : ∀ v ∈ st', v ∈ st) : Cf G mi L (vR r :: st') (M.new r n cost) s H1 locs (cells + 1) (slots + cost) ls rc0 rs0 (upA A r q) A0 M0 := by
  obtain ⟨-, -, h3, h4, h5, h6⟩ := h
  have hA : ∀ r', M.len r' ≠ none → upA A r q r' = A r' := fun r' hr' => upA_ne (ne_fresh hfr hr')
  have hM : ∀ r', M.len r' ≠ none → (M.new r n cost).len r' ≠ none := fun r' hr' => by
    show (if r' = r then some n else M.len r') ≠ none
    rw [if_neg (ne_fresh hfr hr')]; exact hr'
  refine ⟨hP, hS, ?_, h4.ext hA h5.2, ⟨List.forall_mem_cons.mpr ⟨fun r' e => ?_, fun v hv => (h5.1 v (hst v hv)).mono hM⟩, fun v hv => (h5.2 v hv).mono hM⟩, fun r' hr' => ⟨hM r' (h6 r' hr').1, (hA r' (h6 r' hr').1).trans (h6 r' hr').2⟩⟩
  · show (cells + 1) + (M.rc - 1) ≤ rc0 ∧ (slots + cost) + (M.rs - cost) ≤ rs0
    omega
  · cases e
    show (if r = r then some n else M.len r) ≠ none
    rw [if_pos rfl]; simp
theorem push_map {M : Mem} {A : Role → Nat} {r : Role} {q : Nat} {st : List AVal} (hfr : M.len r = none) (h : ∀ v ∈ st, okV M v) : (vR r :: st).map (conc (upA A r q)) = .ref q :: st.map (conc A) := by
  show Value.ref (upA A r q r) :: st.map (conc (upA A r q)) = _
  rw [upA_self, map_ext (fun r' hr' => upA_ne (ne_fresh hfr hr')) h]
theorem dfl_0 : ∀ j, j < cN 0 → defaultValue (cTy 0 j) = if fR 0 j then .null else .int 0 := by decide +kernel
theorem dfl_1 : ∀ j, j < cN 1 → defaultValue (cTy 1 j) = if fR 1 j then .null else .int 0 := by decide +kernel
theorem dfl_2 : ∀ j, j < cN 2 → defaultValue (cTy 2 j) = if fR 2 j then .null else .int 0 := by decide +kernel
theorem dfl_3 : ∀ j, j < cN 3 → defaultValue (cTy 3 j) = if fR 3 j then .null else .int 0 := by decide +kernel
theorem dfl_4 : ∀ j, j < cN 4 → defaultValue (cTy 4 j) = if fR 4 j then .null else .int 0 := by decide +kernel
theorem dfl_5 : ∀ j, j < cN 5 → defaultValue (cTy 5 j) = if fR 5 j then .null else .int 0 := by decide +kernel
theorem dfl_6 : ∀ j, j < cN 6 → defaultValue (cTy 6 j) = if fR 6 j then .null else .int 0 := by decide +kernel
theorem dfl_7 : ∀ j, j < cN 7 → defaultValue (cTy 7 j) = if fR 7 j then .null else .int 0 := by decide +kernel
theorem dfl_8 : ∀ j, j < cN 8 → defaultValue (cTy 8 j) = if fR 8 j then .null else .int 0 := by decide +kernel
theorem dfl_9 : ∀ j, j < cN 9 → defaultValue (cTy 9 j) = if fR 9 j then .null else .int 0 := by decide +kernel
theorem dfl_10 : ∀ j, j < cN 10 → defaultValue (cTy 10 j) = if fR 10 j then .null else .int 0 := by decide +kernel
theorem dfl (ci : Nat) (h : ci < 11) : ∀ j, j < cN ci → defaultValue (cTy ci j) = if fR ci j then .null else .int 0 := by
  rcases (show ci = 0 ∨ ci = 1 ∨ ci = 2 ∨ ci = 3 ∨ ci = 4 ∨ ci = 5 ∨ ci = 6 ∨ ci = 7 ∨ ci = 8 ∨ ci = 9 ∨ ci = 10 by omega) with h | h | h | h | h | h | h | h | h | h | h <;> subst h
  · exact dfl_0
  · exact dfl_1
  · exact dfl_2
  · exact dfl_3
  · exact dfl_4
  · exact dfl_5
  · exact dfl_6
  · exact dfl_7
  · exact dfl_8
  · exact dfl_9
  · exact dfl_10
theorem tys_same {G : Ge} {s : State} {cA : ClassId} {d : Nat} (hd : d < 8) (hK : va_K (gD G) vwCl (tysL (gA G)) s) (hK2 : va_K (gD G) vwCl (tysL (gA G) ++ [(cA, aT d)]) s) : cA = gA G d := by
  have h1 := (hK.2 d _ (tysL_at (gA G) d hd)).2
  have h2 := (hK2.2 8 (cA, aT d) rfl).2
  have aux : ∀ t : FieldType, va_RA s cA t → va_RA s (gA G d) t → cA = gA G d := fun t a b => by
    cases t with
    | object C =>
      obtain ⟨-, -, -, -, -, a4⟩ := a
      obtain ⟨-, -, -, -, -, b4⟩ := b
      exact Option.some.inj (a4.symm.trans b4)
    | _ => exact Option.some.inj (Eq.symm a |>.trans b)
  exact aux _ h2 h1
section
variable {G : Ge} {mi : Mi} {Q : Option AVal → Mem → Prop} {pc : Nat} {L : List (Option AVal)} {st : List AVal} {M : Mem}
theorem Cx.nE {rc0 rs0 : Nat} {p : Program} {R : Room} {s : State} {m : MethodId} {args : Array Value} {meth : Method} {c : Code} (hC : Cx G mi rc0 rs0 p R s m args meth c) : ¬ Wr G (gE G) := by
  obtain ⟨cell, -, -, -, -, -, -, h⟩ := hC.2.2.2.2.2.2.1.2.2.1
  exact h
theorem Cx.wA {rc0 rs0 : Nat} {p : Program} {R : Room} {s : State} {m : MethodId} {args : Array Value} {meth : Method} {c : Code} (hC : Cx G mi rc0 rs0 p R s m args meth c) : ∀ q, s.heap.size ≤ q → Wr G q := fun q h => Nat.le_trans hC.2.2.2.2.2.2.2.2.2.2 h
def Nl (own : String) (idx ci : Nat) : Prop := ci < 11 ∧ Cond.classLink own idx (cR ci) ∈ wG ∧ Cond.instantiable (cR ci) (cN ci) ∈ wG ∧ Cond.initialized (cR ci) ∈ wG
theorem S_new {idx ci : Nat} (r : Role) (hl : Nl mi.1.cls idx ci) (hd : decode mi.2.1 pc = .ok (.new idx, 3)) (hk : kd r.1 = .inl ci) (hfr : M.len r = none) (hrc : 1 ≤ M.rc) (hrs : cN ci ≤ M.rs) (kk : Sf G mi Q (pc + 3) L (vR r :: st) (M.new r 0 (cN ci))) : Sf G mi Q pc L st M := by
  intro p e R s m args below meth c H locs cells slots ls rc0 rs0 A A0 M0 hC hF
  obtain ⟨hci, l1, l2, l3⟩ := hl
  obtain ⟨ws, hp, hD, hup⟩ := hF.1.push (r := r) (n := 0) (cost := cN ci) (ro_obj hk) hfr hC.nE
  have hb := hF.2.2.1
  have hR := hC.2.2.2.2.2.2.2.2.2.1
  refine va_new (ci := ci) (fs := (List.range (cN ci)).map fun k => vOf A (fR ci k) 0 none) hC.1 hC.2.1 hC.2.2.2.2.2.1 (uIn ci hci) (cTy ci) (cTy_ok ci hci) hC.2.2.2.2.1 (hC.2.2.2.2.2.1 _ l1) (hC.2.2.2.2.2.1 _ l2) (hC.2.2.2.2.2.1 _ l3) hC.2.2.2.2.2.2.1.1 hp hD hF.2.1 hC.wA (vwCl_at ci hci) (fun j hj => ?_) (by rw [hR]; show cells + 1 ≤ rc0; omega) (by rw [hR]; show slots + cN ci ≤ rs0; omega) hd (fun q H1 hP1 hD1 hS1 => ?_)
  · rw [dfl ci hci j hj]
    unfold vp_V
    rw [List.getD_eq_getElem?_getD, List.getElem?_map, List.getElem?_range hj]
    show _ = vOf A (fR ci j) 0 none
    cases fR ci j <;> rfl
  · have he : ent (gA G) (upA A r q) (M.new r 0 (cN ci)) r 0 = .inr (ci, (List.range (cN ci)).map fun k => vOf A (fR ci k) 0 none) := ent_new ⟨ci, hk⟩ ci hk
    have hup1 := hup q H1
    rw [he] at hup1
    have k1 := kk p e R s m args below meth c H1 locs _ _ ls rc0 rs0 (upA A r q) A0 M0 hC (hF.push hfr hrc hrs (hup1 hP1 hD1) hS1 (fun _ hv => hv))
    rw [push_map hfr hF.wf.1] at k1
    exact k1
theorem S_newarrI {n : Int} (r : Role) (N : Nat) (hl : Cond.arrayClass .int ∈ wG) (hd : decode mi.2.1 pc = .ok (.newarray .int, 2)) (hN : n = (N : Int)) (hbig : N ≤ 100000) (hk : kd r.1 = .inr 0) (hr : ro r.1 = false) (hfr : M.len r = none) (hrc : 1 ≤ M.rc) (hrs : N ≤ M.rs) (kk : Sf G mi Q (pc + 2) L (vR r :: st) (M.new r N N)) : Sf G mi Q pc L (vI n :: st) M := by
  intro p e R s m args below meth c H locs cells slots ls rc0 rs0 A A0 M0 hC hF
  subst hN
  obtain ⟨ws, hp, hD, hup⟩ := hF.1.push (r := r) (n := N) (cost := N) hr hfr hC.nE
  have hb := hF.2.2.1
  have hR := hC.2.2.2.2.2.2.2.2.2.1
  refine va_newa (atype := .int) (ty := .int) (N' := N) (a0 := (N, .inl fun _ => 0)) hC.1 hC.2.1 (hC.2.2.2.2.2.1 _ hl) rfl hC.2.2.2.2.2.2.1.1 hp hD hF.2.1 hC.wA (fun cA => rfl) (fun h => ?_) (jI_clamp (by omega)) (Nat.le_trans (Nat.mul_le_mul_left N (show componentBytes .int ≤ 5000 by decide)) (by omega)) (by rw [hR]; show cells + 1 ≤ rc0; omega) (by rw [hR]; show slots + N ≤ rs0; omega) hd (fun q cA H1 hK1 hP1 hD1 hS1 => ?_)
  · exact absurd ((jI_lt ⟨by omega, by omega⟩ jI_r0).mp h) (by omega)
  · have hcA : cA = gA G 0 := tys_same (by decide) hC.2.2.2.2.2.2.1.1 hK1
    subst hcA
    have he : ent (gA G) (upA A r q) (M.new r N N) r N = .inl (gA G 0, N, .inl fun _ => 0) := by rw [ent_int hk (by decide), new_I]; rfl
    have hup1 := hup q H1
    rw [he] at hup1
    have k1 := kk p e R s m args below meth c H1 locs _ _ ls rc0 rs0 (upA A r q) A0 M0 hC (hF.push hfr hrc hrs (hup1 hP1 hD1) hS1 (fun _ hv => List.mem_cons_of_mem _ hv))
    rw [push_map hfr hF.wf.pop.1] at k1
    exact k1
theorem S_newarrZ {n : Int} (r : Role) (N : Nat) (hl : Cond.arrayClass .boolean ∈ wG) (hd : decode mi.2.1 pc = .ok (.newarray .boolean, 2)) (hN : n = (N : Int)) (hbig : N ≤ 100000) (hk : kd r.1 = .inr 1) (hr : ro r.1 = false) (hfr : M.len r = none) (hrc : 1 ≤ M.rc) (hrs : N ≤ M.rs) (kk : Sf G mi Q (pc + 2) L (vR r :: st) (M.new r N N)) : Sf G mi Q pc L (vI n :: st) M := by
  intro p e R s m args below meth c H locs cells slots ls rc0 rs0 A A0 M0 hC hF
  subst hN
  obtain ⟨ws, hp, hD, hup⟩ := hF.1.push (r := r) (n := N) (cost := N) hr hfr hC.nE
  have hb := hF.2.2.1
  have hR := hC.2.2.2.2.2.2.2.2.2.1
  refine va_newa (atype := .boolean) (ty := .boolean) (N' := N) (a0 := (N, .inl fun _ => 0)) hC.1 hC.2.1 (hC.2.2.2.2.2.1 _ hl) rfl hC.2.2.2.2.2.2.1.1 hp hD hF.2.1 hC.wA (fun cA => rfl) (fun h => ?_) (jI_clamp (by omega)) (Nat.le_trans (Nat.mul_le_mul_left N (show componentBytes .boolean ≤ 5000 by decide)) (by omega)) (by rw [hR]; show cells + 1 ≤ rc0; omega) (by rw [hR]; show slots + N ≤ rs0; omega) hd (fun q cA H1 hK1 hP1 hD1 hS1 => ?_)
  · exact absurd ((jI_lt ⟨by omega, by omega⟩ jI_r0).mp h) (by omega)
  · have hcA : cA = gA G 1 := tys_same (by decide) hC.2.2.2.2.2.2.1.1 hK1
    subst hcA
    have he : ent (gA G) (upA A r q) (M.new r N N) r N = .inl (gA G 1, N, .inl fun _ => 0) := by rw [ent_int hk (by decide), new_I]; rfl
    have hup1 := hup q H1
    rw [he] at hup1
    have k1 := kk p e R s m args below meth c H1 locs _ _ ls rc0 rs0 (upA A r q) A0 M0 hC (hF.push hfr hrc hrs (hup1 hP1 hD1) hS1 (fun _ hv => List.mem_cons_of_mem _ hv))
    rw [push_map hfr hF.wf.pop.1] at k1
    exact k1
theorem S_newarrA {n : Int} {d idx : Nat} {C : String} (r : Role) (N : Nat) (hl : Cond.classLink mi.1.cls idx C ∈ wG) (hw : C ∈ wAO) (hd : decode mi.2.1 pc = .ok (.anewarray idx, 3)) (hN : n = (N : Int)) (hbig : N ≤ 100000) (hk : kd r.1 = .inr d) (h2 : 2 ≤ d ∧ d < 8) (hC2 : aT d = .object C) (hr : ro r.1 = false) (hfr : M.len r = none) (hrc : 1 ≤ M.rc) (hrs : N ≤ M.rs) (kk : Sf G mi Q (pc + 3) L (vR r :: st) (M.new r N N)) : Sf G mi Q pc L (vI n :: st) M := by
  intro p e R s m args below meth c H locs cells slots ls rc0 rs0 A A0 M0 hC hF
  subst hN
  obtain ⟨ws, hp, hD, hup⟩ := hF.1.push (r := r) (n := N) (cost := N) hr hfr hC.nE
  have hb := hF.2.2.1
  have hR := hC.2.2.2.2.2.2.2.2.2.1
  refine va_newq (N' := N) hC.1 hC.2.1 hC.2.2.2.2.1 (hC.2.2.2.2.2.1 _ hl) (hC.2.2.2.2.2.2.1.2.2.2.2.2.2.2.1 C hw) hC.2.2.2.2.2.2.1.1 hp hD hF.2.1 hC.wA (fun h => ?_) (jI_clamp (by omega)) (by omega) (by rw [hR]; show cells + 1 ≤ rc0; omega) (by rw [hR]; show slots + N ≤ rs0; omega) hd (fun q cA H1 hK1 hP1 hD1 hS1 => ?_)
  · exact absurd ((jI_lt ⟨by omega, by omega⟩ jI_r0).mp h) (by omega)
  · have hcA : cA = gA G d := tys_same h2.2 hC.2.2.2.2.2.2.1.1 (by rw [hC2]; exact hK1)
    subst hcA
    have he : ent (gA G) (upA A r q) (M.new r N N) r N = .inl (gA G d, N, .inr (.inr (.inr (.inr fun _ => none)))) := by rw [ent_ref hk h2.1, new_P]; rfl
    have hup1 := hup q H1
    rw [he] at hup1
    have k1 := kk p e R s m args below meth c H1 locs _ _ ls rc0 rs0 (upA A r q) A0 M0 hC (hF.push hfr hrc hrs (hup1 hP1 hD1) hS1 (fun _ hv => List.mem_cons_of_mem _ hv))
    rw [push_map hfr hF.wf.pop.1] at k1
    exact k1
theorem S_gets {idx : Nat} (hl : Cond.fieldLink mi.1.cls idx RJx4a65c nmZ nmO ∈ wG) (hd : decode mi.2.1 pc = .ok (.getstatic idx, 3)) (kk : Sf G mi Q (pc + 3) L (vR (20, 0) :: st) M) : Sf G mi Q pc L st M := by
  intro p e R s m args below meth c H locs cells slots ls rc0 rs0 A A0 M0 hC hF
  have k1 := kk p e R s m args below meth c H locs cells slots ls rc0 rs0 A A0 M0 hC (hF.st (fun h => h.push (fun r hr => by cases hr; rw [hF.1.2.2.2.1.1]; simp)))
  refine va_gets hC.1 hC.2.1 hC.2.2.2.2.2.2.1.2.1 hF.2.1 hC.2.2.2.2.1 (hC.2.2.2.2.2.1 _ hl) (fun _ h => h) hd ?_
  rw [← hF.1.2.2.2.1.2]
  exact k1
theorem Cf.recv {s : State} {H : Heap} {locs : List Loc} {ls : Array Slot} {rc0 rs0 cells slots ci : Nat} {A A0 : Role → Nat} {M0 : Mem} (hF : Cf G mi L st M s H locs cells slots ls rc0 rs0 A A0 M0) (hK : va_K (gD G) vwCl (tysL (gA G)) s) {r : Role} (h : okV M (vR r)) (hk : kd r.1 = .inl ci) (hci : ci < 11) : ∃ cell : Cell, H[A r]? = some cell ∧ cell.vm.isStatics = false ∧ s.vm.findClass (cR ci) = some cell.cls := by
  obtain ⟨n, hn⟩ := h.get
  obtain ⟨ws, k0, h0, hp, -⟩ := hF.1.upd (M' := M) hn (ro_obj hk) rfl (fun _ _ _ => ⟨rfl, rfl⟩) hF.1.2.2.1
  rw [ent_obj hk] at h0
  exact va_recv hK hp (vwCl_at ci hci) h0
theorem S_castS {idx ci : Nat} {r : Role} (hl : Cond.classLink mi.1.cls idx (cR ci) ∈ wG) (hci : ci < 11) (hd : decode mi.2.1 pc = .ok (.checkcast idx, 3)) (hk : kd r.1 = .inl ci) (kk : Sf G mi Q (pc + 3) L (vR r :: st) M) : Sf G mi Q pc L (vR r :: st) M := by
  intro p e R s m args below meth c H locs cells slots ls rc0 rs0 A A0 M0 hC hF
  exact va_castS hC.1 hC.2.1 hC.2.2.2.2.1 (hC.2.2.2.2.2.1 _ hl) (hC.2.2.2.2.2.2.1.1.1 ci _ (vwCl_at ci hci)).2 (hF.recv hC.2.2.2.2.2.2.1.1 hF.wf.top hk hci) hd (kk p e R s m args below meth c H locs cells slots ls rc0 rs0 A A0 M0 hC hF)
theorem S_instS {idx ci : Nat} {r : Role} (hl : Cond.classLink mi.1.cls idx (cR ci) ∈ wG) (hci : ci < 11) (hd : decode mi.2.1 pc = .ok (.instanceof idx, 3)) (hk : kd r.1 = .inl ci) (kk : Sf G mi Q (pc + 3) L (vI 1 :: st) M) : Sf G mi Q pc L (vR r :: st) M := by
  intro p e R s m args below meth c H locs cells slots ls rc0 rs0 A A0 M0 hC hF
  exact va_instS hC.1 hC.2.1 hC.2.2.2.2.1 (hC.2.2.2.2.2.1 _ hl) (hC.2.2.2.2.2.2.1.1.1 ci _ (vwCl_at ci hci)).2 (hF.recv hC.2.2.2.2.2.2.1.1 hF.wf.top hk hci) hd (kk p e R s m args below meth c H locs cells slots ls rc0 rs0 A A0 M0 hC (hF.st (fun h => h.pop.pushI 1)))
theorem S_instNo {idx : Nat} {r : Role} (hl : Cond.classLink mi.1.cls idx RX3 ∈ wG) (hd : decode mi.2.1 pc = .ok (.instanceof idx, 3)) (hk : kd r.1 = .inl 5) (kk : Sf G mi Q (pc + 3) L (vI 0 :: st) M) : Sf G mi Q pc L (vR r :: st) M := by
  intro p e R s m args below meth c H locs cells slots ls rc0 rs0 A A0 M0 hC hF
  exact va_instNo hC.1 hC.2.1 hC.2.2.2.2.1 (hC.2.2.2.2.2.1 _ hl) hC.2.2.2.2.2.2.1.2.2.2.2.2.1 (hF.recv hC.2.2.2.2.2.2.1.1 hF.wf.top hk (by decide)) hd (kk p e R s m args below meth c H locs cells slots ls rc0 rs0 A A0 M0 hC (hF.st (fun h => h.pop.pushI 0)))
-- the script
theorem S_slen (hd : decode mi.2.1 pc = .ok (.arraylength, 1)) (kk : Sf G mi Q (pc + 1) L (vI (gN G) :: st) M) : Sf G mi Q pc L (vR (40, 0) :: st) M := by
  intro p e R s m args below meth c H locs cells slots ls rc0 rs0 A A0 M0 hC hF
  obtain ⟨x1, x2, x3⟩ := hC.2.2.2.2.2.2.1.2.2.2.1
  have k1 := kk p e R s m args below meth c H locs cells slots ls rc0 rs0 A A0 M0 hC (hF.st (fun h => h.pop.pushI _))
  have e1 : A (40, 0) = gS G := hF.1.2.2.2.2.1.2.1
  show W _ _ _ _ _ _ _ _ _ _ _ _ _ _ _ (F0 m pc ls (.ref (A (40, 0)) :: _))
  rw [e1]
  refine va_slen hC.1 hC.2.1 x1 ?_ x2 hF.2.1 hd k1
  exact x3
theorem S_sld {i v : Int} (j : Nat) (hd : decode mi.2.1 pc = .ok (.iaload, 1)) (hj : i = (j : Int)) (hjn : j < gN G ∧ j < 2147483648) (hv : (gX G j).toInt = v) (kk : Sf G mi Q (pc + 1) L (vI v :: st) M) : Sf G mi Q pc L (vI i :: vR (40, 0) :: st) M := by
  intro p e R s m args below meth c H locs cells slots ls rc0 rs0 A A0 M0 hC hF
  subst hj; subst hv
  obtain ⟨x1, x2, x3⟩ := hC.2.2.2.2.2.2.1.2.2.2.1
  have k1 := kk p e R s m args below meth c H locs cells slots ls rc0 rs0 A A0 M0 hC (hF.st (fun h => h.pop.pop.pushI _))
  have e1 : A (40, 0) = gS G := hF.1.2.2.2.2.1.2.1
  show W _ _ _ _ _ _ _ _ _ _ _ _ _ _ _ (F0 m pc ls (.int (jI j) :: .ref (A (40, 0)) :: _))
  rw [e1]
  refine va_sld hC.1 hC.2.1 x1 x3 x2 hF.2.1 (jI_in hjn) hd ?_
  rw [jI_clamp hjn.2]
  have e2 : conc A (vI (gX G j).toInt) = .int (gX G j) := congrArg Value.int (jI_of _)
  rw [List.map_cons, e2] at k1
  exact k1
-- Object.getClass and the mirror, of an array of Object
theorem S_ldcM {idx : Nat} (hl : Cond.classLink mi.1.cls idx nmO ∈ wG) (hd : decode mi.2.1 pc = .ok (.ldc idx, 2)) (kk : Sf G mi Q (pc + 2) L (vR (41, 0) :: st) M) : Sf G mi Q pc L st M := by
  intro p e R s m args below meth c H locs cells slots ls rc0 rs0 A A0 M0 hC hF
  have k1 := kk p e R s m args below meth c H locs cells slots ls rc0 rs0 A A0 M0 hC (hF.st (fun h => h.push (fun r hr => by cases hr; rw [hF.1.2.2.2.2.1.2.2.1]; simp)))
  refine va_ldcM hC.1 hC.2.1 hC.2.2.2.2.1 (hC.2.2.2.2.2.1 _ hl) hC.2.2.2.2.2.2.1.2.2.2.2.1 hd ?_
  rw [← hF.1.2.2.2.2.1.2.2.2]
  exact k1
def nmG : MethodName := ⟨"java/lang/Object", "getClass", "()Ljava/lang/Class;"⟩
theorem S_getClass {idx : Nat} {r : Role} (hl : Cond.methodLink mi.1.cls idx nmG ∈ wG ∧ Cond.selects nmO nmG nmG ∈ wG ∧ Cond.instanceMethod nmG ∈ wG ∧ Cond.native nmG ∈ wG) (hd : decode mi.2.1 pc = .ok (.invokevirtual idx, 3)) (hk : kd r.1 = .inr 7) (hr : ro r.1 = false) (hD : 1 ≤ mi.2.2.2.2) (hst : st.length ≤ 8) (kk : Sf G mi Q (pc + 3) L (vR (41, 0) :: st) M) : Sf G mi Q pc L (vR r :: st) M := by
  intro p e R s m args below meth c H locs cells slots ls rc0 rs0 A A0 M0 hC hF
  have k1 := kk p e R s m args below meth c H locs cells slots ls rc0 rs0 A A0 M0 hC (hF.st (fun h => h.pop.push (fun r hr => by cases hr; rw [hF.1.2.2.2.2.1.2.2.1]; simp)))
  have hsum : ((st.map (conc A)).map fun v => v.category).sum ≤ 8 := Nat.le_trans (cat_sum A st) hst
  obtain ⟨n, hn⟩ := hF.wf.top.get
  obtain ⟨ws, k0, h0, hp, -⟩ := hF.1.upd (M' := M) hn hr rfl (fun _ _ _ => ⟨rfl, rfl⟩) hF.1.2.2.1
  rw [ent_ref hk (by decide)] at h0
  have hcell := hp k0 _ h0
  refine va_getC hC.1 hC.2.1 (hC.2.2.2.1.trans hF.2.2.2.1.1.symm) hC.2.2.2.2.1 (hC.2.2.2.2.2.1 _ hl.1) (va_Dc.use hC.2.2.2.2.2.2.1.2.2.2.2.2.2.2.2.2.2) (hC.2.2.2.2.2.1 _ hl.2.1) (hC.2.2.2.2.2.1 _ hl.2.2.1) (hC.2.2.2.2.2.1 _ hl.2.2.2) hC.2.2.2.2.2.2.1.2.2.2.2.1 ⟨_, hcell, rfl, ?_⟩ ?_ ?_ hd ?_
  · exact va_nmO ((hC.2.2.2.2.2.2.1.1.2 7 _ (tysL_at _ 7 (by decide))).2) rfl
  · rw [hC.2.2.2.2.2.2.2.2.2.1]; exact hD
  · rw [hC.2.2.2.2.2.2.2.2.2.1]; show _ + 14 ≤ 64 * mi.2.2.2.2; omega
  · rw [← hF.1.2.2.2.2.1.2.2.2]
    exact k1
-- System.arraycopy of rows of Things, from the first place to the first place
def Mem.cpy (M : Mem) (r q : Role) (n : Nat) : Mem := (M.1, M.2.1, fun r' k => if r' = q ∧ k < n then M.2.2.1 r k else M.2.2.1 r' k, M.2.2.2)
theorem S_acopy {idx n0 n1 : Nat} {r q : Role} {z : Int} (n : Nat) (hl : Cond.methodLink mi.1.cls idx arraycopyName ∈ wG ∧ Cond.native arraycopyName ∈ wG ∧ Cond.static arraycopyName ∈ wG ∧ Cond.initialized "java/lang/System" ∈ wG) (hd : decode mi.2.1 pc = .ok (.invokestatic idx, 3)) (hk : kd r.1 = .inr 7) (hr : ro r.1 = false) (hkq : kd q.1 = .inr 7) (hq : ro q.1 = false) (hl0 : M.len r = some n0) (hl1 : M.len q = some n1) (hz : z = (n : Int)) (hn : n ≤ n0 ∧ n ≤ n1 ∧ n < 2147483648) (hel : ∀ i r', i < n → M.P r i = some r' → kd r'.1 = .inl 5) (hD : 1 ≤ mi.2.2.2.2) (hst : st.length ≤ 8)
    (kk : Sf G mi Q (pc + 3) L st (M.cpy r q n)) : Sf G mi Q pc L (vI z :: vI 0 :: vR q :: vI 0 :: vR r :: st) M := by
  intro p e R s m args below meth c H locs cells slots ls rc0 rs0 A A0 M0 hC hF
  subst hz
  have hsum : ((st.map (conc A)).map fun v => v.category).sum ≤ 8 := Nat.le_trans (cat_sum A st) hst
  have hclo : Clo (M.cpy r q n) := fun r1 k r2 h1 h2 => by
    have h2 : (if r1 = q ∧ k < n then M.2.2.1 r k else M.2.2.1 r1 k) = some r2 := h2
    by_cases a : r1 = q ∧ k < n
    · rw [if_pos a] at h2; exact hF.1.2.2.1 r k r2 (by rw [hl0]; simp) h2
    · rw [if_neg a] at h2; exact hF.1.2.2.1 r1 k r2 h1 h2
  obtain ⟨ws, k0, ⟨h0, kq, h1⟩, hp, hDD, hup⟩ := hF.1.upd2 (M' := M.cpy r q n) hl1 hq hl0 hr rfl (fun r' h j => ⟨rfl, if_neg (fun hh => h hh.1)⟩) hclo
  rw [ent_ref hkq (by decide)] at hup h0
  rw [ent_ref hk (by decide)] at h1
  have hz0 : (jI 0).toNatClampNeg = 0 := rfl
  have hzn : (jI (n : Int)).toNatClampNeg = n := jI_clamp hn.2.2
  refine va_copyq (C := RX4) (E0 := "java/lang/Object") (E1 := "java/lang/Object") hC.1 hC.2.1 (hC.2.2.2.1.trans hF.2.2.2.1.1.symm) hC.2.2.2.2.1 (hC.2.2.2.2.2.1 _ hl.1) (hC.2.2.2.2.2.1 _ hl.2.1) (hC.2.2.2.2.2.1 _ hl.2.2.1) (hC.2.2.2.2.2.1 _ hl.2.2.2) hC.2.2.2.2.2.2.1.1 hp hDD hF.2.1 kq k0 7 7 h1 h0 (tysL_at _ 7 (by decide)) (tysL_at _ 7 (by decide)) (fun h => by revert h; decide) (fun h => by revert h; decide) (fun h => absurd ((jI_lt ⟨by omega, by omega⟩ jI_r0).mp h) (by omega)) (by rw [hz0, hzn]; omega) (by rw [hz0, hzn]; omega) (fun i hi y hy => ?_) (fun comp c0 f1 f2 => ?_) ?_ ?_ hd (fun H1 locs1 hP1 hD1 hS1 => ?_)
  · rw [hzn] at hi
    rw [hz0, Nat.zero_add] at hy
    have hy : (M.P r i).map A = some y := hy
    cases hp2 : M.P r i with
    | none => rw [hp2] at hy; cases hy
    | some r' =>
      rw [hp2] at hy
      cases hy
      exact hF.recv hC.2.2.2.2.2.2.1.1 (fun r2 e2 => by cases e2; exact hF.1.2.2.1 r i r' (by rw [hl0]; simp) hp2) (hel i r' hi hp2) (by decide)
  · obtain ⟨c1, t1, g1, g2, g3⟩ := Cond.castable_spec (va_Nw.use (A := args) rfl hC.2.2.2.2.2.2.1.2.2.2.2.2.2.2.2.1)
    cases f2.symm.trans g1
    cases f1.symm.trans g2
    exact g3
  · rw [hC.2.2.2.2.2.2.2.2.2.1]; exact hD
  · rw [hC.2.2.2.2.2.2.2.2.2.1]
    have hw : nativeFrameWords "java/lang/System" "arraycopy" 5 ≤ 40 := by decide
    show _ + (_ + 11) ≤ 64 * mi.2.2.2.2
    omega
  · have he : ∀ k, ((M.cpy r q n).P q k).map A = va_cpy (fun k => (M.P r k).map A) (fun k => (M.P q k).map A) (jI 0).toNatClampNeg (jI 0).toNatClampNeg (jI (n : Int)).toNatClampNeg k := fun k => by
      rw [hz0, hzn]
      show (if q = q ∧ k < n then M.2.2.1 r k else M.2.2.1 q k).map A = if 0 ≤ k ∧ k < 0 + n then (M.P r (0 + (k - 0))).map A else (M.P q k).map A
      by_cases hkn : k < n
      · rw [if_pos ⟨rfl, hkn⟩, if_pos ⟨Nat.zero_le _, by omega⟩, Nat.zero_add, Nat.sub_zero]; rfl
      · rw [if_neg (fun h => hkn h.2), if_neg (fun h => hkn (by omega))]; rfl
    rw [show (fun k => ((M.cpy r q n).P q k).map A) = _ from funext he] at hup
    exact kk p e R s m args below meth c H1 locs1 cells slots ls rc0 rs0 A A0 M0 hC (hF.mem (hup H1 hP1 hD1) hS1 rfl ⟨rfl, rfl⟩ (fun v hv => List.mem_cons_of_mem _ (List.mem_cons_of_mem _ (List.mem_cons_of_mem _ (List.mem_cons_of_mem _ (List.mem_cons_of_mem _ hv))))))
theorem S_ldcI {idx : Nat} {v : Int32} (hl : Cond.constant mi.1.cls idx v ∈ wG) (hd : decode mi.2.1 pc = .ok (.ldc idx, 2)) (kk : Sf G mi Q (pc + 2) L (vI v.toInt :: st) M) : Sf G mi Q pc L st M := by
  intro p e R s m args below meth c H locs cells slots ls rc0 rs0 A A0 M0 hC hF
  have k1 := kk p e R s m args below meth c H locs cells slots ls rc0 rs0 A A0 M0 hC (hF.st (fun h => h.pushI _))
  have e2 : conc A (vI v.toInt) = .int v := congrArg Value.int (jI_of _)
  rw [List.map_cons, e2] at k1
  exact lv_ldc hC.1 hC.2.1 hC.2.2.2.2.1 (hC.2.2.2.2.2.1 _ hl) hd k1
theorem S_max {idx : Nat} {x y : Int} (hl : Cond.methodLink mi.1.cls idx Lib.Math.max.name ∈ wG ∧ Cond.static Lib.Math.max.name ∈ wG ∧ Cond.initialized "java/lang/Math" ∈ wG ∧ Cond.code Lib.Math.max.name Lib.Math.max.code 2 (some .int) ∈ wG) (hd : decode mi.2.1 pc = .ok (.invokestatic idx, 3)) (hD : 1 ≤ mi.2.2.2.2) (hst : st.length ≤ 8) (hx : (-2147483648 ≤ x ∧ x < 2147483648) ∧ (-2147483648 ≤ y ∧ y < 2147483648)) (kk : Sf G mi Q (pc + 3) L (vI (if x < y then y else x) :: st) M) : Sf G mi Q pc L (vI y :: vI x :: st) M := by
  intro p e R s m args below meth c H locs cells slots ls rc0 rs0 A A0 M0 hC hF
  have k1 := kk p e R s m args below meth c H locs cells slots ls rc0 rs0 A A0 M0 hC (hF.st (fun h => h.pop.pop.pushI _))
  have hsum : ((st.map (conc A)).map fun v => v.category).sum ≤ 8 := Nat.le_trans (cat_sum A st) hst
  have hb := hF.2.2.1
  have hR := hC.2.2.2.2.2.2.2.2.2.1
  refine va_mmax hC.1 hC.2.1 (hC.2.2.2.1.trans hF.2.2.2.1.1.symm) hC.2.2.2.2.1 (hC.2.2.2.2.2.1 _ hl.1) (hC.2.2.2.2.2.1 _ hl.2.1) (hC.2.2.2.2.2.1 _ hl.2.2.1) (hC.2.2.2.2.2.1 _ hl.2.2.2) (by rw [hR]; exact hD) (by rw [hR]; show _ + 13 ≤ 64 * mi.2.2.2.2; omega) (by rw [hR]; show cells ≤ rc0; omega) (by rw [hR]; show slots ≤ rs0; omega) hd ?_
  have e1 : conc A (vI (if x < y then y else x)) = .int (if jI x < jI y then jI y else jI x) := by
    by_cases h : x < y
    · rw [if_pos h, if_pos ((jI_lt hx.1 hx.2).mpr h)]; rfl
    · rw [if_neg h, if_neg (fun h2 => h ((jI_lt hx.1 hx.2).mp h2))]; rfl
  rw [List.map_cons, e1] at k1
  exact k1
theorem S_min {idx : Nat} {x y : Int} (hl : Cond.methodLink mi.1.cls idx Lib.Math.min.name ∈ wG ∧ Cond.static Lib.Math.min.name ∈ wG ∧ Cond.initialized "java/lang/Math" ∈ wG ∧ Cond.code Lib.Math.min.name Lib.Math.min.code 2 (some .int) ∈ wG) (hd : decode mi.2.1 pc = .ok (.invokestatic idx, 3)) (hD : 1 ≤ mi.2.2.2.2) (hst : st.length ≤ 8) (hx : (-2147483648 ≤ x ∧ x < 2147483648) ∧ (-2147483648 ≤ y ∧ y < 2147483648)) (kk : Sf G mi Q (pc + 3) L (vI (if y < x then y else x) :: st) M) : Sf G mi Q pc L (vI y :: vI x :: st) M := by
  intro p e R s m args below meth c H locs cells slots ls rc0 rs0 A A0 M0 hC hF
  have k1 := kk p e R s m args below meth c H locs cells slots ls rc0 rs0 A A0 M0 hC (hF.st (fun h => h.pop.pop.pushI _))
  have hsum : ((st.map (conc A)).map fun v => v.category).sum ≤ 8 := Nat.le_trans (cat_sum A st) hst
  have hb := hF.2.2.1
  have hR := hC.2.2.2.2.2.2.2.2.2.1
  refine va_mmin hC.1 hC.2.1 (hC.2.2.2.1.trans hF.2.2.2.1.1.symm) hC.2.2.2.2.1 (hC.2.2.2.2.2.1 _ hl.1) (hC.2.2.2.2.2.1 _ hl.2.1) (hC.2.2.2.2.2.1 _ hl.2.2.1) (hC.2.2.2.2.2.1 _ hl.2.2.2) (by rw [hR]; exact hD) (by rw [hR]; show _ + 13 ≤ 64 * mi.2.2.2.2; omega) (by rw [hR]; show cells ≤ rc0; omega) (by rw [hR]; show slots ≤ rs0; omega) hd ?_
  have e1 : conc A (vI (if y < x then y else x)) = .int (if jI y < jI x then jI y else jI x) := by
    by_cases h : y < x
    · rw [if_pos h, if_pos ((jI_lt hx.2 hx.1).mpr h)]; rfl
    · rw [if_neg h, if_neg (fun h2 => h ((jI_lt hx.2 hx.1).mp h2))]; rfl
  rw [List.map_cons, e1] at k1
  exact k1
end
end
section
/-! THE LINKS: methods, fields, calls, by their places in the tables -/
abbrev mi_X0_init : Mi := (yX0_init, cX0_init, 1, none, 2)
theorem ok_X0_init : okM mi_X0_init 0 := ⟨wG_of 67 (by decide +kernel) (by decide +kernel), wG_of 102 (by decide +kernel) (by decide +kernel), (by decide +kernel), (by decide +kernel)⟩
theorem pl_X0_init : plainName mi_X0_init.1.cls = true := by decide +kernel
abbrev mi_X0_mix : Mi := (yX0_mix, cX0_mix, 3, (some .int), 1)
theorem ok_X0_mix : okM mi_X0_mix 2 := ⟨wG_of 67 (by decide +kernel) (by decide +kernel), wG_of 486 (by decide +kernel) (by decide +kernel), (by decide +kernel), (by decide +kernel)⟩
theorem pl_X0_mix : plainName mi_X0_mix.1.cls = true := by decide +kernel
abbrev mi_X0_power : Mi := (yX0_power, cX0_power, 6, (some .int), 1)
theorem ok_X0_power : okM mi_X0_power 2 := ⟨wG_of 67 (by decide +kernel) (by decide +kernel), wG_of 461 (by decide +kernel) (by decide +kernel), (by decide +kernel), (by decide +kernel)⟩
theorem pl_X0_power : plainName mi_X0_power.1.cls = true := by decide +kernel
abbrev mi_X0_publicOf : Mi := (yX0_publicOf, cX0_publicOf, 2, (some .int), 2)
theorem ok_X0_publicOf : okM mi_X0_publicOf 1 := ⟨wG_of 67 (by decide +kernel) (by decide +kernel), wG_of 457 (by decide +kernel) (by decide +kernel), (by decide +kernel), (by decide +kernel)⟩
theorem pl_X0_publicOf : plainName mi_X0_publicOf.1.cls = true := by decide +kernel
abbrev mi_X1_init : Mi := (yX1_init, cX1_init, 2, none, 2)
theorem ok_X1_init : okM mi_X1_init 1 := ⟨wG_of 74 (by decide +kernel) (by decide +kernel), wG_of 257 (by decide +kernel) (by decide +kernel), (by decide +kernel), (by decide +kernel)⟩
theorem pl_X1_init : plainName mi_X1_init.1.cls = true := by decide +kernel
abbrev mi_X1_nextSecret : Mi := (yX1_nextSecret, cX1_nextSecret, 3, (some (.object "RatchetPost$Thing")), 1)
theorem ok_X1_nextSecret : okM mi_X1_nextSecret 0 := ⟨wG_of 74 (by decide +kernel) (by decide +kernel), wG_of 449 (by decide +kernel) (by decide +kernel), (by decide +kernel), (by decide +kernel)⟩
theorem pl_X1_nextSecret : plainName mi_X1_nextSecret.1.cls = true := by decide +kernel
abbrev mi_X1_leave : Mi := (yX1_leave, cX1_leave, 1, none, 1)
theorem ok_X1_leave : okM mi_X1_leave 0 := ⟨wG_of 74 (by decide +kernel) (by decide +kernel), wG_of 647 (by decide +kernel) (by decide +kernel), (by decide +kernel), (by decide +kernel)⟩
theorem pl_X1_leave : plainName mi_X1_leave.1.cls = true := by decide +kernel
abbrev mi_X1_hasLeft : Mi := (yX1_hasLeft, cX1_hasLeft, 3, (some .boolean), 1)
theorem ok_X1_hasLeft : okM mi_X1_hasLeft 1 := ⟨wG_of 74 (by decide +kernel) (by decide +kernel), wG_of 629 (by decide +kernel) (by decide +kernel), (by decide +kernel), (by decide +kernel)⟩
theorem pl_X1_hasLeft : plainName mi_X1_hasLeft.1.cls = true := by decide +kernel
abbrev mi_X1_keep : Mi := (yX1_keep, cX1_keep, 2, none, 2)
theorem ok_X1_keep : okM mi_X1_keep 1 := ⟨wG_of 74 (by decide +kernel) (by decide +kernel), wG_of 617 (by decide +kernel) (by decide +kernel), (by decide +kernel), (by decide +kernel)⟩
theorem pl_X1_keep : plainName mi_X1_keep.1.cls = true := by decide +kernel
abbrev mi_X1_drop : Mi := (yX1_drop, cX1_drop, 3, none, 1)
theorem ok_X1_drop : okM mi_X1_drop 1 := ⟨wG_of 74 (by decide +kernel) (by decide +kernel), wG_of 249 (by decide +kernel) (by decide +kernel), (by decide +kernel), (by decide +kernel)⟩
theorem pl_X1_drop : plainName mi_X1_drop.1.cls = true := by decide +kernel
abbrev mi_X1_keptFor : Mi := (yX1_keptFor, cX1_keptFor, 3, (some .int), 2)
theorem ok_X1_keptFor : okM mi_X1_keptFor 1 := ⟨wG_of 74 (by decide +kernel) (by decide +kernel), wG_of 548 (by decide +kernel) (by decide +kernel), (by decide +kernel), (by decide +kernel)⟩
theorem pl_X1_keptFor : plainName mi_X1_keptFor.1.cls = true := by decide +kernel
abbrev mi_X1_endOld : Mi := (yX1_endOld, cX1_endOld, 4, none, 2)
theorem ok_X1_endOld : okM mi_X1_endOld 2 := ⟨wG_of 74 (by decide +kernel) (by decide +kernel), wG_of 245 (by decide +kernel) (by decide +kernel), (by decide +kernel), (by decide +kernel)⟩
theorem pl_X1_endOld : plainName mi_X1_endOld.1.cls = true := by decide +kernel
abbrev mi_X2_init : Mi := (yX2_init, cX2_init, 3, none, 2)
theorem ok_X2_init : okM mi_X2_init 2 := ⟨wG_of 80 (by decide +kernel) (by decide +kernel), wG_of 503 (by decide +kernel) (by decide +kernel), (by decide +kernel), (by decide +kernel)⟩
theorem pl_X2_init : plainName mi_X2_init.1.cls = true := by decide +kernel
abbrev mi_X2_from : Mi := (yX2_from, cX2_from, 1, (some .int), 1)
theorem ok_X2_from : okM mi_X2_from 0 := ⟨wG_of 80 (by decide +kernel) (by decide +kernel), wG_of 552 (by decide +kernel) (by decide +kernel), (by decide +kernel), (by decide +kernel)⟩
theorem pl_X2_from : plainName mi_X2_from.1.cls = true := by decide +kernel
abbrev mi_X2_before : Mi := (yX2_before, cX2_before, 1, (some .int), 1)
theorem ok_X2_before : okM mi_X2_before 0 := ⟨wG_of 80 (by decide +kernel) (by decide +kernel), wG_of 633 (by decide +kernel) (by decide +kernel), (by decide +kernel), (by decide +kernel)⟩
theorem pl_X2_before : plainName mi_X2_before.1.cls = true := by decide +kernel
abbrev mi_X2_place : Mi := (yX2_place, cX2_place, 1, (some .int), 1)
theorem ok_X2_place : okM mi_X2_place 0 := ⟨wG_of 80 (by decide +kernel) (by decide +kernel), wG_of 556 (by decide +kernel) (by decide +kernel), (by decide +kernel), (by decide +kernel)⟩
theorem pl_X2_place : plainName mi_X2_place.1.cls = true := by decide +kernel
abbrev mi_X3_init : Mi := (yX3_init, cX3_init, 5, none, 3)
theorem ok_X3_init : okM mi_X3_init 4 := ⟨wG_of 81 (by decide +kernel) (by decide +kernel), wG_of 584 (by decide +kernel) (by decide +kernel), (by decide +kernel), (by decide +kernel)⟩
theorem pl_X3_init : plainName mi_X3_init.1.cls = true := by decide +kernel
abbrev mi_X4_init : Mi := (yX4_init, cX4_init, 5, none, 2)
theorem ok_X4_init : okM mi_X4_init 4 := ⟨wG_of 75 (by decide +kernel) (by decide +kernel), wG_of 338 (by decide +kernel) (by decide +kernel), (by decide +kernel), (by decide +kernel)⟩
theorem pl_X4_init : plainName mi_X4_init.1.cls = true := by decide +kernel
abbrev mi_X4_stepsNow : Mi := (yX4_stepsNow, cX4_stepsNow, 3, (some .int), 2)
theorem ok_X4_stepsNow : okM mi_X4_stepsNow 0 := ⟨wG_of 75 (by decide +kernel) (by decide +kernel), wG_of 472 (by decide +kernel) (by decide +kernel), (by decide +kernel), (by decide +kernel)⟩
theorem pl_X4_stepsNow : plainName mi_X4_stepsNow.1.cls = true := by decide +kernel
abbrev mi_X5_init : Mi := (yX5_init, cX5_init, 1, none, 5)
theorem ok_X5_init : okM mi_X5_init 0 := ⟨wG_of 66 (by decide +kernel) (by decide +kernel), wG_of 96 (by decide +kernel) (by decide +kernel), (by decide +kernel), (by decide +kernel)⟩
theorem pl_X5_init : plainName mi_X5_init.1.cls = true := by decide +kernel
abbrev mi_X5_newSecret : Mi := (yX5_newSecret, cX5_newSecret, 3, (some (.object "RatchetPost$Thing")), 8)
theorem ok_X5_newSecret : okM mi_X5_newSecret 1 := ⟨wG_of 66 (by decide +kernel) (by decide +kernel), wG_of 333 (by decide +kernel) (by decide +kernel), (by decide +kernel), (by decide +kernel)⟩
theorem pl_X5_newSecret : plainName mi_X5_newSecret.1.cls = true := by decide +kernel
abbrev mi_X5_meetingOf : Mi := (yX5_meetingOf, cX5_meetingOf, 4, (some (.object "RatchetPost$Thing")), 9)
theorem ok_X5_meetingOf : okM mi_X5_meetingOf 2 := ⟨wG_of 66 (by decide +kernel) (by decide +kernel), wG_of 453 (by decide +kernel) (by decide +kernel), (by decide +kernel), (by decide +kernel)⟩
theorem pl_X5_meetingOf : plainName mi_X5_meetingOf.1.cls = true := by decide +kernel
abbrev mi_X5_firstRootOf : Mi := (yX5_firstRootOf, cX5_firstRootOf, 2, (some (.object "RatchetPost$Thing")), 9)
theorem ok_X5_firstRootOf : okM mi_X5_firstRootOf 1 := ⟨wG_of 66 (by decide +kernel) (by decide +kernel), wG_of 478 (by decide +kernel) (by decide +kernel), (by decide +kernel), (by decide +kernel)⟩
theorem pl_X5_firstRootOf : plainName mi_X5_firstRootOf.1.cls = true := by decide +kernel
abbrev mi_X5_rootOf : Mi := (yX5_rootOf, cX5_rootOf, 3, (some (.object "RatchetPost$Thing")), 9)
theorem ok_X5_rootOf : okM mi_X5_rootOf 2 := ⟨wG_of 66 (by decide +kernel) (by decide +kernel), wG_of 482 (by decide +kernel) (by decide +kernel), (by decide +kernel), (by decide +kernel)⟩
theorem pl_X5_rootOf : plainName mi_X5_rootOf.1.cls = true := by decide +kernel
abbrev mi_X5_chainOf : Mi := (yX5_chainOf, cX5_chainOf, 2, (some (.object "RatchetPost$Thing")), 9)
theorem ok_X5_chainOf : okM mi_X5_chainOf 1 := ⟨wG_of 66 (by decide +kernel) (by decide +kernel), wG_of 490 (by decide +kernel) (by decide +kernel), (by decide +kernel), (by decide +kernel)⟩
theorem pl_X5_chainOf : plainName mi_X5_chainOf.1.cls = true := by decide +kernel
abbrev mi_X5_nextOf : Mi := (yX5_nextOf, cX5_nextOf, 2, (some (.object "RatchetPost$Thing")), 9)
theorem ok_X5_nextOf : okM mi_X5_nextOf 1 := ⟨wG_of 66 (by decide +kernel) (by decide +kernel), wG_of 532 (by decide +kernel) (by decide +kernel), (by decide +kernel), (by decide +kernel)⟩
theorem pl_X5_nextOf : plainName mi_X5_nextOf.1.cls = true := by decide +kernel
abbrev mi_X5_keyOf : Mi := (yX5_keyOf, cX5_keyOf, 2, (some (.object "RatchetPost$Thing")), 9)
theorem ok_X5_keyOf : okM mi_X5_keyOf 1 := ⟨wG_of 66 (by decide +kernel) (by decide +kernel), wG_of 499 (by decide +kernel) (by decide +kernel), (by decide +kernel), (by decide +kernel)⟩
theorem pl_X5_keyOf : plainName mi_X5_keyOf.1.cls = true := by decide +kernel
abbrev mi_X5_comeOf : Mi := (yX5_comeOf, cX5_comeOf, 6, (some (.object "RatchetPost$Thing")), 8)
theorem ok_X5_comeOf : okM mi_X5_comeOf 4 := ⟨wG_of 66 (by decide +kernel) (by decide +kernel), wG_of 466 (by decide +kernel) (by decide +kernel), (by decide +kernel), (by decide +kernel)⟩
theorem pl_X5_comeOf : plainName mi_X5_comeOf.1.cls = true := by decide +kernel
abbrev mi_X5_show : Mi := (yX5_show, cX5_show, 2, (some .int), 1)
theorem ok_X5_show : okM mi_X5_show 1 := ⟨wG_of 66 (by decide +kernel) (by decide +kernel), wG_of 655 (by decide +kernel) (by decide +kernel), (by decide +kernel), (by decide +kernel)⟩
theorem pl_X5_show : plainName mi_X5_show.1.cls = true := by decide +kernel
abbrev mi_X5_settle : Mi := (yX5_settle, cX5_settle, 3, none, 5)
theorem ok_X5_settle : okM mi_X5_settle 0 := ⟨wG_of 66 (by decide +kernel) (by decide +kernel), wG_of 659 (by decide +kernel) (by decide +kernel), (by decide +kernel), (by decide +kernel)⟩
theorem pl_X5_settle : plainName mi_X5_settle.1.cls = true := by decide +kernel
abbrev mi_X6_init : Mi := (yX6_init, cX6_init, 1, none, 2)
theorem ok_X6_init : okM mi_X6_init 0 := ⟨wG_of 72 (by decide +kernel) (by decide +kernel), wG_of 176 (by decide +kernel) (by decide +kernel), (by decide +kernel), (by decide +kernel)⟩
theorem pl_X6_init : plainName mi_X6_init.1.cls = true := by decide +kernel
abbrev mi_X6_note : Mi := (yX6_note, cX6_note, 2, none, 1)
theorem ok_X6_note : okM mi_X6_note 1 := ⟨wG_of 72 (by decide +kernel) (by decide +kernel), wG_of 754 (by decide +kernel) (by decide +kernel), (by decide +kernel), (by decide +kernel)⟩
theorem pl_X6_note : plainName mi_X6_note.1.cls = true := by decide +kernel
abbrev mi_X7_init : Mi := (yX7_init, cX7_init, 1, none, 2)
theorem ok_X7_init : okM mi_X7_init 0 := ⟨wG_of 71 (by decide +kernel) (by decide +kernel), wG_of 161 (by decide +kernel) (by decide +kernel), (by decide +kernel), (by decide +kernel)⟩
theorem pl_X7_init : plainName mi_X7_init.1.cls = true := by decide +kernel
abbrev mi_X7_put : Mi := (yX7_put, cX7_put, 3, none, 1)
theorem ok_X7_put : okM mi_X7_put 2 := ⟨wG_of 71 (by decide +kernel) (by decide +kernel), wG_of 725 (by decide +kernel) (by decide +kernel), (by decide +kernel), (by decide +kernel)⟩
theorem pl_X7_put : plainName mi_X7_put.1.cls = true := by decide +kernel
abbrev mi_X8_init : Mi := (yX8_init, cX8_init, 2, none, 6)
theorem ok_X8_init : okM mi_X8_init 0 := ⟨wG_of 65 (by decide +kernel) (by decide +kernel), wG_of 88 (by decide +kernel) (by decide +kernel), (by decide +kernel), (by decide +kernel)⟩
theorem pl_X8_init : plainName mi_X8_init.1.cls = true := by decide +kernel
abbrev mi_X8_prime : Mi := (yX8_prime, cX8_prime, 3, (some .int), 2)
theorem ok_X8_prime : okM mi_X8_prime 2 := ⟨wG_of 65 (by decide +kernel) (by decide +kernel), wG_of 225 (by decide +kernel) (by decide +kernel), (by decide +kernel), (by decide +kernel)⟩
theorem pl_X8_prime : plainName mi_X8_prime.1.cls = true := by decide +kernel
abbrev mi_X8_limits : Mi := (yX8_limits, cX8_limits, 3, (some .int), 4)
theorem ok_X8_limits : okM mi_X8_limits 2 := ⟨wG_of 65 (by decide +kernel) (by decide +kernel), wG_of 237 (by decide +kernel) (by decide +kernel), (by decide +kernel), (by decide +kernel)⟩
theorem pl_X8_limits : plainName mi_X8_limits.1.cls = true := by decide +kernel
abbrev mi_X8_pair : Mi := (yX8_pair, cX8_pair, 1, (some .int), 3)
theorem ok_X8_pair : okM mi_X8_pair 0 := ⟨wG_of 65 (by decide +kernel) (by decide +kernel), wG_of 253 (by decide +kernel) (by decide +kernel), (by decide +kernel), (by decide +kernel)⟩
theorem pl_X8_pair : plainName mi_X8_pair.1.cls = true := by decide +kernel
abbrev mi_X8_secret : Mi := (yX8_secret, cX8_secret, 4, (some .int), 9)
theorem ok_X8_secret : okM mi_X8_secret 2 := ⟨wG_of 65 (by decide +kernel) (by decide +kernel), wG_of 325 (by decide +kernel) (by decide +kernel), (by decide +kernel), (by decide +kernel)⟩
theorem pl_X8_secret : plainName mi_X8_secret.1.cls = true := by decide +kernel
abbrev mi_X8_start : Mi := (yX8_start, cX8_start, 7, (some .int), 10)
theorem ok_X8_start : okM mi_X8_start 1 := ⟨wG_of 65 (by decide +kernel) (by decide +kernel), wG_of 437 (by decide +kernel) (by decide +kernel), (by decide +kernel), (by decide +kernel)⟩
theorem pl_X8_start : plainName mi_X8_start.1.cls = true := by decide +kernel
abbrev mi_X8_send : Mi := (yX8_send, cX8_send, 6, (some .int), 10)
theorem ok_X8_send : okM mi_X8_send 2 := ⟨wG_of 65 (by decide +kernel) (by decide +kernel), wG_of 495 (by decide +kernel) (by decide +kernel), (by decide +kernel), (by decide +kernel)⟩
theorem pl_X8_send : plainName mi_X8_send.1.cls = true := by decide +kernel
abbrev mi_X8_alter : Mi := (yX8_alter, cX8_alter, 4, (some .int), 2)
theorem ok_X8_alter : okM mi_X8_alter 2 := ⟨wG_of 65 (by decide +kernel) (by decide +kernel), wG_of 536 (by decide +kernel) (by decide +kernel), (by decide +kernel), (by decide +kernel)⟩
theorem pl_X8_alter : plainName mi_X8_alter.1.cls = true := by decide +kernel
abbrev mi_X8_take : Mi := (yX8_take, cX8_take, 6, (some .int), 13)
theorem ok_X8_take : okM mi_X8_take 2 := ⟨wG_of 65 (by decide +kernel) (by decide +kernel), wG_of 544 (by decide +kernel) (by decide +kernel), (by decide +kernel), (by decide +kernel)⟩
theorem pl_X8_take : plainName mi_X8_take.1.cls = true := by decide +kernel
abbrev mi_X8_see : Mi := (yX8_see, cX8_see, 5, (some .int), 6)
theorem ok_X8_see : okM mi_X8_see 1 := ⟨wG_of 65 (by decide +kernel) (by decide +kernel), wG_of 651 (by decide +kernel) (by decide +kernel), (by decide +kernel), (by decide +kernel)⟩
theorem pl_X8_see : plainName mi_X8_see.1.cls = true := by decide +kernel
abbrev mi_X8_known : Mi := (yX8_known, cX8_known, 3, (some .int), 2)
theorem ok_X8_known : okM mi_X8_known 1 := ⟨wG_of 65 (by decide +kernel) (by decide +kernel), wG_of 681 (by decide +kernel) (by decide +kernel), (by decide +kernel), (by decide +kernel)⟩
theorem pl_X8_known : plainName mi_X8_known.1.cls = true := by decide +kernel
abbrev mi_X8_steps : Mi := (yX8_steps, cX8_steps, 3, (some .int), 2)
theorem ok_X8_steps : okM mi_X8_steps 1 := ⟨wG_of 65 (by decide +kernel) (by decide +kernel), wG_of 685 (by decide +kernel) (by decide +kernel), (by decide +kernel), (by decide +kernel)⟩
theorem pl_X8_steps : plainName mi_X8_steps.1.cls = true := by decide +kernel
abbrev mi_X8_heals : Mi := (yX8_heals, cX8_heals, 4, (some .int), 3)
theorem ok_X8_heals : okM mi_X8_heals 1 := ⟨wG_of 65 (by decide +kernel) (by decide +kernel), wG_of 689 (by decide +kernel) (by decide +kernel), (by decide +kernel), (by decide +kernel)⟩
theorem pl_X8_heals : plainName mi_X8_heals.1.cls = true := by decide +kernel
abbrev mi_X8_same : Mi := (yX8_same, cX8_same, 4, (some .int), 3)
theorem ok_X8_same : okM mi_X8_same 1 := ⟨wG_of 65 (by decide +kernel) (by decide +kernel), wG_of 693 (by decide +kernel) (by decide +kernel), (by decide +kernel), (by decide +kernel)⟩
theorem pl_X8_same : plainName mi_X8_same.1.cls = true := by decide +kernel
abbrev mi_X8_told : Mi := (yX8_told, cX8_told, 4, (some .int), 3)
theorem ok_X8_told : okM mi_X8_told 2 := ⟨wG_of 65 (by decide +kernel) (by decide +kernel), wG_of 697 (by decide +kernel) (by decide +kernel), (by decide +kernel), (by decide +kernel)⟩
theorem pl_X8_told : plainName mi_X8_told.1.cls = true := by decide +kernel
abbrev mi_X8_skipped : Mi := (yX8_skipped, cX8_skipped, 6, (some .int), 2)
theorem ok_X8_skipped : okM mi_X8_skipped 3 := ⟨wG_of 65 (by decide +kernel) (by decide +kernel), wG_of 704 (by decide +kernel) (by decide +kernel), (by decide +kernel), (by decide +kernel)⟩
theorem pl_X8_skipped : plainName mi_X8_skipped.1.cls = true := by decide +kernel
abbrev mi_X8_letter : Mi := (yX8_letter, cX8_letter, 4, (some .int), 2)
theorem ok_X8_letter : okM mi_X8_letter 2 := ⟨wG_of 65 (by decide +kernel) (by decide +kernel), wG_of 708 (by decide +kernel) (by decide +kernel), (by decide +kernel), (by decide +kernel)⟩
theorem pl_X8_letter : plainName mi_X8_letter.1.cls = true := by decide +kernel
abbrev mi_X8_count : Mi := (yX8_count, cX8_count, 2, (some .int), 2)
theorem ok_X8_count : okM mi_X8_count 1 := ⟨wG_of 65 (by decide +kernel) (by decide +kernel), wG_of 712 (by decide +kernel) (by decide +kernel), (by decide +kernel), (by decide +kernel)⟩
theorem pl_X8_count : plainName mi_X8_count.1.cls = true := by decide +kernel
abbrev mi_X8_hold : Mi := (yX8_hold, cX8_hold, 5, (some .int), 3)
theorem ok_X8_hold : okM mi_X8_hold 3 := ⟨wG_of 65 (by decide +kernel) (by decide +kernel), wG_of 717 (by decide +kernel) (by decide +kernel), (by decide +kernel), (by decide +kernel)⟩
theorem pl_X8_hold : plainName mi_X8_hold.1.cls = true := by decide +kernel
abbrev mi_X8_tray : Mi := (yX8_tray, cX8_tray, 3, (some .int), 2)
theorem ok_X8_tray : okM mi_X8_tray 1 := ⟨wG_of 65 (by decide +kernel) (by decide +kernel), wG_of 737 (by decide +kernel) (by decide +kernel), (by decide +kernel), (by decide +kernel)⟩
theorem pl_X8_tray : plainName mi_X8_tray.1.cls = true := by decide +kernel
abbrev mi_X8_act : Mi := (yX8_act, cX8_act, 5, (some .int), 21)
theorem ok_X8_act : okM mi_X8_act 3 := ⟨wG_of 65 (by decide +kernel) (by decide +kernel), wG_of 741 (by decide +kernel) (by decide +kernel), (by decide +kernel), (by decide +kernel)⟩
theorem pl_X8_act : plainName mi_X8_act.1.cls = true := by decide +kernel
abbrev mi_X8_trace : Mi := (yX8_trace, cX8_trace, 2, (some .int), 1)
theorem ok_X8_trace : okM mi_X8_trace 1 := ⟨wG_of 65 (by decide +kernel) (by decide +kernel), wG_of 761 (by decide +kernel) (by decide +kernel), (by decide +kernel), (by decide +kernel)⟩
theorem pl_X8_trace : plainName mi_X8_trace.1.cls = true := by decide +kernel
abbrev mi_X8_forge : Mi := (yX8_forge, cX8_forge, 5, (some .int), 4)
theorem ok_X8_forge : okM mi_X8_forge 3 := ⟨wG_of 65 (by decide +kernel) (by decide +kernel), wG_of 765 (by decide +kernel) (by decide +kernel), (by decide +kernel), (by decide +kernel)⟩
theorem pl_X8_forge : plainName mi_X8_forge.1.cls = true := by decide +kernel
abbrev mi_X8_status : Mi := (yX8_status, cX8_status, 1, (some .int), 1)
theorem ok_X8_status : okM mi_X8_status 0 := ⟨wG_of 65 (by decide +kernel) (by decide +kernel), wG_of 791 (by decide +kernel) (by decide +kernel), (by decide +kernel), (by decide +kernel)⟩
theorem pl_X8_status : plainName mi_X8_status.1.cls = true := by decide +kernel
abbrev mi_X8_refuse : Mi := (yX8_refuse, cX8_refuse, 2, (some .int), 1)
theorem ok_X8_refuse : okM mi_X8_refuse 1 := ⟨wG_of 65 (by decide +kernel) (by decide +kernel), wG_of 229 (by decide +kernel) (by decide +kernel), (by decide +kernel), (by decide +kernel)⟩
theorem pl_X8_refuse : plainName mi_X8_refuse.1.cls = true := by decide +kernel
abbrev mi_X8_done : Mi := (yX8_done, cX8_done, 2, (some .int), 1)
theorem ok_X8_done : okM mi_X8_done 1 := ⟨wG_of 65 (by decide +kernel) (by decide +kernel), wG_of 233 (by decide +kernel) (by decide +kernel), (by decide +kernel), (by decide +kernel)⟩
theorem pl_X8_done : plainName mi_X8_done.1.cls = true := by decide +kernel
abbrev mi_X8_endAt : Mi := (yX8_endAt, cX8_endAt, 2, (some (.object "RatchetPost$End")), 1)
theorem ok_X8_endAt : okM mi_X8_endAt 1 := ⟨wG_of 65 (by decide +kernel) (by decide +kernel), wG_of 329 (by decide +kernel) (by decide +kernel), (by decide +kernel), (by decide +kernel)⟩
theorem pl_X8_endAt : plainName mi_X8_endAt.1.cls = true := by decide +kernel
abbrev mi_X8_lowerOf : Mi := (yX8_lowerOf, cX8_lowerOf, 2, (some (.object "RatchetPost$End")), 2)
theorem ok_X8_lowerOf : okM mi_X8_lowerOf 1 := ⟨wG_of 65 (by decide +kernel) (by decide +kernel), wG_of 441 (by decide +kernel) (by decide +kernel), (by decide +kernel), (by decide +kernel)⟩
theorem pl_X8_lowerOf : plainName mi_X8_lowerOf.1.cls = true := by decide +kernel
abbrev mi_X8_otherOf : Mi := (yX8_otherOf, cX8_otherOf, 2, (some (.object "RatchetPost$End")), 2)
theorem ok_X8_otherOf : okM mi_X8_otherOf 1 := ⟨wG_of 65 (by decide +kernel) (by decide +kernel), wG_of 445 (by decide +kernel) (by decide +kernel), (by decide +kernel), (by decide +kernel)⟩
theorem pl_X8_otherOf : plainName mi_X8_otherOf.1.cls = true := by decide +kernel
abbrev mi_X8_letterAt : Mi := (yX8_letterAt, cX8_letterAt, 2, (some (.object "RatchetPost$Letter")), 1)
theorem ok_X8_letterAt : okM mi_X8_letterAt 1 := ⟨wG_of 65 (by decide +kernel) (by decide +kernel), wG_of 540 (by decide +kernel) (by decide +kernel), (by decide +kernel), (by decide +kernel)⟩
theorem pl_X8_letterAt : plainName mi_X8_letterAt.1.cls = true := by decide +kernel
abbrev mi_X8_trayAt : Mi := (yX8_trayAt, cX8_trayAt, 2, (some (.object "RatchetPost$Tray")), 1)
theorem ok_X8_trayAt : okM mi_X8_trayAt 1 := ⟨wG_of 65 (by decide +kernel) (by decide +kernel), wG_of 721 (by decide +kernel) (by decide +kernel), (by decide +kernel), (by decide +kernel)⟩
theorem pl_X8_trayAt : plainName mi_X8_trayAt.1.cls = true := by decide +kernel
abbrev mi_X8_valueOf : Mi := (yX8_valueOf, cX8_valueOf, 1, (some .int), 1)
theorem ok_X8_valueOf : okM mi_X8_valueOf 1 := ⟨wG_of 65 (by decide +kernel) (by decide +kernel), wG_of 700 (by decide +kernel) (by decide +kernel), (by decide +kernel), (by decide +kernel)⟩
theorem pl_X8_valueOf : plainName mi_X8_valueOf.1.cls = true := by decide +kernel
abbrev mi_X8_takeByKept : Mi := (yX8_takeByKept, cX8_takeByKept, 5, (some .int), 3)
theorem ok_X8_takeByKept : okM mi_X8_takeByKept 3 := ⟨wG_of 65 (by decide +kernel) (by decide +kernel), wG_of 560 (by decide +kernel) (by decide +kernel), (by decide +kernel), (by decide +kernel)⟩
theorem pl_X8_takeByKept : plainName mi_X8_takeByKept.1.cls = true := by decide +kernel
abbrev mi_X8_takeByChain : Mi := (yX8_takeByChain, cX8_takeByChain, 5, (some .int), 11)
theorem ok_X8_takeByChain : okM mi_X8_takeByChain 2 := ⟨wG_of 65 (by decide +kernel) (by decide +kernel), wG_of 570 (by decide +kernel) (by decide +kernel), (by decide +kernel), (by decide +kernel)⟩
theorem pl_X8_takeByChain : plainName mi_X8_takeByChain.1.cls = true := by decide +kernel
abbrev mi_X8_takeNewPublic : Mi := (yX8_takeNewPublic, cX8_takeNewPublic, 7, (some .int), 12)
theorem ok_X8_takeNewPublic : okM mi_X8_takeNewPublic 2 := ⟨wG_of 65 (by decide +kernel) (by decide +kernel), wG_of 625 (by decide +kernel) (by decide +kernel), (by decide +kernel), (by decide +kernel)⟩
theorem pl_X8_takeNewPublic : plainName mi_X8_takeNewPublic.1.cls = true := by decide +kernel
abbrev mi_X8_turn : Mi := (yX8_turn, cX8_turn, 4, none, 11)
theorem ok_X8_turn : okM mi_X8_turn 2 := ⟨wG_of 65 (by decide +kernel) (by decide +kernel), wG_of 639 (by decide +kernel) (by decide +kernel), (by decide +kernel), (by decide +kernel)⟩
theorem pl_X8_turn : plainName mi_X8_turn.1.cls = true := by decide +kernel
abbrev mi_X8_meetingAt : Mi := (yX8_meetingAt, cX8_meetingAt, 3, (some (.object "RatchetPost$Thing")), 10)
theorem ok_X8_meetingAt : okM mi_X8_meetingAt 2 := ⟨wG_of 65 (by decide +kernel) (by decide +kernel), wG_of 643 (by decide +kernel) (by decide +kernel), (by decide +kernel), (by decide +kernel)⟩
theorem pl_X8_meetingAt : plainName mi_X8_meetingAt.1.cls = true := by decide +kernel
abbrev mi_X8_skipTo : Mi := (yX8_skipTo, cX8_skipTo, 4, none, 10)
theorem ok_X8_skipTo : okM mi_X8_skipTo 2 := ⟨wG_of 65 (by decide +kernel) (by decide +kernel), wG_of 579 (by decide +kernel) (by decide +kernel), (by decide +kernel), (by decide +kernel)⟩
theorem pl_X8_skipTo : plainName mi_X8_skipTo.1.cls = true := by decide +kernel
abbrev mi_X8_passOne : Mi := (yX8_passOne, cX8_passOne, 2, none, 10)
theorem ok_X8_passOne : okM mi_X8_passOne 1 := ⟨wG_of 65 (by decide +kernel) (by decide +kernel), wG_of 621 (by decide +kernel) (by decide +kernel), (by decide +kernel), (by decide +kernel)⟩
theorem pl_X8_passOne : plainName mi_X8_passOne.1.cls = true := by decide +kernel
abbrev mi_X8_keyAhead : Mi := (yX8_keyAhead, cX8_keyAhead, 5, (some .int), 2)
theorem ok_X8_keyAhead : okM mi_X8_keyAhead 2 := ⟨wG_of 65 (by decide +kernel) (by decide +kernel), wG_of 575 (by decide +kernel) (by decide +kernel), (by decide +kernel), (by decide +kernel)⟩
theorem pl_X8_keyAhead : plainName mi_X8_keyAhead.1.cls = true := by decide +kernel
abbrev mi_X8_opened : Mi := (yX8_opened, cX8_opened, 4, (some .int), 2)
theorem ok_X8_opened : okM mi_X8_opened 2 := ⟨wG_of 65 (by decide +kernel) (by decide +kernel), wG_of 564 (by decide +kernel) (by decide +kernel), (by decide +kernel), (by decide +kernel)⟩
theorem pl_X8_opened : plainName mi_X8_opened.1.cls = true := by decide +kernel
abbrev mi_X8_endOldSkipped : Mi := (yX8_endOldSkipped, cX8_endOldSkipped, 2, none, 3)
theorem ok_X8_endOldSkipped : okM mi_X8_endOldSkipped 0 := ⟨wG_of 65 (by decide +kernel) (by decide +kernel), wG_of 241 (by decide +kernel) (by decide +kernel), (by decide +kernel), (by decide +kernel)⟩
theorem pl_X8_endOldSkipped : plainName mi_X8_endOldSkipped.1.cls = true := by decide +kernel
abbrev mi_X8_holdOfLetter : Mi := (yX8_holdOfLetter, cX8_holdOfLetter, 4, (some .int), 2)
theorem ok_X8_holdOfLetter : okM mi_X8_holdOfLetter 3 := ⟨wG_of 65 (by decide +kernel) (by decide +kernel), wG_of 729 (by decide +kernel) (by decide +kernel), (by decide +kernel), (by decide +kernel)⟩
theorem pl_X8_holdOfLetter : plainName mi_X8_holdOfLetter.1.cls = true := by decide +kernel
abbrev mi_X8_holdOfEnd : Mi := (yX8_holdOfEnd, cX8_holdOfEnd, 4, (some .int), 2)
theorem ok_X8_holdOfEnd : okM mi_X8_holdOfEnd 3 := ⟨wG_of 65 (by decide +kernel) (by decide +kernel), wG_of 733 (by decide +kernel) (by decide +kernel), (by decide +kernel), (by decide +kernel)⟩
theorem pl_X8_holdOfEnd : plainName mi_X8_holdOfEnd.1.cls = true := by decide +kernel
abbrev mi_X8_forgeKind : Mi := (yX8_forgeKind, cX8_forgeKind, 3, (some .int), 3)
theorem ok_X8_forgeKind : okM mi_X8_forgeKind 2 := ⟨wG_of 65 (by decide +kernel) (by decide +kernel), wG_of 772 (by decide +kernel) (by decide +kernel), (by decide +kernel), (by decide +kernel)⟩
theorem pl_X8_forgeKind : plainName mi_X8_forgeKind.1.cls = true := by decide +kernel
abbrev mi_X8_forgeHeader : Mi := (yX8_forgeHeader, cX8_forgeHeader, 4, (some .int), 2)
theorem ok_X8_forgeHeader : okM mi_X8_forgeHeader 2 := ⟨wG_of 65 (by decide +kernel) (by decide +kernel), wG_of 779 (by decide +kernel) (by decide +kernel), (by decide +kernel), (by decide +kernel)⟩
theorem pl_X8_forgeHeader : plainName mi_X8_forgeHeader.1.cls = true := by decide +kernel
abbrev mi_X8_forgeCopy : Mi := (yX8_forgeCopy, cX8_forgeCopy, 6, (some .int), 2)
theorem ok_X8_forgeCopy : okM mi_X8_forgeCopy 2 := ⟨wG_of 65 (by decide +kernel) (by decide +kernel), wG_of 783 (by decide +kernel) (by decide +kernel), (by decide +kernel), (by decide +kernel)⟩
theorem pl_X8_forgeCopy : plainName mi_X8_forgeCopy.1.cls = true := by decide +kernel
abbrev mi_X8_forgeRow : Mi := (yX8_forgeRow, cX8_forgeRow, 2, (some .int), 3)
theorem ok_X8_forgeRow : okM mi_X8_forgeRow 1 := ⟨wG_of 65 (by decide +kernel) (by decide +kernel), wG_of 787 (by decide +kernel) (by decide +kernel), (by decide +kernel), (by decide +kernel)⟩
theorem pl_X8_forgeRow : plainName mi_X8_forgeRow.1.cls = true := by decide +kernel
abbrev mi_X8_above : Mi := (yX8_above, cX8_above, 1, (some .int), 1)
theorem ok_X8_above : okM mi_X8_above 1 := ⟨wG_of 65 (by decide +kernel) (by decide +kernel), wG_of 750 (by decide +kernel) (by decide +kernel), (by decide +kernel), (by decide +kernel)⟩
theorem pl_X8_above : plainName mi_X8_above.1.cls = true := by decide +kernel
abbrev mi_X8_isUnder : Mi := (yX8_isUnder, cX8_isUnder, 4, (some .boolean), 2)
theorem ok_X8_isUnder : okM mi_X8_isUnder 2 := ⟨wG_of 65 (by decide +kernel) (by decide +kernel), wG_of 775 (by decide +kernel) (by decide +kernel), (by decide +kernel), (by decide +kernel)⟩
theorem pl_X8_isUnder : plainName mi_X8_isUnder.1.cls = true := by decide +kernel
abbrev mi_X8_ownBody : Mi := (yX8_ownBody, cX8_ownBody, 2, (some .int), 1)
theorem ok_X8_ownBody : okM mi_X8_ownBody 2 := ⟨wG_of 65 (by decide +kernel) (by decide +kernel), wG_of 747 (by decide +kernel) (by decide +kernel), (by decide +kernel), (by decide +kernel)⟩
theorem pl_X8_ownBody : plainName mi_X8_ownBody.1.cls = true := by decide +kernel
abbrev mi_X8_run (D : Nat) : Mi := (yX8_run, cX8_run, 10, (some .int), D)
theorem ok_X8_run : okM (mi_X8_run 0) 6 := ⟨wG_of 65 (by decide +kernel) (by decide +kernel), wG_of 744 (by decide +kernel) (by decide +kernel), (by decide +kernel), (by decide +kernel)⟩
theorem pl_X8_run : plainName (mi_X8_run 0).1.cls = true := by decide +kernel
theorem okD_X8_run (D : Nat) : okM (mi_X8_run D) 6 := ok_X8_run
theorem plD_X8_run (D : Nat) : plainName (mi_X8_run D).1.cls = true := pl_X8_run
abbrev mi_X8_tickOf : Mi := (yX8_tickOf, cX8_tickOf, 2, (some .int), 1)
theorem ok_X8_tickOf : okM mi_X8_tickOf 1 := ⟨wG_of 65 (by decide +kernel) (by decide +kernel), wG_of 757 (by decide +kernel) (by decide +kernel), (by decide +kernel), (by decide +kernel)⟩
theorem pl_X8_tickOf : plainName mi_X8_tickOf.1.cls = true := by decide +kernel
abbrev mi_X9_init : Mi := (yX9_init, cX9_init, 1, none, 2)
theorem ok_X9_init : okM mi_X9_init 0 := ⟨wG_of 73 (by decide +kernel) (by decide +kernel), wG_of 796 (by decide +kernel) (by decide +kernel), (by decide +kernel), (by decide +kernel)⟩
theorem pl_X9_init : plainName mi_X9_init.1.cls = true := by decide +kernel
abbrev mi_X9_in : Mi := (yX9_in, cX9_in, 3, (some .boolean), 1)
theorem ok_X9_in : okM mi_X9_in 3 := ⟨wG_of 73 (by decide +kernel) (by decide +kernel), wG_of 944 (by decide +kernel) (by decide +kernel), (by decide +kernel), (by decide +kernel)⟩
theorem pl_X9_in : plainName mi_X9_in.1.cls = true := by decide +kernel
abbrev mi_X9_refused : Mi := (yX9_refused, cX9_refused, 2, (some .int), 1)
theorem ok_X9_refused : okM mi_X9_refused 1 := ⟨wG_of 73 (by decide +kernel) (by decide +kernel), wG_of 948 (by decide +kernel) (by decide +kernel), (by decide +kernel), (by decide +kernel)⟩
theorem pl_X9_refused : plainName mi_X9_refused.1.cls = true := by decide +kernel
abbrev mi_X9_done : Mi := (yX9_done, cX9_done, 2, (some .int), 1)
theorem ok_X9_done : okM mi_X9_done 1 := ⟨wG_of 73 (by decide +kernel) (by decide +kernel), wG_of 952 (by decide +kernel) (by decide +kernel), (by decide +kernel), (by decide +kernel)⟩
theorem pl_X9_done : plainName mi_X9_done.1.cls = true := by decide +kernel
abbrev mi_X9_isEnd : Mi := (yX9_isEnd, cX9_isEnd, 2, (some .boolean), 2)
theorem ok_X9_isEnd : okM mi_X9_isEnd 1 := ⟨wG_of 73 (by decide +kernel) (by decide +kernel), wG_of 976 (by decide +kernel) (by decide +kernel), (by decide +kernel), (by decide +kernel)⟩
theorem pl_X9_isEnd : plainName mi_X9_isEnd.1.cls = true := by decide +kernel
abbrev mi_X9_isLetter : Mi := (yX9_isLetter, cX9_isLetter, 2, (some .boolean), 2)
theorem ok_X9_isLetter : okM mi_X9_isLetter 1 := ⟨wG_of 73 (by decide +kernel) (by decide +kernel), wG_of 1028 (by decide +kernel) (by decide +kernel), (by decide +kernel), (by decide +kernel)⟩
theorem pl_X9_isLetter : plainName mi_X9_isLetter.1.cls = true := by decide +kernel
abbrev mi_X9_mix : Mi := (yX9_mix, cX9_mix, 3, (some .int), 1)
theorem ok_X9_mix : okM mi_X9_mix 2 := ⟨wG_of 73 (by decide +kernel) (by decide +kernel), wG_of 1008 (by decide +kernel) (by decide +kernel), (by decide +kernel), (by decide +kernel)⟩
theorem pl_X9_mix : plainName mi_X9_mix.1.cls = true := by decide +kernel
abbrev mi_X9_power : Mi := (yX9_power, cX9_power, 5, (some .int), 1)
theorem ok_X9_power : okM mi_X9_power 2 := ⟨wG_of 73 (by decide +kernel) (by decide +kernel), wG_of 1000 (by decide +kernel) (by decide +kernel), (by decide +kernel), (by decide +kernel)⟩
theorem pl_X9_power : plainName mi_X9_power.1.cls = true := by decide +kernel
abbrev mi_X9_publicOf : Mi := (yX9_publicOf, cX9_publicOf, 2, (some .int), 2)
theorem ok_X9_publicOf : okM mi_X9_publicOf 1 := ⟨wG_of 73 (by decide +kernel) (by decide +kernel), wG_of 996 (by decide +kernel) (by decide +kernel), (by decide +kernel), (by decide +kernel)⟩
theorem pl_X9_publicOf : plainName mi_X9_publicOf.1.cls = true := by decide +kernel
abbrev mi_X9_thing : Mi := (yX9_thing, cX9_thing, 6, (some .int), 1)
theorem ok_X9_thing : okM mi_X9_thing 4 := ⟨wG_of 73 (by decide +kernel) (by decide +kernel), wG_of 980 (by decide +kernel) (by decide +kernel), (by decide +kernel), (by decide +kernel)⟩
theorem pl_X9_thing : plainName mi_X9_thing.1.cls = true := by decide +kernel
abbrev mi_X9_meeting : Mi := (yX9_meeting, cX9_meeting, 5, (some .int), 3)
theorem ok_X9_meeting : okM mi_X9_meeting 2 := ⟨wG_of 73 (by decide +kernel) (by decide +kernel), wG_of 992 (by decide +kernel) (by decide +kernel), (by decide +kernel), (by decide +kernel)⟩
theorem pl_X9_meeting : plainName mi_X9_meeting.1.cls = true := by decide +kernel
abbrev mi_X9_rootOf : Mi := (yX9_rootOf, cX9_rootOf, 3, (some .int), 2)
theorem ok_X9_rootOf : okM mi_X9_rootOf 2 := ⟨wG_of 73 (by decide +kernel) (by decide +kernel), wG_of 1004 (by decide +kernel) (by decide +kernel), (by decide +kernel), (by decide +kernel)⟩
theorem pl_X9_rootOf : plainName mi_X9_rootOf.1.cls = true := by decide +kernel
abbrev mi_X9_chainOf : Mi := (yX9_chainOf, cX9_chainOf, 2, (some .int), 2)
theorem ok_X9_chainOf : okM mi_X9_chainOf 1 := ⟨wG_of 73 (by decide +kernel) (by decide +kernel), wG_of 1012 (by decide +kernel) (by decide +kernel), (by decide +kernel), (by decide +kernel)⟩
theorem pl_X9_chainOf : plainName mi_X9_chainOf.1.cls = true := by decide +kernel
abbrev mi_X9_keyOf : Mi := (yX9_keyOf, cX9_keyOf, 2, (some .int), 2)
theorem ok_X9_keyOf : okM mi_X9_keyOf 1 := ⟨wG_of 73 (by decide +kernel) (by decide +kernel), wG_of 1020 (by decide +kernel) (by decide +kernel), (by decide +kernel), (by decide +kernel)⟩
theorem pl_X9_keyOf : plainName mi_X9_keyOf.1.cls = true := by decide +kernel
abbrev mi_X9_prime : Mi := (yX9_prime, cX9_prime, 3, (some .int), 2)
theorem ok_X9_prime : okM mi_X9_prime 2 := ⟨wG_of 73 (by decide +kernel) (by decide +kernel), wG_of 941 (by decide +kernel) (by decide +kernel), (by decide +kernel), (by decide +kernel)⟩
theorem pl_X9_prime : plainName mi_X9_prime.1.cls = true := by decide +kernel
abbrev mi_X9_limits : Mi := (yX9_limits, cX9_limits, 3, (some .int), 3)
theorem ok_X9_limits : okM mi_X9_limits 2 := ⟨wG_of 73 (by decide +kernel) (by decide +kernel), wG_of 956 (by decide +kernel) (by decide +kernel), (by decide +kernel), (by decide +kernel)⟩
theorem pl_X9_limits : plainName mi_X9_limits.1.cls = true := by decide +kernel
abbrev mi_X9_pair : Mi := (yX9_pair, cX9_pair, 1, (some .int), 2)
theorem ok_X9_pair : okM mi_X9_pair 0 := ⟨wG_of 73 (by decide +kernel) (by decide +kernel), wG_of 968 (by decide +kernel) (by decide +kernel), (by decide +kernel), (by decide +kernel)⟩
theorem pl_X9_pair : plainName mi_X9_pair.1.cls = true := by decide +kernel
abbrev mi_X9_secret : Mi := (yX9_secret, cX9_secret, 3, (some .int), 3)
theorem ok_X9_secret : okM mi_X9_secret 2 := ⟨wG_of 73 (by decide +kernel) (by decide +kernel), wG_of 972 (by decide +kernel) (by decide +kernel), (by decide +kernel), (by decide +kernel)⟩
theorem pl_X9_secret : plainName mi_X9_secret.1.cls = true := by decide +kernel
abbrev mi_X9_next : Mi := (yX9_next, cX9_next, 4, (some .int), 1)
theorem ok_X9_next : okM mi_X9_next 1 := ⟨wG_of 73 (by decide +kernel) (by decide +kernel), wG_of 988 (by decide +kernel) (by decide +kernel), (by decide +kernel), (by decide +kernel)⟩
theorem pl_X9_next : plainName mi_X9_next.1.cls = true := by decide +kernel
abbrev mi_X9_start : Mi := (yX9_start, cX9_start, 7, (some .int), 4)
theorem ok_X9_start : okM mi_X9_start 1 := ⟨wG_of 73 (by decide +kernel) (by decide +kernel), wG_of 984 (by decide +kernel) (by decide +kernel), (by decide +kernel), (by decide +kernel)⟩
theorem pl_X9_start : plainName mi_X9_start.1.cls = true := by decide +kernel
abbrev mi_X9_send : Mi := (yX9_send, cX9_send, 5, (some .int), 3)
theorem ok_X9_send : okM mi_X9_send 2 := ⟨wG_of 73 (by decide +kernel) (by decide +kernel), wG_of 1016 (by decide +kernel) (by decide +kernel), (by decide +kernel), (by decide +kernel)⟩
theorem pl_X9_send : plainName mi_X9_send.1.cls = true := by decide +kernel
abbrev mi_X9_alter : Mi := (yX9_alter, cX9_alter, 3, (some .int), 3)
theorem ok_X9_alter : okM mi_X9_alter 2 := ⟨wG_of 73 (by decide +kernel) (by decide +kernel), wG_of 1024 (by decide +kernel) (by decide +kernel), (by decide +kernel), (by decide +kernel)⟩
theorem pl_X9_alter : plainName mi_X9_alter.1.cls = true := by decide +kernel
abbrev mi_X9_drops : Mi := (yX9_drops, cX9_drops, 4, none, 1)
theorem ok_X9_drops : okM mi_X9_drops 2 := ⟨wG_of 73 (by decide +kernel) (by decide +kernel), wG_of 964 (by decide +kernel) (by decide +kernel), (by decide +kernel), (by decide +kernel)⟩
theorem pl_X9_drops : plainName mi_X9_drops.1.cls = true := by decide +kernel
abbrev mi_X9_expire : Mi := (yX9_expire, cX9_expire, 3, none, 2)
theorem ok_X9_expire : okM mi_X9_expire 0 := ⟨wG_of 73 (by decide +kernel) (by decide +kernel), wG_of 960 (by decide +kernel) (by decide +kernel), (by decide +kernel), (by decide +kernel)⟩
theorem pl_X9_expire : plainName mi_X9_expire.1.cls = true := by decide +kernel
abbrev mi_X9_keep : Mi := (yX9_keep, cX9_keep, 5, none, 2)
theorem ok_X9_keep : okM mi_X9_keep 3 := ⟨wG_of 73 (by decide +kernel) (by decide +kernel), wG_of 1060 (by decide +kernel) (by decide +kernel), (by decide +kernel), (by decide +kernel)⟩
theorem pl_X9_keep : plainName mi_X9_keep.1.cls = true := by decide +kernel
abbrev mi_X9_keptOf : Mi := (yX9_keptOf, cX9_keptOf, 4, (some .int), 1)
theorem ok_X9_keptOf : okM mi_X9_keptOf 2 := ⟨wG_of 73 (by decide +kernel) (by decide +kernel), wG_of 1036 (by decide +kernel) (by decide +kernel), (by decide +kernel), (by decide +kernel)⟩
theorem pl_X9_keptOf : plainName mi_X9_keptOf.1.cls = true := by decide +kernel
abbrev mi_X9_skip : Mi := (yX9_skip, cX9_skip, 3, none, 3)
theorem ok_X9_skip : okM mi_X9_skip 2 := ⟨wG_of 73 (by decide +kernel) (by decide +kernel), wG_of 1056 (by decide +kernel) (by decide +kernel), (by decide +kernel), (by decide +kernel)⟩
theorem pl_X9_skip : plainName mi_X9_skip.1.cls = true := by decide +kernel
abbrev mi_X9_byteOf : Mi := (yX9_byteOf, cX9_byteOf, 3, (some .int), 1)
theorem ok_X9_byteOf : okM mi_X9_byteOf 2 := ⟨wG_of 73 (by decide +kernel) (by decide +kernel), wG_of 1044 (by decide +kernel) (by decide +kernel), (by decide +kernel), (by decide +kernel)⟩
theorem pl_X9_byteOf : plainName mi_X9_byteOf.1.cls = true := by decide +kernel
abbrev mi_X9_isGood : Mi := (yX9_isGood, cX9_isGood, 3, (some .boolean), 2)
theorem ok_X9_isGood : okM mi_X9_isGood 2 := ⟨wG_of 73 (by decide +kernel) (by decide +kernel), wG_of 1040 (by decide +kernel) (by decide +kernel), (by decide +kernel), (by decide +kernel)⟩
theorem pl_X9_isGood : plainName mi_X9_isGood.1.cls = true := by decide +kernel
abbrev mi_X9_keyBehind : Mi := (yX9_keyBehind, cX9_keyBehind, 5, (some .int), 2)
theorem ok_X9_keyBehind : okM mi_X9_keyBehind 2 := ⟨wG_of 73 (by decide +kernel) (by decide +kernel), wG_of 1052 (by decide +kernel) (by decide +kernel), (by decide +kernel), (by decide +kernel)⟩
theorem pl_X9_keyBehind : plainName mi_X9_keyBehind.1.cls = true := by decide +kernel
abbrev mi_X9_hasLeft : Mi := (yX9_hasLeft, cX9_hasLeft, 5, (some .boolean), 1)
theorem ok_X9_hasLeft : okM mi_X9_hasLeft 2 := ⟨wG_of 73 (by decide +kernel) (by decide +kernel), wG_of 1072 (by decide +kernel) (by decide +kernel), (by decide +kernel), (by decide +kernel)⟩
theorem pl_X9_hasLeft : plainName mi_X9_hasLeft.1.cls = true := by decide +kernel
abbrev mi_X9_take : Mi := (yX9_take, cX9_take, 5, (some .int), 5)
theorem ok_X9_take : okM mi_X9_take 2 := ⟨wG_of 73 (by decide +kernel) (by decide +kernel), wG_of 1032 (by decide +kernel) (by decide +kernel), (by decide +kernel), (by decide +kernel)⟩
theorem pl_X9_take : plainName mi_X9_take.1.cls = true := by decide +kernel
abbrev mi_X9_further : Mi := (yX9_further, cX9_further, 5, (some .int), 4)
theorem ok_X9_further : okM mi_X9_further 2 := ⟨wG_of 73 (by decide +kernel) (by decide +kernel), wG_of 1048 (by decide +kernel) (by decide +kernel), (by decide +kernel), (by decide +kernel)⟩
theorem pl_X9_further : plainName mi_X9_further.1.cls = true := by decide +kernel
abbrev mi_X9_opened : Mi := (yX9_opened, cX9_opened, 2, none, 3)
theorem ok_X9_opened : okM mi_X9_opened 1 := ⟨wG_of 73 (by decide +kernel) (by decide +kernel), wG_of 1064 (by decide +kernel) (by decide +kernel), (by decide +kernel), (by decide +kernel)⟩
theorem pl_X9_opened : plainName mi_X9_opened.1.cls = true := by decide +kernel
abbrev mi_X9_anew : Mi := (yX9_anew, cX9_anew, 8, (some .int), 4)
theorem ok_X9_anew : okM mi_X9_anew 3 := ⟨wG_of 73 (by decide +kernel) (by decide +kernel), wG_of 1068 (by decide +kernel) (by decide +kernel), (by decide +kernel), (by decide +kernel)⟩
theorem pl_X9_anew : plainName mi_X9_anew.1.cls = true := by decide +kernel
abbrev mi_X9_shows : Mi := (yX9_shows, cX9_shows, 2, none, 1)
theorem ok_X9_shows : okM mi_X9_shows 1 := ⟨wG_of 73 (by decide +kernel) (by decide +kernel), wG_of 1080 (by decide +kernel) (by decide +kernel), (by decide +kernel), (by decide +kernel)⟩
theorem pl_X9_shows : plainName mi_X9_shows.1.cls = true := by decide +kernel
abbrev mi_X9_see : Mi := (yX9_see, cX9_see, 3, (some .int), 3)
theorem ok_X9_see : okM mi_X9_see 1 := ⟨wG_of 73 (by decide +kernel) (by decide +kernel), wG_of 1076 (by decide +kernel) (by decide +kernel), (by decide +kernel), (by decide +kernel)⟩
theorem pl_X9_see : plainName mi_X9_see.1.cls = true := by decide +kernel
abbrev mi_X9_know : Mi := (yX9_know, cX9_know, 5, none, 1)
theorem ok_X9_know : okM mi_X9_know 0 := ⟨wG_of 73 (by decide +kernel) (by decide +kernel), wG_of 1088 (by decide +kernel) (by decide +kernel), (by decide +kernel), (by decide +kernel)⟩
theorem pl_X9_know : plainName mi_X9_know.1.cls = true := by decide +kernel
abbrev mi_X9_known : Mi := (yX9_known, cX9_known, 2, (some .int), 3)
theorem ok_X9_known : okM mi_X9_known 1 := ⟨wG_of 73 (by decide +kernel) (by decide +kernel), wG_of 1084 (by decide +kernel) (by decide +kernel), (by decide +kernel), (by decide +kernel)⟩
theorem pl_X9_known : plainName mi_X9_known.1.cls = true := by decide +kernel
abbrev mi_X9_steps : Mi := (yX9_steps, cX9_steps, 2, (some .int), 3)
theorem ok_X9_steps : okM mi_X9_steps 1 := ⟨wG_of 73 (by decide +kernel) (by decide +kernel), wG_of 1092 (by decide +kernel) (by decide +kernel), (by decide +kernel), (by decide +kernel)⟩
theorem pl_X9_steps : plainName mi_X9_steps.1.cls = true := by decide +kernel
abbrev mi_X9_heals : Mi := (yX9_heals, cX9_heals, 4, (some .int), 2)
theorem ok_X9_heals : okM mi_X9_heals 1 := ⟨wG_of 73 (by decide +kernel) (by decide +kernel), wG_of 1096 (by decide +kernel) (by decide +kernel), (by decide +kernel), (by decide +kernel)⟩
theorem pl_X9_heals : plainName mi_X9_heals.1.cls = true := by decide +kernel
abbrev mi_X9_same : Mi := (yX9_same, cX9_same, 4, (some .int), 2)
theorem ok_X9_same : okM mi_X9_same 1 := ⟨wG_of 73 (by decide +kernel) (by decide +kernel), wG_of 1100 (by decide +kernel) (by decide +kernel), (by decide +kernel), (by decide +kernel)⟩
theorem pl_X9_same : plainName mi_X9_same.1.cls = true := by decide +kernel
abbrev mi_X9_worthOf : Mi := (yX9_worthOf, cX9_worthOf, 2, (some .int), 1)
theorem ok_X9_worthOf : okM mi_X9_worthOf 1 := ⟨wG_of 73 (by decide +kernel) (by decide +kernel), wG_of 1108 (by decide +kernel) (by decide +kernel), (by decide +kernel), (by decide +kernel)⟩
theorem pl_X9_worthOf : plainName mi_X9_worthOf.1.cls = true := by decide +kernel
abbrev mi_X9_told : Mi := (yX9_told, cX9_told, 3, (some .int), 3)
theorem ok_X9_told : okM mi_X9_told 2 := ⟨wG_of 73 (by decide +kernel) (by decide +kernel), wG_of 1104 (by decide +kernel) (by decide +kernel), (by decide +kernel), (by decide +kernel)⟩
theorem pl_X9_told : plainName mi_X9_told.1.cls = true := by decide +kernel
abbrev mi_X9_skipped : Mi := (yX9_skipped, cX9_skipped, 5, (some .int), 3)
theorem ok_X9_skipped : okM mi_X9_skipped 3 := ⟨wG_of 73 (by decide +kernel) (by decide +kernel), wG_of 1112 (by decide +kernel) (by decide +kernel), (by decide +kernel), (by decide +kernel)⟩
theorem pl_X9_skipped : plainName mi_X9_skipped.1.cls = true := by decide +kernel
abbrev mi_X9_letter : Mi := (yX9_letter, cX9_letter, 3, (some .int), 3)
theorem ok_X9_letter : okM mi_X9_letter 2 := ⟨wG_of 73 (by decide +kernel) (by decide +kernel), wG_of 1116 (by decide +kernel) (by decide +kernel), (by decide +kernel), (by decide +kernel)⟩
theorem pl_X9_letter : plainName mi_X9_letter.1.cls = true := by decide +kernel
abbrev mi_X9_knownThings : Mi := (yX9_knownThings, cX9_knownThings, 3, (some .int), 2)
theorem ok_X9_knownThings : okM mi_X9_knownThings 0 := ⟨wG_of 73 (by decide +kernel) (by decide +kernel), wG_of 1124 (by decide +kernel) (by decide +kernel), (by decide +kernel), (by decide +kernel)⟩
theorem pl_X9_knownThings : plainName mi_X9_knownThings.1.cls = true := by decide +kernel
abbrev mi_X9_count : Mi := (yX9_count, cX9_count, 2, (some .int), 3)
theorem ok_X9_count : okM mi_X9_count 1 := ⟨wG_of 73 (by decide +kernel) (by decide +kernel), wG_of 1120 (by decide +kernel) (by decide +kernel), (by decide +kernel), (by decide +kernel)⟩
theorem pl_X9_count : plainName mi_X9_count.1.cls = true := by decide +kernel
abbrev mi_X9_puts : Mi := (yX9_puts, cX9_puts, 4, (some .int), 2)
theorem ok_X9_puts : okM mi_X9_puts 3 := ⟨wG_of 73 (by decide +kernel) (by decide +kernel), wG_of 1132 (by decide +kernel) (by decide +kernel), (by decide +kernel), (by decide +kernel)⟩
theorem pl_X9_puts : plainName mi_X9_puts.1.cls = true := by decide +kernel
abbrev mi_X9_hold : Mi := (yX9_hold, cX9_hold, 5, (some .int), 3)
theorem ok_X9_hold : okM mi_X9_hold 3 := ⟨wG_of 73 (by decide +kernel) (by decide +kernel), wG_of 1128 (by decide +kernel) (by decide +kernel), (by decide +kernel), (by decide +kernel)⟩
theorem pl_X9_hold : plainName mi_X9_hold.1.cls = true := by decide +kernel
abbrev mi_X9_tray : Mi := (yX9_tray, cX9_tray, 2, (some .int), 2)
theorem ok_X9_tray : okM mi_X9_tray 1 := ⟨wG_of 73 (by decide +kernel) (by decide +kernel), wG_of 1136 (by decide +kernel) (by decide +kernel), (by decide +kernel), (by decide +kernel)⟩
theorem pl_X9_tray : plainName mi_X9_tray.1.cls = true := by decide +kernel
abbrev mi_X9_ran : Mi := (yX9_ran, cX9_ran, 2, none, 1)
theorem ok_X9_ran : okM mi_X9_ran 1 := ⟨wG_of 73 (by decide +kernel) (by decide +kernel), wG_of 1151 (by decide +kernel) (by decide +kernel), (by decide +kernel), (by decide +kernel)⟩
theorem pl_X9_ran : plainName mi_X9_ran.1.cls = true := by decide +kernel
abbrev mi_X9_isChain : Mi := (yX9_isChain, cX9_isChain, 1, (some .boolean), 1)
theorem ok_X9_isChain : okM mi_X9_isChain 1 := ⟨wG_of 73 (by decide +kernel) (by decide +kernel), wG_of 1147 (by decide +kernel) (by decide +kernel), (by decide +kernel), (by decide +kernel)⟩
theorem pl_X9_isChain : plainName mi_X9_isChain.1.cls = true := by decide +kernel
abbrev mi_X9_move : Mi := (yX9_move, cX9_move, 4, (some .int), 2)
theorem ok_X9_move : okM mi_X9_move 3 := ⟨wG_of 73 (by decide +kernel) (by decide +kernel), wG_of 1144 (by decide +kernel) (by decide +kernel), (by decide +kernel), (by decide +kernel)⟩
theorem pl_X9_move : plainName mi_X9_move.1.cls = true := by decide +kernel
abbrev mi_X9_mixed : Mi := (yX9_mixed, cX9_mixed, 5, (some .int), 3)
theorem ok_X9_mixed : okM mi_X9_mixed 3 := ⟨wG_of 73 (by decide +kernel) (by decide +kernel), wG_of 1155 (by decide +kernel) (by decide +kernel), (by decide +kernel), (by decide +kernel)⟩
theorem pl_X9_mixed : plainName mi_X9_mixed.1.cls = true := by decide +kernel
abbrev mi_X9_tell : Mi := (yX9_tell, cX9_tell, 4, (some .int), 2)
theorem ok_X9_tell : okM mi_X9_tell 3 := ⟨wG_of 73 (by decide +kernel) (by decide +kernel), wG_of 1167 (by decide +kernel) (by decide +kernel), (by decide +kernel), (by decide +kernel)⟩
theorem pl_X9_tell : plainName mi_X9_tell.1.cls = true := by decide +kernel
abbrev mi_X9_keyEnd : Mi := (yX9_keyEnd, cX9_keyEnd, 5, (some .int), 4)
theorem ok_X9_keyEnd : okM mi_X9_keyEnd 3 := ⟨wG_of 73 (by decide +kernel) (by decide +kernel), wG_of 1163 (by decide +kernel) (by decide +kernel), (by decide +kernel), (by decide +kernel)⟩
theorem pl_X9_keyEnd : plainName mi_X9_keyEnd.1.cls = true := by decide +kernel
abbrev mi_X9_ended : Mi := (yX9_ended, cX9_ended, 5, (some .int), 5)
theorem ok_X9_ended : okM mi_X9_ended 4 := ⟨wG_of 73 (by decide +kernel) (by decide +kernel), wG_of 1159 (by decide +kernel) (by decide +kernel), (by decide +kernel), (by decide +kernel)⟩
theorem pl_X9_ended : plainName mi_X9_ended.1.cls = true := by decide +kernel
abbrev mi_X9_act : Mi := (yX9_act, cX9_act, 6, (some .int), 6)
theorem ok_X9_act : okM mi_X9_act 3 := ⟨wG_of 73 (by decide +kernel) (by decide +kernel), wG_of 1140 (by decide +kernel) (by decide +kernel), (by decide +kernel), (by decide +kernel)⟩
theorem pl_X9_act : plainName mi_X9_act.1.cls = true := by decide +kernel
abbrev mi_X9_trace : Mi := (yX9_trace, cX9_trace, 2, (some .int), 2)
theorem ok_X9_trace : okM mi_X9_trace 1 := ⟨wG_of 73 (by decide +kernel) (by decide +kernel), wG_of 1171 (by decide +kernel) (by decide +kernel), (by decide +kernel), (by decide +kernel)⟩
theorem pl_X9_trace : plainName mi_X9_trace.1.cls = true := by decide +kernel
abbrev mi_X9_isOf : Mi := (yX9_isOf, cX9_isOf, 2, (some .boolean), 1)
theorem ok_X9_isOf : okM mi_X9_isOf 2 := ⟨wG_of 73 (by decide +kernel) (by decide +kernel), wG_of 1178 (by decide +kernel) (by decide +kernel), (by decide +kernel), (by decide +kernel)⟩
theorem pl_X9_isOf : plainName mi_X9_isOf.1.cls = true := by decide +kernel
abbrev mi_X9_header : Mi := (yX9_header, cX9_header, 3, (some .int), 1)
theorem ok_X9_header : okM mi_X9_header 2 := ⟨wG_of 73 (by decide +kernel) (by decide +kernel), wG_of 1182 (by decide +kernel) (by decide +kernel), (by decide +kernel), (by decide +kernel)⟩
theorem pl_X9_header : plainName mi_X9_header.1.cls = true := by decide +kernel
abbrev mi_X9_forge : Mi := (yX9_forge, cX9_forge, 7, (some .int), 2)
theorem ok_X9_forge : okM mi_X9_forge 3 := ⟨wG_of 73 (by decide +kernel) (by decide +kernel), wG_of 1175 (by decide +kernel) (by decide +kernel), (by decide +kernel), (by decide +kernel)⟩
theorem pl_X9_forge : plainName mi_X9_forge.1.cls = true := by decide +kernel
abbrev mi_X9_status : Mi := (yX9_status, cX9_status, 1, (some .int), 1)
theorem ok_X9_status : okM mi_X9_status 0 := ⟨wG_of 73 (by decide +kernel) (by decide +kernel), wG_of 1186 (by decide +kernel) (by decide +kernel), (by decide +kernel), (by decide +kernel)⟩
theorem pl_X9_status : plainName mi_X9_status.1.cls = true := by decide +kernel
abbrev mi_J9_floorMod_7cf53 : Mi := (yJ9_floorMod_7cf53, cJ9_floorMod_7cf53, 3, (some .int), 1)
theorem ok_J9_floorMod_7cf53 : okM mi_J9_floorMod_7cf53 2 := ⟨wG_of 77 (by decide +kernel) (by decide +kernel), wG_of 768 (by decide +kernel) (by decide +kernel), (by decide +kernel), (by decide +kernel)⟩
abbrev mi_J9_max_7cf53 : Mi := (yJ9_max_7cf53, cJ9_max_7cf53, 2, (some .int), 1)
theorem ok_J9_max_7cf53 : okM mi_J9_max_7cf53 2 := ⟨wG_of 77 (by decide +kernel) (by decide +kernel), wG_of 397 (by decide +kernel) (by decide +kernel), (by decide +kernel), (by decide +kernel)⟩
abbrev mi_J9_min_7cf53 : Mi := (yJ9_min_7cf53, cJ9_min_7cf53, 2, (some .int), 1)
theorem ok_J9_min_7cf53 : okM mi_J9_min_7cf53 2 := ⟨wG_of 77 (by decide +kernel) (by decide +kernel), wG_of 428 (by decide +kernel) (by decide +kernel), (by decide +kernel), (by decide +kernel)⟩
abbrev mi_Jxa1e45_init_da8c8 : Mi := (yJxa1e45_init_da8c8, cJxa1e45_init_da8c8, 1, none, 2)
theorem ok_Jxa1e45_init_da8c8 : okM mi_Jxa1e45_init_da8c8 0 := ⟨wG_of 68 (by decide +kernel) (by decide +kernel), wG_of 123 (by decide +kernel) (by decide +kernel), (by decide +kernel), (by decide +kernel)⟩
theorem pl_Jxa1e45_init_da8c8 : plainName mi_Jxa1e45_init_da8c8.1.cls = true := by decide +kernel
abbrev mi_Jxc12de_init_da8c8 : Mi := (yJxc12de_init_da8c8, cJxc12de_init_da8c8, 1, none, 3)
theorem ok_Jxc12de_init_da8c8 : okM mi_Jxc12de_init_da8c8 0 := ⟨wG_of 69 (by decide +kernel) (by decide +kernel), wG_of 120 (by decide +kernel) (by decide +kernel), (by decide +kernel), (by decide +kernel)⟩
theorem pl_Jxc12de_init_da8c8 : plainName mi_Jxc12de_init_da8c8.1.cls = true := by decide +kernel
abbrev mi_Jx4a65c_init_da8c8 : Mi := (yJx4a65c_init_da8c8, cJx4a65c_init_da8c8, 1, none, 4)
theorem ok_Jx4a65c_init_da8c8 : okM mi_Jx4a65c_init_da8c8 0 := ⟨wG_of 70 (by decide +kernel) (by decide +kernel), wG_of 117 (by decide +kernel) (by decide +kernel), (by decide +kernel), (by decide +kernel)⟩
theorem pl_Jx4a65c_init_da8c8 : plainName mi_Jx4a65c_init_da8c8.1.cls = true := by decide +kernel
abbrev mi_Jx4a65c_grow_92f84 : Mi := (yJx4a65c_grow_92f84, cJx4a65c_grow_92f84, 4, (some (.array (.object "java/lang/Object"))), 4)
theorem ok_Jx4a65c_grow_92f84 : okM mi_Jx4a65c_grow_92f84 1 := ⟨wG_of 70 (by decide +kernel) (by decide +kernel), wG_of 391 (by decide +kernel) (by decide +kernel), (by decide +kernel), (by decide +kernel)⟩
theorem pl_Jx4a65c_grow_92f84 : plainName mi_Jx4a65c_grow_92f84.1.cls = true := by decide +kernel
abbrev mi_Jx4a65c_grow_d5877 : Mi := (yJx4a65c_grow_d5877, cJx4a65c_grow_d5877, 1, (some (.array (.object "java/lang/Object"))), 5)
theorem ok_Jx4a65c_grow_d5877 : okM mi_Jx4a65c_grow_d5877 0 := ⟨wG_of 70 (by decide +kernel) (by decide +kernel), wG_of 387 (by decide +kernel) (by decide +kernel), (by decide +kernel), (by decide +kernel)⟩
theorem pl_Jx4a65c_grow_d5877 : plainName mi_Jx4a65c_grow_d5877.1.cls = true := by decide +kernel
abbrev mi_Jx4a65c_size_8abf5 : Mi := (yJx4a65c_size_8abf5, cJx4a65c_size_8abf5, 1, (some .int), 1)
theorem ok_Jx4a65c_size_8abf5 : okM mi_Jx4a65c_size_8abf5 0 := ⟨wG_of 70 (by decide +kernel) (by decide +kernel), wG_of 663 (by decide +kernel) (by decide +kernel), (by decide +kernel), (by decide +kernel)⟩
theorem pl_Jx4a65c_size_8abf5 : plainName mi_Jx4a65c_size_8abf5.1.cls = true := by decide +kernel
abbrev mi_Jx4a65c_elementData_915e3 : Mi := (yJx4a65c_elementData_915e3, cJx4a65c_elementData_915e3, 2, (some (.object "java/lang/Object")), 1)
theorem ok_Jx4a65c_elementData_915e3 : okM mi_Jx4a65c_elementData_915e3 1 := ⟨wG_of 70 (by decide +kernel) (by decide +kernel), wG_of 677 (by decide +kernel) (by decide +kernel), (by decide +kernel), (by decide +kernel)⟩
theorem pl_Jx4a65c_elementData_915e3 : plainName mi_Jx4a65c_elementData_915e3.1.cls = true := by decide +kernel
abbrev mi_Jx4a65c_get_915e3 : Mi := (yJx4a65c_get_915e3, cJx4a65c_get_915e3, 2, (some (.object "java/lang/Object")), 4)
theorem ok_Jx4a65c_get_915e3 : okM mi_Jx4a65c_get_915e3 1 := ⟨wG_of 70 (by decide +kernel) (by decide +kernel), wG_of 667 (by decide +kernel) (by decide +kernel), (by decide +kernel), (by decide +kernel)⟩
theorem pl_Jx4a65c_get_915e3 : plainName mi_Jx4a65c_get_915e3.1.cls = true := by decide +kernel
abbrev mi_Jx4a65c_add_72be8 : Mi := (yJx4a65c_add_72be8, cJx4a65c_add_72be8, 4, none, 6)
theorem ok_Jx4a65c_add_72be8 : okM mi_Jx4a65c_add_72be8 3 := ⟨wG_of 70 (by decide +kernel) (by decide +kernel), wG_of 383 (by decide +kernel) (by decide +kernel), (by decide +kernel), (by decide +kernel)⟩
theorem pl_Jx4a65c_add_72be8 : plainName mi_Jx4a65c_add_72be8.1.cls = true := by decide +kernel
abbrev mi_Jx4a65c_add_9ea2d : Mi := (yJx4a65c_add_9ea2d, cJx4a65c_add_9ea2d, 2, (some .boolean), 7)
theorem ok_Jx4a65c_add_9ea2d : okM mi_Jx4a65c_add_9ea2d 1 := ⟨wG_of 70 (by decide +kernel) (by decide +kernel), wG_of 379 (by decide +kernel) (by decide +kernel), (by decide +kernel), (by decide +kernel)⟩
theorem pl_Jx4a65c_add_9ea2d : plainName mi_Jx4a65c_add_9ea2d.1.cls = true := by decide +kernel
abbrev mi_J7_copyOf_1904c : Mi := (yJ7_copyOf_1904c, cJ7_copyOf_1904c, 2, (some (.array (.object "java/lang/Object"))), 3)
theorem ok_J7_copyOf_1904c : okM mi_J7_copyOf_1904c 2 := ⟨wG_of 78 (by decide +kernel) (by decide +kernel), wG_of 404 (by decide +kernel) (by decide +kernel), (by decide +kernel), (by decide +kernel)⟩
theorem pl_J7_copyOf_1904c : plainName mi_J7_copyOf_1904c.1.cls = true := by decide +kernel
abbrev mi_J7_copyOf_6403c : Mi := (yJ7_copyOf_6403c, cJ7_copyOf_6403c, 4, (some (.array (.object "java/lang/Object"))), 2)
theorem ok_J7_copyOf_6403c : okM mi_J7_copyOf_6403c 3 := ⟨wG_of 78 (by decide +kernel) (by decide +kernel), wG_of 422 (by decide +kernel) (by decide +kernel), (by decide +kernel), (by decide +kernel)⟩
theorem pl_J7_copyOf_6403c : plainName mi_J7_copyOf_6403c.1.cls = true := by decide +kernel
abbrev mi_J15_checkIndex_7cf53 : Mi := (yJ15_checkIndex_7cf53, cJ15_checkIndex_7cf53, 2, (some .int), 3)
theorem ok_J15_checkIndex_7cf53 : okM mi_J15_checkIndex_7cf53 2 := ⟨wG_of 82 (by decide +kernel) (by decide +kernel), wG_of 670 (by decide +kernel) (by decide +kernel), (by decide +kernel), (by decide +kernel)⟩
theorem pl_J15_checkIndex_7cf53 : plainName mi_J15_checkIndex_7cf53.1.cls = true := by decide +kernel
abbrev mi_J8_newLength_cabcc : Mi := (yJ8_newLength_cabcc, cJ8_newLength_cabcc, 4, (some .int), 3)
theorem ok_J8_newLength_cabcc : okM mi_J8_newLength_cabcc 3 := ⟨wG_of 76 (by decide +kernel) (by decide +kernel), wG_of 394 (by decide +kernel) (by decide +kernel), (by decide +kernel), (by decide +kernel)⟩
theorem pl_J8_newLength_cabcc : plainName mi_J8_newLength_cabcc.1.cls = true := by decide +kernel
abbrev mi_J8_hugeLength_7cf53 : Mi := (yJ8_hugeLength_7cf53, cJ8_hugeLength_7cf53, 3, (some .int), 2)
theorem ok_J8_hugeLength_7cf53 : okM mi_J8_hugeLength_7cf53 2 := ⟨wG_of 76 (by decide +kernel) (by decide +kernel), wG_of 401 (by decide +kernel) (by decide +kernel), (by decide +kernel), (by decide +kernel)⟩
theorem pl_J8_hugeLength_7cf53 : plainName mi_J8_hugeLength_7cf53.1.cls = true := by decide +kernel
abbrev mi_J3_checkIndex_8e157 : Mi := (yJ3_checkIndex_8e157, cJ3_checkIndex_8e157, 3, (some .int), 2)
theorem ok_J3_checkIndex_8e157 : okM mi_J3_checkIndex_8e157 3 := ⟨wG_of 83 (by decide +kernel) (by decide +kernel), wG_of 673 (by decide +kernel) (by decide +kernel), (by decide +kernel), (by decide +kernel)⟩
theorem pl_J3_checkIndex_8e157 : plainName mi_J3_checkIndex_8e157.1.cls = true := by decide +kernel
abbrev mi_L_law : Mi := (yL_law, code, maxLocals, ret, 22)
theorem pl_L_law : plainName mi_L_law.1.cls = true := by decide +kernel
theorem ml_J15_105 : Cond.methodLink RJ15 105 yJ3_checkIndex_8e157 ∈ wG ∧ Cond.static yJ3_checkIndex_8e157 ∈ wG := ⟨wG_of 671 (by decide +kernel) (by decide +kernel), wG_of 672 (by decide +kernel) (by decide +kernel)⟩
theorem cl_J7_2 : Cond.classLink RJ7 2 "java/lang/Object" ∈ wG := wG_of 425 (by decide +kernel) (by decide +kernel)
theorem ml_J7_86 : Cond.methodLink RJ7 86 nmG ∈ wG ∧ Cond.selects nmO nmG nmG ∈ wG ∧ Cond.instanceMethod nmG ∈ wG ∧ Cond.native nmG ∈ wG := ⟨wG_of 405 (by decide +kernel) (by decide +kernel), wG_of 1200 (by decide +kernel) (by decide +kernel), wG_of 406 (by decide +kernel) (by decide +kernel), wG_of 419 (by decide +kernel) (by decide +kernel)⟩
theorem cl_J7_110 : Cond.classLink RJ7 110 "[Ljava/lang/Object;" ∈ wG := wG_of 423 (by decide +kernel) (by decide +kernel)
theorem ml_J7_150 : Cond.methodLink RJ7 150 arraycopyName ∈ wG ∧ Cond.native arraycopyName ∈ wG ∧ Cond.static arraycopyName ∈ wG ∧ Cond.initialized "java/lang/System" ∈ wG := ⟨wG_of 429 (by decide +kernel) (by decide +kernel), wG_of 431 (by decide +kernel) (by decide +kernel), wG_of 430 (by decide +kernel) (by decide +kernel), wG_of 79 (by decide +kernel) (by decide +kernel)⟩
theorem ml_J7_300 : Cond.methodLink RJ7 300 yJ7_copyOf_6403c ∈ wG ∧ Cond.static yJ7_copyOf_6403c ∈ wG := ⟨wG_of 420 (by decide +kernel) (by decide +kernel), wG_of 421 (by decide +kernel) (by decide +kernel)⟩
theorem mm_J7_304 : Cond.methodLink RJ7 304 Lib.Math.min.name ∈ wG ∧ Cond.static Lib.Math.min.name ∈ wG ∧ Cond.initialized "java/lang/Math" ∈ wG ∧ Cond.code Lib.Math.min.name Lib.Math.min.code 2 (some .int) ∈ wG := ⟨wG_of 426 (by decide +kernel) (by decide +kernel), wG_of 427 (by decide +kernel) (by decide +kernel), wG_of 77 (by decide +kernel) (by decide +kernel), wG_of 428 (by decide +kernel) (by decide +kernel)⟩
theorem mm_J8_194 : Cond.methodLink RJ8 194 Lib.Math.max.name ∈ wG ∧ Cond.static Lib.Math.max.name ∈ wG ∧ Cond.initialized "java/lang/Math" ∈ wG ∧ Cond.code Lib.Math.max.name Lib.Math.max.code 2 (some .int) ∈ wG := ⟨wG_of 395 (by decide +kernel) (by decide +kernel), wG_of 396 (by decide +kernel) (by decide +kernel), wG_of 77 (by decide +kernel) (by decide +kernel), wG_of 397 (by decide +kernel) (by decide +kernel)⟩
theorem ml_J8_201 : Cond.methodLink RJ8 201 yJ8_hugeLength_7cf53 ∈ wG ∧ Cond.static yJ8_hugeLength_7cf53 ∈ wG := ⟨wG_of 399 (by decide +kernel) (by decide +kernel), wG_of 400 (by decide +kernel) (by decide +kernel)⟩
theorem ml_Jx4a65c_1 : Cond.methodLink RJx4a65c 1 yJxc12de_init_da8c8 ∈ wG ∧ Cond.instanceMethod yJxc12de_init_da8c8 ∈ wG := ⟨wG_of 118 (by decide +kernel) (by decide +kernel), wG_of 119 (by decide +kernel) (by decide +kernel)⟩
theorem cl_Jx4a65c_7 : Cond.classLink RJx4a65c 7 "java/lang/Object" ∈ wG := wG_of 433 (by decide +kernel) (by decide +kernel)
theorem fl_Jx4a65c_9 : Fl RJx4a65c 9 0 1 := ⟨by decide, by decide, "java/util/ArrayList", wG_of 127 (by decide +kernel) (by decide +kernel), Or.inl (by decide +kernel)⟩
theorem gs_Jx4a65c_39 : Cond.fieldLink RJx4a65c 39 RJx4a65c nmZ nmO ∈ wG := wG_of 125 (by decide +kernel) (by decide +kernel)
theorem fl_Jx4a65c_48 : Fl RJx4a65c 48 0 2 := ⟨by decide, by decide, "java/util/ArrayList", wG_of 128 (by decide +kernel) (by decide +kernel), Or.inl (by decide +kernel)⟩
theorem fl_Jx4a65c_63 : Fl RJx4a65c 63 0 0 := ⟨by decide, by decide, "java/util/ArrayList", wG_of 130 (by decide +kernel) (by decide +kernel), Or.inr (wG_of 131 (by decide +kernel) (by decide +kernel))⟩
theorem ml_Jx4a65c_66 : Cond.methodLink RJx4a65c 66 yJ7_copyOf_1904c ∈ wG ∧ Cond.static yJ7_copyOf_1904c ∈ wG := ⟨wG_of 402 (by decide +kernel) (by decide +kernel), wG_of 403 (by decide +kernel) (by decide +kernel)⟩
theorem ml_Jx4a65c_69 : Cond.methodLink RJx4a65c 69 yJx4a65c_grow_92f84 ∈ wG ∧ Cond.instanceMethod yJx4a65c_grow_92f84 ∈ wG ∧ Cond.selects yJx4a65c_grow_92f84.cls yJx4a65c_grow_92f84 yJx4a65c_grow_92f84 ∈ wG := ⟨wG_of 388 (by decide +kernel) (by decide +kernel), wG_of 390 (by decide +kernel) (by decide +kernel), wG_of 6 (by decide +kernel) (by decide +kernel)⟩
theorem ml_Jx4a65c_73 : Cond.methodLink RJx4a65c 73 yJ8_newLength_cabcc ∈ wG ∧ Cond.static yJ8_newLength_cabcc ∈ wG := ⟨wG_of 392 (by decide +kernel) (by decide +kernel), wG_of 393 (by decide +kernel) (by decide +kernel)⟩
theorem mm_Jx4a65c_79 : Cond.methodLink RJx4a65c 79 Lib.Math.max.name ∈ wG ∧ Cond.static Lib.Math.max.name ∈ wG ∧ Cond.initialized "java/lang/Math" ∈ wG ∧ Cond.code Lib.Math.max.name Lib.Math.max.code 2 (some .int) ∈ wG := ⟨wG_of 432 (by decide +kernel) (by decide +kernel), wG_of 396 (by decide +kernel) (by decide +kernel), wG_of 77 (by decide +kernel) (by decide +kernel), wG_of 397 (by decide +kernel) (by decide +kernel)⟩
theorem ml_Jx4a65c_118 : Cond.methodLink RJx4a65c 118 yJ15_checkIndex_7cf53 ∈ wG ∧ Cond.static yJ15_checkIndex_7cf53 ∈ wG := ⟨wG_of 668 (by decide +kernel) (by decide +kernel), wG_of 669 (by decide +kernel) (by decide +kernel)⟩
theorem ml_Jx4a65c_123 : Cond.methodLink RJx4a65c 123 yJx4a65c_elementData_915e3 ∈ wG ∧ Cond.instanceMethod yJx4a65c_elementData_915e3 ∈ wG ∧ Cond.selects yJx4a65c_elementData_915e3.cls yJx4a65c_elementData_915e3 yJx4a65c_elementData_915e3 ∈ wG := ⟨wG_of 674 (by decide +kernel) (by decide +kernel), wG_of 675 (by decide +kernel) (by decide +kernel), wG_of 676 (by decide +kernel) (by decide +kernel)⟩
theorem ml_Jx4a65c_129 : Cond.methodLink RJx4a65c 129 yJx4a65c_grow_d5877 ∈ wG ∧ Cond.instanceMethod yJx4a65c_grow_d5877 ∈ wG ∧ Cond.selects yJx4a65c_grow_d5877.cls yJx4a65c_grow_d5877 yJx4a65c_grow_d5877 ∈ wG := ⟨wG_of 384 (by decide +kernel) (by decide +kernel), wG_of 386 (by decide +kernel) (by decide +kernel), wG_of 5 (by decide +kernel) (by decide +kernel)⟩
theorem ml_Jx4a65c_131 : Cond.methodLink RJx4a65c 131 yJx4a65c_add_72be8 ∈ wG ∧ Cond.instanceMethod yJx4a65c_add_72be8 ∈ wG ∧ Cond.selects yJx4a65c_add_72be8.cls yJx4a65c_add_72be8 yJx4a65c_add_72be8 ∈ wG := ⟨wG_of 380 (by decide +kernel) (by decide +kernel), wG_of 382 (by decide +kernel) (by decide +kernel), wG_of 4 (by decide +kernel) (by decide +kernel)⟩
theorem oi_Jxa1e45_1 : Cond.methodLink RJxa1e45 1 objectInit ∈ wG ∧ Cond.instanceMethod objectInit ∈ wG ∧ Cond.code objectInit ⟨#[0xb1]⟩ 1 none ∈ wG := ⟨wG_of 124 (by decide +kernel) (by decide +kernel), wG_of 90 (by decide +kernel) (by decide +kernel), wG_of 91 (by decide +kernel) (by decide +kernel)⟩
theorem ml_Jxc12de_1 : Cond.methodLink RJxc12de 1 yJxa1e45_init_da8c8 ∈ wG ∧ Cond.instanceMethod yJxa1e45_init_da8c8 ∈ wG := ⟨wG_of 121 (by decide +kernel) (by decide +kernel), wG_of 122 (by decide +kernel) (by decide +kernel)⟩
theorem fl_Jxc12de_7 : Fl RJxc12de 7 0 0 := ⟨by decide, by decide, "java/util/AbstractList", wG_of 129 (by decide +kernel) (by decide +kernel), Or.inl (by decide +kernel)⟩
theorem nl_L_7 : Nl RL 7 9 := ⟨by decide, wG_of 84 (by decide +kernel) (by decide +kernel), wG_of 85 (by decide +kernel) (by decide +kernel), wG_of 65 (by decide +kernel) (by decide +kernel)⟩
theorem ml_L_9 : Cond.methodLink RL 9 yX8_init ∈ wG ∧ Cond.instanceMethod yX8_init ∈ wG := ⟨wG_of 86 (by decide +kernel) (by decide +kernel), wG_of 87 (by decide +kernel) (by decide +kernel)⟩
theorem nl_L_10 : Nl RL 10 10 := ⟨by decide, wG_of 792 (by decide +kernel) (by decide +kernel), wG_of 793 (by decide +kernel) (by decide +kernel), wG_of 73 (by decide +kernel) (by decide +kernel)⟩
theorem ml_L_12 : Cond.methodLink RL 12 yX9_init ∈ wG ∧ Cond.instanceMethod yX9_init ∈ wG := ⟨wG_of 794 (by decide +kernel) (by decide +kernel), wG_of 795 (by decide +kernel) (by decide +kernel)⟩
theorem ml_L_13 : Cond.methodLink RL 13 yX8_prime ∈ wG ∧ Cond.instanceMethod yX8_prime ∈ wG ∧ Cond.selects yX8_prime.cls yX8_prime yX8_prime ∈ wG := ⟨wG_of 222 (by decide +kernel) (by decide +kernel), wG_of 223 (by decide +kernel) (by decide +kernel), wG_of 224 (by decide +kernel) (by decide +kernel)⟩
theorem ml_L_17 : Cond.methodLink RL 17 yX9_prime ∈ wG ∧ Cond.instanceMethod yX9_prime ∈ wG ∧ Cond.selects yX9_prime.cls yX9_prime yX9_prime ∈ wG := ⟨wG_of 938 (by decide +kernel) (by decide +kernel), wG_of 939 (by decide +kernel) (by decide +kernel), wG_of 940 (by decide +kernel) (by decide +kernel)⟩
theorem ml_L_18 : Cond.methodLink RL 18 yX8_limits ∈ wG ∧ Cond.instanceMethod yX8_limits ∈ wG ∧ Cond.selects yX8_limits.cls yX8_limits yX8_limits ∈ wG := ⟨wG_of 234 (by decide +kernel) (by decide +kernel), wG_of 235 (by decide +kernel) (by decide +kernel), wG_of 236 (by decide +kernel) (by decide +kernel)⟩
theorem ml_L_21 : Cond.methodLink RL 21 yX9_limits ∈ wG ∧ Cond.instanceMethod yX9_limits ∈ wG ∧ Cond.selects yX9_limits.cls yX9_limits yX9_limits ∈ wG := ⟨wG_of 953 (by decide +kernel) (by decide +kernel), wG_of 954 (by decide +kernel) (by decide +kernel), wG_of 955 (by decide +kernel) (by decide +kernel)⟩
theorem ml_L_22 : Cond.methodLink RL 22 yX8_pair ∈ wG ∧ Cond.instanceMethod yX8_pair ∈ wG ∧ Cond.selects yX8_pair.cls yX8_pair yX8_pair ∈ wG := ⟨wG_of 250 (by decide +kernel) (by decide +kernel), wG_of 251 (by decide +kernel) (by decide +kernel), wG_of 252 (by decide +kernel) (by decide +kernel)⟩
theorem ml_L_26 : Cond.methodLink RL 26 yX9_pair ∈ wG ∧ Cond.instanceMethod yX9_pair ∈ wG ∧ Cond.selects yX9_pair.cls yX9_pair yX9_pair ∈ wG := ⟨wG_of 965 (by decide +kernel) (by decide +kernel), wG_of 966 (by decide +kernel) (by decide +kernel), wG_of 967 (by decide +kernel) (by decide +kernel)⟩
theorem ml_L_27 : Cond.methodLink RL 27 yX8_secret ∈ wG ∧ Cond.instanceMethod yX8_secret ∈ wG ∧ Cond.selects yX8_secret.cls yX8_secret yX8_secret ∈ wG := ⟨wG_of 322 (by decide +kernel) (by decide +kernel), wG_of 323 (by decide +kernel) (by decide +kernel), wG_of 324 (by decide +kernel) (by decide +kernel)⟩
theorem ml_L_30 : Cond.methodLink RL 30 yX9_secret ∈ wG ∧ Cond.instanceMethod yX9_secret ∈ wG ∧ Cond.selects yX9_secret.cls yX9_secret yX9_secret ∈ wG := ⟨wG_of 969 (by decide +kernel) (by decide +kernel), wG_of 970 (by decide +kernel) (by decide +kernel), wG_of 971 (by decide +kernel) (by decide +kernel)⟩
theorem ml_L_31 : Cond.methodLink RL 31 yX8_start ∈ wG ∧ Cond.instanceMethod yX8_start ∈ wG ∧ Cond.selects yX8_start.cls yX8_start yX8_start ∈ wG := ⟨wG_of 434 (by decide +kernel) (by decide +kernel), wG_of 435 (by decide +kernel) (by decide +kernel), wG_of 436 (by decide +kernel) (by decide +kernel)⟩
theorem ml_L_35 : Cond.methodLink RL 35 yX9_start ∈ wG ∧ Cond.instanceMethod yX9_start ∈ wG ∧ Cond.selects yX9_start.cls yX9_start yX9_start ∈ wG := ⟨wG_of 981 (by decide +kernel) (by decide +kernel), wG_of 982 (by decide +kernel) (by decide +kernel), wG_of 983 (by decide +kernel) (by decide +kernel)⟩
theorem ml_L_36 : Cond.methodLink RL 36 yX8_send ∈ wG ∧ Cond.instanceMethod yX8_send ∈ wG ∧ Cond.selects yX8_send.cls yX8_send yX8_send ∈ wG := ⟨wG_of 492 (by decide +kernel) (by decide +kernel), wG_of 493 (by decide +kernel) (by decide +kernel), wG_of 494 (by decide +kernel) (by decide +kernel)⟩
theorem ml_L_39 : Cond.methodLink RL 39 yX9_send ∈ wG ∧ Cond.instanceMethod yX9_send ∈ wG ∧ Cond.selects yX9_send.cls yX9_send yX9_send ∈ wG := ⟨wG_of 1013 (by decide +kernel) (by decide +kernel), wG_of 1014 (by decide +kernel) (by decide +kernel), wG_of 1015 (by decide +kernel) (by decide +kernel)⟩
theorem ml_L_40 : Cond.methodLink RL 40 yX8_alter ∈ wG ∧ Cond.instanceMethod yX8_alter ∈ wG ∧ Cond.selects yX8_alter.cls yX8_alter yX8_alter ∈ wG := ⟨wG_of 533 (by decide +kernel) (by decide +kernel), wG_of 534 (by decide +kernel) (by decide +kernel), wG_of 535 (by decide +kernel) (by decide +kernel)⟩
theorem ml_L_43 : Cond.methodLink RL 43 yX9_alter ∈ wG ∧ Cond.instanceMethod yX9_alter ∈ wG ∧ Cond.selects yX9_alter.cls yX9_alter yX9_alter ∈ wG := ⟨wG_of 1021 (by decide +kernel) (by decide +kernel), wG_of 1022 (by decide +kernel) (by decide +kernel), wG_of 1023 (by decide +kernel) (by decide +kernel)⟩
theorem ml_L_44 : Cond.methodLink RL 44 yX8_take ∈ wG ∧ Cond.instanceMethod yX8_take ∈ wG ∧ Cond.selects yX8_take.cls yX8_take yX8_take ∈ wG := ⟨wG_of 541 (by decide +kernel) (by decide +kernel), wG_of 542 (by decide +kernel) (by decide +kernel), wG_of 543 (by decide +kernel) (by decide +kernel)⟩
theorem ml_L_47 : Cond.methodLink RL 47 yX9_take ∈ wG ∧ Cond.instanceMethod yX9_take ∈ wG ∧ Cond.selects yX9_take.cls yX9_take yX9_take ∈ wG := ⟨wG_of 1029 (by decide +kernel) (by decide +kernel), wG_of 1030 (by decide +kernel) (by decide +kernel), wG_of 1031 (by decide +kernel) (by decide +kernel)⟩
theorem ml_L_48 : Cond.methodLink RL 48 yX8_see ∈ wG ∧ Cond.instanceMethod yX8_see ∈ wG ∧ Cond.selects yX8_see.cls yX8_see yX8_see ∈ wG := ⟨wG_of 648 (by decide +kernel) (by decide +kernel), wG_of 649 (by decide +kernel) (by decide +kernel), wG_of 650 (by decide +kernel) (by decide +kernel)⟩
theorem ml_L_51 : Cond.methodLink RL 51 yX9_see ∈ wG ∧ Cond.instanceMethod yX9_see ∈ wG ∧ Cond.selects yX9_see.cls yX9_see yX9_see ∈ wG := ⟨wG_of 1073 (by decide +kernel) (by decide +kernel), wG_of 1074 (by decide +kernel) (by decide +kernel), wG_of 1075 (by decide +kernel) (by decide +kernel)⟩
theorem ml_L_52 : Cond.methodLink RL 52 yX8_known ∈ wG ∧ Cond.instanceMethod yX8_known ∈ wG ∧ Cond.selects yX8_known.cls yX8_known yX8_known ∈ wG := ⟨wG_of 678 (by decide +kernel) (by decide +kernel), wG_of 679 (by decide +kernel) (by decide +kernel), wG_of 680 (by decide +kernel) (by decide +kernel)⟩
theorem ml_L_55 : Cond.methodLink RL 55 yX9_known ∈ wG ∧ Cond.instanceMethod yX9_known ∈ wG ∧ Cond.selects yX9_known.cls yX9_known yX9_known ∈ wG := ⟨wG_of 1081 (by decide +kernel) (by decide +kernel), wG_of 1082 (by decide +kernel) (by decide +kernel), wG_of 1083 (by decide +kernel) (by decide +kernel)⟩
theorem ml_L_56 : Cond.methodLink RL 56 yX8_steps ∈ wG ∧ Cond.instanceMethod yX8_steps ∈ wG ∧ Cond.selects yX8_steps.cls yX8_steps yX8_steps ∈ wG := ⟨wG_of 682 (by decide +kernel) (by decide +kernel), wG_of 683 (by decide +kernel) (by decide +kernel), wG_of 684 (by decide +kernel) (by decide +kernel)⟩
theorem ml_L_59 : Cond.methodLink RL 59 yX9_steps ∈ wG ∧ Cond.instanceMethod yX9_steps ∈ wG ∧ Cond.selects yX9_steps.cls yX9_steps yX9_steps ∈ wG := ⟨wG_of 1089 (by decide +kernel) (by decide +kernel), wG_of 1090 (by decide +kernel) (by decide +kernel), wG_of 1091 (by decide +kernel) (by decide +kernel)⟩
theorem ml_L_60 : Cond.methodLink RL 60 yX8_heals ∈ wG ∧ Cond.instanceMethod yX8_heals ∈ wG ∧ Cond.selects yX8_heals.cls yX8_heals yX8_heals ∈ wG := ⟨wG_of 686 (by decide +kernel) (by decide +kernel), wG_of 687 (by decide +kernel) (by decide +kernel), wG_of 688 (by decide +kernel) (by decide +kernel)⟩
theorem ml_L_63 : Cond.methodLink RL 63 yX9_heals ∈ wG ∧ Cond.instanceMethod yX9_heals ∈ wG ∧ Cond.selects yX9_heals.cls yX9_heals yX9_heals ∈ wG := ⟨wG_of 1093 (by decide +kernel) (by decide +kernel), wG_of 1094 (by decide +kernel) (by decide +kernel), wG_of 1095 (by decide +kernel) (by decide +kernel)⟩
theorem ml_L_64 : Cond.methodLink RL 64 yX8_same ∈ wG ∧ Cond.instanceMethod yX8_same ∈ wG ∧ Cond.selects yX8_same.cls yX8_same yX8_same ∈ wG := ⟨wG_of 690 (by decide +kernel) (by decide +kernel), wG_of 691 (by decide +kernel) (by decide +kernel), wG_of 692 (by decide +kernel) (by decide +kernel)⟩
theorem ml_L_67 : Cond.methodLink RL 67 yX9_same ∈ wG ∧ Cond.instanceMethod yX9_same ∈ wG ∧ Cond.selects yX9_same.cls yX9_same yX9_same ∈ wG := ⟨wG_of 1097 (by decide +kernel) (by decide +kernel), wG_of 1098 (by decide +kernel) (by decide +kernel), wG_of 1099 (by decide +kernel) (by decide +kernel)⟩
theorem ml_L_68 : Cond.methodLink RL 68 yX8_told ∈ wG ∧ Cond.instanceMethod yX8_told ∈ wG ∧ Cond.selects yX8_told.cls yX8_told yX8_told ∈ wG := ⟨wG_of 694 (by decide +kernel) (by decide +kernel), wG_of 695 (by decide +kernel) (by decide +kernel), wG_of 696 (by decide +kernel) (by decide +kernel)⟩
theorem ml_L_71 : Cond.methodLink RL 71 yX9_told ∈ wG ∧ Cond.instanceMethod yX9_told ∈ wG ∧ Cond.selects yX9_told.cls yX9_told yX9_told ∈ wG := ⟨wG_of 1101 (by decide +kernel) (by decide +kernel), wG_of 1102 (by decide +kernel) (by decide +kernel), wG_of 1103 (by decide +kernel) (by decide +kernel)⟩
theorem ml_L_72 : Cond.methodLink RL 72 yX8_skipped ∈ wG ∧ Cond.instanceMethod yX8_skipped ∈ wG ∧ Cond.selects yX8_skipped.cls yX8_skipped yX8_skipped ∈ wG := ⟨wG_of 701 (by decide +kernel) (by decide +kernel), wG_of 702 (by decide +kernel) (by decide +kernel), wG_of 703 (by decide +kernel) (by decide +kernel)⟩
theorem ml_L_76 : Cond.methodLink RL 76 yX9_skipped ∈ wG ∧ Cond.instanceMethod yX9_skipped ∈ wG ∧ Cond.selects yX9_skipped.cls yX9_skipped yX9_skipped ∈ wG := ⟨wG_of 1109 (by decide +kernel) (by decide +kernel), wG_of 1110 (by decide +kernel) (by decide +kernel), wG_of 1111 (by decide +kernel) (by decide +kernel)⟩
theorem ml_L_77 : Cond.methodLink RL 77 yX8_letter ∈ wG ∧ Cond.instanceMethod yX8_letter ∈ wG ∧ Cond.selects yX8_letter.cls yX8_letter yX8_letter ∈ wG := ⟨wG_of 705 (by decide +kernel) (by decide +kernel), wG_of 706 (by decide +kernel) (by decide +kernel), wG_of 707 (by decide +kernel) (by decide +kernel)⟩
theorem ml_L_80 : Cond.methodLink RL 80 yX9_letter ∈ wG ∧ Cond.instanceMethod yX9_letter ∈ wG ∧ Cond.selects yX9_letter.cls yX9_letter yX9_letter ∈ wG := ⟨wG_of 1113 (by decide +kernel) (by decide +kernel), wG_of 1114 (by decide +kernel) (by decide +kernel), wG_of 1115 (by decide +kernel) (by decide +kernel)⟩
theorem ml_L_81 : Cond.methodLink RL 81 yX8_count ∈ wG ∧ Cond.instanceMethod yX8_count ∈ wG ∧ Cond.selects yX8_count.cls yX8_count yX8_count ∈ wG := ⟨wG_of 709 (by decide +kernel) (by decide +kernel), wG_of 710 (by decide +kernel) (by decide +kernel), wG_of 711 (by decide +kernel) (by decide +kernel)⟩
theorem ml_L_84 : Cond.methodLink RL 84 yX9_count ∈ wG ∧ Cond.instanceMethod yX9_count ∈ wG ∧ Cond.selects yX9_count.cls yX9_count yX9_count ∈ wG := ⟨wG_of 1117 (by decide +kernel) (by decide +kernel), wG_of 1118 (by decide +kernel) (by decide +kernel), wG_of 1119 (by decide +kernel) (by decide +kernel)⟩
theorem ml_L_85 : Cond.methodLink RL 85 yX8_hold ∈ wG ∧ Cond.instanceMethod yX8_hold ∈ wG ∧ Cond.selects yX8_hold.cls yX8_hold yX8_hold ∈ wG := ⟨wG_of 714 (by decide +kernel) (by decide +kernel), wG_of 715 (by decide +kernel) (by decide +kernel), wG_of 716 (by decide +kernel) (by decide +kernel)⟩
theorem ml_L_88 : Cond.methodLink RL 88 yX9_hold ∈ wG ∧ Cond.instanceMethod yX9_hold ∈ wG ∧ Cond.selects yX9_hold.cls yX9_hold yX9_hold ∈ wG := ⟨wG_of 1125 (by decide +kernel) (by decide +kernel), wG_of 1126 (by decide +kernel) (by decide +kernel), wG_of 1127 (by decide +kernel) (by decide +kernel)⟩
theorem ml_L_89 : Cond.methodLink RL 89 yX8_tray ∈ wG ∧ Cond.instanceMethod yX8_tray ∈ wG ∧ Cond.selects yX8_tray.cls yX8_tray yX8_tray ∈ wG := ⟨wG_of 734 (by decide +kernel) (by decide +kernel), wG_of 735 (by decide +kernel) (by decide +kernel), wG_of 736 (by decide +kernel) (by decide +kernel)⟩
theorem ml_L_92 : Cond.methodLink RL 92 yX9_tray ∈ wG ∧ Cond.instanceMethod yX9_tray ∈ wG ∧ Cond.selects yX9_tray.cls yX9_tray yX9_tray ∈ wG := ⟨wG_of 1133 (by decide +kernel) (by decide +kernel), wG_of 1134 (by decide +kernel) (by decide +kernel), wG_of 1135 (by decide +kernel) (by decide +kernel)⟩
theorem ml_L_93 : Cond.methodLink RL 93 yX8_act ∈ wG ∧ Cond.instanceMethod yX8_act ∈ wG ∧ Cond.selects yX8_act.cls yX8_act yX8_act ∈ wG := ⟨wG_of 738 (by decide +kernel) (by decide +kernel), wG_of 739 (by decide +kernel) (by decide +kernel), wG_of 740 (by decide +kernel) (by decide +kernel)⟩
theorem ml_L_96 : Cond.methodLink RL 96 yX9_act ∈ wG ∧ Cond.instanceMethod yX9_act ∈ wG ∧ Cond.selects yX9_act.cls yX9_act yX9_act ∈ wG := ⟨wG_of 1137 (by decide +kernel) (by decide +kernel), wG_of 1138 (by decide +kernel) (by decide +kernel), wG_of 1139 (by decide +kernel) (by decide +kernel)⟩
theorem ml_L_97 : Cond.methodLink RL 97 yX8_trace ∈ wG ∧ Cond.instanceMethod yX8_trace ∈ wG ∧ Cond.selects yX8_trace.cls yX8_trace yX8_trace ∈ wG := ⟨wG_of 758 (by decide +kernel) (by decide +kernel), wG_of 759 (by decide +kernel) (by decide +kernel), wG_of 760 (by decide +kernel) (by decide +kernel)⟩
theorem ml_L_100 : Cond.methodLink RL 100 yX9_trace ∈ wG ∧ Cond.instanceMethod yX9_trace ∈ wG ∧ Cond.selects yX9_trace.cls yX9_trace yX9_trace ∈ wG := ⟨wG_of 1168 (by decide +kernel) (by decide +kernel), wG_of 1169 (by decide +kernel) (by decide +kernel), wG_of 1170 (by decide +kernel) (by decide +kernel)⟩
theorem ml_L_101 : Cond.methodLink RL 101 yX8_forge ∈ wG ∧ Cond.instanceMethod yX8_forge ∈ wG ∧ Cond.selects yX8_forge.cls yX8_forge yX8_forge ∈ wG := ⟨wG_of 762 (by decide +kernel) (by decide +kernel), wG_of 763 (by decide +kernel) (by decide +kernel), wG_of 764 (by decide +kernel) (by decide +kernel)⟩
theorem ml_L_104 : Cond.methodLink RL 104 yX9_forge ∈ wG ∧ Cond.instanceMethod yX9_forge ∈ wG ∧ Cond.selects yX9_forge.cls yX9_forge yX9_forge ∈ wG := ⟨wG_of 1172 (by decide +kernel) (by decide +kernel), wG_of 1173 (by decide +kernel) (by decide +kernel), wG_of 1174 (by decide +kernel) (by decide +kernel)⟩
theorem ml_L_105 : Cond.methodLink RL 105 yX8_status ∈ wG ∧ Cond.instanceMethod yX8_status ∈ wG ∧ Cond.selects yX8_status.cls yX8_status yX8_status ∈ wG := ⟨wG_of 788 (by decide +kernel) (by decide +kernel), wG_of 789 (by decide +kernel) (by decide +kernel), wG_of 790 (by decide +kernel) (by decide +kernel)⟩
theorem ml_L_108 : Cond.methodLink RL 108 yX9_status ∈ wG ∧ Cond.instanceMethod yX9_status ∈ wG ∧ Cond.selects yX9_status.cls yX9_status yX9_status ∈ wG := ⟨wG_of 1183 (by decide +kernel) (by decide +kernel), wG_of 1184 (by decide +kernel) (by decide +kernel), wG_of 1185 (by decide +kernel) (by decide +kernel)⟩
theorem oi_X0_1 : Cond.methodLink RX0 1 objectInit ∈ wG ∧ Cond.instanceMethod objectInit ∈ wG ∧ Cond.code objectInit ⟨#[0xb1]⟩ 1 none ∈ wG := ⟨wG_of 103 (by decide +kernel) (by decide +kernel), wG_of 90 (by decide +kernel) (by decide +kernel), wG_of 91 (by decide +kernel) (by decide +kernel)⟩
theorem fl_X0_7 : Fl RX0 7 1 0 := ⟨by decide, by decide, "RatchetPost$Arithmetic", wG_of 104 (by decide +kernel) (by decide +kernel), Or.inl (by decide +kernel)⟩
theorem fl_X0_13 : Fl RX0 13 1 1 := ⟨by decide, by decide, "RatchetPost$Arithmetic", wG_of 106 (by decide +kernel) (by decide +kernel), Or.inl (by decide +kernel)⟩
theorem ml_X0_16 : Cond.methodLink RX0 16 yX0_power ∈ wG ∧ Cond.instanceMethod yX0_power ∈ wG ∧ Cond.selects yX0_power.cls yX0_power yX0_power ∈ wG := ⟨wG_of 458 (by decide +kernel) (by decide +kernel), wG_of 459 (by decide +kernel) (by decide +kernel), wG_of 460 (by decide +kernel) (by decide +kernel)⟩
theorem oi_X1_3 : Cond.methodLink RX1 3 objectInit ∈ wG ∧ Cond.instanceMethod objectInit ∈ wG ∧ Cond.code objectInit ⟨#[0xb1]⟩ 1 none ∈ wG := ⟨wG_of 258 (by decide +kernel) (by decide +kernel), wG_of 90 (by decide +kernel) (by decide +kernel), wG_of 91 (by decide +kernel) (by decide +kernel)⟩
theorem cl_X1_9 : Cond.classLink RX1 9 "RatchetPost$Thing" ∈ wG := wG_of 259 (by decide +kernel) (by decide +kernel)
theorem fl_X1_11 : Fl RX1 11 2 1 := ⟨by decide, by decide, "RatchetPost$End", wG_of 266 (by decide +kernel) (by decide +kernel), Or.inl (by decide +kernel)⟩
theorem fl_X1_17 : Fl RX1 17 2 8 := ⟨by decide, by decide, "RatchetPost$End", wG_of 276 (by decide +kernel) (by decide +kernel), Or.inl (by decide +kernel)⟩
theorem cl_X1_21 : Cond.classLink RX1 21 "RatchetPost$Skipped" ∈ wG := wG_of 261 (by decide +kernel) (by decide +kernel)
theorem fl_X1_23 : Fl RX1 23 2 12 := ⟨by decide, by decide, "RatchetPost$End", wG_of 283 (by decide +kernel) (by decide +kernel), Or.inl (by decide +kernel)⟩
theorem fl_X1_27 : Fl RX1 27 2 14 := ⟨by decide, by decide, "RatchetPost$End", wG_of 287 (by decide +kernel) (by decide +kernel), Or.inl (by decide +kernel)⟩
theorem fl_X1_31 : Fl RX1 31 2 0 := ⟨by decide, by decide, "RatchetPost$End", wG_of 264 (by decide +kernel) (by decide +kernel), Or.inl (by decide +kernel)⟩
theorem fl_X1_34 : Fl RX1 34 2 2 := ⟨by decide, by decide, "RatchetPost$End", wG_of 268 (by decide +kernel) (by decide +kernel), Or.inl (by decide +kernel)⟩
theorem fl_X1_37 : Fl RX1 37 2 15 := ⟨by decide, by decide, "RatchetPost$End", wG_of 288 (by decide +kernel) (by decide +kernel), Or.inl (by decide +kernel)⟩
theorem fl_X1_40 : Fl RX1 40 2 13 := ⟨by decide, by decide, "RatchetPost$End", wG_of 285 (by decide +kernel) (by decide +kernel), Or.inl (by decide +kernel)⟩
theorem ml_X1_43 : Cond.methodLink RX1 43 yX1_drop ∈ wG ∧ Cond.instanceMethod yX1_drop ∈ wG ∧ Cond.selects yX1_drop.cls yX1_drop yX1_drop ∈ wG := ⟨wG_of 246 (by decide +kernel) (by decide +kernel), wG_of 247 (by decide +kernel) (by decide +kernel), wG_of 248 (by decide +kernel) (by decide +kernel)⟩
theorem fl_X1_47 : Fl RX1 47 4 9 := ⟨by decide, by decide, "RatchetPost$Skipped", wG_of 589 (by decide +kernel) (by decide +kernel), Or.inl (by decide +kernel)⟩
theorem ml_X1_48 : Cond.methodLink RX1 48 yX2_from ∈ wG ∧ Cond.instanceMethod yX2_from ∈ wG ∧ Cond.selects yX2_from.cls yX2_from yX2_from ∈ wG := ⟨wG_of 549 (by decide +kernel) (by decide +kernel), wG_of 550 (by decide +kernel) (by decide +kernel), wG_of 551 (by decide +kernel) (by decide +kernel)⟩
theorem fl_X1_53 : Fl RX1 53 4 10 := ⟨by decide, by decide, "RatchetPost$Skipped", wG_of 592 (by decide +kernel) (by decide +kernel), Or.inl (by decide +kernel)⟩
theorem ml_X1_56 : Cond.methodLink RX1 56 yX2_place ∈ wG ∧ Cond.instanceMethod yX2_place ∈ wG ∧ Cond.selects yX2_place.cls yX2_place yX2_place ∈ wG := ⟨wG_of 553 (by decide +kernel) (by decide +kernel), wG_of 554 (by decide +kernel) (by decide +kernel), wG_of 555 (by decide +kernel) (by decide +kernel)⟩
theorem fl_X1_58 : Fl RX1 58 4 11 := ⟨by decide, by decide, "RatchetPost$Skipped", wG_of 595 (by decide +kernel) (by decide +kernel), Or.inl (by decide +kernel)⟩
theorem oi_X2_1 : Cond.methodLink RX2 1 objectInit ∈ wG ∧ Cond.instanceMethod objectInit ∈ wG ∧ Cond.code objectInit ⟨#[0xb1]⟩ 1 none ∈ wG := ⟨wG_of 504 (by decide +kernel) (by decide +kernel), wG_of 90 (by decide +kernel) (by decide +kernel), wG_of 91 (by decide +kernel) (by decide +kernel)⟩
theorem fl_X2_7 : Fl RX2 7 3 3 := ⟨by decide, by decide, "RatchetPost$Letter", wG_of 511 (by decide +kernel) (by decide +kernel), Or.inl (by decide +kernel)⟩
theorem fl_X2_13 : Fl RX2 13 2 0 := ⟨by decide, by decide, "RatchetPost$End", wG_of 263 (by decide +kernel) (by decide +kernel), Or.inl (by decide +kernel)⟩
theorem fl_X2_19 : Fl RX2 19 3 0 := ⟨by decide, by decide, "RatchetPost$Letter", wG_of 505 (by decide +kernel) (by decide +kernel), Or.inl (by decide +kernel)⟩
theorem fl_X2_22 : Fl RX2 22 2 4 := ⟨by decide, by decide, "RatchetPost$End", wG_of 271 (by decide +kernel) (by decide +kernel), Or.inl (by decide +kernel)⟩
theorem fl_X2_26 : Fl RX2 26 3 1 := ⟨by decide, by decide, "RatchetPost$Letter", wG_of 507 (by decide +kernel) (by decide +kernel), Or.inl (by decide +kernel)⟩
theorem fl_X2_29 : Fl RX2 29 3 2 := ⟨by decide, by decide, "RatchetPost$Letter", wG_of 509 (by decide +kernel) (by decide +kernel), Or.inl (by decide +kernel)⟩
theorem fl_X2_32 : Fl RX2 32 2 10 := ⟨by decide, by decide, "RatchetPost$End", wG_of 280 (by decide +kernel) (by decide +kernel), Or.inl (by decide +kernel)⟩
theorem fl_X2_35 : Fl RX2 35 2 9 := ⟨by decide, by decide, "RatchetPost$End", wG_of 278 (by decide +kernel) (by decide +kernel), Or.inl (by decide +kernel)⟩
theorem fl_X3_3 : Fl RX3 3 5 1 := ⟨by decide, by decide, "RatchetPost$Thing", wG_of 343 (by decide +kernel) (by decide +kernel), Or.inl (by decide +kernel)⟩
theorem fl_X3_3_s : Fl RX3 3 4 1 := ⟨by decide, by decide, "RatchetPost$Thing", wG_of 343 (by decide +kernel) (by decide +kernel), Or.inl (by decide +kernel)⟩
theorem ml_X3_9 : Cond.methodLink RX3 9 yX4_init ∈ wG ∧ Cond.instanceMethod yX4_init ∈ wG := ⟨wG_of 585 (by decide +kernel) (by decide +kernel), wG_of 337 (by decide +kernel) (by decide +kernel)⟩
theorem fl_X3_13 : Fl RX3 13 4 8 := ⟨by decide, by decide, "RatchetPost$Skipped", wG_of 586 (by decide +kernel) (by decide +kernel), Or.inl (by decide +kernel)⟩
theorem fl_X3_19 : Fl RX3 19 4 9 := ⟨by decide, by decide, "RatchetPost$Skipped", wG_of 588 (by decide +kernel) (by decide +kernel), Or.inl (by decide +kernel)⟩
theorem fl_X3_22 : Fl RX3 22 4 10 := ⟨by decide, by decide, "RatchetPost$Skipped", wG_of 591 (by decide +kernel) (by decide +kernel), Or.inl (by decide +kernel)⟩
theorem fl_X3_25 : Fl RX3 25 4 11 := ⟨by decide, by decide, "RatchetPost$Skipped", wG_of 594 (by decide +kernel) (by decide +kernel), Or.inl (by decide +kernel)⟩
theorem oi_X4_3 : Cond.methodLink RX4 3 objectInit ∈ wG ∧ Cond.instanceMethod objectInit ∈ wG ∧ Cond.code objectInit ⟨#[0xb1]⟩ 1 none ∈ wG := ⟨wG_of 339 (by decide +kernel) (by decide +kernel), wG_of 90 (by decide +kernel) (by decide +kernel), wG_of 91 (by decide +kernel) (by decide +kernel)⟩
theorem fl_X4_9 : Fl RX4 9 5 7 := ⟨by decide, by decide, "RatchetPost$Thing", wG_of 356 (by decide +kernel) (by decide +kernel), Or.inl (by decide +kernel)⟩
theorem fl_X4_9_s : Fl RX4 9 4 7 := ⟨by decide, by decide, "RatchetPost$Thing", wG_of 356 (by decide +kernel) (by decide +kernel), Or.inl (by decide +kernel)⟩
theorem fl_X4_15 : Fl RX4 15 5 0 := ⟨by decide, by decide, "RatchetPost$Thing", wG_of 340 (by decide +kernel) (by decide +kernel), Or.inl (by decide +kernel)⟩
theorem fl_X4_15_s : Fl RX4 15 4 0 := ⟨by decide, by decide, "RatchetPost$Thing", wG_of 340 (by decide +kernel) (by decide +kernel), Or.inl (by decide +kernel)⟩
theorem fl_X4_18 : Fl RX4 18 5 1 := ⟨by decide, by decide, "RatchetPost$Thing", wG_of 344 (by decide +kernel) (by decide +kernel), Or.inl (by decide +kernel)⟩
theorem fl_X4_18_s : Fl RX4 18 4 1 := ⟨by decide, by decide, "RatchetPost$Thing", wG_of 344 (by decide +kernel) (by decide +kernel), Or.inl (by decide +kernel)⟩
theorem fl_X4_21 : Fl RX4 21 5 2 := ⟨by decide, by decide, "RatchetPost$Thing", wG_of 349 (by decide +kernel) (by decide +kernel), Or.inl (by decide +kernel)⟩
theorem fl_X4_21_s : Fl RX4 21 4 2 := ⟨by decide, by decide, "RatchetPost$Thing", wG_of 349 (by decide +kernel) (by decide +kernel), Or.inl (by decide +kernel)⟩
theorem fl_X4_25 : Fl RX4 25 5 3 := ⟨by decide, by decide, "RatchetPost$Thing", wG_of 350 (by decide +kernel) (by decide +kernel), Or.inl (by decide +kernel)⟩
theorem fl_X4_25_s : Fl RX4 25 4 3 := ⟨by decide, by decide, "RatchetPost$Thing", wG_of 350 (by decide +kernel) (by decide +kernel), Or.inl (by decide +kernel)⟩
theorem fl_X4_28 : Fl RX4 28 5 6 := ⟨by decide, by decide, "RatchetPost$Thing", wG_of 354 (by decide +kernel) (by decide +kernel), Or.inl (by decide +kernel)⟩
theorem fl_X4_28_s : Fl RX4 28 4 6 := ⟨by decide, by decide, "RatchetPost$Thing", wG_of 354 (by decide +kernel) (by decide +kernel), Or.inl (by decide +kernel)⟩
theorem mm_X4_32 : Cond.methodLink RX4 32 Lib.Math.min.name ∈ wG ∧ Cond.static Lib.Math.min.name ∈ wG ∧ Cond.initialized "java/lang/Math" ∈ wG ∧ Cond.code Lib.Math.min.name Lib.Math.min.code 2 (some .int) ∈ wG := ⟨wG_of 473 (by decide +kernel) (by decide +kernel), wG_of 427 (by decide +kernel) (by decide +kernel), wG_of 77 (by decide +kernel) (by decide +kernel), wG_of 428 (by decide +kernel) (by decide +kernel)⟩
theorem mm_X4_38 : Cond.methodLink RX4 38 Lib.Math.max.name ∈ wG ∧ Cond.static Lib.Math.max.name ∈ wG ∧ Cond.initialized "java/lang/Math" ∈ wG ∧ Cond.code Lib.Math.max.name Lib.Math.max.code 2 (some .int) ∈ wG := ⟨wG_of 474 (by decide +kernel) (by decide +kernel), wG_of 396 (by decide +kernel) (by decide +kernel), wG_of 77 (by decide +kernel) (by decide +kernel), wG_of 397 (by decide +kernel) (by decide +kernel)⟩
theorem oi_X5_3 : Cond.methodLink RX5 3 objectInit ∈ wG ∧ Cond.instanceMethod objectInit ∈ wG ∧ Cond.code objectInit ⟨#[0xb1]⟩ 1 none ∈ wG := ⟨wG_of 97 (by decide +kernel) (by decide +kernel), wG_of 90 (by decide +kernel) (by decide +kernel), wG_of 91 (by decide +kernel) (by decide +kernel)⟩
theorem nl_X5_9 : Nl RX5 9 1 := ⟨by decide, wG_of 98 (by decide +kernel) (by decide +kernel), wG_of 99 (by decide +kernel) (by decide +kernel), wG_of 67 (by decide +kernel) (by decide +kernel)⟩
theorem ml_X5_11 : Cond.methodLinkNest RX5 11 yX0_init RX8 ∈ wNst ∧ Cond.instanceMethod yX0_init ∈ wG := ⟨by decide +kernel, wG_of 101 (by decide +kernel) (by decide +kernel)⟩
theorem fl_X5_12 : Fl RX5 12 6 0 := ⟨by decide, by decide, "RatchetPost$Things", wG_of 139 (by decide +kernel) (by decide +kernel), Or.inl (by decide +kernel)⟩
theorem nl_X5_18 : Nl RX5 18 0 := ⟨by decide, wG_of 113 (by decide +kernel) (by decide +kernel), wG_of 114 (by decide +kernel) (by decide +kernel), wG_of 70 (by decide +kernel) (by decide +kernel)⟩
theorem ml_X5_20 : Cond.methodLink RX5 20 yJx4a65c_init_da8c8 ∈ wG ∧ Cond.instanceMethod yJx4a65c_init_da8c8 ∈ wG := ⟨wG_of 115 (by decide +kernel) (by decide +kernel), wG_of 116 (by decide +kernel) (by decide +kernel)⟩
theorem fl_X5_21 : Fl RX5 21 6 1 := ⟨by decide, by decide, "RatchetPost$Things", wG_of 141 (by decide +kernel) (by decide +kernel), Or.inl (by decide +kernel)⟩
theorem nl_X5_25 : Nl RX5 25 5 := ⟨by decide, wG_of 334 (by decide +kernel) (by decide +kernel), wG_of 335 (by decide +kernel) (by decide +kernel), wG_of 75 (by decide +kernel) (by decide +kernel)⟩
theorem cl_X5_25 : Cond.classLink RX5 25 "RatchetPost$Thing" ∈ wG := wG_of 334 (by decide +kernel) (by decide +kernel)
theorem ml_X5_27 : Cond.methodLink RX5 27 yX4_init ∈ wG ∧ Cond.instanceMethod yX4_init ∈ wG := ⟨wG_of 336 (by decide +kernel) (by decide +kernel), wG_of 337 (by decide +kernel) (by decide +kernel)⟩
theorem ml_X5_30 : Cond.methodLink RX5 30 yJx4a65c_add_9ea2d ∈ wG ∧ Cond.instanceMethod yJx4a65c_add_9ea2d ∈ wG ∧ Cond.selects yJx4a65c_add_9ea2d.cls yJx4a65c_add_9ea2d yJx4a65c_add_9ea2d ∈ wG := ⟨wG_of 376 (by decide +kernel) (by decide +kernel), wG_of 377 (by decide +kernel) (by decide +kernel), wG_of 378 (by decide +kernel) (by decide +kernel)⟩
theorem fl_X5_34 : Fl RX5 34 5 1 := ⟨by decide, by decide, "RatchetPost$Thing", wG_of 345 (by decide +kernel) (by decide +kernel), Or.inl (by decide +kernel)⟩
theorem fl_X5_34_s : Fl RX5 34 4 1 := ⟨by decide, by decide, "RatchetPost$Thing", wG_of 345 (by decide +kernel) (by decide +kernel), Or.inl (by decide +kernel)⟩
theorem ml_X5_38 : Cond.methodLink RX5 38 yX0_publicOf ∈ wG ∧ Cond.instanceMethod yX0_publicOf ∈ wG ∧ Cond.selects yX0_publicOf.cls yX0_publicOf yX0_publicOf ∈ wG := ⟨wG_of 454 (by decide +kernel) (by decide +kernel), wG_of 455 (by decide +kernel) (by decide +kernel), wG_of 456 (by decide +kernel) (by decide +kernel)⟩
theorem ml_X5_42 : Cond.methodLink RX5 42 yX0_power ∈ wG ∧ Cond.instanceMethod yX0_power ∈ wG ∧ Cond.selects yX0_power.cls yX0_power yX0_power ∈ wG := ⟨wG_of 462 (by decide +kernel) (by decide +kernel), wG_of 459 (by decide +kernel) (by decide +kernel), wG_of 460 (by decide +kernel) (by decide +kernel)⟩
theorem ml_X5_46 : Cond.methodLink RX5 46 yX5_comeOf ∈ wG ∧ Cond.instanceMethod yX5_comeOf ∈ wG ∧ Cond.selects yX5_comeOf.cls yX5_comeOf yX5_comeOf ∈ wG := ⟨wG_of 463 (by decide +kernel) (by decide +kernel), wG_of 465 (by decide +kernel) (by decide +kernel), wG_of 9 (by decide +kernel) (by decide +kernel)⟩
theorem ml_X5_50 : Cond.methodLink RX5 50 yX0_mix ∈ wG ∧ Cond.instanceMethod yX0_mix ∈ wG ∧ Cond.selects yX0_mix.cls yX0_mix yX0_mix ∈ wG := ⟨wG_of 483 (by decide +kernel) (by decide +kernel), wG_of 484 (by decide +kernel) (by decide +kernel), wG_of 485 (by decide +kernel) (by decide +kernel)⟩
theorem fl_X5_53 : Fl RX5 53 5 4 := ⟨by decide, by decide, "RatchetPost$Thing", wG_of 352 (by decide +kernel) (by decide +kernel), Or.inl (by decide +kernel)⟩
theorem fl_X5_53_s : Fl RX5 53 4 4 := ⟨by decide, by decide, "RatchetPost$Thing", wG_of 352 (by decide +kernel) (by decide +kernel), Or.inl (by decide +kernel)⟩
theorem fl_X5_57 : Fl RX5 57 5 0 := ⟨by decide, by decide, "RatchetPost$Thing", wG_of 341 (by decide +kernel) (by decide +kernel), Or.inl (by decide +kernel)⟩
theorem fl_X5_57_s : Fl RX5 57 4 0 := ⟨by decide, by decide, "RatchetPost$Thing", wG_of 341 (by decide +kernel) (by decide +kernel), Or.inl (by decide +kernel)⟩
theorem fl_X5_60 : Fl RX5 60 5 3 := ⟨by decide, by decide, "RatchetPost$Thing", wG_of 351 (by decide +kernel) (by decide +kernel), Or.inl (by decide +kernel)⟩
theorem fl_X5_60_s : Fl RX5 60 4 3 := ⟨by decide, by decide, "RatchetPost$Thing", wG_of 351 (by decide +kernel) (by decide +kernel), Or.inl (by decide +kernel)⟩
theorem fl_X5_63 : Fl RX5 63 5 5 := ⟨by decide, by decide, "RatchetPost$Thing", wG_of 353 (by decide +kernel) (by decide +kernel), Or.inl (by decide +kernel)⟩
theorem fl_X5_63_s : Fl RX5 63 4 5 := ⟨by decide, by decide, "RatchetPost$Thing", wG_of 353 (by decide +kernel) (by decide +kernel), Or.inl (by decide +kernel)⟩
theorem ml_X5_66 : Cond.methodLink RX5 66 yX4_stepsNow ∈ wG ∧ Cond.instanceMethod yX4_stepsNow ∈ wG ∧ Cond.selects yX4_stepsNow.cls yX4_stepsNow yX4_stepsNow ∈ wG := ⟨wG_of 467 (by decide +kernel) (by decide +kernel), wG_of 468 (by decide +kernel) (by decide +kernel), wG_of 469 (by decide +kernel) (by decide +kernel)⟩
theorem fl_X5_70 : Fl RX5 70 5 7 := ⟨by decide, by decide, "RatchetPost$Thing", wG_of 357 (by decide +kernel) (by decide +kernel), Or.inl (by decide +kernel)⟩
theorem fl_X5_70_s : Fl RX5 70 4 7 := ⟨by decide, by decide, "RatchetPost$Thing", wG_of 357 (by decide +kernel) (by decide +kernel), Or.inl (by decide +kernel)⟩
theorem fl_X5_73 : Fl RX5 73 6 2 := ⟨by decide, by decide, "RatchetPost$Things", wG_of 143 (by decide +kernel) (by decide +kernel), Or.inl (by decide +kernel)⟩
theorem fl_X5_76 : Fl RX5 76 5 6 := ⟨by decide, by decide, "RatchetPost$Thing", wG_of 355 (by decide +kernel) (by decide +kernel), Or.inl (by decide +kernel)⟩
theorem fl_X5_76_s : Fl RX5 76 4 6 := ⟨by decide, by decide, "RatchetPost$Thing", wG_of 355 (by decide +kernel) (by decide +kernel), Or.inl (by decide +kernel)⟩
theorem ml_X5_80 : Cond.methodLink RX5 80 yJx4a65c_size_8abf5 ∈ wG ∧ Cond.instanceMethod yJx4a65c_size_8abf5 ∈ wG ∧ Cond.selects yJx4a65c_size_8abf5.cls yJx4a65c_size_8abf5 yJx4a65c_size_8abf5 ∈ wG := ⟨wG_of 660 (by decide +kernel) (by decide +kernel), wG_of 661 (by decide +kernel) (by decide +kernel), wG_of 662 (by decide +kernel) (by decide +kernel)⟩
theorem ml_X5_83 : Cond.methodLink RX5 83 yJx4a65c_get_915e3 ∈ wG ∧ Cond.instanceMethod yJx4a65c_get_915e3 ∈ wG ∧ Cond.selects yJx4a65c_get_915e3.cls yJx4a65c_get_915e3 yJx4a65c_get_915e3 ∈ wG := ⟨wG_of 664 (by decide +kernel) (by decide +kernel), wG_of 665 (by decide +kernel) (by decide +kernel), wG_of 666 (by decide +kernel) (by decide +kernel)⟩
theorem oi_X6_3 : Cond.methodLink RX6 3 objectInit ∈ wG ∧ Cond.instanceMethod objectInit ∈ wG ∧ Cond.code objectInit ⟨#[0xb1]⟩ 1 none ∈ wG := ⟨wG_of 177 (by decide +kernel) (by decide +kernel), wG_of 90 (by decide +kernel) (by decide +kernel), wG_of 91 (by decide +kernel) (by decide +kernel)⟩
theorem fl_X6_9 : Fl RX6 9 7 0 := ⟨by decide, by decide, "RatchetPost$Trace", wG_of 178 (by decide +kernel) (by decide +kernel), Or.inl (by decide +kernel)⟩
theorem fl_X6_15 : Fl RX6 15 7 1 := ⟨by decide, by decide, "RatchetPost$Trace", wG_of 180 (by decide +kernel) (by decide +kernel), Or.inl (by decide +kernel)⟩
theorem oi_X7_1 : Cond.methodLink RX7 1 objectInit ∈ wG ∧ Cond.instanceMethod objectInit ∈ wG ∧ Cond.code objectInit ⟨#[0xb1]⟩ 1 none ∈ wG := ⟨wG_of 162 (by decide +kernel) (by decide +kernel), wG_of 90 (by decide +kernel) (by decide +kernel), wG_of 91 (by decide +kernel) (by decide +kernel)⟩
theorem fl_X7_7 : Fl RX7 7 8 0 := ⟨by decide, by decide, "RatchetPost$Tray", wG_of 163 (by decide +kernel) (by decide +kernel), Or.inl (by decide +kernel)⟩
theorem fl_X7_13 : Fl RX7 13 8 1 := ⟨by decide, by decide, "RatchetPost$Tray", wG_of 165 (by decide +kernel) (by decide +kernel), Or.inl (by decide +kernel)⟩
theorem oi_X8_1 : Cond.methodLink RX8 1 objectInit ∈ wG ∧ Cond.instanceMethod objectInit ∈ wG ∧ Cond.code objectInit ⟨#[0xb1]⟩ 1 none ∈ wG := ⟨wG_of 89 (by decide +kernel) (by decide +kernel), wG_of 90 (by decide +kernel) (by decide +kernel), wG_of 91 (by decide +kernel) (by decide +kernel)⟩
theorem nl_X8_7 : Nl RX8 7 6 := ⟨by decide, wG_of 92 (by decide +kernel) (by decide +kernel), wG_of 93 (by decide +kernel) (by decide +kernel), wG_of 66 (by decide +kernel) (by decide +kernel)⟩
theorem ml_X8_9 : Cond.methodLinkNest RX8 9 yX5_init RX8 ∈ wNst ∧ Cond.instanceMethod yX5_init ∈ wG := ⟨by decide +kernel, wG_of 95 (by decide +kernel) (by decide +kernel)⟩
theorem fl_X8_10 : Fl RX8 10 9 1 := ⟨by decide, by decide, "RatchetPost", wG_of 189 (by decide +kernel) (by decide +kernel), Or.inl (by decide +kernel)⟩
theorem fl_X8_16 : Fl RX8 16 6 0 := ⟨by decide, by decide, "RatchetPost$Things", wG_of 140 (by decide +kernel) (by decide +kernel), Or.inl (by decide +kernel)⟩
theorem fl_X8_20 : Fl RX8 20 9 0 := ⟨by decide, by decide, "RatchetPost", wG_of 188 (by decide +kernel) (by decide +kernel), Or.inl (by decide +kernel)⟩
theorem nl_X8_21 : Nl RX8 21 2 := ⟨by decide, wG_of 152 (by decide +kernel) (by decide +kernel), wG_of 254 (by decide +kernel) (by decide +kernel), wG_of 74 (by decide +kernel) (by decide +kernel)⟩
theorem cl_X8_21 : Cond.classLink RX8 21 "RatchetPost$End" ∈ wG := wG_of 152 (by decide +kernel) (by decide +kernel)
theorem fl_X8_23 : Fl RX8 23 9 2 := ⟨by decide, by decide, "RatchetPost", wG_of 190 (by decide +kernel) (by decide +kernel), Or.inl (by decide +kernel)⟩
theorem nl_X8_27 : Nl RX8 27 3 := ⟨by decide, wG_of 154 (by decide +kernel) (by decide +kernel), wG_of 500 (by decide +kernel) (by decide +kernel), wG_of 80 (by decide +kernel) (by decide +kernel)⟩
theorem cl_X8_27 : Cond.classLink RX8 27 "RatchetPost$Letter" ∈ wG := wG_of 154 (by decide +kernel) (by decide +kernel)
theorem fl_X8_29 : Fl RX8 29 9 3 := ⟨by decide, by decide, "RatchetPost", wG_of 191 (by decide +kernel) (by decide +kernel), Or.inl (by decide +kernel)⟩
theorem nl_X8_33 : Nl RX8 33 8 := ⟨by decide, wG_of 156 (by decide +kernel) (by decide +kernel), wG_of 158 (by decide +kernel) (by decide +kernel), wG_of 71 (by decide +kernel) (by decide +kernel)⟩
theorem cl_X8_33 : Cond.classLink RX8 33 "RatchetPost$Tray" ∈ wG := wG_of 156 (by decide +kernel) (by decide +kernel)
theorem fl_X8_35 : Fl RX8 35 9 4 := ⟨by decide, by decide, "RatchetPost", wG_of 192 (by decide +kernel) (by decide +kernel), Or.inl (by decide +kernel)⟩
theorem ml_X8_39 : Cond.methodLinkNest RX8 39 yX7_init RX8 ∈ wNst ∧ Cond.instanceMethod yX7_init ∈ wG := ⟨by decide +kernel, wG_of 160 (by decide +kernel) (by decide +kernel)⟩
theorem nl_X8_40 : Nl RX8 40 7 := ⟨by decide, wG_of 172 (by decide +kernel) (by decide +kernel), wG_of 173 (by decide +kernel) (by decide +kernel), wG_of 72 (by decide +kernel) (by decide +kernel)⟩
theorem ml_X8_42 : Cond.methodLinkNest RX8 42 yX6_init RX8 ∈ wNst ∧ Cond.instanceMethod yX6_init ∈ wG := ⟨by decide +kernel, wG_of 175 (by decide +kernel) (by decide +kernel)⟩
theorem fl_X8_43 : Fl RX8 43 9 5 := ⟨by decide, by decide, "RatchetPost", wG_of 193 (by decide +kernel) (by decide +kernel), Or.inl (by decide +kernel)⟩
theorem fl_X8_47 : Fl RX8 47 9 8 := ⟨by decide, by decide, "RatchetPost", wG_of 196 (by decide +kernel) (by decide +kernel), Or.inl (by decide +kernel)⟩
theorem fl_X8_51 : Fl RX8 51 9 9 := ⟨by decide, by decide, "RatchetPost", wG_of 197 (by decide +kernel) (by decide +kernel), Or.inl (by decide +kernel)⟩
theorem ml_X8_54 : Cond.methodLink RX8 54 yX8_refuse ∈ wG ∧ Cond.instanceMethod yX8_refuse ∈ wG ∧ Cond.selects yX8_refuse.cls yX8_refuse yX8_refuse ∈ wG := ⟨wG_of 226 (by decide +kernel) (by decide +kernel), wG_of 228 (by decide +kernel) (by decide +kernel), wG_of 0 (by decide +kernel) (by decide +kernel)⟩
theorem fl_X8_58 : Fl RX8 58 9 6 := ⟨by decide, by decide, "RatchetPost", wG_of 194 (by decide +kernel) (by decide +kernel), Or.inl (by decide +kernel)⟩
theorem fl_X8_61 : Fl RX8 61 1 0 := ⟨by decide, by decide, "RatchetPost$Arithmetic", wG_of 105 (by decide +kernel) (by decide +kernel), Or.inl (by decide +kernel)⟩
theorem fl_X8_66 : Fl RX8 66 1 1 := ⟨by decide, by decide, "RatchetPost$Arithmetic", wG_of 107 (by decide +kernel) (by decide +kernel), Or.inl (by decide +kernel)⟩
theorem ml_X8_69 : Cond.methodLink RX8 69 yX8_done ∈ wG ∧ Cond.instanceMethod yX8_done ∈ wG ∧ Cond.selects yX8_done.cls yX8_done yX8_done ∈ wG := ⟨wG_of 230 (by decide +kernel) (by decide +kernel), wG_of 232 (by decide +kernel) (by decide +kernel), wG_of 1 (by decide +kernel) (by decide +kernel)⟩
theorem ml_X8_72 : Cond.methodLink RX8 72 yX8_endOldSkipped ∈ wG ∧ Cond.instanceMethod yX8_endOldSkipped ∈ wG ∧ Cond.selects yX8_endOldSkipped.cls yX8_endOldSkipped yX8_endOldSkipped ∈ wG := ⟨wG_of 238 (by decide +kernel) (by decide +kernel), wG_of 240 (by decide +kernel) (by decide +kernel), wG_of 2 (by decide +kernel) (by decide +kernel)⟩
theorem ml_X8_75 : Cond.methodLink RX8 75 yX1_init ∈ wG ∧ Cond.instanceMethod yX1_init ∈ wG := ⟨wG_of 255 (by decide +kernel) (by decide +kernel), wG_of 256 (by decide +kernel) (by decide +kernel)⟩
theorem ml_X8_78 : Cond.methodLink RX8 78 yX8_endAt ∈ wG ∧ Cond.instanceMethod yX8_endAt ∈ wG ∧ Cond.selects yX8_endAt.cls yX8_endAt yX8_endAt ∈ wG := ⟨wG_of 326 (by decide +kernel) (by decide +kernel), wG_of 328 (by decide +kernel) (by decide +kernel), wG_of 3 (by decide +kernel) (by decide +kernel)⟩
theorem fl_X8_82 : Fl RX8 82 2 2 := ⟨by decide, by decide, "RatchetPost$End", wG_of 269 (by decide +kernel) (by decide +kernel), Or.inl (by decide +kernel)⟩
theorem fl_X8_85 : Fl RX8 85 2 1 := ⟨by decide, by decide, "RatchetPost$End", wG_of 267 (by decide +kernel) (by decide +kernel), Or.inl (by decide +kernel)⟩
theorem ml_X8_89 : Cond.methodLink RX8 89 yX5_newSecret ∈ wG ∧ Cond.instanceMethod yX5_newSecret ∈ wG ∧ Cond.selects yX5_newSecret.cls yX5_newSecret yX5_newSecret ∈ wG := ⟨wG_of 330 (by decide +kernel) (by decide +kernel), wG_of 331 (by decide +kernel) (by decide +kernel), wG_of 332 (by decide +kernel) (by decide +kernel)⟩
theorem ml_X8_93 : Cond.methodLink RX8 93 yX8_lowerOf ∈ wG ∧ Cond.instanceMethod yX8_lowerOf ∈ wG ∧ Cond.selects yX8_lowerOf.cls yX8_lowerOf yX8_lowerOf ∈ wG := ⟨wG_of 438 (by decide +kernel) (by decide +kernel), wG_of 440 (by decide +kernel) (by decide +kernel), wG_of 7 (by decide +kernel) (by decide +kernel)⟩
theorem ml_X8_96 : Cond.methodLink RX8 96 yX8_otherOf ∈ wG ∧ Cond.instanceMethod yX8_otherOf ∈ wG ∧ Cond.selects yX8_otherOf.cls yX8_otherOf yX8_otherOf ∈ wG := ⟨wG_of 442 (by decide +kernel) (by decide +kernel), wG_of 444 (by decide +kernel) (by decide +kernel), wG_of 8 (by decide +kernel) (by decide +kernel)⟩
theorem fl_X8_99 : Fl RX8 99 2 3 := ⟨by decide, by decide, "RatchetPost$End", wG_of 270 (by decide +kernel) (by decide +kernel), Or.inl (by decide +kernel)⟩
theorem ml_X8_103 : Cond.methodLink RX8 103 yX1_nextSecret ∈ wG ∧ Cond.instanceMethod yX1_nextSecret ∈ wG ∧ Cond.selects yX1_nextSecret.cls yX1_nextSecret yX1_nextSecret ∈ wG := ⟨wG_of 446 (by decide +kernel) (by decide +kernel), wG_of 447 (by decide +kernel) (by decide +kernel), wG_of 448 (by decide +kernel) (by decide +kernel)⟩
theorem ml_X8_107 : Cond.methodLink RX8 107 yX5_meetingOf ∈ wG ∧ Cond.instanceMethod yX5_meetingOf ∈ wG ∧ Cond.selects yX5_meetingOf.cls yX5_meetingOf yX5_meetingOf ∈ wG := ⟨wG_of 450 (by decide +kernel) (by decide +kernel), wG_of 451 (by decide +kernel) (by decide +kernel), wG_of 452 (by decide +kernel) (by decide +kernel)⟩
theorem ml_X8_111 : Cond.methodLink RX8 111 yX5_firstRootOf ∈ wG ∧ Cond.instanceMethod yX5_firstRootOf ∈ wG ∧ Cond.selects yX5_firstRootOf.cls yX5_firstRootOf yX5_firstRootOf ∈ wG := ⟨wG_of 475 (by decide +kernel) (by decide +kernel), wG_of 476 (by decide +kernel) (by decide +kernel), wG_of 477 (by decide +kernel) (by decide +kernel)⟩
theorem fl_X8_115 : Fl RX8 115 2 4 := ⟨by decide, by decide, "RatchetPost$End", wG_of 272 (by decide +kernel) (by decide +kernel), Or.inl (by decide +kernel)⟩
theorem fl_X8_119 : Fl RX8 119 2 5 := ⟨by decide, by decide, "RatchetPost$End", wG_of 273 (by decide +kernel) (by decide +kernel), Or.inl (by decide +kernel)⟩
theorem ml_X8_122 : Cond.methodLink RX8 122 yX5_rootOf ∈ wG ∧ Cond.instanceMethod yX5_rootOf ∈ wG ∧ Cond.selects yX5_rootOf.cls yX5_rootOf yX5_rootOf ∈ wG := ⟨wG_of 479 (by decide +kernel) (by decide +kernel), wG_of 480 (by decide +kernel) (by decide +kernel), wG_of 481 (by decide +kernel) (by decide +kernel)⟩
theorem ml_X8_125 : Cond.methodLink RX8 125 yX5_chainOf ∈ wG ∧ Cond.instanceMethod yX5_chainOf ∈ wG ∧ Cond.selects yX5_chainOf.cls yX5_chainOf yX5_chainOf ∈ wG := ⟨wG_of 487 (by decide +kernel) (by decide +kernel), wG_of 488 (by decide +kernel) (by decide +kernel), wG_of 489 (by decide +kernel) (by decide +kernel)⟩
theorem fl_X8_128 : Fl RX8 128 2 6 := ⟨by decide, by decide, "RatchetPost$End", wG_of 274 (by decide +kernel) (by decide +kernel), Or.inl (by decide +kernel)⟩
theorem fl_X8_131 : Fl RX8 131 5 1 := ⟨by decide, by decide, "RatchetPost$Thing", wG_of 346 (by decide +kernel) (by decide +kernel), Or.inl (by decide +kernel)⟩
theorem fl_X8_131_s : Fl RX8 131 4 1 := ⟨by decide, by decide, "RatchetPost$Thing", wG_of 346 (by decide +kernel) (by decide +kernel), Or.inl (by decide +kernel)⟩
theorem ml_X8_136 : Cond.methodLink RX8 136 yX0_publicOf ∈ wG ∧ Cond.instanceMethod yX0_publicOf ∈ wG ∧ Cond.selects yX0_publicOf.cls yX0_publicOf yX0_publicOf ∈ wG := ⟨wG_of 491 (by decide +kernel) (by decide +kernel), wG_of 455 (by decide +kernel) (by decide +kernel), wG_of 456 (by decide +kernel) (by decide +kernel)⟩
theorem fl_X8_139 : Fl RX8 139 2 8 := ⟨by decide, by decide, "RatchetPost$End", wG_of 277 (by decide +kernel) (by decide +kernel), Or.inl (by decide +kernel)⟩
theorem fl_X8_142 : Fl RX8 142 9 7 := ⟨by decide, by decide, "RatchetPost", wG_of 195 (by decide +kernel) (by decide +kernel), Or.inl (by decide +kernel)⟩
theorem ml_X8_145 : Cond.methodLink RX8 145 yX5_keyOf ∈ wG ∧ Cond.instanceMethod yX5_keyOf ∈ wG ∧ Cond.selects yX5_keyOf.cls yX5_keyOf yX5_keyOf ∈ wG := ⟨wG_of 496 (by decide +kernel) (by decide +kernel), wG_of 497 (by decide +kernel) (by decide +kernel), wG_of 498 (by decide +kernel) (by decide +kernel)⟩
theorem ml_X8_148 : Cond.methodLink RX8 148 yX2_init ∈ wG ∧ Cond.instanceMethod yX2_init ∈ wG := ⟨wG_of 501 (by decide +kernel) (by decide +kernel), wG_of 502 (by decide +kernel) (by decide +kernel)⟩
theorem fl_X8_151 : Fl RX8 151 3 3 := ⟨by decide, by decide, "RatchetPost$Letter", wG_of 512 (by decide +kernel) (by decide +kernel), Or.inl (by decide +kernel)⟩
theorem fl_X8_155 : Fl RX8 155 3 4 := ⟨by decide, by decide, "RatchetPost$Letter", wG_of 513 (by decide +kernel) (by decide +kernel), Or.inl (by decide +kernel)⟩
theorem ml_X8_158 : Cond.methodLink RX8 158 yX0_mix ∈ wG ∧ Cond.instanceMethod yX0_mix ∈ wG ∧ Cond.selects yX0_mix.cls yX0_mix yX0_mix ∈ wG := ⟨wG_of 528 (by decide +kernel) (by decide +kernel), wG_of 484 (by decide +kernel) (by decide +kernel), wG_of 485 (by decide +kernel) (by decide +kernel)⟩
theorem fl_X8_162 : Fl RX8 162 3 5 := ⟨by decide, by decide, "RatchetPost$Letter", wG_of 514 (by decide +kernel) (by decide +kernel), Or.inl (by decide +kernel)⟩
theorem ml_X8_165 : Cond.methodLink RX8 165 yX5_nextOf ∈ wG ∧ Cond.instanceMethod yX5_nextOf ∈ wG ∧ Cond.selects yX5_nextOf.cls yX5_nextOf yX5_nextOf ∈ wG := ⟨wG_of 529 (by decide +kernel) (by decide +kernel), wG_of 530 (by decide +kernel) (by decide +kernel), wG_of 531 (by decide +kernel) (by decide +kernel)⟩
theorem fl_X8_168 : Fl RX8 168 2 9 := ⟨by decide, by decide, "RatchetPost$End", wG_of 279 (by decide +kernel) (by decide +kernel), Or.inl (by decide +kernel)⟩
theorem ml_X8_171 : Cond.methodLink RX8 171 yX8_letterAt ∈ wG ∧ Cond.instanceMethod yX8_letterAt ∈ wG ∧ Cond.selects yX8_letterAt.cls yX8_letterAt yX8_letterAt ∈ wG := ⟨wG_of 537 (by decide +kernel) (by decide +kernel), wG_of 539 (by decide +kernel) (by decide +kernel), wG_of 10 (by decide +kernel) (by decide +kernel)⟩
theorem fl_X8_175 : Fl RX8 175 3 0 := ⟨by decide, by decide, "RatchetPost$Letter", wG_of 506 (by decide +kernel) (by decide +kernel), Or.inl (by decide +kernel)⟩
theorem fl_X8_178 : Fl RX8 178 2 0 := ⟨by decide, by decide, "RatchetPost$End", wG_of 265 (by decide +kernel) (by decide +kernel), Or.inl (by decide +kernel)⟩
theorem ml_X8_181 : Cond.methodLink RX8 181 yX1_keptFor ∈ wG ∧ Cond.instanceMethod yX1_keptFor ∈ wG ∧ Cond.selects yX1_keptFor.cls yX1_keptFor yX1_keptFor ∈ wG := ⟨wG_of 545 (by decide +kernel) (by decide +kernel), wG_of 546 (by decide +kernel) (by decide +kernel), wG_of 547 (by decide +kernel) (by decide +kernel)⟩
theorem ml_X8_185 : Cond.methodLink RX8 185 yX8_takeByKept ∈ wG ∧ Cond.instanceMethod yX8_takeByKept ∈ wG ∧ Cond.selects yX8_takeByKept.cls yX8_takeByKept yX8_takeByKept ∈ wG := ⟨wG_of 557 (by decide +kernel) (by decide +kernel), wG_of 559 (by decide +kernel) (by decide +kernel), wG_of 11 (by decide +kernel) (by decide +kernel)⟩
theorem ml_X8_189 : Cond.methodLink RX8 189 yX2_from ∈ wG ∧ Cond.instanceMethod yX2_from ∈ wG ∧ Cond.selects yX2_from.cls yX2_from yX2_from ∈ wG := ⟨wG_of 566 (by decide +kernel) (by decide +kernel), wG_of 550 (by decide +kernel) (by decide +kernel), wG_of 551 (by decide +kernel) (by decide +kernel)⟩
theorem fl_X8_192 : Fl RX8 192 2 7 := ⟨by decide, by decide, "RatchetPost$End", wG_of 275 (by decide +kernel) (by decide +kernel), Or.inl (by decide +kernel)⟩
theorem ml_X8_195 : Cond.methodLink RX8 195 yX8_takeByChain ∈ wG ∧ Cond.instanceMethod yX8_takeByChain ∈ wG ∧ Cond.selects yX8_takeByChain.cls yX8_takeByChain yX8_takeByChain ∈ wG := ⟨wG_of 567 (by decide +kernel) (by decide +kernel), wG_of 569 (by decide +kernel) (by decide +kernel), wG_of 13 (by decide +kernel) (by decide +kernel)⟩
theorem ml_X8_199 : Cond.methodLink RX8 199 yX8_takeNewPublic ∈ wG ∧ Cond.instanceMethod yX8_takeNewPublic ∈ wG ∧ Cond.selects yX8_takeNewPublic.cls yX8_takeNewPublic yX8_takeNewPublic ∈ wG := ⟨wG_of 622 (by decide +kernel) (by decide +kernel), wG_of 624 (by decide +kernel) (by decide +kernel), wG_of 17 (by decide +kernel) (by decide +kernel)⟩
theorem ml_X8_202 : Cond.methodLink RX8 202 yX5_show ∈ wG ∧ Cond.instanceMethod yX5_show ∈ wG ∧ Cond.selects yX5_show.cls yX5_show yX5_show ∈ wG := ⟨wG_of 652 (by decide +kernel) (by decide +kernel), wG_of 653 (by decide +kernel) (by decide +kernel), wG_of 654 (by decide +kernel) (by decide +kernel)⟩
theorem fl_X8_206 : Fl RX8 206 2 13 := ⟨by decide, by decide, "RatchetPost$End", wG_of 286 (by decide +kernel) (by decide +kernel), Or.inl (by decide +kernel)⟩
theorem fl_X8_209 : Fl RX8 209 2 12 := ⟨by decide, by decide, "RatchetPost$End", wG_of 284 (by decide +kernel) (by decide +kernel), Or.inl (by decide +kernel)⟩
theorem fl_X8_213 : Fl RX8 213 4 8 := ⟨by decide, by decide, "RatchetPost$Skipped", wG_of 587 (by decide +kernel) (by decide +kernel), Or.inl (by decide +kernel)⟩
theorem nl_X8_214 : Nl RX8 214 4 := ⟨by decide, wG_of 580 (by decide +kernel) (by decide +kernel), wG_of 581 (by decide +kernel) (by decide +kernel), wG_of 81 (by decide +kernel) (by decide +kernel)⟩
theorem cl_X8_214 : Cond.classLink RX8 214 "RatchetPost$Skipped" ∈ wG := wG_of 580 (by decide +kernel) (by decide +kernel)
theorem ml_X8_218 : Cond.methodLink RX8 218 yX5_settle ∈ wG ∧ Cond.instanceMethod yX5_settle ∈ wG ∧ Cond.selects yX5_settle.cls yX5_settle yX5_settle ∈ wG := ⟨wG_of 656 (by decide +kernel) (by decide +kernel), wG_of 657 (by decide +kernel) (by decide +kernel), wG_of 658 (by decide +kernel) (by decide +kernel)⟩
theorem fl_X8_221 : Fl RX8 221 3 2 := ⟨by decide, by decide, "RatchetPost$Letter", wG_of 510 (by decide +kernel) (by decide +kernel), Or.inl (by decide +kernel)⟩
theorem fl_X8_222 : Fl RX8 222 5 7 := ⟨by decide, by decide, "RatchetPost$Thing", wG_of 358 (by decide +kernel) (by decide +kernel), Or.inl (by decide +kernel)⟩
theorem fl_X8_222_s : Fl RX8 222 4 7 := ⟨by decide, by decide, "RatchetPost$Thing", wG_of 358 (by decide +kernel) (by decide +kernel), Or.inl (by decide +kernel)⟩
theorem ml_X8_225 : Cond.methodLink RX8 225 yX8_valueOf ∈ wG ∧ Cond.static yX8_valueOf ∈ wG := ⟨wG_of 698 (by decide +kernel) (by decide +kernel), wG_of 699 (by decide +kernel) (by decide +kernel)⟩
theorem fl_X8_228 : Fl RX8 228 2 10 := ⟨by decide, by decide, "RatchetPost$End", wG_of 281 (by decide +kernel) (by decide +kernel), Or.inl (by decide +kernel)⟩
theorem fl_X8_231 : Fl RX8 231 2 11 := ⟨by decide, by decide, "RatchetPost$End", wG_of 282 (by decide +kernel) (by decide +kernel), Or.inl (by decide +kernel)⟩
theorem fl_X8_234 : Fl RX8 234 4 9 := ⟨by decide, by decide, "RatchetPost$Skipped", wG_of 590 (by decide +kernel) (by decide +kernel), Or.inl (by decide +kernel)⟩
theorem fl_X8_235 : Fl RX8 235 4 10 := ⟨by decide, by decide, "RatchetPost$Skipped", wG_of 593 (by decide +kernel) (by decide +kernel), Or.inl (by decide +kernel)⟩
theorem fl_X8_238 : Fl RX8 238 4 1 := ⟨by decide, by decide, "RatchetPost$Skipped", wG_of 347 (by decide +kernel) (by decide +kernel), Or.inr (wG_of 348 (by decide +kernel) (by decide +kernel))⟩
theorem fl_X8_239 : Fl RX8 239 4 11 := ⟨by decide, by decide, "RatchetPost$Skipped", wG_of 596 (by decide +kernel) (by decide +kernel), Or.inl (by decide +kernel)⟩
theorem ml_X8_240 : Cond.methodLink RX8 240 yX2_before ∈ wG ∧ Cond.instanceMethod yX2_before ∈ wG ∧ Cond.selects yX2_before.cls yX2_before yX2_before ∈ wG := ⟨wG_of 630 (by decide +kernel) (by decide +kernel), wG_of 631 (by decide +kernel) (by decide +kernel), wG_of 632 (by decide +kernel) (by decide +kernel)⟩
theorem ml_X8_242 : Cond.methodLink RX8 242 yX2_place ∈ wG ∧ Cond.instanceMethod yX2_place ∈ wG ∧ Cond.selects yX2_place.cls yX2_place yX2_place ∈ wG := ⟨wG_of 571 (by decide +kernel) (by decide +kernel), wG_of 554 (by decide +kernel) (by decide +kernel), wG_of 555 (by decide +kernel) (by decide +kernel)⟩
theorem fl_X8_244 : Fl RX8 244 6 1 := ⟨by decide, by decide, "RatchetPost$Things", wG_of 142 (by decide +kernel) (by decide +kernel), Or.inl (by decide +kernel)⟩
theorem ml_X8_248 : Cond.methodLink RX8 248 yJx4a65c_size_8abf5 ∈ wG ∧ Cond.instanceMethod yJx4a65c_size_8abf5 ∈ wG ∧ Cond.selects yJx4a65c_size_8abf5.cls yJx4a65c_size_8abf5 yJx4a65c_size_8abf5 ∈ wG := ⟨wG_of 713 (by decide +kernel) (by decide +kernel), wG_of 661 (by decide +kernel) (by decide +kernel), wG_of 662 (by decide +kernel) (by decide +kernel)⟩
theorem fl_X8_253 : Fl RX8 253 6 2 := ⟨by decide, by decide, "RatchetPost$Things", wG_of 144 (by decide +kernel) (by decide +kernel), Or.inl (by decide +kernel)⟩
theorem fl_X8_256 : Fl RX8 256 7 1 := ⟨by decide, by decide, "RatchetPost$Trace", wG_of 181 (by decide +kernel) (by decide +kernel), Or.inl (by decide +kernel)⟩
theorem ml_X8_258 : Cond.methodLink RX8 258 yX8_trayAt ∈ wG ∧ Cond.instanceMethod yX8_trayAt ∈ wG ∧ Cond.selects yX8_trayAt.cls yX8_trayAt yX8_trayAt ∈ wG := ⟨wG_of 718 (by decide +kernel) (by decide +kernel), wG_of 720 (by decide +kernel) (by decide +kernel), wG_of 20 (by decide +kernel) (by decide +kernel)⟩
theorem ml_X8_262 : Cond.methodLink RX8 262 yX7_put ∈ wG ∧ Cond.instanceMethod yX7_put ∈ wG ∧ Cond.selects yX7_put.cls yX7_put yX7_put ∈ wG := ⟨wG_of 722 (by decide +kernel) (by decide +kernel), wG_of 723 (by decide +kernel) (by decide +kernel), wG_of 724 (by decide +kernel) (by decide +kernel)⟩
theorem ml_X8_266 : Cond.methodLink RX8 266 yX8_holdOfLetter ∈ wG ∧ Cond.instanceMethod yX8_holdOfLetter ∈ wG ∧ Cond.selects yX8_holdOfLetter.cls yX8_holdOfLetter yX8_holdOfLetter ∈ wG := ⟨wG_of 726 (by decide +kernel) (by decide +kernel), wG_of 728 (by decide +kernel) (by decide +kernel), wG_of 21 (by decide +kernel) (by decide +kernel)⟩
theorem ml_X8_270 : Cond.methodLink RX8 270 yX8_holdOfEnd ∈ wG ∧ Cond.instanceMethod yX8_holdOfEnd ∈ wG ∧ Cond.selects yX8_holdOfEnd.cls yX8_holdOfEnd yX8_holdOfEnd ∈ wG := ⟨wG_of 730 (by decide +kernel) (by decide +kernel), wG_of 732 (by decide +kernel) (by decide +kernel), wG_of 22 (by decide +kernel) (by decide +kernel)⟩
theorem fl_X8_274 : Fl RX8 274 8 1 := ⟨by decide, by decide, "RatchetPost$Tray", wG_of 166 (by decide +kernel) (by decide +kernel), Or.inl (by decide +kernel)⟩
theorem fl_X8_278 : Fl RX8 278 8 0 := ⟨by decide, by decide, "RatchetPost$Tray", wG_of 164 (by decide +kernel) (by decide +kernel), Or.inl (by decide +kernel)⟩
theorem fl_X8_281 : Fl RX8 281 5 0 := ⟨by decide, by decide, "RatchetPost$Thing", wG_of 342 (by decide +kernel) (by decide +kernel), Or.inl (by decide +kernel)⟩
theorem fl_X8_281_s : Fl RX8 281 4 0 := ⟨by decide, by decide, "RatchetPost$Thing", wG_of 342 (by decide +kernel) (by decide +kernel), Or.inl (by decide +kernel)⟩
theorem ml_X8_284 : Cond.methodLink RX8 284 yX8_run ∈ wG ∧ Cond.static yX8_run ∈ wG := ⟨wG_of 742 (by decide +kernel) (by decide +kernel), wG_of 743 (by decide +kernel) (by decide +kernel)⟩
theorem fl_X8_288 : Fl RX8 288 7 0 := ⟨by decide, by decide, "RatchetPost$Trace", wG_of 179 (by decide +kernel) (by decide +kernel), Or.inl (by decide +kernel)⟩
theorem ml_X8_291 : Cond.methodLink RX8 291 yJ9_floorMod_7cf53 ∈ wG ∧ Cond.static yJ9_floorMod_7cf53 ∈ wG := ⟨wG_of 766 (by decide +kernel) (by decide +kernel), wG_of 767 (by decide +kernel) (by decide +kernel)⟩
theorem ml_X8_296 : Cond.methodLink RX8 296 yX8_forgeKind ∈ wG ∧ Cond.instanceMethod yX8_forgeKind ∈ wG ∧ Cond.selects yX8_forgeKind.cls yX8_forgeKind yX8_forgeKind ∈ wG := ⟨wG_of 769 (by decide +kernel) (by decide +kernel), wG_of 771 (by decide +kernel) (by decide +kernel), wG_of 23 (by decide +kernel) (by decide +kernel)⟩
theorem ml_X8_300 : Cond.methodLink RX8 300 yX8_forgeHeader ∈ wG ∧ Cond.instanceMethod yX8_forgeHeader ∈ wG ∧ Cond.selects yX8_forgeHeader.cls yX8_forgeHeader yX8_forgeHeader ∈ wG := ⟨wG_of 776 (by decide +kernel) (by decide +kernel), wG_of 778 (by decide +kernel) (by decide +kernel), wG_of 24 (by decide +kernel) (by decide +kernel)⟩
theorem ml_X8_303 : Cond.methodLink RX8 303 yX8_forgeCopy ∈ wG ∧ Cond.instanceMethod yX8_forgeCopy ∈ wG ∧ Cond.selects yX8_forgeCopy.cls yX8_forgeCopy yX8_forgeCopy ∈ wG := ⟨wG_of 780 (by decide +kernel) (by decide +kernel), wG_of 782 (by decide +kernel) (by decide +kernel), wG_of 25 (by decide +kernel) (by decide +kernel)⟩
theorem ml_X8_306 : Cond.methodLink RX8 306 yX8_forgeRow ∈ wG ∧ Cond.instanceMethod yX8_forgeRow ∈ wG ∧ Cond.selects yX8_forgeRow.cls yX8_forgeRow yX8_forgeRow ∈ wG := ⟨wG_of 784 (by decide +kernel) (by decide +kernel), wG_of 786 (by decide +kernel) (by decide +kernel), wG_of 26 (by decide +kernel) (by decide +kernel)⟩
theorem fl_X8_310 : Fl RX8 310 9 10 := ⟨by decide, by decide, "RatchetPost", wG_of 198 (by decide +kernel) (by decide +kernel), Or.inl (by decide +kernel)⟩
theorem ml_X8_313 : Cond.methodLink RX8 313 yX8_opened ∈ wG ∧ Cond.instanceMethod yX8_opened ∈ wG ∧ Cond.selects yX8_opened.cls yX8_opened yX8_opened ∈ wG := ⟨wG_of 561 (by decide +kernel) (by decide +kernel), wG_of 563 (by decide +kernel) (by decide +kernel), wG_of 12 (by decide +kernel) (by decide +kernel)⟩
theorem ml_X8_317 : Cond.methodLink RX8 317 yX1_drop ∈ wG ∧ Cond.instanceMethod yX1_drop ∈ wG ∧ Cond.selects yX1_drop.cls yX1_drop yX1_drop ∈ wG := ⟨wG_of 565 (by decide +kernel) (by decide +kernel), wG_of 247 (by decide +kernel) (by decide +kernel), wG_of 248 (by decide +kernel) (by decide +kernel)⟩
theorem ml_X8_320 : Cond.methodLink RX8 320 yX8_keyAhead ∈ wG ∧ Cond.instanceMethod yX8_keyAhead ∈ wG ∧ Cond.selects yX8_keyAhead.cls yX8_keyAhead yX8_keyAhead ∈ wG := ⟨wG_of 572 (by decide +kernel) (by decide +kernel), wG_of 574 (by decide +kernel) (by decide +kernel), wG_of 14 (by decide +kernel) (by decide +kernel)⟩
theorem ml_X8_323 : Cond.methodLink RX8 323 yX8_skipTo ∈ wG ∧ Cond.instanceMethod yX8_skipTo ∈ wG ∧ Cond.selects yX8_skipTo.cls yX8_skipTo yX8_skipTo ∈ wG := ⟨wG_of 576 (by decide +kernel) (by decide +kernel), wG_of 578 (by decide +kernel) (by decide +kernel), wG_of 15 (by decide +kernel) (by decide +kernel)⟩
theorem ml_X8_327 : Cond.methodLink RX8 327 yX8_passOne ∈ wG ∧ Cond.instanceMethod yX8_passOne ∈ wG ∧ Cond.selects yX8_passOne.cls yX8_passOne yX8_passOne ∈ wG := ⟨wG_of 618 (by decide +kernel) (by decide +kernel), wG_of 620 (by decide +kernel) (by decide +kernel), wG_of 16 (by decide +kernel) (by decide +kernel)⟩
theorem ml_X8_331 : Cond.methodLink RX8 331 yX1_hasLeft ∈ wG ∧ Cond.instanceMethod yX1_hasLeft ∈ wG ∧ Cond.selects yX1_hasLeft.cls yX1_hasLeft yX1_hasLeft ∈ wG := ⟨wG_of 626 (by decide +kernel) (by decide +kernel), wG_of 627 (by decide +kernel) (by decide +kernel), wG_of 628 (by decide +kernel) (by decide +kernel)⟩
theorem mm_X8_335 : Cond.methodLink RX8 335 Lib.Math.max.name ∈ wG ∧ Cond.static Lib.Math.max.name ∈ wG ∧ Cond.initialized "java/lang/Math" ∈ wG ∧ Cond.code Lib.Math.max.name Lib.Math.max.code 2 (some .int) ∈ wG := ⟨wG_of 634 (by decide +kernel) (by decide +kernel), wG_of 396 (by decide +kernel) (by decide +kernel), wG_of 77 (by decide +kernel) (by decide +kernel), wG_of 397 (by decide +kernel) (by decide +kernel)⟩
theorem ml_X8_338 : Cond.methodLink RX8 338 yX0_power ∈ wG ∧ Cond.instanceMethod yX0_power ∈ wG ∧ Cond.selects yX0_power.cls yX0_power yX0_power ∈ wG := ⟨wG_of 635 (by decide +kernel) (by decide +kernel), wG_of 459 (by decide +kernel) (by decide +kernel), wG_of 460 (by decide +kernel) (by decide +kernel)⟩
theorem ml_X8_341 : Cond.methodLink RX8 341 yX8_turn ∈ wG ∧ Cond.instanceMethod yX8_turn ∈ wG ∧ Cond.selects yX8_turn.cls yX8_turn yX8_turn ∈ wG := ⟨wG_of 636 (by decide +kernel) (by decide +kernel), wG_of 638 (by decide +kernel) (by decide +kernel), wG_of 18 (by decide +kernel) (by decide +kernel)⟩
theorem fl_X8_345 : Fl RX8 345 3 1 := ⟨by decide, by decide, "RatchetPost$Letter", wG_of 508 (by decide +kernel) (by decide +kernel), Or.inl (by decide +kernel)⟩
theorem ml_X8_348 : Cond.methodLink RX8 348 yX8_meetingAt ∈ wG ∧ Cond.instanceMethod yX8_meetingAt ∈ wG ∧ Cond.selects yX8_meetingAt.cls yX8_meetingAt yX8_meetingAt ∈ wG := ⟨wG_of 640 (by decide +kernel) (by decide +kernel), wG_of 642 (by decide +kernel) (by decide +kernel), wG_of 19 (by decide +kernel) (by decide +kernel)⟩
theorem ml_X8_352 : Cond.methodLink RX8 352 yX1_leave ∈ wG ∧ Cond.instanceMethod yX1_leave ∈ wG ∧ Cond.selects yX1_leave.cls yX1_leave yX1_leave ∈ wG := ⟨wG_of 644 (by decide +kernel) (by decide +kernel), wG_of 645 (by decide +kernel) (by decide +kernel), wG_of 646 (by decide +kernel) (by decide +kernel)⟩
theorem ml_X8_355 : Cond.methodLink RX8 355 yX3_init ∈ wG ∧ Cond.instanceMethod yX3_init ∈ wG := ⟨wG_of 582 (by decide +kernel) (by decide +kernel), wG_of 583 (by decide +kernel) (by decide +kernel)⟩
theorem ml_X8_358 : Cond.methodLink RX8 358 yX1_keep ∈ wG ∧ Cond.instanceMethod yX1_keep ∈ wG ∧ Cond.selects yX1_keep.cls yX1_keep yX1_keep ∈ wG := ⟨wG_of 614 (by decide +kernel) (by decide +kernel), wG_of 615 (by decide +kernel) (by decide +kernel), wG_of 616 (by decide +kernel) (by decide +kernel)⟩
theorem ml_X8_362 : Cond.methodLink RX8 362 yX1_endOld ∈ wG ∧ Cond.instanceMethod yX1_endOld ∈ wG ∧ Cond.selects yX1_endOld.cls yX1_endOld yX1_endOld ∈ wG := ⟨wG_of 242 (by decide +kernel) (by decide +kernel), wG_of 243 (by decide +kernel) (by decide +kernel), wG_of 244 (by decide +kernel) (by decide +kernel)⟩
theorem ml_X8_366 : Cond.methodLink RX8 366 yX8_isUnder ∈ wG ∧ Cond.static yX8_isUnder ∈ wG := ⟨wG_of 773 (by decide +kernel) (by decide +kernel), wG_of 774 (by decide +kernel) (by decide +kernel)⟩
theorem ml_X8_370 : Cond.methodLink RX8 370 yX8_above ∈ wG ∧ Cond.static yX8_above ∈ wG := ⟨wG_of 748 (by decide +kernel) (by decide +kernel), wG_of 749 (by decide +kernel) (by decide +kernel)⟩
theorem ml_X8_373 : Cond.methodLink RX8 373 yX8_ownBody ∈ wG ∧ Cond.static yX8_ownBody ∈ wG := ⟨wG_of 745 (by decide +kernel) (by decide +kernel), wG_of 746 (by decide +kernel) (by decide +kernel)⟩
theorem ml_X8_376 : Cond.methodLink RX8 376 yX6_note ∈ wG ∧ Cond.instanceMethod yX6_note ∈ wG ∧ Cond.selects yX6_note.cls yX6_note yX6_note ∈ wG := ⟨wG_of 751 (by decide +kernel) (by decide +kernel), wG_of 752 (by decide +kernel) (by decide +kernel), wG_of 753 (by decide +kernel) (by decide +kernel)⟩
theorem ml_X8_379 : Cond.methodLink RX8 379 yX8_tickOf ∈ wG ∧ Cond.static yX8_tickOf ∈ wG := ⟨wG_of 755 (by decide +kernel) (by decide +kernel), wG_of 756 (by decide +kernel) (by decide +kernel)⟩
theorem oi_X9_1 : Cond.methodLink RX9 1 objectInit ∈ wG ∧ Cond.instanceMethod objectInit ∈ wG ∧ Cond.code objectInit ⟨#[0xb1]⟩ 1 none ∈ wG := ⟨wG_of 797 (by decide +kernel) (by decide +kernel), wG_of 90 (by decide +kernel) (by decide +kernel), wG_of 91 (by decide +kernel) (by decide +kernel)⟩
theorem fl_X9_7 : Fl RX9 7 10 0 := ⟨by decide, by decide, "RatchetPostModel", wG_of 798 (by decide +kernel) (by decide +kernel), Or.inl (by decide +kernel)⟩
theorem fl_X9_13 : Fl RX9 13 10 1 := ⟨by decide, by decide, "RatchetPostModel", wG_of 799 (by decide +kernel) (by decide +kernel), Or.inl (by decide +kernel)⟩
theorem fl_X9_16 : Fl RX9 16 10 2 := ⟨by decide, by decide, "RatchetPostModel", wG_of 800 (by decide +kernel) (by decide +kernel), Or.inl (by decide +kernel)⟩
theorem fl_X9_19 : Fl RX9 19 10 3 := ⟨by decide, by decide, "RatchetPostModel", wG_of 801 (by decide +kernel) (by decide +kernel), Or.inl (by decide +kernel)⟩
theorem fl_X9_22 : Fl RX9 22 10 6 := ⟨by decide, by decide, "RatchetPostModel", wG_of 804 (by decide +kernel) (by decide +kernel), Or.inl (by decide +kernel)⟩
theorem fl_X9_26 : Fl RX9 26 10 7 := ⟨by decide, by decide, "RatchetPostModel", wG_of 805 (by decide +kernel) (by decide +kernel), Or.inl (by decide +kernel)⟩
theorem fl_X9_29 : Fl RX9 29 10 8 := ⟨by decide, by decide, "RatchetPostModel", wG_of 806 (by decide +kernel) (by decide +kernel), Or.inl (by decide +kernel)⟩
theorem fl_X9_32 : Fl RX9 32 10 9 := ⟨by decide, by decide, "RatchetPostModel", wG_of 807 (by decide +kernel) (by decide +kernel), Or.inl (by decide +kernel)⟩
theorem fl_X9_35 : Fl RX9 35 10 10 := ⟨by decide, by decide, "RatchetPostModel", wG_of 808 (by decide +kernel) (by decide +kernel), Or.inl (by decide +kernel)⟩
theorem fl_X9_39 : Fl RX9 39 10 11 := ⟨by decide, by decide, "RatchetPostModel", wG_of 809 (by decide +kernel) (by decide +kernel), Or.inl (by decide +kernel)⟩
theorem fl_X9_42 : Fl RX9 42 10 12 := ⟨by decide, by decide, "RatchetPostModel", wG_of 810 (by decide +kernel) (by decide +kernel), Or.inl (by decide +kernel)⟩
theorem fl_X9_45 : Fl RX9 45 10 13 := ⟨by decide, by decide, "RatchetPostModel", wG_of 811 (by decide +kernel) (by decide +kernel), Or.inl (by decide +kernel)⟩
theorem fl_X9_48 : Fl RX9 48 10 14 := ⟨by decide, by decide, "RatchetPostModel", wG_of 812 (by decide +kernel) (by decide +kernel), Or.inl (by decide +kernel)⟩
theorem fl_X9_51 : Fl RX9 51 10 15 := ⟨by decide, by decide, "RatchetPostModel", wG_of 813 (by decide +kernel) (by decide +kernel), Or.inl (by decide +kernel)⟩
theorem fl_X9_54 : Fl RX9 54 10 16 := ⟨by decide, by decide, "RatchetPostModel", wG_of 814 (by decide +kernel) (by decide +kernel), Or.inl (by decide +kernel)⟩
theorem fl_X9_57 : Fl RX9 57 10 17 := ⟨by decide, by decide, "RatchetPostModel", wG_of 815 (by decide +kernel) (by decide +kernel), Or.inl (by decide +kernel)⟩
theorem fl_X9_60 : Fl RX9 60 10 18 := ⟨by decide, by decide, "RatchetPostModel", wG_of 816 (by decide +kernel) (by decide +kernel), Or.inl (by decide +kernel)⟩
theorem fl_X9_63 : Fl RX9 63 10 19 := ⟨by decide, by decide, "RatchetPostModel", wG_of 817 (by decide +kernel) (by decide +kernel), Or.inl (by decide +kernel)⟩
theorem fl_X9_66 : Fl RX9 66 10 20 := ⟨by decide, by decide, "RatchetPostModel", wG_of 818 (by decide +kernel) (by decide +kernel), Or.inl (by decide +kernel)⟩
theorem fl_X9_69 : Fl RX9 69 10 21 := ⟨by decide, by decide, "RatchetPostModel", wG_of 819 (by decide +kernel) (by decide +kernel), Or.inl (by decide +kernel)⟩
theorem fl_X9_72 : Fl RX9 72 10 22 := ⟨by decide, by decide, "RatchetPostModel", wG_of 820 (by decide +kernel) (by decide +kernel), Or.inl (by decide +kernel)⟩
theorem fl_X9_75 : Fl RX9 75 10 23 := ⟨by decide, by decide, "RatchetPostModel", wG_of 821 (by decide +kernel) (by decide +kernel), Or.inl (by decide +kernel)⟩
theorem fl_X9_78 : Fl RX9 78 10 24 := ⟨by decide, by decide, "RatchetPostModel", wG_of 822 (by decide +kernel) (by decide +kernel), Or.inl (by decide +kernel)⟩
theorem fl_X9_81 : Fl RX9 81 10 25 := ⟨by decide, by decide, "RatchetPostModel", wG_of 823 (by decide +kernel) (by decide +kernel), Or.inl (by decide +kernel)⟩
theorem fl_X9_84 : Fl RX9 84 10 26 := ⟨by decide, by decide, "RatchetPostModel", wG_of 824 (by decide +kernel) (by decide +kernel), Or.inl (by decide +kernel)⟩
theorem fl_X9_87 : Fl RX9 87 10 27 := ⟨by decide, by decide, "RatchetPostModel", wG_of 825 (by decide +kernel) (by decide +kernel), Or.inl (by decide +kernel)⟩
theorem fl_X9_90 : Fl RX9 90 10 28 := ⟨by decide, by decide, "RatchetPostModel", wG_of 826 (by decide +kernel) (by decide +kernel), Or.inl (by decide +kernel)⟩
theorem fl_X9_93 : Fl RX9 93 10 29 := ⟨by decide, by decide, "RatchetPostModel", wG_of 827 (by decide +kernel) (by decide +kernel), Or.inl (by decide +kernel)⟩
theorem fl_X9_96 : Fl RX9 96 10 31 := ⟨by decide, by decide, "RatchetPostModel", wG_of 829 (by decide +kernel) (by decide +kernel), Or.inl (by decide +kernel)⟩
theorem fl_X9_99 : Fl RX9 99 10 32 := ⟨by decide, by decide, "RatchetPostModel", wG_of 830 (by decide +kernel) (by decide +kernel), Or.inl (by decide +kernel)⟩
theorem fl_X9_102 : Fl RX9 102 10 33 := ⟨by decide, by decide, "RatchetPostModel", wG_of 831 (by decide +kernel) (by decide +kernel), Or.inl (by decide +kernel)⟩
theorem fl_X9_105 : Fl RX9 105 10 34 := ⟨by decide, by decide, "RatchetPostModel", wG_of 832 (by decide +kernel) (by decide +kernel), Or.inl (by decide +kernel)⟩
theorem fl_X9_108 : Fl RX9 108 10 35 := ⟨by decide, by decide, "RatchetPostModel", wG_of 833 (by decide +kernel) (by decide +kernel), Or.inl (by decide +kernel)⟩
theorem fl_X9_111 : Fl RX9 111 10 36 := ⟨by decide, by decide, "RatchetPostModel", wG_of 834 (by decide +kernel) (by decide +kernel), Or.inl (by decide +kernel)⟩
theorem fl_X9_114 : Fl RX9 114 10 37 := ⟨by decide, by decide, "RatchetPostModel", wG_of 835 (by decide +kernel) (by decide +kernel), Or.inl (by decide +kernel)⟩
theorem fl_X9_117 : Fl RX9 117 10 38 := ⟨by decide, by decide, "RatchetPostModel", wG_of 836 (by decide +kernel) (by decide +kernel), Or.inl (by decide +kernel)⟩
theorem fl_X9_120 : Fl RX9 120 10 39 := ⟨by decide, by decide, "RatchetPostModel", wG_of 837 (by decide +kernel) (by decide +kernel), Or.inl (by decide +kernel)⟩
theorem fl_X9_123 : Fl RX9 123 10 40 := ⟨by decide, by decide, "RatchetPostModel", wG_of 838 (by decide +kernel) (by decide +kernel), Or.inl (by decide +kernel)⟩
theorem fl_X9_126 : Fl RX9 126 10 41 := ⟨by decide, by decide, "RatchetPostModel", wG_of 839 (by decide +kernel) (by decide +kernel), Or.inl (by decide +kernel)⟩
theorem fl_X9_129 : Fl RX9 129 10 43 := ⟨by decide, by decide, "RatchetPostModel", wG_of 841 (by decide +kernel) (by decide +kernel), Or.inl (by decide +kernel)⟩
theorem fl_X9_132 : Fl RX9 132 10 42 := ⟨by decide, by decide, "RatchetPostModel", wG_of 840 (by decide +kernel) (by decide +kernel), Or.inl (by decide +kernel)⟩
theorem fl_X9_135 : Fl RX9 135 10 4 := ⟨by decide, by decide, "RatchetPostModel", wG_of 802 (by decide +kernel) (by decide +kernel), Or.inl (by decide +kernel)⟩
theorem ml_X9_138 : Cond.methodLink RX9 138 yX9_in ∈ wG ∧ Cond.static yX9_in ∈ wG := ⟨wG_of 942 (by decide +kernel) (by decide +kernel), wG_of 943 (by decide +kernel) (by decide +kernel)⟩
theorem fl_X9_142 : Fl RX9 142 10 30 := ⟨by decide, by decide, "RatchetPostModel", wG_of 828 (by decide +kernel) (by decide +kernel), Or.inl (by decide +kernel)⟩
theorem ml_X9_145 : Cond.methodLink RX9 145 yX9_power ∈ wG ∧ Cond.instanceMethod yX9_power ∈ wG ∧ Cond.selects yX9_power.cls yX9_power yX9_power ∈ wG := ⟨wG_of 997 (by decide +kernel) (by decide +kernel), wG_of 999 (by decide +kernel) (by decide +kernel), wG_of 36 (by decide +kernel) (by decide +kernel)⟩
theorem fl_X9_149 : Fl RX9 149 10 5 := ⟨by decide, by decide, "RatchetPostModel", wG_of 803 (by decide +kernel) (by decide +kernel), Or.inl (by decide +kernel)⟩
theorem ml_X9_152 : Cond.methodLink RX9 152 yX9_publicOf ∈ wG ∧ Cond.instanceMethod yX9_publicOf ∈ wG ∧ Cond.selects yX9_publicOf.cls yX9_publicOf yX9_publicOf ∈ wG := ⟨wG_of 993 (by decide +kernel) (by decide +kernel), wG_of 995 (by decide +kernel) (by decide +kernel), wG_of 35 (by decide +kernel) (by decide +kernel)⟩
theorem ml_X9_156 : Cond.methodLink RX9 156 yX9_thing ∈ wG ∧ Cond.instanceMethod yX9_thing ∈ wG ∧ Cond.selects yX9_thing.cls yX9_thing yX9_thing ∈ wG := ⟨wG_of 977 (by decide +kernel) (by decide +kernel), wG_of 979 (by decide +kernel) (by decide +kernel), wG_of 32 (by decide +kernel) (by decide +kernel)⟩
theorem ml_X9_160 : Cond.methodLink RX9 160 yX9_mix ∈ wG ∧ Cond.instanceMethod yX9_mix ∈ wG ∧ Cond.selects yX9_mix.cls yX9_mix yX9_mix ∈ wG := ⟨wG_of 1005 (by decide +kernel) (by decide +kernel), wG_of 1007 (by decide +kernel) (by decide +kernel), wG_of 38 (by decide +kernel) (by decide +kernel)⟩
theorem ml_X9_163 : Cond.methodLink RX9 163 yX9_refused ∈ wG ∧ Cond.instanceMethod yX9_refused ∈ wG ∧ Cond.selects yX9_refused.cls yX9_refused yX9_refused ∈ wG := ⟨wG_of 945 (by decide +kernel) (by decide +kernel), wG_of 947 (by decide +kernel) (by decide +kernel), wG_of 27 (by decide +kernel) (by decide +kernel)⟩
theorem ml_X9_166 : Cond.methodLink RX9 166 yX9_done ∈ wG ∧ Cond.instanceMethod yX9_done ∈ wG ∧ Cond.selects yX9_done.cls yX9_done yX9_done ∈ wG := ⟨wG_of 949 (by decide +kernel) (by decide +kernel), wG_of 951 (by decide +kernel) (by decide +kernel), wG_of 28 (by decide +kernel) (by decide +kernel)⟩
theorem ml_X9_169 : Cond.methodLink RX9 169 yX9_expire ∈ wG ∧ Cond.instanceMethod yX9_expire ∈ wG ∧ Cond.selects yX9_expire.cls yX9_expire yX9_expire ∈ wG := ⟨wG_of 957 (by decide +kernel) (by decide +kernel), wG_of 959 (by decide +kernel) (by decide +kernel), wG_of 29 (by decide +kernel) (by decide +kernel)⟩
theorem ml_X9_172 : Cond.methodLink RX9 172 yX9_isEnd ∈ wG ∧ Cond.instanceMethod yX9_isEnd ∈ wG ∧ Cond.selects yX9_isEnd.cls yX9_isEnd yX9_isEnd ∈ wG := ⟨wG_of 973 (by decide +kernel) (by decide +kernel), wG_of 975 (by decide +kernel) (by decide +kernel), wG_of 31 (by decide +kernel) (by decide +kernel)⟩
theorem ml_X9_176 : Cond.methodLink RX9 176 yX9_next ∈ wG ∧ Cond.instanceMethod yX9_next ∈ wG ∧ Cond.selects yX9_next.cls yX9_next yX9_next ∈ wG := ⟨wG_of 985 (by decide +kernel) (by decide +kernel), wG_of 987 (by decide +kernel) (by decide +kernel), wG_of 33 (by decide +kernel) (by decide +kernel)⟩
theorem ml_X9_179 : Cond.methodLink RX9 179 yX9_meeting ∈ wG ∧ Cond.instanceMethod yX9_meeting ∈ wG ∧ Cond.selects yX9_meeting.cls yX9_meeting yX9_meeting ∈ wG := ⟨wG_of 989 (by decide +kernel) (by decide +kernel), wG_of 991 (by decide +kernel) (by decide +kernel), wG_of 34 (by decide +kernel) (by decide +kernel)⟩
theorem ml_X9_182 : Cond.methodLink RX9 182 yX9_rootOf ∈ wG ∧ Cond.instanceMethod yX9_rootOf ∈ wG ∧ Cond.selects yX9_rootOf.cls yX9_rootOf yX9_rootOf ∈ wG := ⟨wG_of 1001 (by decide +kernel) (by decide +kernel), wG_of 1003 (by decide +kernel) (by decide +kernel), wG_of 37 (by decide +kernel) (by decide +kernel)⟩
theorem ml_X9_185 : Cond.methodLink RX9 185 yX9_chainOf ∈ wG ∧ Cond.instanceMethod yX9_chainOf ∈ wG ∧ Cond.selects yX9_chainOf.cls yX9_chainOf yX9_chainOf ∈ wG := ⟨wG_of 1009 (by decide +kernel) (by decide +kernel), wG_of 1011 (by decide +kernel) (by decide +kernel), wG_of 39 (by decide +kernel) (by decide +kernel)⟩
theorem ml_X9_188 : Cond.methodLink RX9 188 yX9_keyOf ∈ wG ∧ Cond.instanceMethod yX9_keyOf ∈ wG ∧ Cond.selects yX9_keyOf.cls yX9_keyOf yX9_keyOf ∈ wG := ⟨wG_of 1017 (by decide +kernel) (by decide +kernel), wG_of 1019 (by decide +kernel) (by decide +kernel), wG_of 40 (by decide +kernel) (by decide +kernel)⟩
theorem ml_X9_191 : Cond.methodLink RX9 191 yX9_isLetter ∈ wG ∧ Cond.instanceMethod yX9_isLetter ∈ wG ∧ Cond.selects yX9_isLetter.cls yX9_isLetter yX9_isLetter ∈ wG := ⟨wG_of 1025 (by decide +kernel) (by decide +kernel), wG_of 1027 (by decide +kernel) (by decide +kernel), wG_of 41 (by decide +kernel) (by decide +kernel)⟩
theorem ml_X9_194 : Cond.methodLink RX9 194 yX9_drops ∈ wG ∧ Cond.instanceMethod yX9_drops ∈ wG ∧ Cond.selects yX9_drops.cls yX9_drops yX9_drops ∈ wG := ⟨wG_of 961 (by decide +kernel) (by decide +kernel), wG_of 963 (by decide +kernel) (by decide +kernel), wG_of 30 (by decide +kernel) (by decide +kernel)⟩
theorem ml_X9_198 : Cond.methodLink RX9 198 yX9_keep ∈ wG ∧ Cond.instanceMethod yX9_keep ∈ wG ∧ Cond.selects yX9_keep.cls yX9_keep yX9_keep ∈ wG := ⟨wG_of 1057 (by decide +kernel) (by decide +kernel), wG_of 1059 (by decide +kernel) (by decide +kernel), wG_of 48 (by decide +kernel) (by decide +kernel)⟩
theorem ml_X9_202 : Cond.methodLink RX9 202 yX9_byteOf ∈ wG ∧ Cond.instanceMethod yX9_byteOf ∈ wG ∧ Cond.selects yX9_byteOf.cls yX9_byteOf yX9_byteOf ∈ wG := ⟨wG_of 1041 (by decide +kernel) (by decide +kernel), wG_of 1043 (by decide +kernel) (by decide +kernel), wG_of 44 (by decide +kernel) (by decide +kernel)⟩
theorem ml_X9_205 : Cond.methodLink RX9 205 yX9_keptOf ∈ wG ∧ Cond.instanceMethod yX9_keptOf ∈ wG ∧ Cond.selects yX9_keptOf.cls yX9_keptOf yX9_keptOf ∈ wG := ⟨wG_of 1033 (by decide +kernel) (by decide +kernel), wG_of 1035 (by decide +kernel) (by decide +kernel), wG_of 42 (by decide +kernel) (by decide +kernel)⟩
theorem ml_X9_208 : Cond.methodLink RX9 208 yX9_isGood ∈ wG ∧ Cond.instanceMethod yX9_isGood ∈ wG ∧ Cond.selects yX9_isGood.cls yX9_isGood yX9_isGood ∈ wG := ⟨wG_of 1037 (by decide +kernel) (by decide +kernel), wG_of 1039 (by decide +kernel) (by decide +kernel), wG_of 43 (by decide +kernel) (by decide +kernel)⟩
theorem ml_X9_212 : Cond.methodLink RX9 212 yX9_further ∈ wG ∧ Cond.instanceMethod yX9_further ∈ wG ∧ Cond.selects yX9_further.cls yX9_further yX9_further ∈ wG := ⟨wG_of 1045 (by decide +kernel) (by decide +kernel), wG_of 1047 (by decide +kernel) (by decide +kernel), wG_of 45 (by decide +kernel) (by decide +kernel)⟩
theorem ml_X9_215 : Cond.methodLink RX9 215 yX9_anew ∈ wG ∧ Cond.instanceMethod yX9_anew ∈ wG ∧ Cond.selects yX9_anew.cls yX9_anew yX9_anew ∈ wG := ⟨wG_of 1065 (by decide +kernel) (by decide +kernel), wG_of 1067 (by decide +kernel) (by decide +kernel), wG_of 50 (by decide +kernel) (by decide +kernel)⟩
theorem ml_X9_219 : Cond.methodLink RX9 219 yX9_keyBehind ∈ wG ∧ Cond.instanceMethod yX9_keyBehind ∈ wG ∧ Cond.selects yX9_keyBehind.cls yX9_keyBehind yX9_keyBehind ∈ wG := ⟨wG_of 1049 (by decide +kernel) (by decide +kernel), wG_of 1051 (by decide +kernel) (by decide +kernel), wG_of 46 (by decide +kernel) (by decide +kernel)⟩
theorem ml_X9_222 : Cond.methodLink RX9 222 yX9_skip ∈ wG ∧ Cond.instanceMethod yX9_skip ∈ wG ∧ Cond.selects yX9_skip.cls yX9_skip yX9_skip ∈ wG := ⟨wG_of 1053 (by decide +kernel) (by decide +kernel), wG_of 1055 (by decide +kernel) (by decide +kernel), wG_of 47 (by decide +kernel) (by decide +kernel)⟩
theorem ml_X9_225 : Cond.methodLink RX9 225 yX9_opened ∈ wG ∧ Cond.instanceMethod yX9_opened ∈ wG ∧ Cond.selects yX9_opened.cls yX9_opened yX9_opened ∈ wG := ⟨wG_of 1061 (by decide +kernel) (by decide +kernel), wG_of 1063 (by decide +kernel) (by decide +kernel), wG_of 49 (by decide +kernel) (by decide +kernel)⟩
theorem ml_X9_229 : Cond.methodLink RX9 229 yX9_hasLeft ∈ wG ∧ Cond.instanceMethod yX9_hasLeft ∈ wG ∧ Cond.selects yX9_hasLeft.cls yX9_hasLeft yX9_hasLeft ∈ wG := ⟨wG_of 1069 (by decide +kernel) (by decide +kernel), wG_of 1071 (by decide +kernel) (by decide +kernel), wG_of 51 (by decide +kernel) (by decide +kernel)⟩
theorem fl_X9_232 : Fl RX9 232 10 45 := ⟨by decide, by decide, "RatchetPostModel", wG_of 843 (by decide +kernel) (by decide +kernel), Or.inl (by decide +kernel)⟩
theorem ml_X9_235 : Cond.methodLink RX9 235 yX9_shows ∈ wG ∧ Cond.instanceMethod yX9_shows ∈ wG ∧ Cond.selects yX9_shows.cls yX9_shows yX9_shows ∈ wG := ⟨wG_of 1077 (by decide +kernel) (by decide +kernel), wG_of 1079 (by decide +kernel) (by decide +kernel), wG_of 52 (by decide +kernel) (by decide +kernel)⟩
theorem ml_X9_238 : Cond.methodLink RX9 238 yX9_know ∈ wG ∧ Cond.instanceMethod yX9_know ∈ wG ∧ Cond.selects yX9_know.cls yX9_know yX9_know ∈ wG := ⟨wG_of 1085 (by decide +kernel) (by decide +kernel), wG_of 1087 (by decide +kernel) (by decide +kernel), wG_of 53 (by decide +kernel) (by decide +kernel)⟩
theorem ml_X9_241 : Cond.methodLink RX9 241 yX9_worthOf ∈ wG ∧ Cond.instanceMethod yX9_worthOf ∈ wG ∧ Cond.selects yX9_worthOf.cls yX9_worthOf yX9_worthOf ∈ wG := ⟨wG_of 1105 (by decide +kernel) (by decide +kernel), wG_of 1107 (by decide +kernel) (by decide +kernel), wG_of 54 (by decide +kernel) (by decide +kernel)⟩
theorem ml_X9_244 : Cond.methodLink RX9 244 yX9_knownThings ∈ wG ∧ Cond.instanceMethod yX9_knownThings ∈ wG ∧ Cond.selects yX9_knownThings.cls yX9_knownThings yX9_knownThings ∈ wG := ⟨wG_of 1121 (by decide +kernel) (by decide +kernel), wG_of 1123 (by decide +kernel) (by decide +kernel), wG_of 55 (by decide +kernel) (by decide +kernel)⟩
theorem fl_X9_248 : Fl RX9 248 10 44 := ⟨by decide, by decide, "RatchetPostModel", wG_of 842 (by decide +kernel) (by decide +kernel), Or.inl (by decide +kernel)⟩
theorem ml_X9_251 : Cond.methodLink RX9 251 yX9_puts ∈ wG ∧ Cond.instanceMethod yX9_puts ∈ wG ∧ Cond.selects yX9_puts.cls yX9_puts yX9_puts ∈ wG := ⟨wG_of 1129 (by decide +kernel) (by decide +kernel), wG_of 1131 (by decide +kernel) (by decide +kernel), wG_of 56 (by decide +kernel) (by decide +kernel)⟩
theorem ml_X9_255 : Cond.methodLink RX9 255 yX9_isChain ∈ wG ∧ Cond.static yX9_isChain ∈ wG := ⟨wG_of 1145 (by decide +kernel) (by decide +kernel), wG_of 1146 (by decide +kernel) (by decide +kernel)⟩
theorem ml_X9_258 : Cond.methodLink RX9 258 yX9_ran ∈ wG ∧ Cond.instanceMethod yX9_ran ∈ wG ∧ Cond.selects yX9_ran.cls yX9_ran yX9_ran ∈ wG := ⟨wG_of 1148 (by decide +kernel) (by decide +kernel), wG_of 1150 (by decide +kernel) (by decide +kernel), wG_of 58 (by decide +kernel) (by decide +kernel)⟩
theorem ml_X9_261 : Cond.methodLink RX9 261 yX9_move ∈ wG ∧ Cond.instanceMethod yX9_move ∈ wG ∧ Cond.selects yX9_move.cls yX9_move yX9_move ∈ wG := ⟨wG_of 1141 (by decide +kernel) (by decide +kernel), wG_of 1143 (by decide +kernel) (by decide +kernel), wG_of 57 (by decide +kernel) (by decide +kernel)⟩
theorem ml_X9_264 : Cond.methodLink RX9 264 yX9_mixed ∈ wG ∧ Cond.instanceMethod yX9_mixed ∈ wG ∧ Cond.selects yX9_mixed.cls yX9_mixed yX9_mixed ∈ wG := ⟨wG_of 1152 (by decide +kernel) (by decide +kernel), wG_of 1154 (by decide +kernel) (by decide +kernel), wG_of 59 (by decide +kernel) (by decide +kernel)⟩
theorem ml_X9_267 : Cond.methodLink RX9 267 yX9_tell ∈ wG ∧ Cond.instanceMethod yX9_tell ∈ wG ∧ Cond.selects yX9_tell.cls yX9_tell yX9_tell ∈ wG := ⟨wG_of 1164 (by decide +kernel) (by decide +kernel), wG_of 1166 (by decide +kernel) (by decide +kernel), wG_of 62 (by decide +kernel) (by decide +kernel)⟩
theorem ml_X9_270 : Cond.methodLink RX9 270 yX9_keyEnd ∈ wG ∧ Cond.instanceMethod yX9_keyEnd ∈ wG ∧ Cond.selects yX9_keyEnd.cls yX9_keyEnd yX9_keyEnd ∈ wG := ⟨wG_of 1160 (by decide +kernel) (by decide +kernel), wG_of 1162 (by decide +kernel) (by decide +kernel), wG_of 61 (by decide +kernel) (by decide +kernel)⟩
theorem ml_X9_273 : Cond.methodLink RX9 273 yX9_ended ∈ wG ∧ Cond.instanceMethod yX9_ended ∈ wG ∧ Cond.selects yX9_ended.cls yX9_ended yX9_ended ∈ wG := ⟨wG_of 1156 (by decide +kernel) (by decide +kernel), wG_of 1158 (by decide +kernel) (by decide +kernel), wG_of 60 (by decide +kernel) (by decide +kernel)⟩
theorem ml_X9_276 : Cond.methodLink RX9 276 yX9_isOf ∈ wG ∧ Cond.static yX9_isOf ∈ wG := ⟨wG_of 1176 (by decide +kernel) (by decide +kernel), wG_of 1177 (by decide +kernel) (by decide +kernel)⟩
theorem ml_X9_279 : Cond.methodLink RX9 279 yX9_header ∈ wG ∧ Cond.instanceMethod yX9_header ∈ wG ∧ Cond.selects yX9_header.cls yX9_header yX9_header ∈ wG := ⟨wG_of 1179 (by decide +kernel) (by decide +kernel), wG_of 1181 (by decide +kernel) (by decide +kernel), wG_of 63 (by decide +kernel) (by decide +kernel)⟩
theorem ac_I : Cond.arrayClass .int ∈ wG := wG_of 187 (by decide +kernel) (by decide +kernel)
theorem ac_Z : Cond.arrayClass .boolean ∈ wG := wG_of 937 (by decide +kernel) (by decide +kernel)
end
section
/-! THE REFERENCE: its fields as one state of numbers -/
def RS : Type := (Nat → Int) × (Nat → Nat → Int)
def RS.setS (ρ : RS) (k : Nat) (v : Int) : RS := (fun i => if i = k then v else ρ.1 i, ρ.2)
def RS.setA (ρ : RS) (k j : Nat) (v : Int) : RS := (ρ.1, fun k' j' => if k' = k ∧ j' = j then v else ρ.2 k' j')
def arC (k : Nat) : Nat := match k with
  | 10 => 32 | 14 => 32 | _ => 31
def rl (k : Nat) : Nat := match k with
  | 6 => 8000 | 7 => 8000 | 8 => 8000 | 9 => 8000 | 10 => 8000 | 11 => 8000 | 12 => 12 | 13 => 144 | 14 => 6 | 15 => 12 | 16 => 12 | 17 => 12 | 18 => 12 | 19 => 12 | 20 => 12 | 21 => 12 | 22 => 12 | 23 => 12
  | 24 => 7200 | 25 => 12 | 26 => 144 | 27 => 144 | 28 => 144 | 29 => 144 | 31 => 300 | 32 => 300 | 33 => 300 | 34 => 300 | 35 => 300 | 36 => 300 | 37 => 300 | 38 => 300 | 39 => 8 | 40 => 8 | 41 => 8 | 43 => 40 | _ => 0
def isArr (k : Nat) : Bool := decide (0 < rl k)
theorem rl_le (k : Nat) : rl k ≤ 8000 := by
  unfold rl; split <;> omega
def Rf (ρ : RS) (M : Mem) : Prop := M.len (30, 0) = some 0 ∧ (∀ k, M.I (30, 0) k = ρ.1 k) ∧ (∀ k j, M.I (arC k, k) j = ρ.2 k j) ∧ ∀ k, isArr k = true → M.P (30, 0) k = some (arC k, k) ∧ M.len (arC k, k) = some (rl k)
theorem Rf.s {ρ : RS} {M : Mem} (h : Rf ρ M) (k : Nat) : M.I (30, 0) k = ρ.1 k := h.2.1 k
theorem Rf.a {ρ : RS} {M : Mem} (h : Rf ρ M) (k j : Nat) : M.I (arC k, k) j = ρ.2 k j := h.2.2.1 k j
theorem Rf.p {ρ : RS} {M : Mem} (h : Rf ρ M) (k : Nat) (hk : isArr k = true) : M.P (30, 0) k = some (arC k, k) := (h.2.2.2 k hk).1
theorem Rf.n {ρ : RS} {M : Mem} (h : Rf ρ M) (k : Nat) (hk : isArr k = true) : M.len (arC k, k) = some (rl k) := (h.2.2.2 k hk).2
def SameR (M M' : Mem) : Prop := M'.len = M.len ∧ (∀ r : Role, r.1 ≠ 30 → r.1 ≠ 31 → r.1 ≠ 32 → M'.I r = M.I r) ∧ M'.P = M.P ∧ M'.rc = M.rc ∧ M'.rs = M.rs
theorem SameR.rf (M : Mem) : SameR M M := ⟨rfl, fun _ _ _ _ => rfl, rfl, rfl, rfl⟩
theorem SameR.trans {M M1 M2 : Mem} (h : SameR M M1) (h2 : SameR M1 M2) : SameR M M2 := ⟨h2.1.trans h.1, fun r a b c => (h2.2.1 r a b c).trans (h.2.1 r a b c), h2.2.2.1.trans h.2.2.1, h2.2.2.2.1.trans h.2.2.2.1, h2.2.2.2.2.trans h.2.2.2.2⟩
theorem arC_or (k : Nat) : arC k = 31 ∨ arC k = 32 := by
  unfold arC; split <;> simp
theorem Rf.setS {ρ : RS} {M : Mem} (h : Rf ρ M) (k : Nat) (v : Int) : Rf (ρ.setS k v) (M.putI (30, 0) k v) := by
  refine ⟨h.1, fun i => ?_, fun k' j => ?_, h.2.2.2⟩
  · show (if (30, 0) = ((30, 0) : Role) ∧ i = k then v else M.2.1 (30, 0) i) = if i = k then v else ρ.1 i
    by_cases hi : i = k
    · rw [if_pos ⟨rfl, hi⟩, if_pos hi]
    · rw [if_neg (fun q => hi q.2), if_neg hi]; exact h.s i
  · show (if (arC k', k') = ((30, 0) : Role) ∧ j = k then v else M.2.1 (arC k', k') j) = _
    rw [if_neg (fun q => by have := congrArg Prod.fst q.1; rcases arC_or k' with h1 | h1 <;> rw [h1] at this <;> cases this)]
    exact h.a k' j
theorem Rf.setA {ρ : RS} {M : Mem} (h : Rf ρ M) (k j : Nat) (v : Int) : Rf (ρ.setA k j v) (M.putI (arC k, k) j v) := by
  refine ⟨h.1, fun i => ?_, fun k' j' => ?_, h.2.2.2⟩
  · show (if ((30, 0) : Role) = (arC k, k) ∧ i = j then v else M.2.1 (30, 0) i) = ρ.1 i
    rw [if_neg (fun q => by have := congrArg Prod.fst q.1; rcases arC_or k with h1 | h1 <;> rw [h1] at this <;> cases this)]
    exact h.s i
  · show (if (arC k', k') = (arC k, k) ∧ j' = j then v else M.2.1 (arC k', k') j') = if k' = k ∧ j' = j then v else ρ.2 k' j'
    by_cases hk : k' = k ∧ j' = j
    · obtain ⟨rfl, rfl⟩ := hk
      rw [if_pos ⟨rfl, rfl⟩, if_pos ⟨rfl, rfl⟩]
    · rw [if_neg hk, if_neg (fun q => hk ⟨congrArg Prod.snd q.1, q.2⟩)]
      exact h.a k' j'
theorem SameR.put {M0 M : Mem} {r : Role} {k : Nat} {v : Int} (h : SameR M0 M) (hr : r.1 = 30 ∨ r.1 = 31 ∨ r.1 = 32) : SameR M0 (M.putI r k v) := by
  refine ⟨h.1, fun r' a b c => ?_, h.2.2⟩
  rw [← h.2.1 r' a b c]
  funext j
  exact if_neg (fun q => by rw [q.1] at a b c; omega)
def RC (G : Ge) (mi : Mi) (as : List AVal) (ρ : RS) (v : Option AVal) (ρ' : RS) : Prop := ∀ M, Rf ρ M → Ct G mi as M (fun v' M' => v' = v ∧ Rf ρ' M' ∧ SameR M M')
-- a question: 1 if P, 0 if not, nothing changed
def RB (G : Ge) (mi : Mi) (as : List AVal) (ρ : RS) (P : Prop) : Prop := ∀ M, Rf ρ M → Ct G mi as M (fun v' M' => (v' = some (vI 1) ∧ P ∨ v' = some (vI 0) ∧ ¬ P) ∧ Rf ρ M' ∧ SameR M M')
section
variable {G : Ge} {mi : Mi} {Q : Option AVal → Mem → Prop} {pc : Nat} {L : List (Option AVal)} {st : List AVal} {M M0 : Mem} {ρ : RS}
theorem R_put {idx k : Nat} {v : Int} (hl : Fl mi.1.cls idx 10 k) (hd : decode mi.2.1 pc = .ok (.putfield idx, 3)) (hf : fR 10 k = false) (hfin : (cT 10 k).2.2.2 = false) (ht : cTy 10 k = .int) (hR : Rf ρ M) (hS : SameR M0 M) (kk : ∀ M', Rf (ρ.setS k v) M' → SameR M0 M' → Sf G mi Q (pc + 3) L st M') : Sf G mi Q pc L (vI v :: vR (30, 0) :: st) M :=
  S_putI hl hd rfl hf hfin (Or.inl ht) (kk _ (hR.setS k v) (hS.put (Or.inl rfl)))
theorem R_ald {k : Nat} {i v : Int} (j : Nat) (hR : Rf ρ M) (hd : decode mi.2.1 pc = .ok (.iaload, 1)) (hk : arC k = 31) (ha : isArr k = true) (hj : i = (j : Int)) (hjn : j < rl k) (hv : ρ.2 k j = v) (kk : Sf G mi Q (pc + 1) L (vI v :: st) M) : Sf G mi Q pc L (vI i :: vR (arC k, k) :: st) M :=
  S_iald j hd (by show kd (arC k) = _; rw [hk]; rfl) (by show ro (arC k) = _; rw [hk]; rfl) (hR.n k ha) hj ⟨hjn, by have := rl_le k; omega⟩ ((hR.a k j).trans hv) kk
theorem R_bld {k : Nat} {i v : Int} (j : Nat) (hR : Rf ρ M) (hd : decode mi.2.1 pc = .ok (.baload, 1)) (hk : arC k = 32) (ha : isArr k = true) (hj : i = (j : Int)) (hjn : j < rl k) (hv : ρ.2 k j = v) (kk : Sf G mi Q (pc + 1) L (vI v :: st) M) : Sf G mi Q pc L (vI i :: vR (arC k, k) :: st) M :=
  S_bald j hd (by show kd (arC k) = _; rw [hk]; rfl) (by show ro (arC k) = _; rw [hk]; rfl) (hR.n k ha) hj ⟨hjn, by have := rl_le k; omega⟩ ((hR.a k j).trans hv) kk
theorem R_ast {k : Nat} {i v : Int} (j : Nat) (hd : decode mi.2.1 pc = .ok (.iastore, 1)) (hk : arC k = 31) (ha : isArr k = true) (hj : i = (j : Int)) (hjn : j < rl k) (hR : Rf ρ M) (hS : SameR M0 M) (kk : ∀ M', Rf (ρ.setA k j v) M' → SameR M0 M' → Sf G mi Q (pc + 1) L st M') : Sf G mi Q pc L (vI v :: vI i :: vR (arC k, k) :: st) M :=
  S_iast j hd (by show kd (arC k) = _; rw [hk]; rfl) (by show ro (arC k) = _; rw [hk]; rfl) (hR.n k ha) hj ⟨hjn, by have := rl_le k; omega⟩ (kk _ (hR.setA k j v) (hS.put (Or.inr (arC_or k))))
theorem R_bst {k : Nat} {i v : Int} (j : Nat) (hd : decode mi.2.1 pc = .ok (.bastore, 1)) (hk : arC k = 32) (ha : isArr k = true) (hj : i = (j : Int)) (hjn : j < rl k) (hz : v = 0 ∨ v = 1) (hR : Rf ρ M) (hS : SameR M0 M) (kk : ∀ M', Rf (ρ.setA k j v) M' → SameR M0 M' → Sf G mi Q (pc + 1) L st M') : Sf G mi Q pc L (vI v :: vI i :: vR (arC k, k) :: st) M :=
  S_bast j hd (by show kd (arC k) = _; rw [hk]; rfl) (by show ro (arC k) = _; rw [hk]; rfl) (hR.n k ha) hj ⟨hjn, by have := rl_le k; omega⟩ hz (kk _ (hR.setA k j v) (hS.put (Or.inr (arC_or k))))
end
theorem mul_bd {x y a b : Int} (hx : 0 ≤ x ∧ x ≤ a) (hy : 0 ≤ y ∧ y ≤ b) : 0 ≤ x * y ∧ x * y ≤ a * b := ⟨Int.mul_nonneg hx.1 hy.1, Int.mul_le_mul hx.2 hy.2 hy.1 (Int.le_trans hx.1 hx.2)⟩
theorem tmod_bd {x q : Int} (hx : 0 ≤ x) (hq : 0 < q) : 0 ≤ x.tmod q ∧ x.tmod q < q := ⟨Int.tmod_nonneg q hx, Int.tmod_lt_of_pos x hq⟩
end
section
/-! THE REFERENCE, its small methods -/
def mixF (q x y : Int) : Int := (31 * x + 17 * y + x * y + 7).tmod q
theorem mixF_bd {q x y : Int} (hq : 0 < q) (hx : 0 ≤ x) (hy : 0 ≤ y) : 0 ≤ mixF q x y ∧ mixF q x y < q := tmod_bd (by have := Int.mul_nonneg hx hy; omega) hq
def powF (q b : Int) : Nat → Int
  | 0 => (1 : Int).tmod q
  | n + 1 => (powF q b n * b).tmod q
theorem powF_bd {q b : Int} (hq : 0 < q) (hb : 0 ≤ b) : ∀ n, 0 ≤ powF q b n ∧ powF q b n < q := by
  intro n
  induction n with
  | zero => exact tmod_bd (by decide) hq
  | succ n ih => exact tmod_bd (Int.mul_nonneg ih.1 hb) hq
theorem r_X9_in {G : Ge} {ρ : RS} (v low high : Int) (hv : -2147483648 ≤ v ∧ v < 2147483648) (hl : -2147483648 ≤ low ∧ low < 2147483648) (hh : -2147483648 ≤ high ∧ high < 2147483648) : RB G mi_X9_in [vI v, vI low, vI high] ρ (low ≤ v ∧ v ≤ high) := by
  intro M hR
  have hS := SameR.rf M
  refine Ct.of pl_X9_in [some (vI v), some (vI low), some (vI high)] rfl (Nat.le_of_ble_eq_true rfl) ?_
  refine S_iload_n dX9_in_0 rfl ?_
  refine S_iload_n dX9_in_1 rfl ?_
  refine S_icmp_lt 14 dX9_in_2 (by decide) (by omega) (fun c_2 => ?_) (fun c_2 => ?_)
  · refine S_iconst dX9_in_14 ?_
    exact S_iret dX9_in_15 rfl (Or.inr ⟨rfl, by omega⟩) ⟨Or.inr ⟨rfl, by omega⟩, hR, hS⟩
  · refine S_iload_n dX9_in_5 rfl ?_
    refine S_iload_n dX9_in_6 rfl ?_
    refine S_icmp_gt 14 dX9_in_7 (by decide) (by omega) (fun c_7 => ?_) (fun c_7 => ?_)
    · refine S_iconst dX9_in_14 ?_
      exact S_iret dX9_in_15 rfl (Or.inr ⟨rfl, by omega⟩) ⟨Or.inr ⟨rfl, by omega⟩, hR, hS⟩
    · refine S_iconst dX9_in_10 ?_
      refine S_goto 15 dX9_in_11 (by decide) ?_
      exact S_iret dX9_in_15 rfl (Or.inr ⟨rfl, by omega⟩) ⟨Or.inl ⟨rfl, by omega⟩, hR, hS⟩
theorem r_X9_refused {G : Ge} {ρ : RS} (how : Int) : RC G mi_X9_refused [vR ((30, 0)), vI how] ρ (some (vI (-1))) (ρ.setS 42 how) := by
  intro M hR
  have hS := SameR.rf M
  refine Ct.of pl_X9_refused [some (vR ((30, 0))), some (vI how)] rfl (Nat.le_of_ble_eq_true rfl) ?_
  refine S_aload_n dX9_refused_0 rfl ?_
  refine S_iload_n dX9_refused_1 rfl ?_
  refine R_put fl_X9_132 dX9_refused_2 rfl rfl rfl hR hS (fun M1 hR1 hS1 => ?_)
  refine S_iconst dX9_refused_5 ?_
  exact S_iret dX9_refused_6 rfl (Or.inl rfl) ⟨rfl, hR1, hS1⟩
theorem r_X9_done {G : Ge} {ρ : RS} (v : Int) : RC G mi_X9_done [vR ((30, 0)), vI v] ρ (some (vI v)) (ρ.setS 42 0) := by
  intro M hR
  have hS := SameR.rf M
  refine Ct.of pl_X9_done [some (vR ((30, 0))), some (vI v)] rfl (Nat.le_of_ble_eq_true rfl) ?_
  refine S_aload_n dX9_done_0 rfl ?_
  refine S_iconst dX9_done_1 ?_
  refine R_put fl_X9_132 dX9_done_2 rfl rfl rfl hR hS (fun M1 hR1 hS1 => ?_)
  refine S_iload_n dX9_done_5 rfl ?_
  exact S_iret dX9_done_6 rfl (Or.inl rfl) ⟨rfl, hR1, hS1⟩
theorem r_X9_isEnd {G : Ge} {ρ : RS} (e : Int) (he : -2147483648 ≤ e ∧ e < 2147483648) (hp : 0 ≤ ρ.1 4 ∧ ρ.1 4 ≤ 6) : RB G mi_X9_isEnd [vR ((30, 0)), vI e] ρ (0 ≤ e ∧ e ≤ 2 * ρ.1 4 - 1) := by
  intro M hR
  have hS := SameR.rf M
  refine Ct.of pl_X9_isEnd [some (vR ((30, 0))), some (vI e)] rfl (Nat.le_of_ble_eq_true rfl) ?_
  refine S_iload_n dX9_isEnd_0 rfl ?_
  refine S_iconst dX9_isEnd_1 ?_
  refine S_iconst dX9_isEnd_2 ?_
  refine S_aload_n dX9_isEnd_3 rfl ?_
  refine S_getI (v := ρ.1 4) fl_X9_135 dX9_isEnd_4 rfl rfl (hR.s 4) ?_
  refine S_imul dX9_isEnd_7 ?_
  refine S_iconst dX9_isEnd_8 ?_
  refine S_isub dX9_isEnd_9 ?_
  refine S_callS [vI e, vI 0, vI ((2 * (ρ.1 4)) - 1)] ok_X9_in ml_X9_138 dX9_isEnd_10 (by decide) rfl (Nat.le_of_ble_eq_true rfl) rfl (r_X9_in (ρ := ρ) e 0 ((2 * (ρ.1 4)) - 1) (by omega) (by omega) (by omega) M hR) ?_
  rintro v' M1 ⟨⟨rfl, b_10⟩ | ⟨rfl, b_10⟩, hR1, hS1'⟩
  · have hS1 := hS.trans hS1'
    exact S_iret dX9_isEnd_13 rfl (Or.inr ⟨rfl, by omega⟩) ⟨Or.inl ⟨rfl, by omega⟩, hR1, hS1⟩
  · have hS1 := hS.trans hS1'
    exact S_iret dX9_isEnd_13 rfl (Or.inr ⟨rfl, by omega⟩) ⟨Or.inr ⟨rfl, by omega⟩, hR1, hS1⟩
theorem r_X9_isLetter {G : Ge} {ρ : RS} (e : Int) (he : -2147483648 ≤ e ∧ e < 2147483648) (hp : 0 ≤ ρ.1 30 ∧ ρ.1 30 ≤ 300) : RB G mi_X9_isLetter [vR ((30, 0)), vI e] ρ (0 ≤ e ∧ e ≤ ρ.1 30 - 1) := by
  intro M hR
  have hS := SameR.rf M
  refine Ct.of pl_X9_isLetter [some (vR ((30, 0))), some (vI e)] rfl (Nat.le_of_ble_eq_true rfl) ?_
  refine S_iload_n dX9_isLetter_0 rfl ?_
  refine S_iconst dX9_isLetter_1 ?_
  refine S_aload_n dX9_isLetter_2 rfl ?_
  refine S_getI (v := ρ.1 30) fl_X9_142 dX9_isLetter_3 rfl rfl (hR.s 30) ?_
  refine S_iconst dX9_isLetter_6 ?_
  refine S_isub dX9_isLetter_7 ?_
  refine S_callS [vI e, vI 0, vI ((ρ.1 30) - 1)] ok_X9_in ml_X9_138 dX9_isLetter_8 (by decide) rfl (Nat.le_of_ble_eq_true rfl) rfl (r_X9_in (ρ := ρ) e 0 ((ρ.1 30) - 1) (by omega) (by omega) (by omega) M hR) ?_
  rintro v' M1 ⟨⟨rfl, b_8⟩ | ⟨rfl, b_8⟩, hR1, hS1'⟩
  · have hS1 := hS.trans hS1'
    exact S_iret dX9_isLetter_11 rfl (Or.inr ⟨rfl, by omega⟩) ⟨Or.inl ⟨rfl, by omega⟩, hR1, hS1⟩
  · have hS1 := hS.trans hS1'
    exact S_iret dX9_isLetter_11 rfl (Or.inr ⟨rfl, by omega⟩) ⟨Or.inr ⟨rfl, by omega⟩, hR1, hS1⟩
theorem r_X9_mix {G : Ge} {ρ : RS} (x y : Int) (hx : 0 ≤ x ∧ x ≤ 10007) (hy : 0 ≤ y ∧ y ≤ 10007) (hq : 0 < ρ.1 0 ∧ ρ.1 0 ≤ 10007) : RC G mi_X9_mix [vR ((30, 0)), vI x, vI y] ρ (some (vI (mixF (ρ.1 0) x y))) ρ := by
  intro M hR
  have hS := SameR.rf M
  refine Ct.of pl_X9_mix [some (vR ((30, 0))), some (vI x), some (vI y)] rfl (Nat.le_of_ble_eq_true rfl) ?_
  have hxy := mul_bd hx hy
  refine S_bipush dX9_mix_0 (by decide) ?_
  refine S_iload_n dX9_mix_2 rfl ?_
  refine S_imul dX9_mix_3 ?_
  refine S_bipush dX9_mix_4 (by decide) ?_
  refine S_iload_n dX9_mix_6 rfl ?_
  refine S_imul dX9_mix_7 ?_
  refine S_iadd dX9_mix_8 ?_
  refine S_iload_n dX9_mix_9 rfl ?_
  refine S_iload_n dX9_mix_10 rfl ?_
  refine S_imul dX9_mix_11 ?_
  refine S_iadd dX9_mix_12 ?_
  refine S_bipush dX9_mix_13 (by decide) ?_
  refine S_iadd dX9_mix_15 ?_
  refine S_aload_n dX9_mix_16 rfl ?_
  refine S_getI (v := ρ.1 0) fl_X9_7 dX9_mix_17 rfl rfl (hR.s 0) ?_
  refine S_irem dX9_mix_20 (by omega) (by omega) ?_
  exact S_iret dX9_mix_21 rfl (Or.inl rfl) ⟨rfl, hR, hS⟩
theorem lp_X9_power {G : Ge} {ρ : RS} {M0 : Mem} (b : Int) (n : Nat) (hb : 0 ≤ b ∧ b ≤ 10007) (hn : n ≤ 10000) (hq : 0 < ρ.1 0 ∧ ρ.1 0 ≤ 10007) : ∀ (d : Nat) (k : Nat) (M : Mem), k + d = n → Rf ρ M → SameR M0 M → Sf G mi_X9_power (fun v' M' => v' = some (vI (powF (ρ.1 0) b n)) ∧ Rf ρ M' ∧ SameR M0 M') 10 [some (vR ((30, 0))), some (vI b), some (vI (↑n)), some (vI (powF (ρ.1 0) b k)), some (vI (↑k))] [] M := by
  intro d
  induction d with
  | zero =>
    intro k M hk hR hS
    obtain rfl : k = n := by omega
    refine S_iload dX9_power_10 rfl ?_
    refine S_iload_n dX9_power_12 rfl ?_
    refine S_icmp_ge 31 dX9_power_13 (by decide) (by omega) (fun c_13 => ?_) (fun c_13 => absurd c_13 (by omega))
    refine S_iload_n dX9_power_31 rfl ?_
    exact S_iret dX9_power_32 rfl (Or.inl rfl) ⟨rfl, hR, hS⟩
  | succ d ih =>
    intro k M hk hR hS
    refine S_iload dX9_power_10 rfl ?_
    refine S_iload_n dX9_power_12 rfl ?_
    refine S_icmp_ge 31 dX9_power_13 (by decide) (by omega) (fun c_13 => absurd c_13 (by omega)) (fun c_13 => ?_)
    refine S_iload_n dX9_power_16 rfl ?_
    refine S_iload_n dX9_power_17 rfl ?_
    refine S_imul dX9_power_18 ?_
    refine S_aload_n dX9_power_19 rfl ?_
    refine S_getI (v := ρ.1 0) fl_X9_7 dX9_power_20 rfl rfl (hR.s 0) ?_
    refine S_irem dX9_power_23 (by have := mul_bd (⟨(powF_bd hq.1 hb.1 k).1, by have := (powF_bd hq.1 hb.1 k).2; omega⟩ : 0 ≤ powF (ρ.1 0) b k ∧ powF (ρ.1 0) b k ≤ 10007) hb; omega) (by omega) ?_
    refine S_istore_n dX9_power_24 (by decide) ?_
    refine S_iinc dX9_power_25 rfl (by decide) ?_
    rw [show ((↑k) + 1 : Int) = ↑(k + 1) from by omega]
    refine S_goto 10 dX9_power_28 (by decide) ?_
    exact ih (k + 1) _ (by omega) hR hS
theorem r_X9_power {G : Ge} {ρ : RS} (b : Int) (n : Nat) (hb : 0 ≤ b ∧ b ≤ 10007) (hn : n ≤ 10000) (hq : 0 < ρ.1 0 ∧ ρ.1 0 ≤ 10007) : RC G mi_X9_power [vR ((30, 0)), vI b, vI (↑n)] ρ (some (vI (powF (ρ.1 0) b n))) ρ := by
  intro M hR
  have hS := SameR.rf M
  refine Ct.of pl_X9_power [some (vR ((30, 0))), some (vI b), some (vI (↑n)), none, none] rfl (Nat.le_of_ble_eq_true rfl) ?_
  refine S_iconst dX9_power_0 ?_
  refine S_aload_n dX9_power_1 rfl ?_
  refine S_getI (v := ρ.1 0) fl_X9_7 dX9_power_2 rfl rfl (hR.s 0) ?_
  refine S_irem dX9_power_5 (by omega) (by omega) ?_
  refine S_istore_n dX9_power_6 (by decide) ?_
  refine S_iconst dX9_power_7 ?_
  refine S_istore dX9_power_8 (by decide) ?_
  exact lp_X9_power b n hb hn hq n 0 _ (by omega) hR hS
theorem r_X9_publicOf {G : Ge} {ρ : RS} (s w : Nat) (hw : ρ.2 9 s = ↑w) (hs : s < 8000) (hwb : w ≤ 10000) (hg : 0 ≤ ρ.1 1 ∧ ρ.1 1 ≤ 10007) (hq : 0 < ρ.1 0 ∧ ρ.1 0 ≤ 10007) : RC G mi_X9_publicOf [vR ((30, 0)), vI (↑s)] ρ (some (vI (powF (ρ.1 0) (ρ.1 1) w))) ρ := by
  intro M hR
  have hS := SameR.rf M
  refine Ct.of pl_X9_publicOf [some (vR ((30, 0))), some (vI (↑s))] rfl (Nat.le_of_ble_eq_true rfl) ?_
  refine S_aload_n dX9_publicOf_0 rfl ?_
  refine S_aload_n dX9_publicOf_1 rfl ?_
  refine S_getI (v := ρ.1 1) fl_X9_13 dX9_publicOf_2 rfl rfl (hR.s 1) ?_
  refine S_aload_n dX9_publicOf_5 rfl ?_
  refine S_getP fl_X9_32 dX9_publicOf_6 rfl rfl (hR.p 9 rfl) ?_
  refine S_iload_n dX9_publicOf_9 rfl ?_
  refine R_ald (v := ↑w) s hR dX9_publicOf_10 rfl rfl (by omega) (show _ < 8000 from by omega) hw ?_
  refine S_callV [vI (ρ.1 1), vI (↑w)] ok_X9_power ml_X9_145 dX9_publicOf_11 rfl (by decide) rfl (by decide) rfl (Nat.le_of_ble_eq_true rfl) rfl (r_X9_power (ρ := ρ) (ρ.1 1) w hg hwb hq M hR) ?_
  rintro v' M1 ⟨rfl, hR1, hS1'⟩
  have hS1 := hS.trans hS1'
  exact S_iret dX9_publicOf_14 rfl (Or.inl rfl) ⟨rfl, hR1, hS1⟩
def fndT (ρ : RS) (k a b : Int) : Nat → Nat → Nat
  | 0, t => t
  | d + 1, t => if ρ.2 6 t = k ∧ ρ.2 7 t = a ∧ ρ.2 8 t = b then t else fndT ρ k a b d (t + 1)
theorem fndT_le (ρ : RS) (k a b : Int) : ∀ d t, fndT ρ k a b d t ≤ t + d ∧ t ≤ fndT ρ k a b d t := by
  intro d
  induction d with
  | zero => intro t; exact ⟨Nat.le_refl t, Nat.le_refl t⟩
  | succ d ih =>
    intro t
    unfold fndT
    split
    · omega
    · have := ih (t + 1); omega
def thN (ρ : RS) : Nat := (ρ.1 5).toNat
def thI (ρ : RS) (k a b : Int) : Nat := if k = 3 then thN ρ else fndT ρ k a b (thN ρ) 0
def newT (ρ : RS) (k a b v : Int) : RS := (((((ρ.setA 6 (thN ρ) k).setA 7 (thN ρ) a).setA 8 (thN ρ) b).setA 9 (thN ρ) v).setA 10 (thN ρ) 0).setS 5 (ρ.1 5 + 1)
def thR (ρ : RS) (k a b v : Int) : RS := if thI ρ k a b < thN ρ then ρ else newT ρ k a b v
theorem thI_le (ρ : RS) (k a b : Int) : thI ρ k a b ≤ thN ρ := by
  unfold thI
  split
  · exact Nat.le_refl _
  · have := (fndT_le ρ k a b (thN ρ) 0).1; omega
theorem thR_new {ρ : RS} {k a b v : Int} (h : thI ρ k a b = thN ρ) : thR ρ k a b v = newT ρ k a b v := if_neg (by omega)
theorem thR_old {ρ : RS} {k a b v : Int} (h : thI ρ k a b < thN ρ) : thR ρ k a b v = ρ := if_pos h
theorem nw_X9_thing {G : Ge} {ρ : RS} {M0 : Mem} (k a b v x : Int) (hn : ρ.1 5 = ↑(thN ρ)) (hlt : thN ρ < 8000) (M : Mem) (hR : Rf ρ M) (hS : SameR M0 M) : Sf G mi_X9_thing (fun v' M' => v' = some (vI ↑(thN ρ)) ∧ Rf (newT ρ k a b v) M' ∧ SameR M0 M') 59 [some (vR ((30, 0))), some (vI k), some (vI a), some (vI b), some (vI v), some (vI x)] [] M := by
  refine S_aload_n dX9_thing_59 rfl ?_
  refine S_getP fl_X9_22 dX9_thing_60 rfl rfl (hR.p 6 rfl) ?_
  refine S_aload_n dX9_thing_63 rfl ?_
  refine S_getI (v := ρ.1 5) fl_X9_149 dX9_thing_64 rfl rfl (hR.s 5) ?_
  refine S_iload_n dX9_thing_67 rfl ?_
  refine R_ast (thN ρ) dX9_thing_68 rfl rfl (by omega) (show _ < 8000 from by omega) hR hS (fun M1 hR1 hS1 => ?_)
  refine S_aload_n dX9_thing_69 rfl ?_
  refine S_getP fl_X9_26 dX9_thing_70 rfl rfl (hR1.p 7 rfl) ?_
  refine S_aload_n dX9_thing_73 rfl ?_
  refine S_getI (v := ρ.1 5) fl_X9_149 dX9_thing_74 rfl rfl (hR1.s 5) ?_
  refine S_iload_n dX9_thing_77 rfl ?_
  refine R_ast (thN ρ) dX9_thing_78 rfl rfl (by omega) (show _ < 8000 from by omega) hR1 hS1 (fun M2 hR2 hS2 => ?_)
  refine S_aload_n dX9_thing_79 rfl ?_
  refine S_getP fl_X9_29 dX9_thing_80 rfl rfl (hR2.p 8 rfl) ?_
  refine S_aload_n dX9_thing_83 rfl ?_
  refine S_getI (v := ρ.1 5) fl_X9_149 dX9_thing_84 rfl rfl (hR2.s 5) ?_
  refine S_iload_n dX9_thing_87 rfl ?_
  refine R_ast (thN ρ) dX9_thing_88 rfl rfl (by omega) (show _ < 8000 from by omega) hR2 hS2 (fun M3 hR3 hS3 => ?_)
  refine S_aload_n dX9_thing_89 rfl ?_
  refine S_getP fl_X9_32 dX9_thing_90 rfl rfl (hR3.p 9 rfl) ?_
  refine S_aload_n dX9_thing_93 rfl ?_
  refine S_getI (v := ρ.1 5) fl_X9_149 dX9_thing_94 rfl rfl (hR3.s 5) ?_
  refine S_iload dX9_thing_97 rfl ?_
  refine R_ast (thN ρ) dX9_thing_99 rfl rfl (by omega) (show _ < 8000 from by omega) hR3 hS3 (fun M4 hR4 hS4 => ?_)
  refine S_aload_n dX9_thing_100 rfl ?_
  refine S_getP fl_X9_35 dX9_thing_101 rfl rfl (hR4.p 10 rfl) ?_
  refine S_aload_n dX9_thing_104 rfl ?_
  refine S_getI (v := ρ.1 5) fl_X9_149 dX9_thing_105 rfl rfl (hR4.s 5) ?_
  refine S_iconst dX9_thing_108 ?_
  refine R_bst (thN ρ) dX9_thing_109 rfl rfl (by omega) (show _ < 8000 from by omega) (by omega) hR4 hS4 (fun M5 hR5 hS5 => ?_)
  refine S_aload_n dX9_thing_110 rfl ?_
  refine S_dup dX9_thing_111 ?_
  refine S_getI (v := ρ.1 5) fl_X9_149 dX9_thing_112 rfl rfl (hR5.s 5) ?_
  refine S_iconst dX9_thing_115 ?_
  refine S_iadd dX9_thing_116 ?_
  refine R_put fl_X9_149 dX9_thing_117 rfl rfl rfl hR5 hS5 (fun M6 hR6 hS6 => ?_)
  refine S_aload_n dX9_thing_120 rfl ?_
  refine S_getI (v := (ρ.1 5) + 1) fl_X9_149 dX9_thing_121 rfl rfl (hR6.s 5) ?_
  refine S_iconst dX9_thing_124 ?_
  refine S_isub dX9_thing_125 ?_
  exact S_iret dX9_thing_126 rfl (Or.inl rfl) ⟨by rw [show ρ.1 5 + 1 - 1 = ↑(thN ρ) from by omega], hR6, hS6⟩
theorem lp_X9_thing {G : Ge} {ρ : RS} {M0 : Mem} (k a b v : Int) (hn : ρ.1 5 = ↑(thN ρ)) (hlt : thN ρ < 8000) (hk : -1 ≤ k ∧ k ≤ 5) (ha : -1 ≤ a ∧ a ≤ 8000) (hb : -1 ≤ b ∧ b ≤ 8000) (hT : ∀ t, t < thN ρ → (-1 ≤ ρ.2 6 t ∧ ρ.2 6 t ≤ 8000) ∧ (-1 ≤ ρ.2 7 t ∧ ρ.2 7 t ≤ 8000) ∧ (-1 ≤ ρ.2 8 t ∧ ρ.2 8 t ≤ 8000)) (hk3 : k ≠ 3) : ∀ (d : Nat) (t : Nat) (M : Mem), t + d = thN ρ → Rf ρ M → SameR M0 M → Sf G mi_X9_thing (fun v' M' => v' = some (vI ↑(fndT ρ k a b d t)) ∧ Rf ((if fndT ρ k a b d t < thN ρ then ρ else newT ρ k a b v)) M' ∧ SameR M0 M') 3 [some (vR ((30, 0))), some (vI k), some (vI a), some (vI b), some (vI v), some (vI (↑t))] [] M := by
  intro d
  induction d with
  | zero =>
    intro t M ht hR hS
    rw [show (if fndT ρ k a b 0 t < thN ρ then ρ else newT ρ k a b v) = newT ρ k a b v from if_neg (show ¬ t < thN ρ by omega), show fndT ρ k a b 0 t = thN ρ from (show t = thN ρ by omega)]
    refine S_iload dX9_thing_3 rfl ?_
    refine S_aload_n dX9_thing_5 rfl ?_
    refine S_getI (v := ρ.1 5) fl_X9_149 dX9_thing_6 rfl rfl (hR.s 5) ?_
    refine S_icmp_ge 59 dX9_thing_9 (by decide) (by omega) (fun c_9 => ?_) (fun c_9 => absurd c_9 (by omega))
    exact nw_X9_thing k a b v _ hn hlt _ hR hS
  | succ d ih =>
    intro t M ht hR hS
    have hT1 := hT t (by omega)
    refine S_iload dX9_thing_3 rfl ?_
    refine S_aload_n dX9_thing_5 rfl ?_
    refine S_getI (v := ρ.1 5) fl_X9_149 dX9_thing_6 rfl rfl (hR.s 5) ?_
    refine S_icmp_ge 59 dX9_thing_9 (by decide) (by omega) (fun c_9 => absurd c_9 (by omega)) (fun c_9 => ?_)
    refine S_iload_n dX9_thing_12 rfl ?_
    refine S_iconst dX9_thing_13 ?_
    refine S_icmp_eq 59 dX9_thing_14 (by decide) (by omega) (fun c_14 => absurd c_14 (by omega)) (fun c_14 => ?_)
    refine S_aload_n dX9_thing_17 rfl ?_
    refine S_getP fl_X9_22 dX9_thing_18 rfl rfl (hR.p 6 rfl) ?_
    refine S_iload dX9_thing_21 rfl ?_
    refine R_ald (v := ρ.2 6 t) t hR dX9_thing_23 rfl rfl (by omega) (show _ < 8000 from by omega) rfl ?_
    refine S_iload_n dX9_thing_24 rfl ?_
    refine S_icmp_ne 53 dX9_thing_25 (by decide) (by omega) (fun c_25 => ?_) (fun c_25 => ?_)
    · have he : fndT ρ k a b (d + 1) t = fndT ρ k a b d (t + 1) := if_neg (by omega)
      rw [he]
      refine S_iinc dX9_thing_53 rfl (by decide) ?_
      rw [show ((↑t) + 1 : Int) = ↑(t + 1) from by omega]
      refine S_goto 3 dX9_thing_56 (by decide) ?_
      exact ih (t + 1) _ (by omega) hR hS
    · refine S_aload_n dX9_thing_28 rfl ?_
      refine S_getP fl_X9_26 dX9_thing_29 rfl rfl (hR.p 7 rfl) ?_
      refine S_iload dX9_thing_32 rfl ?_
      refine R_ald (v := ρ.2 7 t) t hR dX9_thing_34 rfl rfl (by omega) (show _ < 8000 from by omega) rfl ?_
      refine S_iload_n dX9_thing_35 rfl ?_
      refine S_icmp_ne 53 dX9_thing_36 (by decide) (by omega) (fun c_36 => ?_) (fun c_36 => ?_)
      · have he : fndT ρ k a b (d + 1) t = fndT ρ k a b d (t + 1) := if_neg (by omega)
        rw [he]
        refine S_iinc dX9_thing_53 rfl (by decide) ?_
        rw [show ((↑t) + 1 : Int) = ↑(t + 1) from by omega]
        refine S_goto 3 dX9_thing_56 (by decide) ?_
        exact ih (t + 1) _ (by omega) hR hS
      · refine S_aload_n dX9_thing_39 rfl ?_
        refine S_getP fl_X9_29 dX9_thing_40 rfl rfl (hR.p 8 rfl) ?_
        refine S_iload dX9_thing_43 rfl ?_
        refine R_ald (v := ρ.2 8 t) t hR dX9_thing_45 rfl rfl (by omega) (show _ < 8000 from by omega) rfl ?_
        refine S_iload_n dX9_thing_46 rfl ?_
        refine S_icmp_ne 53 dX9_thing_47 (by decide) (by omega) (fun c_47 => ?_) (fun c_47 => ?_)
        · have he : fndT ρ k a b (d + 1) t = fndT ρ k a b d (t + 1) := if_neg (by omega)
          rw [he]
          refine S_iinc dX9_thing_53 rfl (by decide) ?_
          rw [show ((↑t) + 1 : Int) = ↑(t + 1) from by omega]
          refine S_goto 3 dX9_thing_56 (by decide) ?_
          exact ih (t + 1) _ (by omega) hR hS
        · have he : fndT ρ k a b (d + 1) t = t := if_pos ⟨by omega, by omega, by omega⟩
          rw [he, if_pos (show t < thN ρ by omega)]
          refine S_iload dX9_thing_50 rfl ?_
          exact S_iret dX9_thing_52 rfl (Or.inl rfl) ⟨rfl, hR, hS⟩
theorem r_X9_thing {G : Ge} {ρ : RS} (k a b v : Int) (hn : ρ.1 5 = ↑(thN ρ)) (hlt : thN ρ < 8000) (hk : -1 ≤ k ∧ k ≤ 5) (ha : -1 ≤ a ∧ a ≤ 8000) (hb : -1 ≤ b ∧ b ≤ 8000) (hT : ∀ t, t < thN ρ → (-1 ≤ ρ.2 6 t ∧ ρ.2 6 t ≤ 8000) ∧ (-1 ≤ ρ.2 7 t ∧ ρ.2 7 t ≤ 8000) ∧ (-1 ≤ ρ.2 8 t ∧ ρ.2 8 t ≤ 8000)) : RC G mi_X9_thing [vR ((30, 0)), vI k, vI a, vI b, vI v] ρ (some (vI ↑(thI ρ k a b))) (thR ρ k a b v) := by
  intro M hR
  have hS := SameR.rf M
  refine Ct.of pl_X9_thing [some (vR ((30, 0))), some (vI k), some (vI a), some (vI b), some (vI v), none] rfl (Nat.le_of_ble_eq_true rfl) ?_
  have hle := thI_le ρ k a b
  by_cases hk3 : k = 3
  · rw [thR_new (show thI ρ k a b = thN ρ from if_pos hk3), show thI ρ k a b = thN ρ from if_pos hk3]
    refine S_iconst dX9_thing_0 ?_
    refine S_istore dX9_thing_1 (by decide) ?_
    refine S_iload dX9_thing_3 rfl ?_
    refine S_aload_n dX9_thing_5 rfl ?_
    refine S_getI (v := ρ.1 5) fl_X9_149 dX9_thing_6 rfl rfl (hR.s 5) ?_
    refine S_icmp_ge 59 dX9_thing_9 (by decide) (by omega) (fun c_9 => ?_) (fun c_9 => ?_)
    · exact nw_X9_thing k a b v _ hn hlt _ hR hS
    · refine S_iload_n dX9_thing_12 rfl ?_
      refine S_iconst dX9_thing_13 ?_
      refine S_icmp_eq 59 dX9_thing_14 (by decide) (by omega) (fun c_14 => ?_) (fun c_14 => absurd c_14 (by omega))
      exact nw_X9_thing k a b v _ hn hlt _ hR hS
  · rw [show thR ρ k a b v = (if fndT ρ k a b (thN ρ) 0 < thN ρ then ρ else newT ρ k a b v) from (by unfold thR thI; rw [if_neg hk3]), show thI ρ k a b = fndT ρ k a b (thN ρ) 0 from if_neg hk3]
    refine S_iconst dX9_thing_0 ?_
    refine S_istore dX9_thing_1 (by decide) ?_
    exact lp_X9_thing k a b v hn hlt hk ha hb hT hk3 (thN ρ) 0 _ (by omega) hR hS
end
section
/-! THE REFERENCE: things come -/
def ThOK (ρ : RS) (N : Nat) : Prop := ρ.1 5 = ↑(thN ρ) ∧ thN ρ ≤ N ∧ (3 ≤ ρ.1 0 ∧ ρ.1 0 ≤ 10007) ∧ (0 ≤ ρ.1 1 ∧ ρ.1 1 ≤ 10007) ∧ ∀ t, t < thN ρ → (0 ≤ ρ.2 6 t ∧ ρ.2 6 t ≤ 5) ∧ (-1 ≤ ρ.2 7 t ∧ ρ.2 7 t < t) ∧ (-1 ≤ ρ.2 8 t ∧ ρ.2 8 t < t) ∧ (0 ≤ ρ.2 9 t ∧ ρ.2 9 t ≤ 10007)
theorem thN_new {ρ : RS} {N : Nat} (h : ThOK ρ N) (k a b v : Int) : thN (newT ρ k a b v) = thN ρ + 1 := by
  show (ρ.1 5 + 1).toNat = _
  have := h.1; omega
theorem new_at (ρ : RS) (k a b v : Int) (i t : Nat) : (newT ρ k a b v).2 i t = if t = thN ρ ∧ 6 ≤ i ∧ i ≤ 10 then (if i = 6 then k else if i = 7 then a else if i = 8 then b else if i = 9 then v else 0) else ρ.2 i t := by
  show (if i = 10 ∧ t = thN ρ then 0 else if i = 9 ∧ t = thN ρ then v else if i = 8 ∧ t = thN ρ then b else if i = 7 ∧ t = thN ρ then a else if i = 6 ∧ t = thN ρ then k else ρ.2 i t) = _
  by_cases ht : t = thN ρ
  · by_cases h10 : i = 10
    · subst h10; simp [ht]
    · by_cases h9 : i = 9
      · subst h9; simp [ht]
      · by_cases h8 : i = 8
        · subst h8; simp [ht]
        · by_cases h7 : i = 7
          · subst h7; simp [ht]
          · by_cases h6 : i = 6
            · subst h6; simp [ht]
            · rw [if_neg (by omega), if_neg (by omega), if_neg (by omega), if_neg (by omega), if_neg (by omega), if_neg (by omega)]
  · rw [if_neg (by omega), if_neg (by omega), if_neg (by omega), if_neg (by omega), if_neg (by omega), if_neg (by omega)]
theorem new_old (ρ : RS) (k a b v : Int) (i t : Nat) (h : t ≠ thN ρ ∨ i < 6 ∨ 10 < i) : (newT ρ k a b v).2 i t = ρ.2 i t := by
  rw [new_at, if_neg (by omega)]
theorem new_s (ρ : RS) (k a b v : Int) (i : Nat) (h : i ≠ 5) : (newT ρ k a b v).1 i = ρ.1 i := if_neg h
theorem ThOK.new {ρ : RS} {N : Nat} (h : ThOK ρ N) {k a b v : Int} (hk : 0 ≤ k ∧ k ≤ 5) (ha : -1 ≤ a ∧ a < thN ρ) (hb : -1 ≤ b ∧ b < thN ρ) (hv : 0 ≤ v ∧ v ≤ 10007) : ThOK (newT ρ k a b v) (N + 1) := by
  have hn := thN_new h k a b v
  refine ⟨by rw [hn]; show ρ.1 5 + 1 = _; have := h.1; omega, by rw [hn]; have := h.2.1; omega, h.2.2.1, h.2.2.2.1, fun t ht => ?_⟩
  rw [hn] at ht
  by_cases e : t = thN ρ
  · rw [new_at, new_at, new_at, new_at]
    simp only [e, true_and]
    simp
    omega
  · rw [new_old _ _ _ _ _ _ _ (Or.inl e), new_old _ _ _ _ _ _ _ (Or.inl e), new_old _ _ _ _ _ _ _ (Or.inl e), new_old _ _ _ _ _ _ _ (Or.inl e)]
    exact h.2.2.2.2 t (by omega)
theorem ThOK.mono {ρ : RS} {N N' : Nat} (h : ThOK ρ N) (hN : N ≤ N') : ThOK ρ N' := ⟨h.1, Nat.le_trans h.2.1 hN, h.2.2⟩
theorem thR_cases (ρ : RS) (k a b v : Int) : (thI ρ k a b < thN ρ ∧ thR ρ k a b v = ρ) ∨ (thI ρ k a b = thN ρ ∧ thR ρ k a b v = newT ρ k a b v) := by
  have := thI_le ρ k a b
  by_cases h : thI ρ k a b < thN ρ
  · exact Or.inl ⟨h, thR_old h⟩
  · exact Or.inr ⟨by omega, thR_new (by omega)⟩
theorem ThOK.thR {ρ : RS} {N : Nat} (h : ThOK ρ N) {k a b v : Int} (hk : 0 ≤ k ∧ k ≤ 5) (ha : -1 ≤ a ∧ a < thN ρ) (hb : -1 ≤ b ∧ b < thN ρ) (hv : 0 ≤ v ∧ v ≤ 10007) : ThOK (thR ρ k a b v) (N + 1) ∧ thI ρ k a b < thN (thR ρ k a b v) ∧ thN ρ ≤ thN (thR ρ k a b v) := by
  rcases thR_cases ρ k a b v with ⟨h1, h2⟩ | ⟨h1, h2⟩
  · rw [h2]; exact ⟨h.mono (by omega), h1, Nat.le_refl _⟩
  · rw [h2, thN_new h]; exact ⟨h.new hk ha hb hv, by omega, by omega⟩
theorem thR_s (ρ : RS) (k a b v : Int) (i : Nat) (h : i ≠ 5) : (thR ρ k a b v).1 i = ρ.1 i := by
  rcases thR_cases ρ k a b v with ⟨-, h2⟩ | ⟨-, h2⟩ <;> rw [h2]
  exact new_s ρ k a b v i h
theorem thR_old_at (ρ : RS) (k a b v : Int) (i t : Nat) (h : t < thN ρ ∨ i < 6 ∨ 10 < i) : (thR ρ k a b v).2 i t = ρ.2 i t := by
  rcases thR_cases ρ k a b v with ⟨-, h2⟩ | ⟨-, h2⟩ <;> rw [h2]
  exact new_old ρ k a b v i t (by omega)
theorem ThOK.th {ρ : RS} {N : Nat} (h : ThOK ρ N) (hN : N < 8000) : ρ.1 5 = ↑(thN ρ) ∧ thN ρ < 8000 ∧ ∀ t, t < thN ρ → (-1 ≤ ρ.2 6 t ∧ ρ.2 6 t ≤ 8000) ∧ (-1 ≤ ρ.2 7 t ∧ ρ.2 7 t ≤ 8000) ∧ (-1 ≤ ρ.2 8 t ∧ ρ.2 8 t ≤ 8000) := ⟨h.1, by have := h.2.1; omega, fun t ht => by have := h.2.2.2.2 t ht; have := h.2.1; omega⟩
def meLo (a b : Nat) : Nat := if a < b then a else b
def meHi (a b : Nat) : Nat := if a < b then b else a
def meV (ρ : RS) (a b : Nat) : Int := powF (ρ.1 0) (powF (ρ.1 0) (ρ.1 1) (ρ.2 9 (meHi a b)).toNat) (ρ.2 9 (meLo a b)).toNat
def rtV (ρ : RS) (r : Int) (m : Nat) : Int := if r = -1 then ρ.2 9 m else mixF (ρ.1 0) (ρ.2 9 r.toNat) (ρ.2 9 m)
def chV (ρ : RS) (t : Nat) : Int := mixF (ρ.1 0) (ρ.2 9 t) (if ρ.2 6 t = 2 then 3 else 2)
def kyV (ρ : RS) (t : Nat) : Int := mixF (ρ.1 0) (ρ.2 9 t) 1
abbrev meI (ρ : RS) (a b : Nat) : Nat := thI ρ 5 (meLo a b) (meHi a b)
abbrev meR (ρ : RS) (a b : Nat) : RS := thR ρ 5 (meLo a b) (meHi a b) (meV ρ a b)
abbrev rtI (ρ : RS) (r : Int) (m : Nat) : Nat := thI ρ 2 r m
abbrev rtR (ρ : RS) (r : Int) (m : Nat) : RS := thR ρ 2 r m (rtV ρ r m)
abbrev chI (ρ : RS) (t : Nat) : Nat := thI ρ 1 t (-1)
abbrev chR (ρ : RS) (t : Nat) : RS := thR ρ 1 t (-1) (chV ρ t)
abbrev kyI (ρ : RS) (t : Nat) : Nat := thI ρ 0 t (-1)
abbrev kyR (ρ : RS) (t : Nat) : RS := thR ρ 0 t (-1) (kyV ρ t)
theorem r_X9_keyOf {G : Ge} {ρ : RS} (c : Nat) (N : Nat) (h : ThOK ρ N) (hN : N < 8000) (hc : c < thN ρ) : RC G mi_X9_keyOf [vR ((30, 0)), vI (↑c)] ρ (some (vI ↑(kyI ρ c))) (kyR ρ c) := by
  intro M hR
  have hS := SameR.rf M
  refine Ct.of pl_X9_keyOf [some (vR ((30, 0))), some (vI (↑c))] rfl (Nat.le_of_ble_eq_true rfl) ?_
  obtain ⟨e5, l8, hT⟩ := h.th hN
  have hq : 0 < ρ.1 0 ∧ ρ.1 0 ≤ 10007 := by have := h.2.2.1; omega
  have hg := h.2.2.2.1
  have hc1 := h.2.2.2.2 c hc
  refine S_aload_n dX9_keyOf_0 rfl ?_
  refine S_iconst dX9_keyOf_1 ?_
  refine S_iload_n dX9_keyOf_2 rfl ?_
  refine S_iconst dX9_keyOf_3 ?_
  refine S_aload_n dX9_keyOf_4 rfl ?_
  refine S_aload_n dX9_keyOf_5 rfl ?_
  refine S_getP fl_X9_32 dX9_keyOf_6 rfl rfl (hR.p 9 rfl) ?_
  refine S_iload_n dX9_keyOf_9 rfl ?_
  refine R_ald (v := ρ.2 9 c) c hR dX9_keyOf_10 rfl rfl (by omega) (show _ < 8000 from by omega) rfl ?_
  refine S_iconst dX9_keyOf_11 ?_
  refine S_callV [vI (ρ.2 9 c), vI 1] ok_X9_mix ml_X9_160 dX9_keyOf_12 rfl (by decide) rfl (by decide) rfl (Nat.le_of_ble_eq_true rfl) rfl (r_X9_mix (ρ := ρ) (ρ.2 9 c) 1 (by omega) (by omega) hq M hR) ?_
  rintro v' M1 ⟨rfl, hR1, hS1'⟩
  have hS1 := hS.trans hS1'
  refine S_callV [vI 0, vI (↑c), vI ((-1)), vI (mixF (ρ.1 0) (ρ.2 9 c) 1)] ok_X9_thing ml_X9_156 dX9_keyOf_15 rfl (by decide) rfl (by decide) rfl (Nat.le_of_ble_eq_true rfl) rfl (r_X9_thing (ρ := ρ) 0 (↑c) ((-1)) (mixF (ρ.1 0) (ρ.2 9 c) 1) e5 l8 (by omega) (by omega) (by omega) hT M1 hR1) ?_
  rintro v' M2 ⟨rfl, hR2, hS2'⟩
  have hS2 := hS1.trans hS2'
  exact S_iret dX9_keyOf_18 rfl (Or.inl rfl) ⟨rfl, hR2, hS2⟩
theorem r_X9_chainOf {G : Ge} {ρ : RS} (t : Nat) (N : Nat) (h : ThOK ρ N) (hN : N < 8000) (ht : t < thN ρ) : RC G mi_X9_chainOf [vR ((30, 0)), vI (↑t)] ρ (some (vI ↑(chI ρ t))) (chR ρ t) := by
  intro M hR
  have hS := SameR.rf M
  refine Ct.of pl_X9_chainOf [some (vR ((30, 0))), some (vI (↑t))] rfl (Nat.le_of_ble_eq_true rfl) ?_
  obtain ⟨e5, l8, hT⟩ := h.th hN
  have hq : 0 < ρ.1 0 ∧ ρ.1 0 ≤ 10007 := by have := h.2.2.1; omega
  have hg := h.2.2.2.1
  have hc1 := h.2.2.2.2 t ht
  refine S_aload_n dX9_chainOf_0 rfl ?_
  refine S_iconst dX9_chainOf_1 ?_
  refine S_iload_n dX9_chainOf_2 rfl ?_
  refine S_iconst dX9_chainOf_3 ?_
  refine S_aload_n dX9_chainOf_4 rfl ?_
  refine S_aload_n dX9_chainOf_5 rfl ?_
  refine S_getP fl_X9_32 dX9_chainOf_6 rfl rfl (hR.p 9 rfl) ?_
  refine S_iload_n dX9_chainOf_9 rfl ?_
  refine R_ald (v := ρ.2 9 t) t hR dX9_chainOf_10 rfl rfl (by omega) (show _ < 8000 from by omega) rfl ?_
  refine S_aload_n dX9_chainOf_11 rfl ?_
  refine S_getP fl_X9_22 dX9_chainOf_12 rfl rfl (hR.p 6 rfl) ?_
  refine S_iload_n dX9_chainOf_15 rfl ?_
  refine R_ald (v := ρ.2 6 t) t hR dX9_chainOf_16 rfl rfl (by omega) (show _ < 8000 from by omega) rfl ?_
  refine S_iconst dX9_chainOf_17 ?_
  refine S_icmp_ne 25 dX9_chainOf_18 (by decide) (by omega) (fun c_18 => ?_) (fun c_18 => ?_)
  · rw [show chR ρ t = thR ρ 1 t (-1) (mixF (ρ.1 0) (ρ.2 9 t) 2) from congrArg (thR ρ 1 t (-1)) (show chV ρ t = _ from by unfold chV; rw [if_neg c_18])]
    refine S_iconst dX9_chainOf_25 ?_
    refine S_callV [vI (ρ.2 9 t), vI 2] ok_X9_mix ml_X9_160 dX9_chainOf_26 rfl (by decide) rfl (by decide) rfl (Nat.le_of_ble_eq_true rfl) rfl (r_X9_mix (ρ := ρ) (ρ.2 9 t) 2 (by omega) (by omega) hq M hR) ?_
    rintro v' M1 ⟨rfl, hR1, hS1'⟩
    have hS1 := hS.trans hS1'
    refine S_callV [vI 1, vI (↑t), vI ((-1)), vI (mixF (ρ.1 0) (ρ.2 9 t) 2)] ok_X9_thing ml_X9_156 dX9_chainOf_29 rfl (by decide) rfl (by decide) rfl (Nat.le_of_ble_eq_true rfl) rfl (r_X9_thing (ρ := ρ) 1 (↑t) ((-1)) (mixF (ρ.1 0) (ρ.2 9 t) 2) e5 l8 (by omega) (by omega) (by omega) hT M1 hR1) ?_
    rintro v' M2 ⟨rfl, hR2, hS2'⟩
    have hS2 := hS1.trans hS2'
    exact S_iret dX9_chainOf_32 rfl (Or.inl rfl) ⟨rfl, hR2, hS2⟩
  · rw [show chR ρ t = thR ρ 1 t (-1) (mixF (ρ.1 0) (ρ.2 9 t) 3) from congrArg (thR ρ 1 t (-1)) (show chV ρ t = _ from by unfold chV; rw [if_pos (by omega)])]
    refine S_iconst dX9_chainOf_21 ?_
    refine S_goto 26 dX9_chainOf_22 (by decide) ?_
    refine S_callV [vI (ρ.2 9 t), vI 3] ok_X9_mix ml_X9_160 dX9_chainOf_26 rfl (by decide) rfl (by decide) rfl (Nat.le_of_ble_eq_true rfl) rfl (r_X9_mix (ρ := ρ) (ρ.2 9 t) 3 (by omega) (by omega) hq M hR) ?_
    rintro v' M3 ⟨rfl, hR3, hS3'⟩
    have hS3 := hS.trans hS3'
    refine S_callV [vI 1, vI (↑t), vI ((-1)), vI (mixF (ρ.1 0) (ρ.2 9 t) 3)] ok_X9_thing ml_X9_156 dX9_chainOf_29 rfl (by decide) rfl (by decide) rfl (Nat.le_of_ble_eq_true rfl) rfl (r_X9_thing (ρ := ρ) 1 (↑t) ((-1)) (mixF (ρ.1 0) (ρ.2 9 t) 3) e5 l8 (by omega) (by omega) (by omega) hT M3 hR3) ?_
    rintro v' M4 ⟨rfl, hR4, hS4'⟩
    have hS4 := hS3.trans hS4'
    exact S_iret dX9_chainOf_32 rfl (Or.inl rfl) ⟨rfl, hR4, hS4⟩
theorem r_X9_rootOf {G : Ge} {ρ : RS} (r : Int) (m : Nat) (N : Nat) (h : ThOK ρ N) (hN : N < 8000) (hr : r = -1 ∨ (0 ≤ r ∧ r < thN ρ)) (hm : m < thN ρ) : RC G mi_X9_rootOf [vR ((30, 0)), vI r, vI (↑m)] ρ (some (vI ↑(rtI ρ r m))) (rtR ρ r m) := by
  intro M hR
  have hS := SameR.rf M
  refine Ct.of pl_X9_rootOf [some (vR ((30, 0))), some (vI r), some (vI (↑m))] rfl (Nat.le_of_ble_eq_true rfl) ?_
  obtain ⟨e5, l8, hT⟩ := h.th hN
  have hq : 0 < ρ.1 0 ∧ ρ.1 0 ≤ 10007 := by have := h.2.2.1; omega
  have hg := h.2.2.2.1
  have hm1 := h.2.2.2.2 m hm
  refine S_aload_n dX9_rootOf_0 rfl ?_
  refine S_iconst dX9_rootOf_1 ?_
  refine S_iload_n dX9_rootOf_2 rfl ?_
  refine S_iload_n dX9_rootOf_3 rfl ?_
  refine S_iload_n dX9_rootOf_4 rfl ?_
  refine S_iconst dX9_rootOf_5 ?_
  refine S_icmp_ne 18 dX9_rootOf_6 (by decide) (by omega) (fun c_6 => ?_) (fun c_6 => ?_)
  · obtain ⟨j, rfl⟩ : ∃ j : Nat, r = ↑j := ⟨r.toNat, by omega⟩
    have hj1 := h.2.2.2.2 j (by omega)
    rw [show rtR ρ ↑j m = thR ρ 2 ↑j m (mixF (ρ.1 0) (ρ.2 9 j) (ρ.2 9 m)) from congrArg (thR ρ 2 ↑j m) (show rtV ρ ↑j m = _ from by unfold rtV; rw [if_neg c_6, Int.toNat_natCast])]
    refine S_aload_n dX9_rootOf_18 rfl ?_
    refine S_aload_n dX9_rootOf_19 rfl ?_
    refine S_getP fl_X9_32 dX9_rootOf_20 rfl rfl (hR.p 9 rfl) ?_
    refine S_iload_n dX9_rootOf_23 rfl ?_
    refine R_ald (v := ρ.2 9 j) j hR dX9_rootOf_24 rfl rfl (by omega) (show _ < 8000 from by omega) rfl ?_
    refine S_aload_n dX9_rootOf_25 rfl ?_
    refine S_getP fl_X9_32 dX9_rootOf_26 rfl rfl (hR.p 9 rfl) ?_
    refine S_iload_n dX9_rootOf_29 rfl ?_
    refine R_ald (v := ρ.2 9 m) m hR dX9_rootOf_30 rfl rfl (by omega) (show _ < 8000 from by omega) rfl ?_
    refine S_callV [vI (ρ.2 9 j), vI (ρ.2 9 m)] ok_X9_mix ml_X9_160 dX9_rootOf_31 rfl (by decide) rfl (by decide) rfl (Nat.le_of_ble_eq_true rfl) rfl (r_X9_mix (ρ := ρ) (ρ.2 9 j) (ρ.2 9 m) (by omega) (by omega) hq M hR) ?_
    rintro v' M1 ⟨rfl, hR1, hS1'⟩
    have hS1 := hS.trans hS1'
    refine S_callV [vI 2, vI (↑j), vI (↑m), vI (mixF (ρ.1 0) (ρ.2 9 j) (ρ.2 9 m))] ok_X9_thing ml_X9_156 dX9_rootOf_34 rfl (by decide) rfl (by decide) rfl (Nat.le_of_ble_eq_true rfl) rfl (r_X9_thing (ρ := ρ) 2 (↑j) (↑m) (mixF (ρ.1 0) (ρ.2 9 j) (ρ.2 9 m)) e5 l8 (by omega) (by omega) (by omega) hT M1 hR1) ?_
    rintro v' M2 ⟨rfl, hR2, hS2'⟩
    have hS2 := hS1.trans hS2'
    exact S_iret dX9_rootOf_37 rfl (Or.inl rfl) ⟨rfl, hR2, hS2⟩
  · obtain rfl : r = -1 := by omega
    rw [show rtR ρ (-1) m = thR ρ 2 (-1) m (ρ.2 9 m) from congrArg (thR ρ 2 (-1) m) (show rtV ρ (-1) m = _ from by unfold rtV; rw [if_pos rfl])]
    refine S_aload_n dX9_rootOf_9 rfl ?_
    refine S_getP fl_X9_32 dX9_rootOf_10 rfl rfl (hR.p 9 rfl) ?_
    refine S_iload_n dX9_rootOf_13 rfl ?_
    refine R_ald (v := ρ.2 9 m) m hR dX9_rootOf_14 rfl rfl (by omega) (show _ < 8000 from by omega) rfl ?_
    refine S_goto 34 dX9_rootOf_15 (by decide) ?_
    refine S_callV [vI 2, vI ((-1)), vI (↑m), vI (ρ.2 9 m)] ok_X9_thing ml_X9_156 dX9_rootOf_34 rfl (by decide) rfl (by decide) rfl (Nat.le_of_ble_eq_true rfl) rfl (r_X9_thing (ρ := ρ) 2 ((-1)) (↑m) (ρ.2 9 m) e5 l8 (by omega) (by omega) (by omega) hT M hR) ?_
    rintro v' M3 ⟨rfl, hR3, hS3'⟩
    have hS3 := hS.trans hS3'
    exact S_iret dX9_rootOf_37 rfl (Or.inl rfl) ⟨rfl, hR3, hS3⟩
end
section
/-! THE REFERENCE: keys, checks, rows that shift -/
def kbF (q : Int) (v : Int) : Nat → Int
  | 0 => v
  | n + 1 => mixF q (kbF q v n) 2
def kbV (q v : Int) (n : Nat) : Int := mixF q (kbF q v n) 1
theorem kbF_bd {q v : Int} (hq : 0 < q ∧ q ≤ 10007) (hv : 0 ≤ v ∧ v ≤ 10007) : ∀ n, 0 ≤ kbF q v n ∧ kbF q v n ≤ 10007 := by
  intro n
  induction n with
  | zero => exact hv
  | succ n ih => have := mixF_bd hq.1 ih.1 (show (0 : Int) ≤ 2 by decide); exact ⟨this.1, by have h2 := this.2; unfold kbF; omega⟩
theorem lp_X9_keyBehind {G : Ge} {ρ : RS} {M0 : Mem} (v : Int) (n : Nat) (hv : 0 ≤ v ∧ v ≤ 10007) (hn : n ≤ 1000) (hq : 0 < ρ.1 0 ∧ ρ.1 0 ≤ 10007) : ∀ (d : Nat) (k : Nat) (M : Mem), k + d = n → Rf ρ M → SameR M0 M → Sf G mi_X9_keyBehind (fun v' M' => v' = some (vI (kbV (ρ.1 0) v n)) ∧ Rf ρ M' ∧ SameR M0 M') 5 [some (vR ((30, 0))), some (vI v), some (vI (↑n)), some (vI (kbF (ρ.1 0) v k)), some (vI (↑k))] [] M := by
  intro d
  induction d with
  | zero =>
    intro k M hk hR hS
    obtain rfl : k = n := by omega
    have hb := kbF_bd hq hv k
    refine S_iload dX9_keyBehind_5 rfl ?_
    refine S_iload_n dX9_keyBehind_7 rfl ?_
    refine S_icmp_ge 24 dX9_keyBehind_8 (by decide) (by omega) (fun c_8 => ?_) (fun c_8 => absurd c_8 (by omega))
    refine S_aload_n dX9_keyBehind_24 rfl ?_
    refine S_iload_n dX9_keyBehind_25 rfl ?_
    refine S_iconst dX9_keyBehind_26 ?_
    refine S_callV [vI (kbF (ρ.1 0) v k), vI 1] ok_X9_mix ml_X9_160 dX9_keyBehind_27 rfl (by decide) rfl (by decide) rfl (Nat.le_of_ble_eq_true rfl) rfl (r_X9_mix (ρ := ρ) (kbF (ρ.1 0) v k) 1 (by omega) (by omega) hq M hR) ?_
    rintro v' M1 ⟨rfl, hR1, hS1'⟩
    have hS1 := hS.trans hS1'
    exact S_iret dX9_keyBehind_30 rfl (Or.inl rfl) ⟨rfl, hR1, hS1⟩
  | succ d ih =>
    intro k M hk hR hS
    have hb := kbF_bd hq hv k
    refine S_iload dX9_keyBehind_5 rfl ?_
    refine S_iload_n dX9_keyBehind_7 rfl ?_
    refine S_icmp_ge 24 dX9_keyBehind_8 (by decide) (by omega) (fun c_8 => absurd c_8 (by omega)) (fun c_8 => ?_)
    refine S_aload_n dX9_keyBehind_11 rfl ?_
    refine S_iload_n dX9_keyBehind_12 rfl ?_
    refine S_iconst dX9_keyBehind_13 ?_
    refine S_callV [vI (kbF (ρ.1 0) v k), vI 2] ok_X9_mix ml_X9_160 dX9_keyBehind_14 rfl (by decide) rfl (by decide) rfl (Nat.le_of_ble_eq_true rfl) rfl (r_X9_mix (ρ := ρ) (kbF (ρ.1 0) v k) 2 (by omega) (by omega) hq M hR) ?_
    rintro v' M1 ⟨rfl, hR1, hS1'⟩
    have hS1 := hS.trans hS1'
    refine S_istore_n dX9_keyBehind_17 (by decide) ?_
    refine S_iinc dX9_keyBehind_18 rfl (by decide) ?_
    rw [show ((↑k) + 1 : Int) = ↑(k + 1) from by omega]
    refine S_goto 5 dX9_keyBehind_21 (by decide) ?_
    exact ih (k + 1) _ (by omega) hR1 hS1
theorem r_X9_keyBehind {G : Ge} {ρ : RS} (v : Int) (n : Nat) (hv : 0 ≤ v ∧ v ≤ 10007) (hn : n ≤ 1000) (hq : 0 < ρ.1 0 ∧ ρ.1 0 ≤ 10007) : RC G mi_X9_keyBehind [vR ((30, 0)), vI v, vI (↑n)] ρ (some (vI (kbV (ρ.1 0) v n))) ρ := by
  intro M hR
  have hS := SameR.rf M
  refine Ct.of pl_X9_keyBehind [some (vR ((30, 0))), some (vI v), some (vI (↑n)), none, none] rfl (Nat.le_of_ble_eq_true rfl) ?_
  refine S_iload_n dX9_keyBehind_0 rfl ?_
  refine S_istore_n dX9_keyBehind_1 (by decide) ?_
  refine S_iconst dX9_keyBehind_2 ?_
  refine S_istore dX9_keyBehind_3 (by decide) ?_
  exact lp_X9_keyBehind v n hv hn hq n 0 _ (by omega) hR hS
def byF (ρ : RS) (l : Nat) (key : Int) : Int := ((ρ.2 35 l - key).tmod 256 + 256).tmod 256
theorem tmb (x : Int) : -256 < x.tmod 256 ∧ x.tmod 256 < 256 := by
  have h := Int.tmod_def x 256
  have h1 : x.tdiv 256 = if 0 ≤ x then x / 256 else -((-x) / 256) := by
    by_cases hx : 0 ≤ x
    · rw [if_pos hx]; exact Int.tdiv_eq_ediv_of_nonneg hx
    · rw [if_neg hx]
      have h2 := Int.neg_tdiv (a := -x) (b := 256)
      rw [Int.neg_neg] at h2
      rw [h2, Int.tdiv_eq_ediv_of_nonneg (by omega)]
  rw [h1] at h
  split at h <;> omega
theorem byF_bd (ρ : RS) (l : Nat) (key : Int) : 0 ≤ byF ρ l key ∧ byF ρ l key ≤ 255 := by
  have h1 := tmb (ρ.2 35 l - key)
  have h2 := tmod_bd (x := (ρ.2 35 l - key).tmod 256 + 256) (q := 256) (by omega) (by decide)
  unfold byF; omega
theorem r_X9_byteOf {G : Ge} {ρ : RS} (l : Nat) (key : Int) (hl : l < 300) (ht : 0 ≤ ρ.2 35 l ∧ ρ.2 35 l ≤ 255) (hk : 0 ≤ key ∧ key ≤ 10007) : RC G mi_X9_byteOf [vR ((30, 0)), vI (↑l), vI key] ρ (some (vI (byF ρ l key))) ρ := by
  intro M hR
  have hS := SameR.rf M
  refine Ct.of pl_X9_byteOf [some (vR ((30, 0))), some (vI (↑l)), some (vI key)] rfl (Nat.le_of_ble_eq_true rfl) ?_
  refine S_aload_n dX9_byteOf_0 rfl ?_
  refine S_getP fl_X9_108 dX9_byteOf_1 rfl rfl (hR.p 35 rfl) ?_
  refine S_iload_n dX9_byteOf_4 rfl ?_
  refine R_ald (v := ρ.2 35 l) l hR dX9_byteOf_5 rfl rfl (by omega) (show _ < 300 from by omega) rfl ?_
  refine S_iload_n dX9_byteOf_6 rfl ?_
  refine S_isub dX9_byteOf_7 ?_
  refine S_sipush dX9_byteOf_8 (by decide) ?_
  refine S_irem dX9_byteOf_11 (by omega) (by omega) ?_
  refine S_sipush dX9_byteOf_12 (by decide) ?_
  refine S_iadd dX9_byteOf_15 ?_
  refine S_sipush dX9_byteOf_16 (by decide) ?_
  refine S_irem dX9_byteOf_19 (by have := tmb (ρ.2 35 l - key); omega) (by omega) ?_
  exact S_iret dX9_byteOf_20 rfl (Or.inl rfl) ⟨rfl, hR, hS⟩
theorem r_X9_isGood {G : Ge} {ρ : RS} (l : Nat) (key : Int) (hl : l < 300) (ht : 0 ≤ ρ.2 35 l ∧ ρ.2 35 l ≤ 255) (hk : 0 ≤ key ∧ key ≤ 10007) (hc : -2147483648 ≤ ρ.2 36 l ∧ ρ.2 36 l < 2147483648) (hq : 0 < ρ.1 0 ∧ ρ.1 0 ≤ 10007) : RB G mi_X9_isGood [vR ((30, 0)), vI (↑l), vI key] ρ (mixF (ρ.1 0) key (byF ρ l key) = ρ.2 36 l) := by
  intro M hR
  have hS := SameR.rf M
  refine Ct.of pl_X9_isGood [some (vR ((30, 0))), some (vI (↑l)), some (vI key)] rfl (Nat.le_of_ble_eq_true rfl) ?_
  refine S_aload_n dX9_isGood_0 rfl ?_
  refine S_iload_n dX9_isGood_1 rfl ?_
  refine S_aload_n dX9_isGood_2 rfl ?_
  refine S_iload_n dX9_isGood_3 rfl ?_
  refine S_iload_n dX9_isGood_4 rfl ?_
  refine S_callV [vI (↑l), vI key] ok_X9_byteOf ml_X9_202 dX9_isGood_5 rfl (by decide) rfl (by decide) rfl (Nat.le_of_ble_eq_true rfl) rfl (r_X9_byteOf (ρ := ρ) l key (by omega) ht (by omega) M hR) ?_
  rintro v' M1 ⟨rfl, hR1, hS1'⟩
  have hS1 := hS.trans hS1'
  refine S_callV [vI key, vI (byF ρ l key)] ok_X9_mix ml_X9_160 dX9_isGood_8 rfl (by decide) rfl (by decide) rfl (Nat.le_of_ble_eq_true rfl) rfl (r_X9_mix (ρ := ρ) key (byF ρ l key) (by omega) (by have := byF_bd ρ l key; omega) hq M1 hR1) ?_
  rintro v' M2 ⟨rfl, hR2, hS2'⟩
  have hS2 := hS1.trans hS2'
  have hmb := mixF_bd hq.1 hk.1 (byF_bd ρ l key).1
  refine S_aload_n dX9_isGood_11 rfl ?_
  refine S_getP fl_X9_111 dX9_isGood_12 rfl rfl (hR2.p 36 rfl) ?_
  refine S_iload_n dX9_isGood_15 rfl ?_
  refine R_ald (v := ρ.2 36 l) l hR2 dX9_isGood_16 rfl rfl (by omega) (show _ < 300 from by omega) rfl ?_
  refine S_icmp_ne 24 dX9_isGood_17 (by decide) (by omega) (fun c_17 => ?_) (fun c_17 => ?_)
  · refine S_iconst dX9_isGood_24 ?_
    exact S_iret dX9_isGood_25 rfl (Or.inr ⟨rfl, by omega⟩) ⟨Or.inr ⟨rfl, by omega⟩, hR2, hS2⟩
  · refine S_iconst dX9_isGood_20 ?_
    refine S_goto 25 dX9_isGood_21 (by decide) ?_
    exact S_iret dX9_isGood_25 rfl (Or.inr ⟨rfl, by omega⟩) ⟨Or.inl ⟨rfl, by omega⟩, hR2, hS2⟩
def RS.sh1 (ρ : RS) (k0 lo hi : Nat) : RS := (ρ.1, fun k j => if k = k0 ∧ lo ≤ j ∧ j < hi then ρ.2 k (j + 1) else ρ.2 k j)
def RS.sh4 (ρ : RS) (lo hi : Nat) : RS := (ρ.1, fun k j => if (26 ≤ k ∧ k ≤ 29) ∧ lo ≤ j ∧ j < hi then ρ.2 k (j + 1) else ρ.2 k j)
theorem RS.ext {ρ σ : RS} (h1 : ∀ k, ρ.1 k = σ.1 k) (h2 : ∀ k j, ρ.2 k j = σ.2 k j) : ρ = σ := Prod.ext (funext h1) (funext fun k => funext (h2 k))
theorem RS.sh1_0 (ρ : RS) (k0 lo : Nat) : ρ.sh1 k0 lo lo = ρ := RS.ext (fun _ => rfl) (fun k j => if_neg (by omega))
theorem RS.sh4_0 (ρ : RS) (lo : Nat) : ρ.sh4 lo lo = ρ := RS.ext (fun _ => rfl) (fun k j => if_neg (by omega))
theorem RS.sh1_s (ρ : RS) (k0 lo hi : Nat) (h : lo ≤ hi) : (ρ.sh1 k0 lo hi).setA k0 hi (ρ.2 k0 (hi + 1)) = ρ.sh1 k0 lo (hi + 1) := RS.ext (fun _ => rfl) (fun k j => by
  show (if k = k0 ∧ j = hi then ρ.2 k0 (hi + 1) else if k = k0 ∧ lo ≤ j ∧ j < hi then ρ.2 k (j + 1) else ρ.2 k j) = if k = k0 ∧ lo ≤ j ∧ j < hi + 1 then ρ.2 k (j + 1) else ρ.2 k j
  by_cases h1 : k = k0 ∧ j = hi
  · rw [if_pos h1, if_pos (by omega), h1.1, h1.2]
  · rw [if_neg h1]
    by_cases h2 : k = k0 ∧ lo ≤ j ∧ j < hi
    · rw [if_pos h2, if_pos (by omega)]
    · rw [if_neg h2, if_neg (by omega)])
theorem RS.sh4_s (ρ : RS) (lo hi : Nat) (h : lo ≤ hi) : ((((ρ.sh4 lo hi).setA 26 hi (ρ.2 26 (hi + 1))).setA 27 hi (ρ.2 27 (hi + 1))).setA 28 hi (ρ.2 28 (hi + 1))).setA 29 hi (ρ.2 29 (hi + 1)) = ρ.sh4 lo (hi + 1) := RS.ext (fun _ => rfl) (fun k j => by
  show (if k = 29 ∧ j = hi then ρ.2 29 (hi + 1) else if k = 28 ∧ j = hi then ρ.2 28 (hi + 1) else if k = 27 ∧ j = hi then ρ.2 27 (hi + 1) else if k = 26 ∧ j = hi then ρ.2 26 (hi + 1) else if (26 ≤ k ∧ k ≤ 29) ∧ lo ≤ j ∧ j < hi then ρ.2 k (j + 1) else ρ.2 k j) = if (26 ≤ k ∧ k ≤ 29) ∧ lo ≤ j ∧ j < hi + 1 then ρ.2 k (j + 1) else ρ.2 k j
  by_cases h1 : (26 ≤ k ∧ k ≤ 29) ∧ j = hi
  · rw [if_pos (show (26 ≤ k ∧ k ≤ 29) ∧ lo ≤ j ∧ j < hi + 1 by omega), h1.2]
    rcases (show k = 26 ∨ k = 27 ∨ k = 28 ∨ k = 29 by omega) with e | e | e | e <;> subst e <;> simp
  · rw [if_neg (by omega), if_neg (by omega), if_neg (by omega), if_neg (by omega)]
    by_cases h2 : (26 ≤ k ∧ k ≤ 29) ∧ lo ≤ j ∧ j < hi
    · rw [if_pos h2, if_pos (by omega)]
    · rw [if_neg h2, if_neg (by omega)])
theorem RS.sh1_at (ρ : RS) (k0 lo hi k j : Nat) (h : k ≠ k0 ∨ j < lo ∨ hi ≤ j) : (ρ.sh1 k0 lo hi).2 k j = ρ.2 k j := if_neg (by omega)
theorem RS.sh4_at (ρ : RS) (lo hi k j : Nat) (h : k < 26 ∨ 29 < k ∨ j < lo ∨ hi ≤ j) : (ρ.sh4 lo hi).2 k j = ρ.2 k j := if_neg (by omega)
def nextR (ρ : RS) (e n : Nat) : RS := (ρ.setA 12 e n).sh1 13 (12 * e) (12 * e + n)
theorem lp_X9_next {G : Ge} {ρ : RS} {M0 : Mem} (x : Int) (e n : Nat) (he : e < 12) (hn : n < 12) : ∀ (d : Nat) (k : Nat) (M : Mem), k + d = n → Rf (((ρ.setA 12 e ↑n).sh1 13 (12 * e) (12 * e + k))) M → SameR M0 M → Sf G mi_X9_next (fun v' M' => v' = some (vI x) ∧ Rf (nextR ρ e n) M' ∧ SameR M0 M') 22 [some (vR ((30, 0))), some (vI (↑e)), some (vI x), some (vI (↑k))] [] M := by
  intro d
  induction d with
  | zero =>
    intro k M hk hR hS
    obtain rfl : k = n := by omega
    refine S_iload_n dX9_next_22 rfl ?_
    refine S_aload_n dX9_next_23 rfl ?_
    refine S_getP fl_X9_42 dX9_next_24 rfl rfl (hR.p 12 rfl) ?_
    refine S_iload_n dX9_next_27 rfl ?_
    refine R_ald (v := ↑k) e hR dX9_next_28 rfl rfl (by omega) (show _ < 12 from by omega) (by simp [RS.sh1, RS.setA]) ?_
    refine S_icmp_ge 62 dX9_next_29 (by decide) (by omega) (fun c_29 => ?_) (fun c_29 => absurd c_29 (by omega))
    refine S_iload_n dX9_next_62 rfl ?_
    exact S_iret dX9_next_63 rfl (Or.inl rfl) ⟨rfl, hR, hS⟩
  | succ d ih =>
    intro k M hk hR hS
    refine S_iload_n dX9_next_22 rfl ?_
    refine S_aload_n dX9_next_23 rfl ?_
    refine S_getP fl_X9_42 dX9_next_24 rfl rfl (hR.p 12 rfl) ?_
    refine S_iload_n dX9_next_27 rfl ?_
    refine R_ald (v := ↑n) e hR dX9_next_28 rfl rfl (by omega) (show _ < 12 from by omega) (by simp [RS.sh1, RS.setA]) ?_
    refine S_icmp_ge 62 dX9_next_29 (by decide) (by omega) (fun c_29 => absurd c_29 (by omega)) (fun c_29 => ?_)
    refine S_aload_n dX9_next_32 rfl ?_
    refine S_getP fl_X9_45 dX9_next_33 rfl rfl (hR.p 13 rfl) ?_
    refine S_bipush dX9_next_36 (by decide) ?_
    refine S_iload_n dX9_next_38 rfl ?_
    refine S_imul dX9_next_39 ?_
    refine S_iload_n dX9_next_40 rfl ?_
    refine S_iadd dX9_next_41 ?_
    refine S_aload_n dX9_next_42 rfl ?_
    refine S_getP fl_X9_45 dX9_next_43 rfl rfl (hR.p 13 rfl) ?_
    refine S_bipush dX9_next_46 (by decide) ?_
    refine S_iload_n dX9_next_48 rfl ?_
    refine S_imul dX9_next_49 ?_
    refine S_iload_n dX9_next_50 rfl ?_
    refine S_iadd dX9_next_51 ?_
    refine S_iconst dX9_next_52 ?_
    refine S_iadd dX9_next_53 ?_
    refine R_ald (v := ρ.2 13 (12 * e + k + 1)) ((12 * e + k + 1)) hR dX9_next_54 rfl rfl (by omega) (show _ < 144 from by omega) ((RS.sh1_at _ _ _ _ _ _ (by omega)).trans (by simp [RS.setA])) ?_
    refine R_ast (((12 * e) + k)) dX9_next_55 rfl rfl (by omega) (show _ < 144 from by omega) hR hS (fun M1 hR1 hS1 => ?_)
    refine S_iinc dX9_next_56 rfl (by decide) ?_
    rw [show ((↑k) + 1 : Int) = ↑(k + 1) from by omega]
    refine S_goto 22 dX9_next_59 (by decide) ?_
    exact ih (k + 1) _ (by omega) (by have h9 := RS.sh1_s (ρ.setA 12 e ↑n) 13 (12 * e) (12 * e + k) (by omega); rw [show (ρ.setA 12 e ↑n).2 13 (12 * e + k + 1) = ρ.2 13 (12 * e + k + 1) from by simp [RS.setA]] at h9; rw [h9] at hR1; exact hR1) hS1
theorem r_X9_next {G : Ge} {ρ : RS} (e n : Nat) (he : e < 12) (hn : n < 12) (hr : ρ.2 12 e = ↑(n + 1)) : RC G mi_X9_next [vR ((30, 0)), vI (↑e)] ρ (some (vI (ρ.2 13 (12 * e)))) (nextR ρ e n) := by
  intro M hR
  have hS := SameR.rf M
  refine Ct.of pl_X9_next [some (vR ((30, 0))), some (vI (↑e)), none, none] rfl (Nat.le_of_ble_eq_true rfl) ?_
  refine S_aload_n dX9_next_0 rfl ?_
  refine S_getP fl_X9_45 dX9_next_1 rfl rfl (hR.p 13 rfl) ?_
  refine S_bipush dX9_next_4 (by decide) ?_
  refine S_iload_n dX9_next_6 rfl ?_
  refine S_imul dX9_next_7 ?_
  refine R_ald (v := ρ.2 13 ((12 * e))) ((12 * e)) hR dX9_next_8 rfl rfl (by omega) (show _ < 144 from by omega) rfl ?_
  refine S_istore_n dX9_next_9 (by decide) ?_
  refine S_aload_n dX9_next_10 rfl ?_
  refine S_getP fl_X9_42 dX9_next_11 rfl rfl (hR.p 12 rfl) ?_
  refine S_iload_n dX9_next_14 rfl ?_
  refine S_dup2 dX9_next_15 ?_
  refine R_ald (v := ↑(n + 1)) e hR dX9_next_16 rfl rfl (by omega) (show _ < 12 from by omega) hr ?_
  refine S_iconst dX9_next_17 ?_
  refine S_isub dX9_next_18 ?_
  refine R_ast e dX9_next_19 rfl rfl (by omega) (show _ < 12 from by omega) hR hS (fun M1 hR1 hS1 => ?_)
  refine S_iconst dX9_next_20 ?_
  refine S_istore_n dX9_next_21 (by decide) ?_
  exact lp_X9_next (ρ.2 13 (12 * e)) e n he hn n 0 _ (by omega) (by rw [show (↑(n + 1) : Int) - 1 = ↑n from by omega] at hR1; rw [Nat.add_zero, RS.sh1_0]; exact hR1) hS1
end
section
/-! THE REFERENCE: kept keys, what was left, the steps of a chain -/
def dropR (ρ : RS) (e i n : Nat) : RS := (ρ.setA 25 e n).sh4 (12 * e + i) (12 * e + n)
def KOK (ρ : RS) : Prop := (∀ e, e < 12 → ∃ n : Nat, n ≤ 12 ∧ ρ.2 25 e = ↑n) ∧ ∀ j, j < 144 → (-1 ≤ ρ.2 26 j ∧ ρ.2 26 j ≤ 10007) ∧ (0 ≤ ρ.2 27 j ∧ ρ.2 27 j ≤ 600) ∧ (0 ≤ ρ.2 28 j ∧ ρ.2 28 j ≤ 8000) ∧ (0 ≤ ρ.2 29 j ∧ ρ.2 29 j ≤ 300)
theorem drop_25 (ρ : RS) (e i n e' : Nat) : (dropR ρ e i n).2 25 e' = if e' = e then ↑n else ρ.2 25 e' := by
  unfold dropR
  rw [RS.sh4_at _ _ _ _ _ (by omega)]
  show (if 25 = 25 ∧ e' = e then (↑n : Int) else ρ.2 25 e') = _
  by_cases h : e' = e
  · rw [if_pos ⟨rfl, h⟩, if_pos h]
  · rw [if_neg (fun q => h q.2), if_neg h]
theorem KOK.drop {ρ : RS} (h : KOK ρ) {e i n : Nat} (he : e < 12) (hn : n < 12) : KOK (dropR ρ e i n) := by
  refine ⟨fun e' he' => ?_, fun j hj => ?_⟩
  · rw [drop_25]
    by_cases h1 : e' = e
    · rw [if_pos h1]; exact ⟨n, by omega, rfl⟩
    · rw [if_neg h1]; exact h.1 e' he'
  · have aux : ∀ k, 26 ≤ k → k ≤ 29 → (dropR ρ e i n).2 k j = if 12 * e + i ≤ j ∧ j < 12 * e + n then ρ.2 k (j + 1) else ρ.2 k j := fun k k1 k2 => by
      unfold dropR RS.sh4
      show (if (26 ≤ k ∧ k ≤ 29) ∧ 12 * e + i ≤ j ∧ j < 12 * e + n then (if k = 25 ∧ j + 1 = e then (↑n : Int) else ρ.2 k (j + 1)) else (if k = 25 ∧ j = e then (↑n : Int) else ρ.2 k j)) = _
      rw [if_neg (show ¬ (k = 25 ∧ j + 1 = e) by omega), if_neg (show ¬ (k = 25 ∧ j = e) by omega)]
      by_cases h3 : 12 * e + i ≤ j ∧ j < 12 * e + n
      · rw [if_pos ⟨⟨k1, k2⟩, h3⟩, if_pos h3]
      · rw [if_neg (fun q => h3 q.2), if_neg h3]
    rw [aux 26 (by omega) (by omega), aux 27 (by omega) (by omega), aux 28 (by omega) (by omega), aux 29 (by omega) (by omega)]
    by_cases h3 : 12 * e + i ≤ j ∧ j < 12 * e + n
    · rw [if_pos h3, if_pos h3, if_pos h3, if_pos h3]; exact h.2 (j + 1) (by omega)
    · rw [if_neg h3, if_neg h3, if_neg h3, if_neg h3]; exact h.2 j hj
theorem lp_X9_drops {G : Ge} {ρ : RS} {M0 : Mem} (e i n : Nat) (he : e < 12) (hn : n < 12) : ∀ (d : Nat) (j : Nat) (M : Mem), j + d = 12 * e + n → 12 * e + i ≤ j → Rf (((ρ.setA 25 e ↑n).sh4 (12 * e + i) j)) M → SameR M0 M → Sf G mi_X9_drops (fun v' M' => v' = none ∧ Rf (dropR ρ e i n) M' ∧ SameR M0 M') 17 [some (vR ((30, 0))), some (vI (↑e)), some (vI (↑i)), some (vI (↑j))] [] M := by
  intro d
  induction d with
  | zero =>
    intro j M hj hj0 hR hS
    obtain rfl : j = 12 * e + n := by omega
    refine S_iload_n dX9_drops_17 rfl ?_
    refine S_bipush dX9_drops_18 (by decide) ?_
    refine S_iload_n dX9_drops_20 rfl ?_
    refine S_imul dX9_drops_21 ?_
    refine S_aload_n dX9_drops_22 rfl ?_
    refine S_getP fl_X9_81 dX9_drops_23 rfl rfl (hR.p 25 rfl) ?_
    refine S_iload_n dX9_drops_26 rfl ?_
    refine R_ald (v := ↑n) e hR dX9_drops_27 rfl rfl (by omega) (show _ < 12 from by omega) ((RS.sh4_at _ _ _ _ _ (by omega)).trans (by simp [RS.setA])) ?_
    refine S_iadd dX9_drops_28 ?_
    refine S_icmp_ge 94 dX9_drops_29 (by decide) (by omega) (fun c_29 => ?_) (fun c_29 => absurd c_29 (by omega))
    exact S_vret dX9_drops_94 rfl ⟨rfl, hR, hS⟩
  | succ d ih =>
    intro j M hj hj0 hR hS
    refine S_iload_n dX9_drops_17 rfl ?_
    refine S_bipush dX9_drops_18 (by decide) ?_
    refine S_iload_n dX9_drops_20 rfl ?_
    refine S_imul dX9_drops_21 ?_
    refine S_aload_n dX9_drops_22 rfl ?_
    refine S_getP fl_X9_81 dX9_drops_23 rfl rfl (hR.p 25 rfl) ?_
    refine S_iload_n dX9_drops_26 rfl ?_
    refine R_ald (v := ↑n) e hR dX9_drops_27 rfl rfl (by omega) (show _ < 12 from by omega) ((RS.sh4_at _ _ _ _ _ (by omega)).trans (by simp [RS.setA])) ?_
    refine S_iadd dX9_drops_28 ?_
    refine S_icmp_ge 94 dX9_drops_29 (by decide) (by omega) (fun c_29 => absurd c_29 (by omega)) (fun c_29 => ?_)
    refine S_aload_n dX9_drops_32 rfl ?_
    refine S_getP fl_X9_84 dX9_drops_33 rfl rfl (hR.p 26 rfl) ?_
    refine S_iload_n dX9_drops_36 rfl ?_
    refine S_aload_n dX9_drops_37 rfl ?_
    refine S_getP fl_X9_84 dX9_drops_38 rfl rfl (hR.p 26 rfl) ?_
    refine S_iload_n dX9_drops_41 rfl ?_
    refine S_iconst dX9_drops_42 ?_
    refine S_iadd dX9_drops_43 ?_
    refine R_ald (v := ρ.2 26 (j + 1)) ((j + 1)) hR dX9_drops_44 rfl rfl (by omega) (show _ < 144 from by omega) ((RS.sh4_at _ _ _ _ _ (by omega)).trans (by simp [RS.setA])) ?_
    refine R_ast j dX9_drops_45 rfl rfl (by omega) (show _ < 144 from by omega) hR hS (fun M1 hR1 hS1 => ?_)
    refine S_aload_n dX9_drops_46 rfl ?_
    refine S_getP fl_X9_87 dX9_drops_47 rfl rfl (hR1.p 27 rfl) ?_
    refine S_iload_n dX9_drops_50 rfl ?_
    refine S_aload_n dX9_drops_51 rfl ?_
    refine S_getP fl_X9_87 dX9_drops_52 rfl rfl (hR1.p 27 rfl) ?_
    refine S_iload_n dX9_drops_55 rfl ?_
    refine S_iconst dX9_drops_56 ?_
    refine S_iadd dX9_drops_57 ?_
    refine R_ald (v := ρ.2 27 (j + 1)) ((j + 1)) hR1 dX9_drops_58 rfl rfl (by omega) (show _ < 144 from by omega) ((RS.sh4_at _ _ _ _ _ (by omega)).trans (by simp [RS.setA])) ?_
    refine R_ast j dX9_drops_59 rfl rfl (by omega) (show _ < 144 from by omega) hR1 hS1 (fun M2 hR2 hS2 => ?_)
    refine S_aload_n dX9_drops_60 rfl ?_
    refine S_getP fl_X9_90 dX9_drops_61 rfl rfl (hR2.p 28 rfl) ?_
    refine S_iload_n dX9_drops_64 rfl ?_
    refine S_aload_n dX9_drops_65 rfl ?_
    refine S_getP fl_X9_90 dX9_drops_66 rfl rfl (hR2.p 28 rfl) ?_
    refine S_iload_n dX9_drops_69 rfl ?_
    refine S_iconst dX9_drops_70 ?_
    refine S_iadd dX9_drops_71 ?_
    refine R_ald (v := ρ.2 28 (j + 1)) ((j + 1)) hR2 dX9_drops_72 rfl rfl (by omega) (show _ < 144 from by omega) ((RS.sh4_at _ _ _ _ _ (by omega)).trans (by simp [RS.setA])) ?_
    refine R_ast j dX9_drops_73 rfl rfl (by omega) (show _ < 144 from by omega) hR2 hS2 (fun M3 hR3 hS3 => ?_)
    refine S_aload_n dX9_drops_74 rfl ?_
    refine S_getP fl_X9_93 dX9_drops_75 rfl rfl (hR3.p 29 rfl) ?_
    refine S_iload_n dX9_drops_78 rfl ?_
    refine S_aload_n dX9_drops_79 rfl ?_
    refine S_getP fl_X9_93 dX9_drops_80 rfl rfl (hR3.p 29 rfl) ?_
    refine S_iload_n dX9_drops_83 rfl ?_
    refine S_iconst dX9_drops_84 ?_
    refine S_iadd dX9_drops_85 ?_
    refine R_ald (v := ρ.2 29 (j + 1)) ((j + 1)) hR3 dX9_drops_86 rfl rfl (by omega) (show _ < 144 from by omega) ((RS.sh4_at _ _ _ _ _ (by omega)).trans (by simp [RS.setA])) ?_
    refine R_ast j dX9_drops_87 rfl rfl (by omega) (show _ < 144 from by omega) hR3 hS3 (fun M4 hR4 hS4 => ?_)
    refine S_iinc dX9_drops_88 rfl (by decide) ?_
    rw [show ((↑j) + 1 : Int) = ↑(j + 1) from by omega]
    refine S_goto 17 dX9_drops_91 (by decide) ?_
    have h9 := RS.sh4_s (ρ.setA 25 e ↑n) (12 * e + i) j hj0
    rw [show (ρ.setA 25 e ↑n).2 26 (j + 1) = ρ.2 26 (j + 1) from by simp [RS.setA], show (ρ.setA 25 e ↑n).2 27 (j + 1) = ρ.2 27 (j + 1) from by simp [RS.setA], show (ρ.setA 25 e ↑n).2 28 (j + 1) = ρ.2 28 (j + 1) from by simp [RS.setA], show (ρ.setA 25 e ↑n).2 29 (j + 1) = ρ.2 29 (j + 1) from by simp [RS.setA]] at h9
    rw [h9] at hR4
    exact ih (j + 1) _ (by omega) (by omega) hR4 hS4
theorem r_X9_drops {G : Ge} {ρ : RS} (e i n : Nat) (he : e < 12) (hn : n < 12) (hi : i ≤ n) (hr : ρ.2 25 e = ↑(n + 1)) : RC G mi_X9_drops [vR ((30, 0)), vI (↑e), vI (↑i)] ρ none (dropR ρ e i n) := by
  intro M hR
  have hS := SameR.rf M
  refine Ct.of pl_X9_drops [some (vR ((30, 0))), some (vI (↑e)), some (vI (↑i)), none] rfl (Nat.le_of_ble_eq_true rfl) ?_
  refine S_aload_n dX9_drops_0 rfl ?_
  refine S_getP fl_X9_81 dX9_drops_1 rfl rfl (hR.p 25 rfl) ?_
  refine S_iload_n dX9_drops_4 rfl ?_
  refine S_dup2 dX9_drops_5 ?_
  refine R_ald (v := ↑(n + 1)) e hR dX9_drops_6 rfl rfl (by omega) (show _ < 12 from by omega) hr ?_
  refine S_iconst dX9_drops_7 ?_
  refine S_isub dX9_drops_8 ?_
  refine R_ast e dX9_drops_9 rfl rfl (by omega) (show _ < 12 from by omega) hR hS (fun M1 hR1 hS1 => ?_)
  refine S_bipush dX9_drops_10 (by decide) ?_
  refine S_iload_n dX9_drops_12 rfl ?_
  refine S_imul dX9_drops_13 ?_
  refine S_iload_n dX9_drops_14 rfl ?_
  refine S_iadd dX9_drops_15 ?_
  rw [show (12 * ↑e + ↑i : Int) = ↑(12 * e + i) from by omega]
  refine S_istore_n dX9_drops_16 (by decide) ?_
  exact lp_X9_drops e i n he hn (n - i) (12 * e + i) _ (by omega) (by omega) (by rw [show (↑(n + 1) : Int) - 1 = ↑n from by omega] at hR1; rw [RS.sh4_0]; exact hR1) hS1
def kptF (ρ : RS) (e l : Nat) : Nat → Nat → Int
  | 0, _ => -1
  | d + 1, i => if ρ.2 26 (12 * e + i) = ρ.2 32 l ∧ ρ.2 27 (12 * e + i) = ρ.2 34 l then ↑i else kptF ρ e l d (i + 1)
theorem lp_X9_keptOf {G : Ge} {ρ : RS} {M0 : Mem} (e l n : Nat) (he : e < 12) (hl : l < 300) (hn : n ≤ 12) (hr : ρ.2 25 e = ↑n) (hK : KOK ρ) (h32 : 0 ≤ ρ.2 32 l ∧ ρ.2 32 l ≤ 10007) (h34 : 0 ≤ ρ.2 34 l ∧ ρ.2 34 l ≤ 600) : ∀ (d : Nat) (i : Nat) (M : Mem), i + d = n → Rf ρ M → SameR M0 M → Sf G mi_X9_keptOf (fun v' M' => v' = some (vI (kptF ρ e l d i)) ∧ Rf ρ M' ∧ SameR M0 M') 2 [some (vR ((30, 0))), some (vI (↑e)), some (vI (↑l)), some (vI (↑i))] [] M := by
  intro d
  induction d with
  | zero =>
    intro i M hi hR hS
    refine S_iload_n dX9_keptOf_2 rfl ?_
    refine S_aload_n dX9_keptOf_3 rfl ?_
    refine S_getP fl_X9_81 dX9_keptOf_4 rfl rfl (hR.p 25 rfl) ?_
    refine S_iload_n dX9_keptOf_7 rfl ?_
    refine R_ald (v := ↑n) e hR dX9_keptOf_8 rfl rfl (by omega) (show _ < 12 from by omega) hr ?_
    refine S_icmp_ge 60 dX9_keptOf_9 (by decide) (by omega) (fun c_9 => ?_) (fun c_9 => absurd c_9 (by omega))
    refine S_iconst dX9_keptOf_60 ?_
    exact S_iret dX9_keptOf_61 rfl (Or.inl rfl) ⟨rfl, hR, hS⟩
  | succ d ih =>
    intro i M hi hR hS
    have hk1 := hK.2 (12 * e + i) (by omega)
    refine S_iload_n dX9_keptOf_2 rfl ?_
    refine S_aload_n dX9_keptOf_3 rfl ?_
    refine S_getP fl_X9_81 dX9_keptOf_4 rfl rfl (hR.p 25 rfl) ?_
    refine S_iload_n dX9_keptOf_7 rfl ?_
    refine R_ald (v := ↑n) e hR dX9_keptOf_8 rfl rfl (by omega) (show _ < 12 from by omega) hr ?_
    refine S_icmp_ge 60 dX9_keptOf_9 (by decide) (by omega) (fun c_9 => absurd c_9 (by omega)) (fun c_9 => ?_)
    refine S_aload_n dX9_keptOf_12 rfl ?_
    refine S_getP fl_X9_84 dX9_keptOf_13 rfl rfl (hR.p 26 rfl) ?_
    refine S_bipush dX9_keptOf_16 (by decide) ?_
    refine S_iload_n dX9_keptOf_18 rfl ?_
    refine S_imul dX9_keptOf_19 ?_
    refine S_iload_n dX9_keptOf_20 rfl ?_
    refine S_iadd dX9_keptOf_21 ?_
    refine R_ald (v := ρ.2 26 (((12 * e) + i))) (((12 * e) + i)) hR dX9_keptOf_22 rfl rfl (by omega) (show _ < 144 from by omega) rfl ?_
    refine S_aload_n dX9_keptOf_23 rfl ?_
    refine S_getP fl_X9_99 dX9_keptOf_24 rfl rfl (hR.p 32 rfl) ?_
    refine S_iload_n dX9_keptOf_27 rfl ?_
    refine R_ald (v := ρ.2 32 l) l hR dX9_keptOf_28 rfl rfl (by omega) (show _ < 300 from by omega) rfl ?_
    refine S_icmp_ne 54 dX9_keptOf_29 (by decide) (by omega) (fun c_29 => ?_) (fun c_29 => ?_)
    · rw [show kptF ρ e l (d + 1) i = kptF ρ e l d (i + 1) from if_neg (by omega)]
      refine S_iinc dX9_keptOf_54 rfl (by decide) ?_
      rw [show ((↑i) + 1 : Int) = ↑(i + 1) from by omega]
      refine S_goto 2 dX9_keptOf_57 (by decide) ?_
      exact ih (i + 1) _ (by omega) hR hS
    · refine S_aload_n dX9_keptOf_32 rfl ?_
      refine S_getP fl_X9_87 dX9_keptOf_33 rfl rfl (hR.p 27 rfl) ?_
      refine S_bipush dX9_keptOf_36 (by decide) ?_
      refine S_iload_n dX9_keptOf_38 rfl ?_
      refine S_imul dX9_keptOf_39 ?_
      refine S_iload_n dX9_keptOf_40 rfl ?_
      refine S_iadd dX9_keptOf_41 ?_
      refine R_ald (v := ρ.2 27 (((12 * e) + i))) (((12 * e) + i)) hR dX9_keptOf_42 rfl rfl (by omega) (show _ < 144 from by omega) rfl ?_
      refine S_aload_n dX9_keptOf_43 rfl ?_
      refine S_getP fl_X9_105 dX9_keptOf_44 rfl rfl (hR.p 34 rfl) ?_
      refine S_iload_n dX9_keptOf_47 rfl ?_
      refine R_ald (v := ρ.2 34 l) l hR dX9_keptOf_48 rfl rfl (by omega) (show _ < 300 from by omega) rfl ?_
      refine S_icmp_ne 54 dX9_keptOf_49 (by decide) (by omega) (fun c_49 => ?_) (fun c_49 => ?_)
      · rw [show kptF ρ e l (d + 1) i = kptF ρ e l d (i + 1) from if_neg (by omega)]
        refine S_iinc dX9_keptOf_54 rfl (by decide) ?_
        rw [show ((↑i) + 1 : Int) = ↑(i + 1) from by omega]
        refine S_goto 2 dX9_keptOf_57 (by decide) ?_
        exact ih (i + 1) _ (by omega) hR hS
      · rw [show kptF ρ e l (d + 1) i = ↑i from if_pos ⟨by omega, by omega⟩]
        refine S_iload_n dX9_keptOf_52 rfl ?_
        exact S_iret dX9_keptOf_53 rfl (Or.inl rfl) ⟨rfl, hR, hS⟩
theorem r_X9_keptOf {G : Ge} {ρ : RS} (e l n : Nat) (he : e < 12) (hl : l < 300) (hn : n ≤ 12) (hr : ρ.2 25 e = ↑n) (hK : KOK ρ) (h32 : 0 ≤ ρ.2 32 l ∧ ρ.2 32 l ≤ 10007) (h34 : 0 ≤ ρ.2 34 l ∧ ρ.2 34 l ≤ 600) : RC G mi_X9_keptOf [vR ((30, 0)), vI (↑e), vI (↑l)] ρ (some (vI (kptF ρ e l n 0))) ρ := by
  intro M hR
  have hS := SameR.rf M
  refine Ct.of pl_X9_keptOf [some (vR ((30, 0))), some (vI (↑e)), some (vI (↑l)), none] rfl (Nat.le_of_ble_eq_true rfl) ?_
  refine S_iconst dX9_keptOf_0 ?_
  refine S_istore_n dX9_keptOf_1 (by decide) ?_
  exact lp_X9_keptOf e l n he hl hn hr hK h32 h34 n 0 _ (by omega) hR hS
theorem lp_X9_hasLeft {G : Ge} {ρ : RS} {M0 : Mem} (e n : Nat) (p : Int) (he : e < 12) (hn : n ≤ 600) (hr : ρ.2 23 e = ↑n) (hL : ∀ j, j < 7200 → -1 ≤ ρ.2 24 j ∧ ρ.2 24 j ≤ 10007) (hp : -1 ≤ p ∧ p ≤ 10007) : ∀ (d : Nat) (k : Nat) (x : Int) (M : Mem), k + d = n → (x = 1 ∧ ∃ k, k < n ∧ ρ.2 24 (600 * e + k) = p) ∨ (x = 0 ∧ ∀ j, j < k → ρ.2 24 (600 * e + j) ≠ p) → Rf ρ M → SameR M0 M → Sf G mi_X9_hasLeft (fun v' M' => (v' = some (vI 1) ∧ (∃ k, k < n ∧ ρ.2 24 (600 * e + k) = p) ∨ v' = some (vI 0) ∧ ¬ (∃ k, k < n ∧ ρ.2 24 (600 * e + k) = p)) ∧ Rf ρ M' ∧ SameR M0 M') 5 [some (vR ((30, 0))), some (vI (↑e)), some (vI p), some (vI x), some (vI (↑k))] [] M := by
  intro d
  induction d with
  | zero =>
    intro k x M hk hx hR hS
    obtain rfl : k = n := by omega
    refine S_iload dX9_hasLeft_5 rfl ?_
    refine S_aload_n dX9_hasLeft_7 rfl ?_
    refine S_getP fl_X9_75 dX9_hasLeft_8 rfl rfl (hR.p 23 rfl) ?_
    refine S_iload_n dX9_hasLeft_11 rfl ?_
    refine R_ald (v := ↑k) e hR dX9_hasLeft_12 rfl rfl (by omega) (show _ < 12 from by omega) hr ?_
    refine S_icmp_ge 49 dX9_hasLeft_13 (by decide) (by omega) (fun c_13 => ?_) (fun c_13 => absurd c_13 (by omega))
    refine S_iload_n dX9_hasLeft_49 rfl ?_
    exact S_iret dX9_hasLeft_50 rfl (Or.inr ⟨rfl, by rcases hx with h | h <;> omega⟩) ⟨hx.elim (fun h => Or.inl ⟨by rw [h.1], h.2⟩) (fun h => Or.inr ⟨by rw [h.1], fun ⟨j, h1, h2⟩ => h.2 j h1 h2⟩), hR, hS⟩
  | succ d ih =>
    intro k x M hk hx hR hS
    have hl1 := hL (600 * e + k) (by omega)
    refine S_iload dX9_hasLeft_5 rfl ?_
    refine S_aload_n dX9_hasLeft_7 rfl ?_
    refine S_getP fl_X9_75 dX9_hasLeft_8 rfl rfl (hR.p 23 rfl) ?_
    refine S_iload_n dX9_hasLeft_11 rfl ?_
    refine R_ald (v := ↑n) e hR dX9_hasLeft_12 rfl rfl (by omega) (show _ < 12 from by omega) hr ?_
    refine S_icmp_ge 49 dX9_hasLeft_13 (by decide) (by omega) (fun c_13 => absurd c_13 (by omega)) (fun c_13 => ?_)
    refine S_iload_n dX9_hasLeft_16 rfl ?_
    refine S_if_ne 37 dX9_hasLeft_17 (by decide) (by rcases hx with h | h <;> omega) (fun c_17 => ?_) (fun c_17 => ?_)
    · refine S_iconst dX9_hasLeft_37 ?_
      refine S_goto 42 dX9_hasLeft_38 (by decide) ?_
      refine S_istore_n dX9_hasLeft_42 (by decide) ?_
      refine S_iinc dX9_hasLeft_43 rfl (by decide) ?_
      rw [show ((↑k) + 1 : Int) = ↑(k + 1) from by omega]
      refine S_goto 5 dX9_hasLeft_46 (by decide) ?_
      exact ih (k + 1) 1 _ (by omega) (by first | (rcases hx with h | h; exact Or.inl ⟨rfl, h.2⟩; exact absurd h.1 c_17) | (exact Or.inl ⟨rfl, k, by omega, by omega⟩) | (rcases hx with h | h; exact absurd h.1 (by omega); exact Or.inr ⟨rfl, fun j hj => (by rcases (show j < k ∨ j = k by omega) with q | q; exact h.2 j q; rw [q]; omega)⟩)) hR hS
    · refine S_aload_n dX9_hasLeft_20 rfl ?_
      refine S_getP fl_X9_78 dX9_hasLeft_21 rfl rfl (hR.p 24 rfl) ?_
      refine S_sipush dX9_hasLeft_24 (by decide) ?_
      refine S_iload_n dX9_hasLeft_27 rfl ?_
      refine S_imul dX9_hasLeft_28 ?_
      refine S_iload dX9_hasLeft_29 rfl ?_
      refine S_iadd dX9_hasLeft_31 ?_
      refine R_ald (v := ρ.2 24 (((600 * e) + k))) (((600 * e) + k)) hR dX9_hasLeft_32 rfl rfl (by omega) (show _ < 7200 from by omega) rfl ?_
      refine S_iload_n dX9_hasLeft_33 rfl ?_
      refine S_icmp_ne 41 dX9_hasLeft_34 (by decide) (by omega) (fun c_34 => ?_) (fun c_34 => ?_)
      · refine S_iconst dX9_hasLeft_41 ?_
        refine S_istore_n dX9_hasLeft_42 (by decide) ?_
        refine S_iinc dX9_hasLeft_43 rfl (by decide) ?_
        rw [show ((↑k) + 1 : Int) = ↑(k + 1) from by omega]
        refine S_goto 5 dX9_hasLeft_46 (by decide) ?_
        exact ih (k + 1) 0 _ (by omega) (by first | (rcases hx with h | h; exact Or.inl ⟨rfl, h.2⟩; exact absurd h.1 c_17) | (exact Or.inl ⟨rfl, k, by omega, by omega⟩) | (rcases hx with h | h; exact absurd h.1 (by omega); exact Or.inr ⟨rfl, fun j hj => (by rcases (show j < k ∨ j = k by omega) with q | q; exact h.2 j q; rw [q]; omega)⟩)) hR hS
      · refine S_iconst dX9_hasLeft_37 ?_
        refine S_goto 42 dX9_hasLeft_38 (by decide) ?_
        refine S_istore_n dX9_hasLeft_42 (by decide) ?_
        refine S_iinc dX9_hasLeft_43 rfl (by decide) ?_
        rw [show ((↑k) + 1 : Int) = ↑(k + 1) from by omega]
        refine S_goto 5 dX9_hasLeft_46 (by decide) ?_
        exact ih (k + 1) 1 _ (by omega) (by first | (rcases hx with h | h; exact Or.inl ⟨rfl, h.2⟩; exact absurd h.1 c_17) | (exact Or.inl ⟨rfl, k, by omega, by omega⟩) | (rcases hx with h | h; exact absurd h.1 (by omega); exact Or.inr ⟨rfl, fun j hj => (by rcases (show j < k ∨ j = k by omega) with q | q; exact h.2 j q; rw [q]; omega)⟩)) hR hS
theorem r_X9_hasLeft {G : Ge} {ρ : RS} (e n : Nat) (p : Int) (he : e < 12) (hn : n ≤ 600) (hr : ρ.2 23 e = ↑n) (hL : ∀ j, j < 7200 → -1 ≤ ρ.2 24 j ∧ ρ.2 24 j ≤ 10007) (hp : -1 ≤ p ∧ p ≤ 10007) : RB G mi_X9_hasLeft [vR ((30, 0)), vI (↑e), vI p] ρ (∃ k, k < n ∧ ρ.2 24 (600 * e + k) = p) := by
  intro M hR
  have hS := SameR.rf M
  refine Ct.of pl_X9_hasLeft [some (vR ((30, 0))), some (vI (↑e)), some (vI p), none, none] rfl (Nat.le_of_ble_eq_true rfl) ?_
  refine S_iconst dX9_hasLeft_0 ?_
  refine S_istore_n dX9_hasLeft_1 (by decide) ?_
  refine S_iconst dX9_hasLeft_2 ?_
  refine S_istore dX9_hasLeft_3 (by decide) ?_
  exact lp_X9_hasLeft e n p he hn hr hL hp n 0 0 _ (by omega) (Or.inr ⟨rfl, fun j hj => absurd hj (by omega)⟩) hR hS
end
section
/-! THE REFERENCE: what is kept ends, is kept, is skipped -/
def kp1 (ρ : RS) (e m : Nat) (place key : Int) : RS := ((((ρ.setA 26 (12 * e + m) (ρ.2 19 e)).setA 27 (12 * e + m) place).setA 28 (12 * e + m) key).setA 29 (12 * e + m) (ρ.1 30)).setA 25 e (↑m + 1)
def keepR (ρ : RS) (e n : Nat) (place key : Int) : RS := if n = 12 then kp1 (dropR ρ e 0 11) e 11 place key else kp1 ρ e n place key
theorem keepR_s (ρ : RS) (e n : Nat) (place key : Int) (k : Nat) : (keepR ρ e n place key).1 k = ρ.1 k := by
  unfold keepR; split <;> rfl
theorem dropR_at (ρ : RS) (e i n k j : Nat) (h : k < 25 ∨ 29 < k) : (dropR ρ e i n).2 k j = ρ.2 k j := by
  unfold dropR
  rw [RS.sh4_at _ _ _ _ _ (by omega)]
  exact if_neg (by omega)
theorem kp1_at (ρ : RS) (e m : Nat) (place key : Int) (k j : Nat) (h : k < 25 ∨ 29 < k) : (kp1 ρ e m place key).2 k j = ρ.2 k j := by
  show (if k = 25 ∧ j = e then (↑m + 1 : Int) else if k = 29 ∧ j = 12 * e + m then ρ.1 30 else if k = 28 ∧ j = 12 * e + m then key else if k = 27 ∧ j = 12 * e + m then place else if k = 26 ∧ j = 12 * e + m then ρ.2 19 e else ρ.2 k j) = _
  rw [if_neg (by omega), if_neg (by omega), if_neg (by omega), if_neg (by omega), if_neg (by omega)]
theorem keepR_at (ρ : RS) (e n : Nat) (place key : Int) (k j : Nat) (h : k < 25 ∨ 29 < k) : (keepR ρ e n place key).2 k j = ρ.2 k j := by
  unfold keepR; split
  · rw [kp1_at _ _ _ _ _ _ _ h, dropR_at _ _ _ _ _ _ h]
  · exact kp1_at _ _ _ _ _ _ _ h
theorem kp1_25 (ρ : RS) (e m : Nat) (place key : Int) (e' : Nat) : (kp1 ρ e m place key).2 25 e' = if e' = e then (m : Int) + 1 else ρ.2 25 e' := by
  show (if 25 = 25 ∧ e' = e then (↑m + 1 : Int) else ρ.2 25 e') = _
  by_cases h : e' = e
  · rw [if_pos ⟨rfl, h⟩, if_pos h]
  · rw [if_neg (fun q => h q.2), if_neg h]
theorem KOK.kpp {ρ : RS} (h : KOK ρ) {e m : Nat} {place key : Int} (he : e < 12) (hm : m < 12) (h19 : -1 ≤ ρ.2 19 e ∧ ρ.2 19 e ≤ 10007) (hp : 0 ≤ place ∧ place ≤ 600) (hk : 0 ≤ key ∧ key ≤ 8000) (hl : 0 ≤ ρ.1 30 ∧ ρ.1 30 ≤ 300) : KOK (kp1 ρ e m place key) := by
  refine ⟨fun e' he' => ?_, fun j hj => ?_⟩
  · rw [kp1_25]
    by_cases h1 : e' = e
    · rw [if_pos h1]; exact ⟨m + 1, by omega, by omega⟩
    · rw [if_neg h1]; exact h.1 e' he'
  · have h2 := h.2 j hj
    have a26 : (kp1 ρ e m place key).2 26 j = if j = 12 * e + m then ρ.2 19 e else ρ.2 26 j := by
      show (if 26 = 26 ∧ j = 12 * e + m then ρ.2 19 e else ρ.2 26 j) = _
      simp only [true_and]
    have a27 : (kp1 ρ e m place key).2 27 j = if j = 12 * e + m then place else ρ.2 27 j := by
      show (if 27 = 27 ∧ j = 12 * e + m then place else ρ.2 27 j) = _
      simp only [true_and]
    have a28 : (kp1 ρ e m place key).2 28 j = if j = 12 * e + m then key else ρ.2 28 j := by
      show (if 28 = 28 ∧ j = 12 * e + m then key else ρ.2 28 j) = _
      simp only [true_and]
    have a29 : (kp1 ρ e m place key).2 29 j = if j = 12 * e + m then ρ.1 30 else ρ.2 29 j := by
      show (if 29 = 29 ∧ j = 12 * e + m then ρ.1 30 else ρ.2 29 j) = _
      simp only [true_and]
    rw [a26, a27, a28, a29]
    by_cases hj2 : j = 12 * e + m
    · rw [if_pos hj2, if_pos hj2, if_pos hj2, if_pos hj2]; omega
    · rw [if_neg hj2, if_neg hj2, if_neg hj2, if_neg hj2]; exact h2
theorem KOK.keep {ρ : RS} (h : KOK ρ) {e n : Nat} {place key : Int} (he : e < 12) (hn : n ≤ 12) (h19 : -1 ≤ ρ.2 19 e ∧ ρ.2 19 e ≤ 10007) (hp : 0 ≤ place ∧ place ≤ 600) (hk : 0 ≤ key ∧ key ≤ 8000) (hl : 0 ≤ ρ.1 30 ∧ ρ.1 30 ≤ 300) : KOK (keepR ρ e n place key) := by
  unfold keepR
  by_cases h12 : n = 12
  · rw [if_pos h12]
    exact (h.drop he (by omega)).kpp he (by omega) (by rw [dropR_at _ _ _ _ _ _ (by omega)]; exact h19) hp hk hl
  · rw [if_neg h12]
    exact h.kpp he (by omega) h19 hp hk hl
theorem ThOK.congr {ρ σ : RS} {N : Nat} (h : ThOK ρ N) (h1 : σ.1 5 = ρ.1 5 ∧ σ.1 0 = ρ.1 0 ∧ σ.1 1 = ρ.1 1) (h2 : ∀ k j, 6 ≤ k → k ≤ 9 → σ.2 k j = ρ.2 k j) : ThOK σ N := by
  have hn : thN σ = thN ρ := by unfold thN; rw [h1.1]
  refine ⟨by rw [hn, h1.1]; exact h.1, by rw [hn]; exact h.2.1, by rw [h1.2.1]; exact h.2.2.1, by rw [h1.2.2]; exact h.2.2.2.1, fun t ht => ?_⟩
  rw [hn] at ht
  rw [h2 6 t (by omega) (by omega), h2 7 t (by omega) (by omega), h2 8 t (by omega) (by omega), h2 9 t (by omega) (by omega)]
  exact h.2.2.2.2 t ht
theorem thN_congr {ρ σ : RS} (h : σ.1 5 = ρ.1 5) : thN σ = thN ρ := by unfold thN; rw [h]
theorem KOK.congr {ρ σ : RS} (h : KOK ρ) (h2 : ∀ k j, 25 ≤ k → k ≤ 29 → σ.2 k j = ρ.2 k j) : KOK σ := by
  refine ⟨fun e he => ?_, fun j hj => ?_⟩
  · rw [h2 25 e (by omega) (by omega)]; exact h.1 e he
  · rw [h2 26 j (by omega) (by omega), h2 27 j (by omega) (by omega), h2 28 j (by omega) (by omega), h2 29 j (by omega) (by omega)]; exact h.2 j hj
theorem r_X9_keep {G : Ge} {ρ : RS} (e n : Nat) (place key : Int) (he : e < 12) (hn : n ≤ 12) (hr : ρ.2 25 e = ↑n) : RC G mi_X9_keep [vR ((30, 0)), vI (↑e), vI place, vI key] ρ none (keepR ρ e n place key) := by
  intro M hR
  have hS := SameR.rf M
  refine Ct.of pl_X9_keep [some (vR ((30, 0))), some (vI (↑e)), some (vI place), some (vI key), none] rfl (Nat.le_of_ble_eq_true rfl) ?_
  refine S_aload_n dX9_keep_0 rfl ?_
  refine S_getP fl_X9_81 dX9_keep_1 rfl rfl (hR.p 25 rfl) ?_
  refine S_iload_n dX9_keep_4 rfl ?_
  refine R_ald (v := ↑n) e hR dX9_keep_5 rfl rfl (by omega) (show _ < 12 from by omega) hr ?_
  refine S_bipush dX9_keep_6 (by decide) ?_
  refine S_icmp_ne 17 dX9_keep_8 (by decide) (by omega) (fun c_8 => ?_) (fun c_8 => ?_)
  · rw [show keepR ρ e n place key = kp1 ρ e n place key from if_neg (by omega)]
    refine S_bipush dX9_keep_17 (by decide) ?_
    refine S_iload_n dX9_keep_19 rfl ?_
    refine S_imul dX9_keep_20 ?_
    refine S_aload_n dX9_keep_21 rfl ?_
    refine S_getP fl_X9_81 dX9_keep_22 rfl rfl (hR.p 25 rfl) ?_
    refine S_iload_n dX9_keep_25 rfl ?_
    refine R_ald (v := ↑n) e hR dX9_keep_26 rfl rfl (by omega) (show _ < 12 from by omega) hr ?_
    refine S_iadd dX9_keep_27 ?_
    rw [show ((12 * (↑e)) + (↑n) : Int) = ↑(12 * e + n) from by omega]
    refine S_istore dX9_keep_28 (by decide) ?_
    refine S_aload_n dX9_keep_30 rfl ?_
    refine S_getP fl_X9_84 dX9_keep_31 rfl rfl (hR.p 26 rfl) ?_
    refine S_iload dX9_keep_34 rfl ?_
    refine S_aload_n dX9_keep_36 rfl ?_
    refine S_getP fl_X9_63 dX9_keep_37 rfl rfl (hR.p 19 rfl) ?_
    refine S_iload_n dX9_keep_40 rfl ?_
    refine R_ald (v := ρ.2 19 e) e hR dX9_keep_41 rfl rfl (by omega) (show _ < 12 from by omega) rfl ?_
    refine R_ast ((12 * e + n)) dX9_keep_42 rfl rfl (by omega) (show _ < 144 from by omega) hR hS (fun M21 hR21 hS21 => ?_)
    refine S_aload_n dX9_keep_43 rfl ?_
    refine S_getP fl_X9_87 dX9_keep_44 rfl rfl (hR21.p 27 rfl) ?_
    refine S_iload dX9_keep_47 rfl ?_
    refine S_iload_n dX9_keep_49 rfl ?_
    refine R_ast ((12 * e + n)) dX9_keep_50 rfl rfl (by omega) (show _ < 144 from by omega) hR21 hS21 (fun M22 hR22 hS22 => ?_)
    refine S_aload_n dX9_keep_51 rfl ?_
    refine S_getP fl_X9_90 dX9_keep_52 rfl rfl (hR22.p 28 rfl) ?_
    refine S_iload dX9_keep_55 rfl ?_
    refine S_iload_n dX9_keep_57 rfl ?_
    refine R_ast ((12 * e + n)) dX9_keep_58 rfl rfl (by omega) (show _ < 144 from by omega) hR22 hS22 (fun M23 hR23 hS23 => ?_)
    refine S_aload_n dX9_keep_59 rfl ?_
    refine S_getP fl_X9_93 dX9_keep_60 rfl rfl (hR23.p 29 rfl) ?_
    refine S_iload dX9_keep_63 rfl ?_
    refine S_aload_n dX9_keep_65 rfl ?_
    refine S_getI (v := ρ.1 30) fl_X9_142 dX9_keep_66 rfl rfl (hR23.s 30) ?_
    refine R_ast ((12 * e + n)) dX9_keep_69 rfl rfl (by omega) (show _ < 144 from by omega) hR23 hS23 (fun M24 hR24 hS24 => ?_)
    refine S_aload_n dX9_keep_70 rfl ?_
    refine S_getP fl_X9_81 dX9_keep_71 rfl rfl (hR24.p 25 rfl) ?_
    refine S_iload_n dX9_keep_74 rfl ?_
    refine S_dup2 dX9_keep_75 ?_
    refine R_ald (v := ↑n) e hR24 dX9_keep_76 rfl rfl (by omega) (show _ < 12 from by omega) hr ?_
    refine S_iconst dX9_keep_77 ?_
    refine S_iadd dX9_keep_78 ?_
    refine R_ast e dX9_keep_79 rfl rfl (by omega) (show _ < 12 from by omega) hR24 hS24 (fun M25 hR25 hS25 => ?_)
    exact S_vret dX9_keep_80 rfl ⟨rfl, hR25, hS25⟩
  · obtain rfl : n = 12 := by omega
    rw [show keepR ρ e 12 place key = kp1 (dropR ρ e 0 11) e 11 place key from rfl]
    refine S_aload_n dX9_keep_11 rfl ?_
    refine S_iload_n dX9_keep_12 rfl ?_
    refine S_iconst dX9_keep_13 ?_
    refine S_callV [vI (↑e), vI 0] ok_X9_drops ml_X9_194 dX9_keep_14 rfl (by decide) rfl (by decide) rfl (Nat.le_of_ble_eq_true rfl) rfl (r_X9_drops (ρ := ρ) e 0 11 (by omega) (by omega) (by omega) hr M hR) ?_
    rintro v' M1 ⟨rfl, hR1, hS1'⟩
    have hS1 := hS.trans hS1'
    refine S_bipush dX9_keep_17 (by decide) ?_
    refine S_iload_n dX9_keep_19 rfl ?_
    refine S_imul dX9_keep_20 ?_
    refine S_aload_n dX9_keep_21 rfl ?_
    refine S_getP fl_X9_81 dX9_keep_22 rfl rfl (hR1.p 25 rfl) ?_
    refine S_iload_n dX9_keep_25 rfl ?_
    refine R_ald (v := ↑(11 : Nat)) e hR1 dX9_keep_26 rfl rfl (by omega) (show _ < 12 from by omega) ((drop_25 ρ e 0 11 e).trans (if_pos rfl)) ?_
    refine S_iadd dX9_keep_27 ?_
    rw [show ((12 * (↑e)) + (↑(11 : Nat)) : Int) = ↑(12 * e + 11) from by omega]
    refine S_istore dX9_keep_28 (by decide) ?_
    refine S_aload_n dX9_keep_30 rfl ?_
    refine S_getP fl_X9_84 dX9_keep_31 rfl rfl (hR1.p 26 rfl) ?_
    refine S_iload dX9_keep_34 rfl ?_
    refine S_aload_n dX9_keep_36 rfl ?_
    refine S_getP fl_X9_63 dX9_keep_37 rfl rfl (hR1.p 19 rfl) ?_
    refine S_iload_n dX9_keep_40 rfl ?_
    refine R_ald (v := ρ.2 19 e) e hR1 dX9_keep_41 rfl rfl (by omega) (show _ < 12 from by omega) rfl ?_
    refine R_ast ((12 * e + 11)) dX9_keep_42 rfl rfl (by omega) (show _ < 144 from by omega) hR1 hS1 (fun M21 hR21 hS21 => ?_)
    refine S_aload_n dX9_keep_43 rfl ?_
    refine S_getP fl_X9_87 dX9_keep_44 rfl rfl (hR21.p 27 rfl) ?_
    refine S_iload dX9_keep_47 rfl ?_
    refine S_iload_n dX9_keep_49 rfl ?_
    refine R_ast ((12 * e + 11)) dX9_keep_50 rfl rfl (by omega) (show _ < 144 from by omega) hR21 hS21 (fun M22 hR22 hS22 => ?_)
    refine S_aload_n dX9_keep_51 rfl ?_
    refine S_getP fl_X9_90 dX9_keep_52 rfl rfl (hR22.p 28 rfl) ?_
    refine S_iload dX9_keep_55 rfl ?_
    refine S_iload_n dX9_keep_57 rfl ?_
    refine R_ast ((12 * e + 11)) dX9_keep_58 rfl rfl (by omega) (show _ < 144 from by omega) hR22 hS22 (fun M23 hR23 hS23 => ?_)
    refine S_aload_n dX9_keep_59 rfl ?_
    refine S_getP fl_X9_93 dX9_keep_60 rfl rfl (hR23.p 29 rfl) ?_
    refine S_iload dX9_keep_63 rfl ?_
    refine S_aload_n dX9_keep_65 rfl ?_
    refine S_getI (v := (dropR ρ e 0 11).1 30) fl_X9_142 dX9_keep_66 rfl rfl (hR23.s 30) ?_
    refine R_ast ((12 * e + 11)) dX9_keep_69 rfl rfl (by omega) (show _ < 144 from by omega) hR23 hS23 (fun M24 hR24 hS24 => ?_)
    refine S_aload_n dX9_keep_70 rfl ?_
    refine S_getP fl_X9_81 dX9_keep_71 rfl rfl (hR24.p 25 rfl) ?_
    refine S_iload_n dX9_keep_74 rfl ?_
    refine S_dup2 dX9_keep_75 ?_
    refine R_ald (v := ↑(11 : Nat)) e hR24 dX9_keep_76 rfl rfl (by omega) (show _ < 12 from by omega) ((drop_25 ρ e 0 11 e).trans (if_pos rfl)) ?_
    refine S_iconst dX9_keep_77 ?_
    refine S_iadd dX9_keep_78 ?_
    refine R_ast e dX9_keep_79 rfl rfl (by omega) (show _ < 12 from by omega) hR24 hS24 (fun M25 hR25 hS25 => ?_)
    exact S_vret dX9_keep_80 rfl ⟨rfl, hR25, hS25⟩
end
