section
-- ===== PART A: goes FIRST, ahead of the names: the tables' words, and 'selects' of the private methods out of them =====
/-- a private method of a class that the tables say can be made, by its rows of tables_1 -/
def lw_okq (q : MethodName × Nat) : Prop := (q.1.cls ≠ "java/lang/invoke/MethodHandle" ∧ q.1.cls ≠ "java/lang/invoke/VarHandle") ∧ Cond.instantiable q.1.cls q.2 ∈ tables_1 ∧ Cond.privateMethod q.1 ∈ tables_1 ∧ Cond.instanceMethod q.1 ∈ tables_1
theorem lw_p0 : lw_okq (⟨"RingVillage$Reader", "nextToken", "()V"⟩, 12) := ⟨⟨by decide +kernel, by decide +kernel⟩, List.mem_of_getElem? (i := 141) (by decide +kernel), List.mem_of_getElem? (i := 455) (by decide +kernel), List.mem_of_getElem? (i := 456) (by decide +kernel)⟩
theorem lw_p1 : lw_okq (⟨"RingVillage$Reader", "byteAt", "(I)I"⟩, 12) := ⟨⟨by decide +kernel, by decide +kernel⟩, List.mem_of_getElem? (i := 141) (by decide +kernel), List.mem_of_getElem? (i := 459) (by decide +kernel), List.mem_of_getElem? (i := 460) (by decide +kernel)⟩
theorem lw_p2 : lw_okq (⟨"RingVillage$Reader", "readDigits", "()V"⟩, 12) := ⟨⟨by decide +kernel, by decide +kernel⟩, List.mem_of_getElem? (i := 141) (by decide +kernel), List.mem_of_getElem? (i := 472) (by decide +kernel), List.mem_of_getElem? (i := 473) (by decide +kernel)⟩
theorem lw_p3 : lw_okq (⟨"RingVillage$Reader", "readSentence", "(I)Z"⟩, 12) := ⟨⟨by decide +kernel, by decide +kernel⟩, List.mem_of_getElem? (i := 141) (by decide +kernel), List.mem_of_getElem? (i := 476) (by decide +kernel), List.mem_of_getElem? (i := 477) (by decide +kernel)⟩
theorem lw_p4 : lw_okq (⟨"RingVillage$Reader", "verbOf", "(I)I"⟩, 12) := ⟨⟨by decide +kernel, by decide +kernel⟩, List.mem_of_getElem? (i := 141) (by decide +kernel), List.mem_of_getElem? (i := 480) (by decide +kernel), List.mem_of_getElem? (i := 481) (by decide +kernel)⟩
theorem lw_p5 : lw_okq (⟨"RingVillage$Reader", "isTokenText", "(Ljava/lang/String;)Z"⟩, 12) := ⟨⟨by decide +kernel, by decide +kernel⟩, List.mem_of_getElem? (i := 141) (by decide +kernel), List.mem_of_getElem? (i := 500) (by decide +kernel), List.mem_of_getElem? (i := 501) (by decide +kernel)⟩
theorem lw_p6 : lw_okq (⟨"RingVillage$Reader", "isOneTooMany", "(I)Z"⟩, 12) := ⟨⟨by decide +kernel, by decide +kernel⟩, List.mem_of_getElem? (i := 141) (by decide +kernel), List.mem_of_getElem? (i := 552) (by decide +kernel), List.mem_of_getElem? (i := 553) (by decide +kernel)⟩
theorem lw_p7 : lw_okq (⟨"RingVillage$Reader", "note", "(II)V"⟩, 12) := ⟨⟨by decide +kernel, by decide +kernel⟩, List.mem_of_getElem? (i := 141) (by decide +kernel), List.mem_of_getElem? (i := 559) (by decide +kernel), List.mem_of_getElem? (i := 560) (by decide +kernel)⟩
theorem lw_p8 : lw_okq (⟨"RingVillage$Reader", "judge", "(II)V"⟩, 12) := ⟨⟨by decide +kernel, by decide +kernel⟩, List.mem_of_getElem? (i := 141) (by decide +kernel), List.mem_of_getElem? (i := 565) (by decide +kernel), List.mem_of_getElem? (i := 566) (by decide +kernel)⟩
theorem lw_p9 : lw_okq (⟨"RingVillage$Reader", "isTwice", "(II)Z"⟩, 12) := ⟨⟨by decide +kernel, by decide +kernel⟩, List.mem_of_getElem? (i := 141) (by decide +kernel), List.mem_of_getElem? (i := 573) (by decide +kernel), List.mem_of_getElem? (i := 574) (by decide +kernel)⟩
theorem lw_p10 : lw_okq (⟨"RingVillage$Reader", "keepSentence", "(II)V"⟩, 12) := ⟨⟨by decide +kernel, by decide +kernel⟩, List.mem_of_getElem? (i := 141) (by decide +kernel), List.mem_of_getElem? (i := 577) (by decide +kernel), List.mem_of_getElem? (i := 578) (by decide +kernel)⟩
theorem lw_p11 : lw_okq (⟨"RingVillage$State", "beginDebt", "(III)Z"⟩, 6) := ⟨⟨by decide +kernel, by decide +kernel⟩, List.mem_of_getElem? (i := 193) (by decide +kernel), List.mem_of_getElem? (i := 693) (by decide +kernel), List.mem_of_getElem? (i := 694) (by decide +kernel)⟩
theorem lw_p12 : lw_okq (⟨"RingVillage$State", "payDebt", "(III)Z"⟩, 6) := ⟨⟨by decide +kernel, by decide +kernel⟩, List.mem_of_getElem? (i := 193) (by decide +kernel), List.mem_of_getElem? (i := 704) (by decide +kernel), List.mem_of_getElem? (i := 705) (by decide +kernel)⟩
theorem lw_p13 : lw_okq (⟨"RingVillage$State", "beginToldRing", "(LRingVillage$Row;I)Z"⟩, 6) := ⟨⟨by decide +kernel, by decide +kernel⟩, List.mem_of_getElem? (i := 193) (by decide +kernel), List.mem_of_getElem? (i := 708) (by decide +kernel), List.mem_of_getElem? (i := 709) (by decide +kernel)⟩
theorem lw_p14 : lw_okq (⟨"RingVillage$State", "strikeOpenRing", "(I)Z"⟩, 6) := ⟨⟨by decide +kernel, by decide +kernel⟩, List.mem_of_getElem? (i := 193) (by decide +kernel), List.mem_of_getElem? (i := 720) (by decide +kernel), List.mem_of_getElem? (i := 721) (by decide +kernel)⟩
theorem lw_p15 : lw_okq (⟨"RingVillage$State", "isOpen", "(I)Z"⟩, 6) := ⟨⟨by decide +kernel, by decide +kernel⟩, List.mem_of_getElem? (i := 193) (by decide +kernel), List.mem_of_getElem? (i := 724) (by decide +kernel), List.mem_of_getElem? (i := 725) (by decide +kernel)⟩
def lw_privs_1 : List (MethodName × Nat) := [(⟨"RingVillage$Reader", "nextToken", "()V"⟩, 12), (⟨"RingVillage$Reader", "byteAt", "(I)I"⟩, 12), (⟨"RingVillage$Reader", "readDigits", "()V"⟩, 12), (⟨"RingVillage$Reader", "readSentence", "(I)Z"⟩, 12), (⟨"RingVillage$Reader", "verbOf", "(I)I"⟩, 12), (⟨"RingVillage$Reader", "isTokenText", "(Ljava/lang/String;)Z"⟩, 12), (⟨"RingVillage$Reader", "isOneTooMany", "(I)Z"⟩, 12), (⟨"RingVillage$Reader", "note", "(II)V"⟩, 12), (⟨"RingVillage$Reader", "judge", "(II)V"⟩, 12), (⟨"RingVillage$Reader", "isTwice", "(II)Z"⟩, 12), (⟨"RingVillage$Reader", "keepSentence", "(II)V"⟩, 12), (⟨"RingVillage$State", "beginDebt", "(III)Z"⟩, 6), (⟨"RingVillage$State", "payDebt", "(III)Z"⟩, 6), (⟨"RingVillage$State", "beginToldRing", "(LRingVillage$Row;I)Z"⟩, 6), (⟨"RingVillage$State", "strikeOpenRing", "(I)Z"⟩, 6), (⟨"RingVillage$State", "isOpen", "(I)Z"⟩, 6)]
theorem lw_r1 : ∀ q ∈ lw_privs_1, lw_okq q := List.forall_mem_cons.mpr ⟨lw_p0, List.forall_mem_cons.mpr ⟨lw_p1, List.forall_mem_cons.mpr ⟨lw_p2, List.forall_mem_cons.mpr ⟨lw_p3, List.forall_mem_cons.mpr ⟨lw_p4, List.forall_mem_cons.mpr ⟨lw_p5, List.forall_mem_cons.mpr ⟨lw_p6, List.forall_mem_cons.mpr ⟨lw_p7, List.forall_mem_cons.mpr ⟨lw_p8, List.forall_mem_cons.mpr ⟨lw_p9, List.forall_mem_cons.mpr ⟨lw_p10, List.forall_mem_cons.mpr ⟨lw_p11, List.forall_mem_cons.mpr ⟨lw_p12, List.forall_mem_cons.mpr ⟨lw_p13, List.forall_mem_cons.mpr ⟨lw_p14, List.forall_mem_cons.mpr ⟨lw_p15, fun _ h => absurd h List.not_mem_nil⟩⟩⟩⟩⟩⟩⟩⟩⟩⟩⟩⟩⟩⟩⟩⟩
theorem lw_p16 : lw_okq (⟨"RingVillage$State", "strikeRing", "(I)V"⟩, 6) := ⟨⟨by decide +kernel, by decide +kernel⟩, List.mem_of_getElem? (i := 193) (by decide +kernel), List.mem_of_getElem? (i := 732) (by decide +kernel), List.mem_of_getElem? (i := 733) (by decide +kernel)⟩
theorem lw_p17 : lw_okq (⟨"RingVillage$State", "isOpenWith", "(II)Z"⟩, 6) := ⟨⟨by decide +kernel, by decide +kernel⟩, List.mem_of_getElem? (i := 193) (by decide +kernel), List.mem_of_getElem? (i := 740) (by decide +kernel), List.mem_of_getElem? (i := 741) (by decide +kernel)⟩
theorem lw_p18 : lw_okq (⟨"RingVillage$State", "membersOf", "(I)I"⟩, 6) := ⟨⟨by decide +kernel, by decide +kernel⟩, List.mem_of_getElem? (i := 193) (by decide +kernel), List.mem_of_getElem? (i := 744) (by decide +kernel), List.mem_of_getElem? (i := 745) (by decide +kernel)⟩
theorem lw_p19 : lw_okq (⟨"RingVillage", "loadTwo", "(IIIII)Z"⟩, 11) := ⟨⟨by decide +kernel, by decide +kernel⟩, List.mem_of_getElem? (i := 23) (by decide +kernel), List.mem_of_getElem? (i := 778) (by decide +kernel), List.mem_of_getElem? (i := 779) (by decide +kernel)⟩
theorem lw_p20 : lw_okq (⟨"RingVillage", "load", "(III)Z"⟩, 11) := ⟨⟨by decide +kernel, by decide +kernel⟩, List.mem_of_getElem? (i := 23) (by decide +kernel), List.mem_of_getElem? (i := 782) (by decide +kernel), List.mem_of_getElem? (i := 783) (by decide +kernel)⟩
theorem lw_p21 : lw_okq (⟨"RingVillage", "loadOne", "(IIII)Z"⟩, 11) := ⟨⟨by decide +kernel, by decide +kernel⟩, List.mem_of_getElem? (i := 23) (by decide +kernel), List.mem_of_getElem? (i := 795) (by decide +kernel), List.mem_of_getElem? (i := 796) (by decide +kernel)⟩
theorem lw_p22 : lw_okq (⟨"RingVillage$Ledger", "leastWhoOwes", "()I"⟩, 4) := ⟨⟨by decide +kernel, by decide +kernel⟩, List.mem_of_getElem? (i := 230) (by decide +kernel), List.mem_of_getElem? (i := 834) (by decide +kernel), List.mem_of_getElem? (i := 835) (by decide +kernel)⟩
theorem lw_p23 : lw_okq (⟨"RingVillage$Ledger", "leastOwedBy", "(I)I"⟩, 4) := ⟨⟨by decide +kernel, by decide +kernel⟩, List.mem_of_getElem? (i := 230) (by decide +kernel), List.mem_of_getElem? (i := 838) (by decide +kernel), List.mem_of_getElem? (i := 839) (by decide +kernel)⟩
theorem lw_p24 : lw_okq (⟨"RingVillage$Ledger", "takeRingOff", "(I)V"⟩, 4) := ⟨⟨by decide +kernel, by decide +kernel⟩, List.mem_of_getElem? (i := 230) (by decide +kernel), List.mem_of_getElem? (i := 842) (by decide +kernel), List.mem_of_getElem? (i := 843) (by decide +kernel)⟩
theorem lw_p25 : lw_okq (⟨"RingVillage$Ledger", "walkCell", "(III)I"⟩, 4) := ⟨⟨by decide +kernel, by decide +kernel⟩, List.mem_of_getElem? (i := 230) (by decide +kernel), List.mem_of_getElem? (i := 848) (by decide +kernel), List.mem_of_getElem? (i := 849) (by decide +kernel)⟩
theorem lw_p26 : lw_okq (⟨"RingVillage$Ledger", "partnersOf", "(LRingVillage$State;I)I"⟩, 4) := ⟨⟨by decide +kernel, by decide +kernel⟩, List.mem_of_getElem? (i := 230) (by decide +kernel), List.mem_of_getElem? (i := 860) (by decide +kernel), List.mem_of_getElem? (i := 861) (by decide +kernel)⟩
theorem lw_p27 : lw_okq (⟨"RingVillage$Ledger", "groupOf", "(LRingVillage$State;I)I"⟩, 4) := ⟨⟨by decide +kernel, by decide +kernel⟩, List.mem_of_getElem? (i := 230) (by decide +kernel), List.mem_of_getElem? (i := 870) (by decide +kernel), List.mem_of_getElem? (i := 871) (by decide +kernel)⟩
theorem lw_p28 : lw_okq (⟨"RingVillage$MonthsBySeed", "failSome", "(LRingVillage$State;)V"⟩, 3) := ⟨⟨by decide +kernel, by decide +kernel⟩, List.mem_of_getElem? (i := 365) (by decide +kernel), List.mem_of_getElem? (i := 917) (by decide +kernel), List.mem_of_getElem? (i := 918) (by decide +kernel)⟩
theorem lw_p29 : lw_okq (⟨"RingVillage$MonthsBySeed", "drawBelowHundred", "()I"⟩, 3) := ⟨⟨by decide +kernel, by decide +kernel⟩, List.mem_of_getElem? (i := 365) (by decide +kernel), List.mem_of_getElem? (i := 921) (by decide +kernel), List.mem_of_getElem? (i := 922) (by decide +kernel)⟩
theorem lw_p30 : lw_okq (⟨"RingVillage", "seek", "(IIIII)Z"⟩, 11) := ⟨⟨by decide +kernel, by decide +kernel⟩, List.mem_of_getElem? (i := 23) (by decide +kernel), List.mem_of_getElem? (i := 933) (by decide +kernel), List.mem_of_getElem? (i := 934) (by decide +kernel)⟩
theorem lw_p31 : lw_okq (⟨"RingVillage$Search", "lookByFees", "(LRingVillage$State;II)Z"⟩, 9) := ⟨⟨by decide +kernel, by decide +kernel⟩, List.mem_of_getElem? (i := 251) (by decide +kernel), List.mem_of_getElem? (i := 945) (by decide +kernel), List.mem_of_getElem? (i := 946) (by decide +kernel)⟩
def lw_privs_2 : List (MethodName × Nat) := [(⟨"RingVillage$State", "strikeRing", "(I)V"⟩, 6), (⟨"RingVillage$State", "isOpenWith", "(II)Z"⟩, 6), (⟨"RingVillage$State", "membersOf", "(I)I"⟩, 6), (⟨"RingVillage", "loadTwo", "(IIIII)Z"⟩, 11), (⟨"RingVillage", "load", "(III)Z"⟩, 11), (⟨"RingVillage", "loadOne", "(IIII)Z"⟩, 11), (⟨"RingVillage$Ledger", "leastWhoOwes", "()I"⟩, 4), (⟨"RingVillage$Ledger", "leastOwedBy", "(I)I"⟩, 4), (⟨"RingVillage$Ledger", "takeRingOff", "(I)V"⟩, 4), (⟨"RingVillage$Ledger", "walkCell", "(III)I"⟩, 4), (⟨"RingVillage$Ledger", "partnersOf", "(LRingVillage$State;I)I"⟩, 4), (⟨"RingVillage$Ledger", "groupOf", "(LRingVillage$State;I)I"⟩, 4), (⟨"RingVillage$MonthsBySeed", "failSome", "(LRingVillage$State;)V"⟩, 3), (⟨"RingVillage$MonthsBySeed", "drawBelowHundred", "()I"⟩, 3), (⟨"RingVillage", "seek", "(IIIII)Z"⟩, 11), (⟨"RingVillage$Search", "lookByFees", "(LRingVillage$State;II)Z"⟩, 9)]
theorem lw_r2 : ∀ q ∈ lw_privs_2, lw_okq q := List.forall_mem_cons.mpr ⟨lw_p16, List.forall_mem_cons.mpr ⟨lw_p17, List.forall_mem_cons.mpr ⟨lw_p18, List.forall_mem_cons.mpr ⟨lw_p19, List.forall_mem_cons.mpr ⟨lw_p20, List.forall_mem_cons.mpr ⟨lw_p21, List.forall_mem_cons.mpr ⟨lw_p22, List.forall_mem_cons.mpr ⟨lw_p23, List.forall_mem_cons.mpr ⟨lw_p24, List.forall_mem_cons.mpr ⟨lw_p25, List.forall_mem_cons.mpr ⟨lw_p26, List.forall_mem_cons.mpr ⟨lw_p27, List.forall_mem_cons.mpr ⟨lw_p28, List.forall_mem_cons.mpr ⟨lw_p29, List.forall_mem_cons.mpr ⟨lw_p30, List.forall_mem_cons.mpr ⟨lw_p31, fun _ h => absurd h List.not_mem_nil⟩⟩⟩⟩⟩⟩⟩⟩⟩⟩⟩⟩⟩⟩⟩⟩
theorem lw_p32 : lw_okq (⟨"RingVillage$Search", "consider", "(I)V"⟩, 9) := ⟨⟨by decide +kernel, by decide +kernel⟩, List.mem_of_getElem? (i := 251) (by decide +kernel), List.mem_of_getElem? (i := 954) (by decide +kernel), List.mem_of_getElem? (i := 955) (by decide +kernel)⟩
theorem lw_p33 : lw_okq (⟨"RingVillage$Search", "isBetter", "(IIJ)Z"⟩, 9) := ⟨⟨by decide +kernel, by decide +kernel⟩, List.mem_of_getElem? (i := 251) (by decide +kernel), List.mem_of_getElem? (i := 958) (by decide +kernel), List.mem_of_getElem? (i := 959) (by decide +kernel)⟩
theorem lw_p34 : lw_okq (⟨"RingVillage", "loadWant", "(IIII)Z"⟩, 11) := ⟨⟨by decide +kernel, by decide +kernel⟩, List.mem_of_getElem? (i := 23) (by decide +kernel), List.mem_of_getElem? (i := 977) (by decide +kernel), List.mem_of_getElem? (i := 978) (by decide +kernel)⟩
theorem lw_p35 : lw_okq (⟨"RingVillage$State", "nextFromAll", "(II)I"⟩, 6) := ⟨⟨by decide +kernel, by decide +kernel⟩, List.mem_of_getElem? (i := 193) (by decide +kernel), List.mem_of_getElem? (i := 985) (by decide +kernel), List.mem_of_getElem? (i := 986) (by decide +kernel)⟩
theorem lw_p36 : lw_okq (⟨"RingVillage$State", "nextFrom", "(II)I"⟩, 6) := ⟨⟨by decide +kernel, by decide +kernel⟩, List.mem_of_getElem? (i := 193) (by decide +kernel), List.mem_of_getElem? (i := 989) (by decide +kernel), List.mem_of_getElem? (i := 990) (by decide +kernel)⟩
theorem lw_p37 : lw_okq (⟨"RingVillage$Search", "isInBest", "(I)Z"⟩, 9) := ⟨⟨by decide +kernel, by decide +kernel⟩, List.mem_of_getElem? (i := 251) (by decide +kernel), List.mem_of_getElem? (i := 1002) (by decide +kernel), List.mem_of_getElem? (i := 1003) (by decide +kernel)⟩
theorem lw_p38 : lw_okq (⟨"RingVillage", "figures", "(II)Z"⟩, 11) := ⟨⟨by decide +kernel, by decide +kernel⟩, List.mem_of_getElem? (i := 23) (by decide +kernel), List.mem_of_getElem? (i := 1029) (by decide +kernel), List.mem_of_getElem? (i := 1030) (by decide +kernel)⟩
theorem lw_p39 : lw_okq (⟨"RingVillage$OneByOne", "payFees", "(LRingVillage$Village;LRingVillage$Search;I)V"⟩, 3) := ⟨⟨by decide +kernel, by decide +kernel⟩, List.mem_of_getElem? (i := 346) (by decide +kernel), List.mem_of_getElem? (i := 1046) (by decide +kernel), List.mem_of_getElem? (i := 1047) (by decide +kernel)⟩
theorem lw_p40 : lw_okq (⟨"RingVillage$Wishes", "takeVillage", "(LRingVillage$Village;)V"⟩, 9) := ⟨⟨by decide +kernel, by decide +kernel⟩, List.mem_of_getElem? (i := 293) (by decide +kernel), List.mem_of_getElem? (i := 1059) (by decide +kernel), List.mem_of_getElem? (i := 1060) (by decide +kernel)⟩
theorem lw_p41 : lw_okq (⟨"RingVillage$Flow", "findWay", "(II)Z"⟩, 3) := ⟨⟨by decide +kernel, by decide +kernel⟩, List.mem_of_getElem? (i := 301) (by decide +kernel), List.mem_of_getElem? (i := 1084) (by decide +kernel), List.mem_of_getElem? (i := 1085) (by decide +kernel)⟩
theorem lw_p42 : lw_okq (⟨"RingVillage$Flow", "pushAlong", "(II)I"⟩, 3) := ⟨⟨by decide +kernel, by decide +kernel⟩, List.mem_of_getElem? (i := 301) (by decide +kernel), List.mem_of_getElem? (i := 1088) (by decide +kernel), List.mem_of_getElem? (i := 1089) (by decide +kernel)⟩
theorem lw_p43 : lw_okq (⟨"RingVillage", "loadWants", "(IIII)Z"⟩, 11) := ⟨⟨by decide +kernel, by decide +kernel⟩, List.mem_of_getElem? (i := 23) (by decide +kernel), List.mem_of_getElem? (i := 1097) (by decide +kernel), List.mem_of_getElem? (i := 1098) (by decide +kernel)⟩
theorem lw_p44 : lw_okq (⟨"RingVillage$Wishes", "ask", "(I)I"⟩, 9) := ⟨⟨by decide +kernel, by decide +kernel⟩, List.mem_of_getElem? (i := 293) (by decide +kernel), List.mem_of_getElem? (i := 1105) (by decide +kernel), List.mem_of_getElem? (i := 1106) (by decide +kernel)⟩
theorem lw_p45 : lw_okq (⟨"RingVillage$Wishes", "unmet", "(I)I"⟩, 9) := ⟨⟨by decide +kernel, by decide +kernel⟩, List.mem_of_getElem? (i := 293) (by decide +kernel), List.mem_of_getElem? (i := 1112) (by decide +kernel), List.mem_of_getElem? (i := 1113) (by decide +kernel)⟩
theorem lw_p46 : lw_okq (⟨"RingVillage", "loadWishes", "(III)Z"⟩, 11) := ⟨⟨by decide +kernel, by decide +kernel⟩, List.mem_of_getElem? (i := 23) (by decide +kernel), List.mem_of_getElem? (i := 1120) (by decide +kernel), List.mem_of_getElem? (i := 1121) (by decide +kernel)⟩
theorem lw_p47 : lw_okq (⟨"RingVillage$Wishes", "isBetter", "(II)Z"⟩, 9) := ⟨⟨by decide +kernel, by decide +kernel⟩, List.mem_of_getElem? (i := 293) (by decide +kernel), List.mem_of_getElem? (i := 1128) (by decide +kernel), List.mem_of_getElem? (i := 1129) (by decide +kernel)⟩
def lw_privs_3 : List (MethodName × Nat) := [(⟨"RingVillage$Search", "consider", "(I)V"⟩, 9), (⟨"RingVillage$Search", "isBetter", "(IIJ)Z"⟩, 9), (⟨"RingVillage", "loadWant", "(IIII)Z"⟩, 11), (⟨"RingVillage$State", "nextFromAll", "(II)I"⟩, 6), (⟨"RingVillage$State", "nextFrom", "(II)I"⟩, 6), (⟨"RingVillage$Search", "isInBest", "(I)Z"⟩, 9), (⟨"RingVillage", "figures", "(II)Z"⟩, 11), (⟨"RingVillage$OneByOne", "payFees", "(LRingVillage$Village;LRingVillage$Search;I)V"⟩, 3), (⟨"RingVillage$Wishes", "takeVillage", "(LRingVillage$Village;)V"⟩, 9), (⟨"RingVillage$Flow", "findWay", "(II)Z"⟩, 3), (⟨"RingVillage$Flow", "pushAlong", "(II)I"⟩, 3), (⟨"RingVillage", "loadWants", "(IIII)Z"⟩, 11), (⟨"RingVillage$Wishes", "ask", "(I)I"⟩, 9), (⟨"RingVillage$Wishes", "unmet", "(I)I"⟩, 9), (⟨"RingVillage", "loadWishes", "(III)Z"⟩, 11), (⟨"RingVillage$Wishes", "isBetter", "(II)Z"⟩, 9)]
theorem lw_r3 : ∀ q ∈ lw_privs_3, lw_okq q := List.forall_mem_cons.mpr ⟨lw_p32, List.forall_mem_cons.mpr ⟨lw_p33, List.forall_mem_cons.mpr ⟨lw_p34, List.forall_mem_cons.mpr ⟨lw_p35, List.forall_mem_cons.mpr ⟨lw_p36, List.forall_mem_cons.mpr ⟨lw_p37, List.forall_mem_cons.mpr ⟨lw_p38, List.forall_mem_cons.mpr ⟨lw_p39, List.forall_mem_cons.mpr ⟨lw_p40, List.forall_mem_cons.mpr ⟨lw_p41, List.forall_mem_cons.mpr ⟨lw_p42, List.forall_mem_cons.mpr ⟨lw_p43, List.forall_mem_cons.mpr ⟨lw_p44, List.forall_mem_cons.mpr ⟨lw_p45, List.forall_mem_cons.mpr ⟨lw_p46, List.forall_mem_cons.mpr ⟨lw_p47, fun _ h => absurd h List.not_mem_nil⟩⟩⟩⟩⟩⟩⟩⟩⟩⟩⟩⟩⟩⟩⟩⟩
theorem lw_p48 : lw_okq (⟨"RingVillage$Wishes", "setRooms", "(I)V"⟩, 9) := ⟨⟨by decide +kernel, by decide +kernel⟩, List.mem_of_getElem? (i := 293) (by decide +kernel), List.mem_of_getElem? (i := 1172) (by decide +kernel), List.mem_of_getElem? (i := 1173) (by decide +kernel)⟩
theorem lw_p49 : lw_okq (⟨"RingVillageModel", "isOf", "(II)Z"⟩, 36) := ⟨⟨by decide +kernel, by decide +kernel⟩, List.mem_of_getElem? (i := 1216) (by decide +kernel), List.mem_of_getElem? (i := 1346) (by decide +kernel), List.mem_of_getElem? (i := 1347) (by decide +kernel)⟩
theorem lw_p50 : lw_okq (⟨"RingVillageModel", "advance", "()V"⟩, 36) := ⟨⟨by decide +kernel, by decide +kernel⟩, List.mem_of_getElem? (i := 1216) (by decide +kernel), List.mem_of_getElem? (i := 1350) (by decide +kernel), List.mem_of_getElem? (i := 1351) (by decide +kernel)⟩
theorem lw_p51 : lw_okq (⟨"RingVillageModel", "byteAt", "(I)I"⟩, 36) := ⟨⟨by decide +kernel, by decide +kernel⟩, List.mem_of_getElem? (i := 1216) (by decide +kernel), List.mem_of_getElem? (i := 1354) (by decide +kernel), List.mem_of_getElem? (i := 1355) (by decide +kernel)⟩
theorem lw_p52 : lw_okq (⟨"RingVillageModel", "villageLine", "()V"⟩, 36) := ⟨⟨by decide +kernel, by decide +kernel⟩, List.mem_of_getElem? (i := 1216) (by decide +kernel), List.mem_of_getElem? (i := 1371) (by decide +kernel), List.mem_of_getElem? (i := 1372) (by decide +kernel)⟩
theorem lw_p53 : lw_okq (⟨"RingVillageModel", "takes", "(II)I"⟩, 36) := ⟨⟨by decide +kernel, by decide +kernel⟩, List.mem_of_getElem? (i := 1216) (by decide +kernel), List.mem_of_getElem? (i := 1375) (by decide +kernel), List.mem_of_getElem? (i := 1376) (by decide +kernel)⟩
theorem lw_p54 : lw_okq (⟨"RingVillageModel", "ends", "()V"⟩, 36) := ⟨⟨by decide +kernel, by decide +kernel⟩, List.mem_of_getElem? (i := 1216) (by decide +kernel), List.mem_of_getElem? (i := 1379) (by decide +kernel), List.mem_of_getElem? (i := 1380) (by decide +kernel)⟩
theorem lw_p55 : lw_okq (⟨"RingVillageModel", "numbered", "(II)I"⟩, 36) := ⟨⟨by decide +kernel, by decide +kernel⟩, List.mem_of_getElem? (i := 1216) (by decide +kernel), List.mem_of_getElem? (i := 1383) (by decide +kernel), List.mem_of_getElem? (i := 1384) (by decide +kernel)⟩
theorem lw_p56 : lw_okq (⟨"RingVillageModel", "also", "(II)V"⟩, 36) := ⟨⟨by decide +kernel, by decide +kernel⟩, List.mem_of_getElem? (i := 1216) (by decide +kernel), List.mem_of_getElem? (i := 1387) (by decide +kernel), List.mem_of_getElem? (i := 1388) (by decide +kernel)⟩
theorem lw_p57 : lw_okq (⟨"RingVillageModel", "person", "(I)I"⟩, 36) := ⟨⟨by decide +kernel, by decide +kernel⟩, List.mem_of_getElem? (i := 1216) (by decide +kernel), List.mem_of_getElem? (i := 1391) (by decide +kernel), List.mem_of_getElem? (i := 1392) (by decide +kernel)⟩
theorem lw_p58 : lw_okq (⟨"RingVillageModel", "wantLine", "(I)V"⟩, 36) := ⟨⟨by decide +kernel, by decide +kernel⟩, List.mem_of_getElem? (i := 1216) (by decide +kernel), List.mem_of_getElem? (i := 1395) (by decide +kernel), List.mem_of_getElem? (i := 1396) (by decide +kernel)⟩
theorem lw_p59 : lw_okq (⟨"RingVillageModel", "endsLine", "()V"⟩, 36) := ⟨⟨by decide +kernel, by decide +kernel⟩, List.mem_of_getElem? (i := 1216) (by decide +kernel), List.mem_of_getElem? (i := 1399) (by decide +kernel), List.mem_of_getElem? (i := 1400) (by decide +kernel)⟩
theorem lw_p60 : lw_okq (⟨"RingVillageModel", "rowLine", "()V"⟩, 36) := ⟨⟨by decide +kernel, by decide +kernel⟩, List.mem_of_getElem? (i := 1216) (by decide +kernel), List.mem_of_getElem? (i := 1403) (by decide +kernel), List.mem_of_getElem? (i := 1404) (by decide +kernel)⟩
theorem lw_p61 : lw_okq (⟨"RingVillageModel", "readRing", "()V"⟩, 36) := ⟨⟨by decide +kernel, by decide +kernel⟩, List.mem_of_getElem? (i := 1216) (by decide +kernel), List.mem_of_getElem? (i := 1407) (by decide +kernel), List.mem_of_getElem? (i := 1408) (by decide +kernel)⟩
theorem lw_p62 : lw_okq (⟨"RingVillageModel", "isPerson", "(II)Z"⟩, 36) := ⟨⟨by decide +kernel, by decide +kernel⟩, List.mem_of_getElem? (i := 1216) (by decide +kernel), List.mem_of_getElem? (i := 1426) (by decide +kernel), List.mem_of_getElem? (i := 1427) (by decide +kernel)⟩
theorem lw_p63 : lw_okq (⟨"RingVillageModel", "isWant", "(II)Z"⟩, 36) := ⟨⟨by decide +kernel, by decide +kernel⟩, List.mem_of_getElem? (i := 1216) (by decide +kernel), List.mem_of_getElem? (i := 1434) (by decide +kernel), List.mem_of_getElem? (i := 1435) (by decide +kernel)⟩
def lw_privs_4 : List (MethodName × Nat) := [(⟨"RingVillage$Wishes", "setRooms", "(I)V"⟩, 9), (⟨"RingVillageModel", "isOf", "(II)Z"⟩, 36), (⟨"RingVillageModel", "advance", "()V"⟩, 36), (⟨"RingVillageModel", "byteAt", "(I)I"⟩, 36), (⟨"RingVillageModel", "villageLine", "()V"⟩, 36), (⟨"RingVillageModel", "takes", "(II)I"⟩, 36), (⟨"RingVillageModel", "ends", "()V"⟩, 36), (⟨"RingVillageModel", "numbered", "(II)I"⟩, 36), (⟨"RingVillageModel", "also", "(II)V"⟩, 36), (⟨"RingVillageModel", "person", "(I)I"⟩, 36), (⟨"RingVillageModel", "wantLine", "(I)V"⟩, 36), (⟨"RingVillageModel", "endsLine", "()V"⟩, 36), (⟨"RingVillageModel", "rowLine", "()V"⟩, 36), (⟨"RingVillageModel", "readRing", "()V"⟩, 36), (⟨"RingVillageModel", "isPerson", "(II)Z"⟩, 36), (⟨"RingVillageModel", "isWant", "(II)Z"⟩, 36)]
theorem lw_r4 : ∀ q ∈ lw_privs_4, lw_okq q := List.forall_mem_cons.mpr ⟨lw_p48, List.forall_mem_cons.mpr ⟨lw_p49, List.forall_mem_cons.mpr ⟨lw_p50, List.forall_mem_cons.mpr ⟨lw_p51, List.forall_mem_cons.mpr ⟨lw_p52, List.forall_mem_cons.mpr ⟨lw_p53, List.forall_mem_cons.mpr ⟨lw_p54, List.forall_mem_cons.mpr ⟨lw_p55, List.forall_mem_cons.mpr ⟨lw_p56, List.forall_mem_cons.mpr ⟨lw_p57, List.forall_mem_cons.mpr ⟨lw_p58, List.forall_mem_cons.mpr ⟨lw_p59, List.forall_mem_cons.mpr ⟨lw_p60, List.forall_mem_cons.mpr ⟨lw_p61, List.forall_mem_cons.mpr ⟨lw_p62, List.forall_mem_cons.mpr ⟨lw_p63, fun _ h => absurd h List.not_mem_nil⟩⟩⟩⟩⟩⟩⟩⟩⟩⟩⟩⟩⟩⟩⟩⟩
theorem lw_p64 : lw_okq (⟨"RingVillageModel", "wantOf", "(III)I"⟩, 36) := ⟨⟨by decide +kernel, by decide +kernel⟩, List.mem_of_getElem? (i := 1216) (by decide +kernel), List.mem_of_getElem? (i := 1438) (by decide +kernel), List.mem_of_getElem? (i := 1439) (by decide +kernel)⟩
theorem lw_p65 : lw_okq (⟨"RingVillageModel", "areBoth", "(II)Z"⟩, 36) := ⟨⟨by decide +kernel, by decide +kernel⟩, List.mem_of_getElem? (i := 1216) (by decide +kernel), List.mem_of_getElem? (i := 1450) (by decide +kernel), List.mem_of_getElem? (i := 1451) (by decide +kernel)⟩
theorem lw_p66 : lw_okq (⟨"RingVillageModel", "runs", "(III)I"⟩, 36) := ⟨⟨by decide +kernel, by decide +kernel⟩, List.mem_of_getElem? (i := 1216) (by decide +kernel), List.mem_of_getElem? (i := 1454) (by decide +kernel), List.mem_of_getElem? (i := 1455) (by decide +kernel)⟩
theorem lw_p67 : lw_okq (⟨"RingVillageModel", "anew", "()V"⟩, 36) := ⟨⟨by decide +kernel, by decide +kernel⟩, List.mem_of_getElem? (i := 1216) (by decide +kernel), List.mem_of_getElem? (i := 1458) (by decide +kernel), List.mem_of_getElem? (i := 1459) (by decide +kernel)⟩
theorem lw_p68 : lw_okq (⟨"RingVillageModel", "does", "(II)Z"⟩, 36) := ⟨⟨by decide +kernel, by decide +kernel⟩, List.mem_of_getElem? (i := 1216) (by decide +kernel), List.mem_of_getElem? (i := 1462) (by decide +kernel), List.mem_of_getElem? (i := 1463) (by decide +kernel)⟩
theorem lw_p69 : lw_okq (⟨"RingVillageModel", "roomOf", "(III)I"⟩, 36) := ⟨⟨by decide +kernel, by decide +kernel⟩, List.mem_of_getElem? (i := 1216) (by decide +kernel), List.mem_of_getElem? (i := 1466) (by decide +kernel), List.mem_of_getElem? (i := 1467) (by decide +kernel)⟩
theorem lw_p70 : lw_okq (⟨"RingVillageModel", "owed", "(II)I"⟩, 36) := ⟨⟨by decide +kernel, by decide +kernel⟩, List.mem_of_getElem? (i := 1216) (by decide +kernel), List.mem_of_getElem? (i := 1470) (by decide +kernel), List.mem_of_getElem? (i := 1471) (by decide +kernel)⟩
theorem lw_p71 : lw_okq (⟨"RingVillageModel", "begins", "(II)Z"⟩, 36) := ⟨⟨by decide +kernel, by decide +kernel⟩, List.mem_of_getElem? (i := 1216) (by decide +kernel), List.mem_of_getElem? (i := 1474) (by decide +kernel), List.mem_of_getElem? (i := 1475) (by decide +kernel)⟩
theorem lw_p72 : lw_okq (⟨"RingVillageModel", "whoIn", "(II)I"⟩, 36) := ⟨⟨by decide +kernel, by decide +kernel⟩, List.mem_of_getElem? (i := 1216) (by decide +kernel), List.mem_of_getElem? (i := 1478) (by decide +kernel), List.mem_of_getElem? (i := 1479) (by decide +kernel)⟩
theorem lw_p73 : lw_okq (⟨"RingVillageModel", "nextIn", "(II)I"⟩, 36) := ⟨⟨by decide +kernel, by decide +kernel⟩, List.mem_of_getElem? (i := 1216) (by decide +kernel), List.mem_of_getElem? (i := 1482) (by decide +kernel), List.mem_of_getElem? (i := 1483) (by decide +kernel)⟩
theorem lw_p74 : lw_okq (⟨"RingVillageModel", "isOpen", "(I)Z"⟩, 36) := ⟨⟨by decide +kernel, by decide +kernel⟩, List.mem_of_getElem? (i := 1216) (by decide +kernel), List.mem_of_getElem? (i := 1486) (by decide +kernel), List.mem_of_getElem? (i := 1487) (by decide +kernel)⟩
theorem lw_p75 : lw_okq (⟨"RingVillageModel", "strikes", "(I)V"⟩, 36) := ⟨⟨by decide +kernel, by decide +kernel⟩, List.mem_of_getElem? (i := 1216) (by decide +kernel), List.mem_of_getElem? (i := 1490) (by decide +kernel), List.mem_of_getElem? (i := 1491) (by decide +kernel)⟩
theorem lw_p76 : lw_okq (⟨"RingVillageModel", "fails", "(I)V"⟩, 36) := ⟨⟨by decide +kernel, by decide +kernel⟩, List.mem_of_getElem? (i := 1216) (by decide +kernel), List.mem_of_getElem? (i := 1494) (by decide +kernel), List.mem_of_getElem? (i := 1495) (by decide +kernel)⟩
theorem lw_p77 : lw_okq (⟨"RingVillageModel", "isInRing", "(II)Z"⟩, 36) := ⟨⟨by decide +kernel, by decide +kernel⟩, List.mem_of_getElem? (i := 1216) (by decide +kernel), List.mem_of_getElem? (i := 1498) (by decide +kernel), List.mem_of_getElem? (i := 1499) (by decide +kernel)⟩
theorem lw_p78 : lw_okq (⟨"RingVillageModel", "passes", "()V"⟩, 36) := ⟨⟨by decide +kernel, by decide +kernel⟩, List.mem_of_getElem? (i := 1216) (by decide +kernel), List.mem_of_getElem? (i := 1502) (by decide +kernel), List.mem_of_getElem? (i := 1503) (by decide +kernel)⟩
theorem lw_p79 : lw_okq (⟨"RingVillageModel", "isLawful", "(I)Z"⟩, 36) := ⟨⟨by decide +kernel, by decide +kernel⟩, List.mem_of_getElem? (i := 1216) (by decide +kernel), List.mem_of_getElem? (i := 1506) (by decide +kernel), List.mem_of_getElem? (i := 1507) (by decide +kernel)⟩
def lw_privs_5 : List (MethodName × Nat) := [(⟨"RingVillageModel", "wantOf", "(III)I"⟩, 36), (⟨"RingVillageModel", "areBoth", "(II)Z"⟩, 36), (⟨"RingVillageModel", "runs", "(III)I"⟩, 36), (⟨"RingVillageModel", "anew", "()V"⟩, 36), (⟨"RingVillageModel", "does", "(II)Z"⟩, 36), (⟨"RingVillageModel", "roomOf", "(III)I"⟩, 36), (⟨"RingVillageModel", "owed", "(II)I"⟩, 36), (⟨"RingVillageModel", "begins", "(II)Z"⟩, 36), (⟨"RingVillageModel", "whoIn", "(II)I"⟩, 36), (⟨"RingVillageModel", "nextIn", "(II)I"⟩, 36), (⟨"RingVillageModel", "isOpen", "(I)Z"⟩, 36), (⟨"RingVillageModel", "strikes", "(I)V"⟩, 36), (⟨"RingVillageModel", "fails", "(I)V"⟩, 36), (⟨"RingVillageModel", "isInRing", "(II)Z"⟩, 36), (⟨"RingVillageModel", "passes", "()V"⟩, 36), (⟨"RingVillageModel", "isLawful", "(I)Z"⟩, 36)]
theorem lw_r5 : ∀ q ∈ lw_privs_5, lw_okq q := List.forall_mem_cons.mpr ⟨lw_p64, List.forall_mem_cons.mpr ⟨lw_p65, List.forall_mem_cons.mpr ⟨lw_p66, List.forall_mem_cons.mpr ⟨lw_p67, List.forall_mem_cons.mpr ⟨lw_p68, List.forall_mem_cons.mpr ⟨lw_p69, List.forall_mem_cons.mpr ⟨lw_p70, List.forall_mem_cons.mpr ⟨lw_p71, List.forall_mem_cons.mpr ⟨lw_p72, List.forall_mem_cons.mpr ⟨lw_p73, List.forall_mem_cons.mpr ⟨lw_p74, List.forall_mem_cons.mpr ⟨lw_p75, List.forall_mem_cons.mpr ⟨lw_p76, List.forall_mem_cons.mpr ⟨lw_p77, List.forall_mem_cons.mpr ⟨lw_p78, List.forall_mem_cons.mpr ⟨lw_p79, fun _ h => absurd h List.not_mem_nil⟩⟩⟩⟩⟩⟩⟩⟩⟩⟩⟩⟩⟩⟩⟩⟩
theorem lw_p80 : lw_okq (⟨"RingVillageModel", "overOf", "(II)I"⟩, 36) := ⟨⟨by decide +kernel, by decide +kernel⟩, List.mem_of_getElem? (i := 1216) (by decide +kernel), List.mem_of_getElem? (i := 1510) (by decide +kernel), List.mem_of_getElem? (i := 1511) (by decide +kernel)⟩
theorem lw_p81 : lw_okq (⟨"RingVillageModel", "areTwo", "(IIIII)Z"⟩, 36) := ⟨⟨by decide +kernel, by decide +kernel⟩, List.mem_of_getElem? (i := 1216) (by decide +kernel), List.mem_of_getElem? (i := 1522) (by decide +kernel), List.mem_of_getElem? (i := 1523) (by decide +kernel)⟩
theorem lw_p82 : lw_okq (⟨"RingVillageModel", "isState", "(III)Z"⟩, 36) := ⟨⟨by decide +kernel, by decide +kernel⟩, List.mem_of_getElem? (i := 1216) (by decide +kernel), List.mem_of_getElem? (i := 1526) (by decide +kernel), List.mem_of_getElem? (i := 1527) (by decide +kernel)⟩
theorem lw_p83 : lw_okq (⟨"RingVillageModel", "openOnes", "()I"⟩, 36) := ⟨⟨by decide +kernel, by decide +kernel⟩, List.mem_of_getElem? (i := 1216) (by decide +kernel), List.mem_of_getElem? (i := 1547) (by decide +kernel), List.mem_of_getElem? (i := 1548) (by decide +kernel)⟩
theorem lw_p84 : lw_okq (⟨"RingVillageModel", "left", "()I"⟩, 36) := ⟨⟨by decide +kernel, by decide +kernel⟩, List.mem_of_getElem? (i := 1216) (by decide +kernel), List.mem_of_getElem? (i := 1551) (by decide +kernel), List.mem_of_getElem? (i := 1552) (by decide +kernel)⟩
theorem lw_p85 : lw_okq (⟨"RingVillageModel", "trust", "(I)I"⟩, 36) := ⟨⟨by decide +kernel, by decide +kernel⟩, List.mem_of_getElem? (i := 1216) (by decide +kernel), List.mem_of_getElem? (i := 1555) (by decide +kernel), List.mem_of_getElem? (i := 1556) (by decide +kernel)⟩
theorem lw_p86 : lw_okq (⟨"RingVillageModel", "net", "()I"⟩, 36) := ⟨⟨by decide +kernel, by decide +kernel⟩, List.mem_of_getElem? (i := 1216) (by decide +kernel), List.mem_of_getElem? (i := 1559) (by decide +kernel), List.mem_of_getElem? (i := 1560) (by decide +kernel)⟩
theorem lw_p87 : lw_okq (⟨"RingVillageModel", "parted", "(I)I"⟩, 36) := ⟨⟨by decide +kernel, by decide +kernel⟩, List.mem_of_getElem? (i := 1216) (by decide +kernel), List.mem_of_getElem? (i := 1563) (by decide +kernel), List.mem_of_getElem? (i := 1564) (by decide +kernel)⟩
theorem lw_p88 : lw_okq (⟨"RingVillageModel", "parts", "()V"⟩, 36) := ⟨⟨by decide +kernel, by decide +kernel⟩, List.mem_of_getElem? (i := 1216) (by decide +kernel), List.mem_of_getElem? (i := 1567) (by decide +kernel), List.mem_of_getElem? (i := 1568) (by decide +kernel)⟩
theorem lw_p89 : lw_okq (⟨"RingVillageModel", "firstOwing", "(I)I"⟩, 36) := ⟨⟨by decide +kernel, by decide +kernel⟩, List.mem_of_getElem? (i := 1216) (by decide +kernel), List.mem_of_getElem? (i := 1571) (by decide +kernel), List.mem_of_getElem? (i := 1572) (by decide +kernel)⟩
theorem lw_p90 : lw_okq (⟨"RingVillageModel", "couples", "()I"⟩, 36) := ⟨⟨by decide +kernel, by decide +kernel⟩, List.mem_of_getElem? (i := 1216) (by decide +kernel), List.mem_of_getElem? (i := 1576) (by decide +kernel), List.mem_of_getElem? (i := 1577) (by decide +kernel)⟩
theorem lw_p91 : lw_okq (⟨"RingVillageModel", "alone", "(I)I"⟩, 36) := ⟨⟨by decide +kernel, by decide +kernel⟩, List.mem_of_getElem? (i := 1216) (by decide +kernel), List.mem_of_getElem? (i := 1580) (by decide +kernel), List.mem_of_getElem? (i := 1581) (by decide +kernel)⟩
theorem lw_p92 : lw_okq (⟨"RingVillageModel", "nearTo", "(II)I"⟩, 36) := ⟨⟨by decide +kernel, by decide +kernel⟩, List.mem_of_getElem? (i := 1216) (by decide +kernel), List.mem_of_getElem? (i := 1584) (by decide +kernel), List.mem_of_getElem? (i := 1585) (by decide +kernel)⟩
theorem lw_p93 : lw_okq (⟨"RingVillageModel", "groups", "(I)I"⟩, 36) := ⟨⟨by decide +kernel, by decide +kernel⟩, List.mem_of_getElem? (i := 1216) (by decide +kernel), List.mem_of_getElem? (i := 1588) (by decide +kernel), List.mem_of_getElem? (i := 1589) (by decide +kernel)⟩
theorem lw_p94 : lw_okq (⟨"RingVillageModel", "worst", "(I)I"⟩, 36) := ⟨⟨by decide +kernel, by decide +kernel⟩, List.mem_of_getElem? (i := 1216) (by decide +kernel), List.mem_of_getElem? (i := 1592) (by decide +kernel), List.mem_of_getElem? (i := 1593) (by decide +kernel)⟩
theorem lw_p95 : lw_okq (⟨"RingVillageModel", "isAsked", "(IIII)Z"⟩, 36) := ⟨⟨by decide +kernel, by decide +kernel⟩, List.mem_of_getElem? (i := 1216) (by decide +kernel), List.mem_of_getElem? (i := 1604) (by decide +kernel), List.mem_of_getElem? (i := 1605) (by decide +kernel)⟩
def lw_privs_6 : List (MethodName × Nat) := [(⟨"RingVillageModel", "overOf", "(II)I"⟩, 36), (⟨"RingVillageModel", "areTwo", "(IIIII)Z"⟩, 36), (⟨"RingVillageModel", "isState", "(III)Z"⟩, 36), (⟨"RingVillageModel", "openOnes", "()I"⟩, 36), (⟨"RingVillageModel", "left", "()I"⟩, 36), (⟨"RingVillageModel", "trust", "(I)I"⟩, 36), (⟨"RingVillageModel", "net", "()I"⟩, 36), (⟨"RingVillageModel", "parted", "(I)I"⟩, 36), (⟨"RingVillageModel", "parts", "()V"⟩, 36), (⟨"RingVillageModel", "firstOwing", "(I)I"⟩, 36), (⟨"RingVillageModel", "couples", "()I"⟩, 36), (⟨"RingVillageModel", "alone", "(I)I"⟩, 36), (⟨"RingVillageModel", "nearTo", "(II)I"⟩, 36), (⟨"RingVillageModel", "groups", "(I)I"⟩, 36), (⟨"RingVillageModel", "worst", "(I)I"⟩, 36), (⟨"RingVillageModel", "isAsked", "(IIII)Z"⟩, 36)]
theorem lw_r6 : ∀ q ∈ lw_privs_6, lw_okq q := List.forall_mem_cons.mpr ⟨lw_p80, List.forall_mem_cons.mpr ⟨lw_p81, List.forall_mem_cons.mpr ⟨lw_p82, List.forall_mem_cons.mpr ⟨lw_p83, List.forall_mem_cons.mpr ⟨lw_p84, List.forall_mem_cons.mpr ⟨lw_p85, List.forall_mem_cons.mpr ⟨lw_p86, List.forall_mem_cons.mpr ⟨lw_p87, List.forall_mem_cons.mpr ⟨lw_p88, List.forall_mem_cons.mpr ⟨lw_p89, List.forall_mem_cons.mpr ⟨lw_p90, List.forall_mem_cons.mpr ⟨lw_p91, List.forall_mem_cons.mpr ⟨lw_p92, List.forall_mem_cons.mpr ⟨lw_p93, List.forall_mem_cons.mpr ⟨lw_p94, List.forall_mem_cons.mpr ⟨lw_p95, fun _ h => absurd h List.not_mem_nil⟩⟩⟩⟩⟩⟩⟩⟩⟩⟩⟩⟩⟩⟩⟩⟩
theorem lw_p96 : lw_okq (⟨"RingVillageModel", "finds", "(IIIII)Z"⟩, 36) := ⟨⟨by decide +kernel, by decide +kernel⟩, List.mem_of_getElem? (i := 1216) (by decide +kernel), List.mem_of_getElem? (i := 1608) (by decide +kernel), List.mem_of_getElem? (i := 1609) (by decide +kernel)⟩
theorem lw_p97 : lw_okq (⟨"RingVillageModel", "isRound", "(IIII)Z"⟩, 36) := ⟨⟨by decide +kernel, by decide +kernel⟩, List.mem_of_getElem? (i := 1216) (by decide +kernel), List.mem_of_getElem? (i := 1615) (by decide +kernel), List.mem_of_getElem? (i := 1616) (by decide +kernel)⟩
theorem lw_p98 : lw_okq (⟨"RingVillageModel", "hasRoom", "(III)Z"⟩, 36) := ⟨⟨by decide +kernel, by decide +kernel⟩, List.mem_of_getElem? (i := 1216) (by decide +kernel), List.mem_of_getElem? (i := 1619) (by decide +kernel), List.mem_of_getElem? (i := 1620) (by decide +kernel)⟩
theorem lw_p99 : lw_okq (⟨"RingVillageModel", "costOf", "(III)I"⟩, 36) := ⟨⟨by decide +kernel, by decide +kernel⟩, List.mem_of_getElem? (i := 1216) (by decide +kernel), List.mem_of_getElem? (i := 1623) (by decide +kernel), List.mem_of_getElem? (i := 1624) (by decide +kernel)⟩
theorem lw_p100 : lw_okq (⟨"RingVillageModel", "standing", "(II)J"⟩, 36) := ⟨⟨by decide +kernel, by decide +kernel⟩, List.mem_of_getElem? (i := 1216) (by decide +kernel), List.mem_of_getElem? (i := 1627) (by decide +kernel), List.mem_of_getElem? (i := 1628) (by decide +kernel)⟩
theorem lw_p101 : lw_okq (⟨"RingVillageModel", "reached", "(III)I"⟩, 36) := ⟨⟨by decide +kernel, by decide +kernel⟩, List.mem_of_getElem? (i := 1216) (by decide +kernel), List.mem_of_getElem? (i := 1645) (by decide +kernel), List.mem_of_getElem? (i := 1646) (by decide +kernel)⟩
theorem lw_p102 : lw_okq (⟨"RingVillageModel", "clears", "()V"⟩, 36) := ⟨⟨by decide +kernel, by decide +kernel⟩, List.mem_of_getElem? (i := 1216) (by decide +kernel), List.mem_of_getElem? (i := 1653) (by decide +kernel), List.mem_of_getElem? (i := 1654) (by decide +kernel)⟩
theorem lw_p103 : lw_okq (⟨"RingVillageModel", "evens", "()Z"⟩, 36) := ⟨⟨by decide +kernel, by decide +kernel⟩, List.mem_of_getElem? (i := 1216) (by decide +kernel), List.mem_of_getElem? (i := 1657) (by decide +kernel), List.mem_of_getElem? (i := 1658) (by decide +kernel)⟩
theorem lw_p104 : lw_okq (⟨"RingVillageModel", "wayTo", "()I"⟩, 36) := ⟨⟨by decide +kernel, by decide +kernel⟩, List.mem_of_getElem? (i := 1216) (by decide +kernel), List.mem_of_getElem? (i := 1661) (by decide +kernel), List.mem_of_getElem? (i := 1662) (by decide +kernel)⟩
theorem lw_p105 : lw_okq (⟨"RingVillageModel", "spare", "(II)I"⟩, 36) := ⟨⟨by decide +kernel, by decide +kernel⟩, List.mem_of_getElem? (i := 1216) (by decide +kernel), List.mem_of_getElem? (i := 1665) (by decide +kernel), List.mem_of_getElem? (i := 1666) (by decide +kernel)⟩
theorem lw_p106 : lw_okq (⟨"RingVillageModel", "push", "(III)V"⟩, 36) := ⟨⟨by decide +kernel, by decide +kernel⟩, List.mem_of_getElem? (i := 1216) (by decide +kernel), List.mem_of_getElem? (i := 1669) (by decide +kernel), List.mem_of_getElem? (i := 1670) (by decide +kernel)⟩
theorem lw_p107 : lw_okq (⟨"RingVillageModel", "areWants", "(II)Z"⟩, 36) := ⟨⟨by decide +kernel, by decide +kernel⟩, List.mem_of_getElem? (i := 1216) (by decide +kernel), List.mem_of_getElem? (i := 1677) (by decide +kernel), List.mem_of_getElem? (i := 1678) (by decide +kernel)⟩
theorem lw_p108 : lw_okq (⟨"RingVillageModel", "canHave", "(IIII)Z"⟩, 36) := ⟨⟨by decide +kernel, by decide +kernel⟩, List.mem_of_getElem? (i := 1216) (by decide +kernel), List.mem_of_getElem? (i := 1681) (by decide +kernel), List.mem_of_getElem? (i := 1682) (by decide +kernel)⟩
theorem lw_p109 : lw_okq (⟨"RingVillageModel", "asks", "(II)V"⟩, 36) := ⟨⟨by decide +kernel, by decide +kernel⟩, List.mem_of_getElem? (i := 1216) (by decide +kernel), List.mem_of_getElem? (i := 1685) (by decide +kernel), List.mem_of_getElem? (i := 1686) (by decide +kernel)⟩
theorem lw_p110 : lw_okq (⟨"RingVillageModel", "mostOf", "(III)I"⟩, 36) := ⟨⟨by decide +kernel, by decide +kernel⟩, List.mem_of_getElem? (i := 1216) (by decide +kernel), List.mem_of_getElem? (i := 1693) (by decide +kernel), List.mem_of_getElem? (i := 1694) (by decide +kernel)⟩
theorem lw_p111 : lw_okq (⟨"RingVillageModel", "worthOf", "(II)I"⟩, 36) := ⟨⟨by decide +kernel, by decide +kernel⟩, List.mem_of_getElem? (i := 1216) (by decide +kernel), List.mem_of_getElem? (i := 1697) (by decide +kernel), List.mem_of_getElem? (i := 1698) (by decide +kernel)⟩
def lw_privs_7 : List (MethodName × Nat) := [(⟨"RingVillageModel", "finds", "(IIIII)Z"⟩, 36), (⟨"RingVillageModel", "isRound", "(IIII)Z"⟩, 36), (⟨"RingVillageModel", "hasRoom", "(III)Z"⟩, 36), (⟨"RingVillageModel", "costOf", "(III)I"⟩, 36), (⟨"RingVillageModel", "standing", "(II)J"⟩, 36), (⟨"RingVillageModel", "reached", "(III)I"⟩, 36), (⟨"RingVillageModel", "clears", "()V"⟩, 36), (⟨"RingVillageModel", "evens", "()Z"⟩, 36), (⟨"RingVillageModel", "wayTo", "()I"⟩, 36), (⟨"RingVillageModel", "spare", "(II)I"⟩, 36), (⟨"RingVillageModel", "push", "(III)V"⟩, 36), (⟨"RingVillageModel", "areWants", "(II)Z"⟩, 36), (⟨"RingVillageModel", "canHave", "(IIII)Z"⟩, 36), (⟨"RingVillageModel", "asks", "(II)V"⟩, 36), (⟨"RingVillageModel", "mostOf", "(III)I"⟩, 36), (⟨"RingVillageModel", "worthOf", "(II)I"⟩, 36)]
theorem lw_r7 : ∀ q ∈ lw_privs_7, lw_okq q := List.forall_mem_cons.mpr ⟨lw_p96, List.forall_mem_cons.mpr ⟨lw_p97, List.forall_mem_cons.mpr ⟨lw_p98, List.forall_mem_cons.mpr ⟨lw_p99, List.forall_mem_cons.mpr ⟨lw_p100, List.forall_mem_cons.mpr ⟨lw_p101, List.forall_mem_cons.mpr ⟨lw_p102, List.forall_mem_cons.mpr ⟨lw_p103, List.forall_mem_cons.mpr ⟨lw_p104, List.forall_mem_cons.mpr ⟨lw_p105, List.forall_mem_cons.mpr ⟨lw_p106, List.forall_mem_cons.mpr ⟨lw_p107, List.forall_mem_cons.mpr ⟨lw_p108, List.forall_mem_cons.mpr ⟨lw_p109, List.forall_mem_cons.mpr ⟨lw_p110, List.forall_mem_cons.mpr ⟨lw_p111, fun _ h => absurd h List.not_mem_nil⟩⟩⟩⟩⟩⟩⟩⟩⟩⟩⟩⟩⟩⟩⟩⟩
theorem lw_p112 : lw_okq (⟨"RingVillageModel", "grows", "(I)V"⟩, 36) := ⟨⟨by decide +kernel, by decide +kernel⟩, List.mem_of_getElem? (i := 1216) (by decide +kernel), List.mem_of_getElem? (i := 1720) (by decide +kernel), List.mem_of_getElem? (i := 1721) (by decide +kernel)⟩
theorem lw_p113 : lw_okq (⟨"RingVillageModel", "priceOf", "(II)I"⟩, 36) := ⟨⟨by decide +kernel, by decide +kernel⟩, List.mem_of_getElem? (i := 1216) (by decide +kernel), List.mem_of_getElem? (i := 1724) (by decide +kernel), List.mem_of_getElem? (i := 1725) (by decide +kernel)⟩
theorem lw_p114 : lw_okq (⟨"RingVillageModel", "within", "(II)I"⟩, 36) := ⟨⟨by decide +kernel, by decide +kernel⟩, List.mem_of_getElem? (i := 1216) (by decide +kernel), List.mem_of_getElem? (i := 1728) (by decide +kernel), List.mem_of_getElem? (i := 1729) (by decide +kernel)⟩
theorem lw_p115 : lw_okq (⟨"RingVillageModel", "growth", "(I)I"⟩, 36) := ⟨⟨by decide +kernel, by decide +kernel⟩, List.mem_of_getElem? (i := 1216) (by decide +kernel), List.mem_of_getElem? (i := 1732) (by decide +kernel), List.mem_of_getElem? (i := 1733) (by decide +kernel)⟩
theorem lw_p116 : lw_okq (⟨"RingVillageModel", "fallsOf", "(I)I"⟩, 36) := ⟨⟨by decide +kernel, by decide +kernel⟩, List.mem_of_getElem? (i := 1216) (by decide +kernel), List.mem_of_getElem? (i := 1740) (by decide +kernel), List.mem_of_getElem? (i := 1741) (by decide +kernel)⟩
theorem lw_p117 : lw_okq (⟨"RingVillageModel", "drawn", "(I)I"⟩, 36) := ⟨⟨by decide +kernel, by decide +kernel⟩, List.mem_of_getElem? (i := 1216) (by decide +kernel), List.mem_of_getElem? (i := 1756) (by decide +kernel), List.mem_of_getElem? (i := 1757) (by decide +kernel)⟩
theorem lw_p118 : lw_okq (⟨"RingVillageModel", "oneByOne", "(II)V"⟩, 36) := ⟨⟨by decide +kernel, by decide +kernel⟩, List.mem_of_getElem? (i := 1216) (by decide +kernel), List.mem_of_getElem? (i := 1765) (by decide +kernel), List.mem_of_getElem? (i := 1766) (by decide +kernel)⟩
theorem lw_p119 : lw_okq (⟨"RingVillageModel", "worthWith", "(III)I"⟩, 36) := ⟨⟨by decide +kernel, by decide +kernel⟩, List.mem_of_getElem? (i := 1216) (by decide +kernel), List.mem_of_getElem? (i := 1777) (by decide +kernel), List.mem_of_getElem? (i := 1778) (by decide +kernel)⟩
theorem lw_p120 : lw_okq (⟨"RingVillageModel", "lentOf", "(III)I"⟩, 36) := ⟨⟨by decide +kernel, by decide +kernel⟩, List.mem_of_getElem? (i := 1216) (by decide +kernel), List.mem_of_getElem? (i := 1793) (by decide +kernel), List.mem_of_getElem? (i := 1794) (by decide +kernel)⟩
def lw_privs_8 : List (MethodName × Nat) := [(⟨"RingVillageModel", "grows", "(I)V"⟩, 36), (⟨"RingVillageModel", "priceOf", "(II)I"⟩, 36), (⟨"RingVillageModel", "within", "(II)I"⟩, 36), (⟨"RingVillageModel", "growth", "(I)I"⟩, 36), (⟨"RingVillageModel", "fallsOf", "(I)I"⟩, 36), (⟨"RingVillageModel", "drawn", "(I)I"⟩, 36), (⟨"RingVillageModel", "oneByOne", "(II)V"⟩, 36), (⟨"RingVillageModel", "worthWith", "(III)I"⟩, 36), (⟨"RingVillageModel", "lentOf", "(III)I"⟩, 36)]
theorem lw_r8 : ∀ q ∈ lw_privs_8, lw_okq q := List.forall_mem_cons.mpr ⟨lw_p112, List.forall_mem_cons.mpr ⟨lw_p113, List.forall_mem_cons.mpr ⟨lw_p114, List.forall_mem_cons.mpr ⟨lw_p115, List.forall_mem_cons.mpr ⟨lw_p116, List.forall_mem_cons.mpr ⟨lw_p117, List.forall_mem_cons.mpr ⟨lw_p118, List.forall_mem_cons.mpr ⟨lw_p119, List.forall_mem_cons.mpr ⟨lw_p120, fun _ h => absurd h List.not_mem_nil⟩⟩⟩⟩⟩⟩⟩⟩⟩
def lw_privs : List (MethodName × Nat) := lw_privs_1 ++ (lw_privs_2 ++ (lw_privs_3 ++ (lw_privs_4 ++ (lw_privs_5 ++ (lw_privs_6 ++ (lw_privs_7 ++ (lw_privs_8)))))))
def lw_tbl : List Cond := k2_sels lw_privs ++ tables_1
theorem lw_privs_ok : ∀ q ∈ lw_privs, lw_okq q := by
  show ∀ q ∈ lw_privs_1 ++ (lw_privs_2 ++ (lw_privs_3 ++ (lw_privs_4 ++ (lw_privs_5 ++ (lw_privs_6 ++ (lw_privs_7 ++ (lw_privs_8))))))), lw_okq q
  exact List.forall_mem_append.mpr ⟨lw_r1, List.forall_mem_append.mpr ⟨lw_r2, List.forall_mem_append.mpr ⟨lw_r3, List.forall_mem_append.mpr ⟨lw_r4, List.forall_mem_append.mpr ⟨lw_r5, List.forall_mem_append.mpr ⟨lw_r6, List.forall_mem_append.mpr ⟨lw_r7, lw_r8⟩⟩⟩⟩⟩⟩⟩
end
section
/-! ===== A PURE MACHINE: the same instructions over lists; a reference is a cell's place in the world; all cells lie behind b, in the order in which they were made ===== -/
abbrev pm_A : Type := List Int32 ⊕ List Int64 ⊕ List (Option Nat)
/-- a cell: an array (its type's number, contents) or an object (its class's number, fields) -/
abbrev pm_E : Type := (Nat × pm_A) ⊕ (Nat × List Value)
abbrev pm_W : Type := List pm_E
/-- cells outside the world, never written, by number: (0, ints) an array of ints, (1, bytes) an array of bytes, (2, _, i) a text whose bytes are cell i; a reference to one is .retAddr number -/
abbrev pm_X : Type := Nat → Option (Nat × List Int32 × Nat)
/-- a program: instruction at (method, pc); getfield's (class, field); putfield's (class, field, type, final); new's (class, fields at first); a call's (method, parameters); ldc; ldc2_w; anewarray's array type; a method's (locals, class, answer's type); getstatic's value; ldc's text; getfield's of a text (0 coder, 1 value); a call that the machine does itself (0 System.arraycopy, 1 max, 2 min, 3 abs of Math) -/
abbrev pm_G : Type := (Nat → Nat → Option Instr) × (Nat → Nat → Option (Nat × Nat)) × (Nat → Nat → Option (Nat × Nat × FieldType)) × (Nat → Nat → Option (Nat × List Value)) × (Nat → Nat → Option (Nat × Nat)) × (Nat → Nat → Option Int32) × (Nat → Nat → Option Int64) × (Nat → Nat → Option Nat) × (Nat → Nat × Nat × Option FieldType) × (Nat → Nat → Option Value) × (Nat → Nat → Option Nat) × (Nat → Nat → Option Nat) × (Nat → Nat → Option Nat)
abbrev pm_dec (G : pm_G) : Nat → Nat → Option Instr := G.1
abbrev pm_get (G : pm_G) : Nat → Nat → Option (Nat × Nat) := G.2.1
abbrev pm_put (G : pm_G) : Nat → Nat → Option (Nat × Nat × FieldType) := G.2.2.1
abbrev pm_new (G : pm_G) : Nat → Nat → Option (Nat × List Value) := G.2.2.2.1
abbrev pm_cal (G : pm_G) : Nat → Nat → Option (Nat × Nat) := G.2.2.2.2.1
abbrev pm_ldc (G : pm_G) : Nat → Nat → Option Int32 := G.2.2.2.2.2.1
abbrev pm_ld2 (G : pm_G) : Nat → Nat → Option Int64 := G.2.2.2.2.2.2.1
abbrev pm_anw (G : pm_G) : Nat → Nat → Option Nat := G.2.2.2.2.2.2.2.1
abbrev pm_max (G : pm_G) (mi : Nat) : Nat := (G.2.2.2.2.2.2.2.2.1 mi).1
abbrev pm_hom (G : pm_G) (mi : Nat) : Nat := (G.2.2.2.2.2.2.2.2.1 mi).2.1
abbrev pm_ret (G : pm_G) (mi : Nat) : Option FieldType := (G.2.2.2.2.2.2.2.2.1 mi).2.2
abbrev pm_sta (G : pm_G) : Nat → Nat → Option Value := G.2.2.2.2.2.2.2.2.2.1
abbrev pm_lds (G : pm_G) : Nat → Nat → Option Nat := G.2.2.2.2.2.2.2.2.2.2.1
abbrev pm_gts (G : pm_G) : Nat → Nat → Option Nat := G.2.2.2.2.2.2.2.2.2.2.2.1
abbrev pm_nat (G : pm_G) : Nat → Nat → Option Nat := G.2.2.2.2.2.2.2.2.2.2.2.2
/-- an unset local -/
def pm_dead : Value := .float 0
def pm_live : Value → Bool
  | .float _ => false
  | _ => true
def pm_st0 (ls : List Value) : Nat → List Value
  | 0 => ls
  | j + 1 => if (ls[j]?).map Value.category = some 2 then ls.set j pm_dead else ls
def pm_st1 (ls : List Value) (k : Nat) (v : Value) : List Value := (pm_st0 ls k).set k v
def pm_st2 (ls : List Value) (k : Nat) (v : Value) : List Value := ((pm_st0 ls k).set k v).set (k + 1) pm_dead
def pm_in (i : Int32) (n : Nat) : Bool := decide (¬ (i < 0 ∨ n ≤ i.toNatClampNeg))
abbrev pm_C : Type := Nat × List Value × List Value × pm_W
def pm_jmp (pc : Nat) (off : Int) (ls st : List Value) (w : pm_W) : Option pm_C := if 0 ≤ (pc : Int) + off then some (((pc : Int) + off).toNat, ls, st, w) else none
def pm_br (c : Prop) [Decidable c] (pc : Nat) (off : Int) (ls st : List Value) (w : pm_W) : Option pm_C := if 0 ≤ (pc : Int) + off then (if c then some (((pc : Int) + off).toNat, ls, st, w) else some (pc + 3, ls, st, w)) else none
def pm_rf : Option Nat → Value
  | none => .null
  | some k => .ref k
def pm_iload (pc : Nat) (k : Nat) (ls st : List Value) (w : pm_W) : Option pm_C := match ls[k]? with
  | some (.int x) => some (pc, ls, .int x :: st, w)
  | _ => none
def pm_lload (pc : Nat) (k : Nat) (ls st : List Value) (w : pm_W) : Option pm_C := match ls[k]? with
  | some (.long x) => some (pc, ls, .long x :: st, w)
  | _ => none
def pm_aload (pc : Nat) (k : Nat) (ls st : List Value) (w : pm_W) : Option pm_C := match ls[k]? with
  | some (.ref x) => some (pc, ls, .ref x :: st, w)
  | some .null => some (pc, ls, .null :: st, w)
  | some (.retAddr x) => some (pc, ls, .retAddr x :: st, w)
  | _ => none
def pm_istore (pc : Nat) (k : Nat) (ls st : List Value) (w : pm_W) : Option pm_C := match st with
  | .int x :: st => if k < ls.length then some (pc, pm_st1 ls k (.int x), st, w) else none
  | _ => none
def pm_lstore (pc : Nat) (k : Nat) (ls st : List Value) (w : pm_W) : Option pm_C := match st with
  | .long x :: st => if k + 1 < ls.length then some (pc, pm_st2 ls k (.long x), st, w) else none
  | _ => none
def pm_astore (pc : Nat) (k : Nat) (ls st : List Value) (w : pm_W) : Option pm_C := match st with
  | .ref x :: st => if k < ls.length then some (pc, pm_st1 ls k (.ref x), st, w) else none
  | .null :: st => if k < ls.length then some (pc, pm_st1 ls k .null, st, w) else none
  | .retAddr x :: st => if k < ls.length then some (pc, pm_st1 ls k (.retAddr x), st, w) else none
  | _ => none
def pm_ii (pc : Nat) (f : Int32 → Int32 → Option Int32) (ls st : List Value) (w : pm_W) : Option pm_C := match st with
  | .int y :: .int x :: st => match f x y with
    | some z => some (pc + 1, ls, .int z :: st, w)
    | none => none
  | _ => none
def pm_ll (pc : Nat) (f : Int64 → Int64 → Option Int64) (ls st : List Value) (w : pm_W) : Option pm_C := match st with
  | .long y :: .long x :: st => match f x y with
    | some z => some (pc + 1, ls, .long z :: st, w)
    | none => none
  | _ => none
def pm_if1 (c : Jvm.ClassFile.Cond) (pc : Nat) (off : Int) (ls st : List Value) (w : pm_W) : Option pm_C := match st with
  | .int x :: st => match c with
    | .eq => pm_br (x = 0) pc off ls st w
    | .ne => pm_br (¬ x = 0) pc off ls st w
    | .lt => pm_br (x < 0) pc off ls st w
    | .ge => pm_br (0 ≤ x) pc off ls st w
    | .gt => pm_br (0 < x) pc off ls st w
    | .le => pm_br (x ≤ 0) pc off ls st w
  | _ => none
def pm_if2 (c : Jvm.ClassFile.Cond) (pc : Nat) (off : Int) (ls st : List Value) (w : pm_W) : Option pm_C := match st with
  | .int y :: .int x :: st => match c with
    | .eq => pm_br (x = y) pc off ls st w
    | .ne => pm_br (¬ x = y) pc off ls st w
    | .lt => pm_br (x < y) pc off ls st w
    | .ge => pm_br (y ≤ x) pc off ls st w
    | .gt => pm_br (y < x) pc off ls st w
    | .le => pm_br (x ≤ y) pc off ls st w
  | _ => none
/-- an int out of an array of ints (type number t) -/
def pm_iald (X : pm_X) (t : Nat) (pc : Nat) (ls st : List Value) (w : pm_W) : Option pm_C := match st with
  | .int i :: .retAddr j :: st => match X j with
    | some (t', xs, _) => if t' = t ∧ pm_in i xs.length = true then some (pc + 1, ls, .int (xs.getD i.toNatClampNeg 0) :: st, w) else none
    | _ => none
  | .int i :: .ref a :: st => match w[a]? with
    | some (.inl (t', .inl xs)) => if t' = t ∧ pm_in i xs.length = true then some (pc + 1, ls, .int (xs.getD i.toNatClampNeg 0) :: st, w) else none
    | _ => none
  | _ => none
def pm_iast (t : Nat) (f : Int32 → Int32) (pc : Nat) (ls st : List Value) (w : pm_W) : Option pm_C := match st with
  | .int x :: .int i :: .ref a :: st => match w[a]? with
    | some (.inl (t', .inl xs)) => if t' = t ∧ pm_in i xs.length = true then some (pc + 1, ls, st, w.set a (.inl (t, .inl (xs.set i.toNatClampNeg (f x))))) else none
    | _ => none
  | _ => none
def pm_sum (st : List Value) : Nat := (st.map fun v => v.category).sum
def pm_len : pm_A → Nat
  | .inl xs => xs.length
  | .inr (.inl xs) => xs.length
  | .inr (.inr xs) => xs.length
def pm_oc : Option pm_C → Option pm_C → Option pm_C
  | some r, _ => some r
  | none, x => x
def pm_fit (ty : FieldType) (v : Value) : Bool := decide (narrow ty v = v) && fits ty v
def pm_cpy (xs ys : List Int32) (sp dp n : Nat) : List Int32 := ys.take dp ++ (xs.drop sp).take n ++ ys.drop (dp + n)
def pm_copy (pc : Nat) (ls st : List Value) (w : pm_W) : Option pm_C := match st with
  | .int n :: .int dp :: .ref a1 :: .int sp :: .ref a0 :: st => match w[a0]?, w[a1]? with
    | some (.inl (t, .inl xs)), some (.inl (t', .inl ys)) => if t' = t ∧ t < 2 ∧ ¬ sp < 0 ∧ ¬ dp < 0 ∧ ¬ n < 0 ∧ sp.toNatClampNeg + n.toNatClampNeg ≤ xs.length ∧ dp.toNatClampNeg + n.toNatClampNeg ≤ ys.length ∧ (t = 0 ∨ ((xs.drop sp.toNatClampNeg).take n.toNatClampNeg).all (fun x => fits .byte (.int x)) = true) ∧ pm_sum st ≤ 8 then some (pc + 3, ls, st, w.set a1 (.inl (t, .inl (pm_cpy xs ys sp.toNatClampNeg dp.toNatClampNeg n.toNatClampNeg)))) else none
    | _, _ => none
  | _ => none
/-- one instruction that neither calls, nor makes, nor ends -/
def pm_one (G : pm_G) (X : pm_X) (tyl : List FieldType) (cl : List vw_C) (mi : Nat) (i : Instr) (pc : Nat) (ls st : List Value) (w : pm_W) : Option pm_C := match i with
  | .iconst n => some (pc + 1, ls, .int (Int32.ofInt n) :: st, w)
  | .bipush n => some (pc + 2, ls, .int (Int8.ofInt n).toInt32 :: st, w)
  | .sipush n => some (pc + 3, ls, .int (Int16.ofInt n).toInt32 :: st, w)
  | .lconst n => some (pc + 1, ls, .long (Int64.ofNat (n : Nat)) :: st, w)
  | .aconst_null => some (pc + 1, ls, .null :: st, w)
  | .ldc k => match pm_ldc G mi k with
    | some v => some (pc + 2, ls, .int v :: st, w)
    | none => match pm_lds G mi k with
      | some j => some (pc + 2, ls, .retAddr j :: st, w)
      | none => none
  | .ldc_w k => match pm_ldc G mi k with
    | some v => some (pc + 3, ls, .int v :: st, w)
    | none => none
  | .getstatic k => match pm_sta G mi k with
    | some v => some (pc + 3, ls, v :: st, w)
    | none => none
  | .invokestatic k => match pm_nat G mi k with
    | some 0 => pm_copy pc ls st w
    | some 1 => match st with
      | .int y :: .int x :: st => if pm_sum st ≤ 8 then some (pc + 3, ls, .int (if x < y then y else x) :: st, w) else none
      | _ => none
    | some 2 => match st with
      | .int y :: .int x :: st => if pm_sum st ≤ 8 then some (pc + 3, ls, .int (if y < x then y else x) :: st, w) else none
      | _ => none
    | some 3 => match st with
      | .int x :: st => if pm_sum st ≤ 8 then some (pc + 3, ls, .int (if 0 ≤ x then x else 0 - x) :: st, w) else none
      | _ => none
    | _ => none
  | .ldc2_w k => match pm_ld2 G mi k with
    | some v => some (pc + 3, ls, .long v :: st, w)
    | none => none
  | .iload k => pm_iload (pc + 2) k ls st w
  | .iload_n k => pm_iload (pc + 1) k.val ls st w
  | .lload k => pm_lload (pc + 2) k ls st w
  | .lload_n k => pm_lload (pc + 1) k.val ls st w
  | .aload k => pm_aload (pc + 2) k ls st w
  | .aload_n k => pm_aload (pc + 1) k.val ls st w
  | .istore k => pm_istore (pc + 2) k ls st w
  | .istore_n k => pm_istore (pc + 1) k.val ls st w
  | .lstore k => pm_lstore (pc + 2) k ls st w
  | .lstore_n k => pm_lstore (pc + 1) k.val ls st w
  | .astore k => pm_astore (pc + 2) k ls st w
  | .astore_n k => pm_astore (pc + 1) k.val ls st w
  | .iinc k n => match ls[k]? with
    | some (.int x) => some (pc + 3, pm_st1 ls k (.int (x + Int32.ofInt n)), st, w)
    | _ => none
  | .iadd => pm_ii pc (fun x y => some (x + y)) ls st w
  | .isub => pm_ii pc (fun x y => some (x - y)) ls st w
  | .imul => pm_ii pc (fun x y => some (x * y)) ls st w
  | .iand => pm_ii pc (fun x y => some (x &&& y)) ls st w
  | .ior => pm_ii pc (fun x y => some (x ||| y)) ls st w
  | .ixor => pm_ii pc (fun x y => some (x ^^^ y)) ls st w
  | .idiv => pm_ii pc (fun x y => if y = 0 then none else some (x / y)) ls st w
  | .irem => pm_ii pc (fun x y => if y = 0 then none else some (x - x / y * y)) ls st w
  | .ishl => pm_ii pc (fun x y => some (x <<< (y &&& 31))) ls st w
  | .ishr => pm_ii pc (fun x y => some (x >>> (y &&& 31))) ls st w
  | .iushr => pm_ii pc (fun x y => some (x.toUInt32 >>> (y.toUInt32 &&& Int32.toUInt32 31)).toInt32) ls st w
  | .ineg => match st with
    | .int x :: st => some (pc + 1, ls, .int (-x) :: st, w)
    | _ => none
  | .i2l => match st with
    | .int x :: st => some (pc + 1, ls, .long x.toInt64 :: st, w)
    | _ => none
  | .i2b => match st with
    | .int x :: st => some (pc + 1, ls, .int x.toInt8.toInt32 :: st, w)
    | _ => none
  | .i2c => match st with
    | .int x :: st => some (pc + 1, ls, .int (x.toUInt32 % 65536).toInt32 :: st, w)
    | _ => none
  | .lmul => pm_ll pc (fun x y => some (x * y)) ls st w
  | .lcmp => match st with
    | .long y :: .long x :: st => some (pc + 1, ls, .int (lg_cmp x y) :: st, w)
    | _ => none
  | .dup => match st with
    | a :: st => if a.category = 1 then some (pc + 1, ls, a :: a :: st, w) else none
    | _ => none
  | .dup2 => match st with
    | a :: c :: st => if a.category = 1 ∧ c.category = 1 then some (pc + 1, ls, a :: c :: a :: c :: st, w) else none
    | _ => none
  | .dup_x1 => match st with
    | a :: c :: st => if a.category = 1 ∧ c.category = 1 then some (pc + 1, ls, a :: c :: a :: st, w) else none
    | _ => none
  | .dup_x2 => match st with
    | a :: c :: d :: st => if a.category = 1 ∧ c.category = 1 ∧ d.category = 1 then some (pc + 1, ls, a :: c :: d :: a :: st, w) else none
    | _ => none
  | .pop => match st with
    | a :: st => if a.category = 1 then some (pc + 1, ls, st, w) else none
    | _ => none
  | .goto off => pm_jmp pc off ls st w
  | .ifCond c off => pm_if1 c pc off ls st w
  | .if_icmp c off => pm_if2 c pc off ls st w
  | .ifnull off => match st with
    | .null :: st => pm_jmp pc off ls st w
    | .ref _ :: st => some (pc + 3, ls, st, w)
    | _ => none
  | .ifnonnull off => match st with
    | .null :: st => some (pc + 3, ls, st, w)
    | .ref _ :: st => pm_jmp pc off ls st w
    | _ => none
  | .tableswitch d lo hi offs => match st with
    | .int x :: st => if x.toInt < lo ∨ hi < x.toInt then pm_jmp pc d ls st w else match offs[(x.toInt - lo).toNat]? with
      | some off => pm_jmp pc off ls st w
      | none => none
    | _ => none
  | .iaload => pm_iald X 0 pc ls st w
  | .baload => pm_oc (pm_iald X 1 pc ls st w) (pm_iald (fun _ => none) 2 pc ls st w)
  | .iastore => pm_iast 0 id pc ls st w
  | .bastore => pm_oc (pm_iast 1 (vp_nar .byte) pc ls st w) (pm_iast 2 (vp_nar .boolean) pc ls st w)
  | .arraylength => match st with
    | .retAddr j :: st => match X j with
      | some (t, xs, _) => if t < 2 then some (pc + 1, ls, .int (Int32.ofNat xs.length) :: st, w) else none
      | _ => none
    | .ref a :: st => match w[a]? with
      | some (.inl (t, xs)) => if t < tyl.length then some (pc + 1, ls, .int (Int32.ofNat (pm_len xs)) :: st, w) else none
      | _ => none
    | _ => none
  | .aaload => match st with
    | .int i :: .ref a :: st => match w[a]? with
      | some (.inl (t, .inr (.inr xs))) => match tyl[t]? with
        | some (.object _) => if pm_in i xs.length = true then some (pc + 1, ls, pm_rf (xs.getD i.toNatClampNeg none) :: st, w) else none
        | _ => none
      | _ => none
    | _ => none
  | .aastore => match st with
    | .ref v :: .int i :: .ref a :: st => match w[a]? with
      | some (.inl (t, .inr (.inr xs))) => match w[v]? with
        | some (.inr (ci, _)) => match cl[ci]? with
          | some r => if tyl[t]? = some (.object r.1) ∧ pm_in i xs.length = true then some (pc + 1, ls, st, w.set a (.inl (t, .inr (.inr (xs.set i.toNatClampNeg (some v)))))) else none
          | none => none
        | _ => none
      | _ => none
    | _ => none
  | .getfield k => match st with
    | .retAddr j :: st => match X j with
      | some (2, _, i) => match pm_gts G mi k with
        | some 0 => some (pc + 3, ls, .int 0 :: st, w)
        | some 1 => some (pc + 3, ls, .retAddr i :: st, w)
        | _ => none
      | _ => none
    | .ref a :: st => match pm_get G mi k with
      | some (ci, j) => match w[a]? with
        | some (.inr (ci', fs)) => if ci' = ci then match fs[j]? with
            | some v => some (pc + 3, ls, v :: st, w)
            | none => none
          else none
        | _ => none
      | none => none
    | _ => none
  | .putfield k => match st with
    | v :: .ref a :: st => match pm_put G mi k with
      | some (ci, j, ty) => match w[a]? with
        | some (.inr (ci', fs)) => if ci' = ci ∧ j < fs.length ∧ pm_fit ty v = true then some (pc + 3, ls, st, w.set a (.inr (ci, fs.set j v))) else none
        | _ => none
      | none => none
    | _ => none
  | _ => none
abbrev pm_R : Type := Option Value × pm_W × Nat × Nat
def pm_add (c n : Nat) : Option pm_R → Option pm_R
  | some (r, w, c', n') => some (r, w, c + c', n + n')
  | none => none
/-- a method's locals at its entry -/
def pm_arg : List Value → List Value
  | [] => []
  | v :: vs => if v.category = 2 then v :: pm_dead :: pm_arg vs else v :: pm_arg vs
def pm_ent (n : Nat) (vs : List Value) : List Value := pm_arg vs ++ List.replicate (n - (pm_arg vs).length) pm_dead
def pm_push : Option Value → List Value → List Value
  | some v, st => v :: st
  | none, st => st
/-- the receiver is an object of the method's class -/
def pm_rcv (G : pm_G) (X : pm_X) (w : pm_W) (mi : Nat) : Value → Bool
  | .retAddr j => match X j with
    | some (2, _, _) => pm_hom G mi == 1000
    | _ => false
  | .ref a => match w[a]? with
    | some (.inr (ci, _)) => ci == pm_hom G mi
    | _ => false
  | _ => false
/-- the end of a method: its answer -/
def pm_end (G : pm_G) (mi : Nat) (i : Instr) (st : List Value) : Option (Option Value) := match i with
  | .ireturn => match st, pm_ret G mi with
    | [.int x], some ty => if narrow ty (.int x) = .int x then some (some (.int x)) else none
    | _, _ => none
  | .lreturn => match st, pm_ret G mi with
    | [.long x], some .long => some (some (.long x))
    | _, _ => none
  | .areturn => match st, pm_ret G mi with
    | [.ref a], some (.object _) => some (some (.ref a))
    | [.null], some (.object _) => some (some .null)
    | [.retAddr a], some (.object _) => some (some (.retAddr a))
    | _, _ => none
  | .return_ => match st, pm_ret G mi with
    | [], none => some none
    | _, _ => none
  | _ => none
/-- a cell is made: the instruction's length, the stack below, the cell, its slots -/
def pm_mk (G : pm_G) (mi : Nat) (i : Instr) (st : List Value) : Option (Nat × List Value × pm_E × Nat) := match i with
  | .new k => match pm_new G mi k with
    | some (ci, fs) => some (3, st, .inr (ci, fs), fs.length)
    | none => none
  | .newarray ty => match st with
    | .int n :: st => if ¬ n < 0 ∧ n.toNatClampNeg ≤ 65536 then match newarray.typeOf ty with
        | .int => some (2, st, .inl (0, .inl (List.replicate n.toNatClampNeg 0)), n.toNatClampNeg)
        | .byte => some (2, st, .inl (1, .inl (List.replicate n.toNatClampNeg 0)), n.toNatClampNeg)
        | .boolean => some (2, st, .inl (2, .inl (List.replicate n.toNatClampNeg 0)), n.toNatClampNeg)
        | _ => none
      else none
    | _ => none
  | .anewarray k => match st with
    | .int n :: st => if ¬ n < 0 ∧ n.toNatClampNeg ≤ 65536 then match pm_anw G mi k with
        | some t => some (3, st, .inl (t, .inr (.inr (List.replicate n.toNatClampNeg none))), n.toNatClampNeg)
        | none => none
      else none
    | _ => none
  | _ => none
/-- Object's constructor -/
def pm_obi (G : pm_G) (mi : Nat) (i : Instr) (st : List Value) : Option (List Value) := match i with
  | .invokespecial k => match pm_cal G mi k with
    | some (0, _) => match st with
      | .ref _ :: st => if pm_sum st ≤ 8 then some st else none
      | _ => none
    | _ => none
  | _ => none
/-- a call: the method, the depth left, its arguments, the stack below -/
def pm_cll (G : pm_G) (X : pm_X) (mi : Nat) (i : Instr) (d : Nat) (st : List Value) (w : pm_W) : Option (Nat × Nat × List Value × List Value) := match i with
  | .invokespecial k => match pm_cal G mi k with
    | some (mj, n) => match d, st.drop n with
      | d + 1, .ref a :: st' => if mj ≠ 0 ∧ (st.take n).length = n ∧ pm_sum st' ≤ 8 ∧ (pm_arg (.ref a :: (st.take n).reverse)).length ≤ pm_max G mj then some (mj, d, .ref a :: (st.take n).reverse, st') else none
      | _, _ => none
    | none => none
  | .invokevirtual k => match pm_cal G mi k with
    | some (mj, n) => match d, st.drop n with
      | d + 1, v :: st' => if pm_rcv G X w mj v = true ∧ (st.take n).length = n ∧ pm_sum st' ≤ 8 ∧ (pm_arg (v :: (st.take n).reverse)).length ≤ pm_max G mj then some (mj, d, v :: (st.take n).reverse, st') else none
      | _, _ => none
    | none => none
  | .invokestatic k => match pm_cal G mi k with
    | some (mj, n) => match d with
      | d + 1 => if (st.take n).length = n ∧ pm_sum (st.drop n) ≤ 8 ∧ (pm_arg (st.take n).reverse).length ≤ pm_max G mj then some (mj, d, (st.take n).reverse, st.drop n) else none
      | 0 => none
    | none => none
  | _ => none
/-- a run: fuel, depth; method, pc, locals, stack, world; answer, world, cells made, slots made -/
def pm (G : pm_G) (X : pm_X) (tyl : List FieldType) (cl : List vw_C) : Nat → Nat → Nat → Nat → List Value → List Value → pm_W → Option pm_R
  | 0, _, _, _, _, _, _ => none
  | f + 1, d, mi, pc, ls, st, w => match pm_dec G mi pc with
    | none => none
    | some i => match pm_one G X tyl cl mi i pc ls st w with
      | some (pc', ls', st', w') => pm G X tyl cl f d mi pc' ls' st' w'
      | none => match pm_cll G X mi i d st w with
        | some (mj, d', vs, st') => match pm G X tyl cl f d' mj 0 (pm_ent (pm_max G mj) vs) [] w with
          | some (r, w', c, n) => pm_add c n (pm G X tyl cl f d mi (pc + 3) ls (pm_push r st') w')
          | none => none
        | none => match pm_end G mi i st with
          | some r => some (r, w, 0, 0)
          | none => match pm_obi G mi i st with
            | some st' => pm G X tyl cl f d mi (pc + 3) ls st' w
            | none => match pm_mk G mi i st with
              | some (k, st', c, n) => pm_add 1 n (pm G X tyl cl f d mi (pc + k) ls (.ref w.length :: st') (w ++ [c]))
              | none => none
end
section
/-! ===== the pure machine's cells in a heap ===== -/
/-- where the world begins, and where the cells outside lie -/
abbrev pm_B : Type := Nat × (Nat → Nat)
def pm_v (b : pm_B) : Value → Value
  | .retAddr j => .ref (b.2 j)
  | .ref k => .ref (b.1 + k)
  | v => v
def pm_a (b : pm_B) : pm_A → vp_A
  | .inl xs => (xs.length, .inl (fun j => xs.getD j 0))
  | .inr (.inl xs) => (xs.length, .inr (.inl (fun j => xs.getD j 0)))
  | .inr (.inr xs) => (xs.length, .inr (.inr (.inr (.inr (fun j => (xs.getD j none).map (fun k => b.1 + k))))))
def pm_e (cA : Nat → ClassId) (b : pm_B) : pm_E → va_E
  | .inl (t, a) => .inl (cA t, pm_a b a)
  | .inr (ci, fs) => .inr (ci, fs.map (pm_v b))
def pm_ws (cA : Nat → ClassId) (b : pm_B) (w : pm_W) : va_W := w.mapIdx (fun k e => (b.1 + k, pm_e cA b e))
def pm_tys (cA : Nat → ClassId) (tyl : List FieldType) : List (ClassId × FieldType) := tyl.mapIdx (fun t ty => (cA t, ty))
theorem pm_v_cat (b : pm_B) (v : Value) : (pm_v b v).category = v.category := by cases v <;> rfl
theorem pm_v_live (b : pm_B) (v : Value) : pm_live (pm_v b v) = pm_live v := by cases v <;> rfl
theorem pm_v_nar (b : pm_B) (ty : FieldType) (v : Value) : narrow ty (pm_v b v) = pm_v b (narrow ty v) := by cases ty <;> cases v <;> rfl
theorem pm_v_fit (b : pm_B) (ty : FieldType) (v : Value) (h : fits ty v = true) : fits ty (pm_v b v) = true := by cases ty <;> cases v <;> first | exact h | rfl | cases h
theorem pm_v_rf (b : pm_B) (r : Option Nat) : pm_v b (pm_rf r) = va_rf (r.map (fun k => b.1 + k)) := by cases r <;> rfl
theorem pm_v_def (b : pm_B) (ty : FieldType) : pm_v b (defaultValue ty) = defaultValue ty := by cases ty <;> rfl
theorem pm_ws_at {cA : Nat → ClassId} {b : pm_B} {w : pm_W} {k : Nat} {e : pm_E} (h : w[k]? = some e) : (pm_ws cA b w)[k]? = some (b.1 + k, pm_e cA b e) := by
  simp [pm_ws, List.getElem?_mapIdx, h]
theorem pm_ws_of {cA : Nat → ClassId} {b : pm_B} {w : pm_W} {k : Nat} {q : Nat × va_E} (h : (pm_ws cA b w)[k]? = some q) : ∃ e, w[k]? = some e ∧ q = (b.1 + k, pm_e cA b e) := by
  simp only [pm_ws, List.getElem?_mapIdx, Option.map_eq_some_iff] at h
  obtain ⟨e, h1, h2⟩ := h
  exact ⟨e, h1, h2.symm⟩
theorem pm_ws_set (cA : Nat → ClassId) (b : pm_B) (w : pm_W) (k : Nat) (e : pm_E) : (pm_ws cA b w).set k (b.1 + k, pm_e cA b e) = pm_ws cA b (w.set k e) := by
  apply List.ext_getElem?
  intro j
  by_cases hj : k = j
  · subst hj
    simp only [pm_ws, List.getElem?_mapIdx, List.getElem?_set_self', List.getElem?_mapIdx]
    cases w[k]? <;> rfl
  · rw [List.getElem?_set_ne hj]
    simp only [pm_ws, List.getElem?_mapIdx, List.getElem?_set_ne hj]
theorem pm_ws_push (cA : Nat → ClassId) (b : pm_B) (w : pm_W) (e : pm_E) : pm_ws cA b (w ++ [e]) = pm_ws cA b w ++ [(b.1 + w.length, pm_e cA b e)] := by
  simp [pm_ws, List.mapIdx_append]
theorem pm_ws_len (cA : Nat → ClassId) (b : pm_B) (w : pm_W) : (pm_ws cA b w).length = w.length := by simp [pm_ws]
theorem pm_D {cA : Nat → ClassId} {b : pm_B} {w : pm_W} : va_D (fun q => b.1 ≤ q) (pm_ws cA b w) := by
  refine ⟨fun i j p q hi hj h => ?_, fun k q hk => ?_⟩
  · obtain ⟨e1, -, rfl⟩ := pm_ws_of hi
    obtain ⟨e2, -, rfl⟩ := pm_ws_of hj
    have h : b.1 + i = b.1 + j := h
    omega
  · obtain ⟨e1, -, rfl⟩ := pm_ws_of hk
    exact Nat.le_add_right _ _
theorem pm_tys_at {cA : Nat → ClassId} {tyl : List FieldType} {t : Nat} {ty : FieldType} (h : tyl[t]? = some ty) : (pm_tys cA tyl)[t]? = some (cA t, ty) := by
  simp [pm_tys, List.getElem?_mapIdx, h]
theorem pm_in_ok {i : Int32} {n : Nat} (h : pm_in i n = true) : vp_in i n := by
  unfold pm_in at h
  exact of_decide_eq_true (p := ¬ (i < 0 ∨ n ≤ i.toNatClampNeg)) h
theorem pm_in_lt {i : Int32} {n : Nat} (h : vp_in i n) : i.toNatClampNeg < n := Nat.not_le.mp fun q => h (Or.inr q)
/-- locals -/
def pm_lv (b : pm_B) (ls : List Value) : List (Nat × Value) := (ls.zipIdx.filter (fun q => pm_live q.1)).map (fun q => (q.2, pm_v b q.1))
theorem pm_lv_mem {b : pm_B} {ls : List Value} {k : Nat} {u : Value} : (k, u) ∈ pm_lv b ls ↔ ∃ v, ls[k]? = some v ∧ pm_live v = true ∧ u = pm_v b v := by
  constructor
  · intro h
    obtain ⟨⟨v, j⟩, h1, h2⟩ := List.mem_map.mp h
    obtain ⟨h3, h4⟩ := List.mem_filter.mp h1
    cases h2
    exact ⟨v, List.mem_zipIdx_iff_getElem?.mp h3, h4, rfl⟩
  · rintro ⟨v, h1, h2, rfl⟩
    exact List.mem_map.mpr ⟨(v, k), List.mem_filter.mpr ⟨List.mem_zipIdx_iff_getElem?.mpr h1, h2⟩, rfl⟩
theorem pm_lv_at {b : pm_B} {nL : Nat} {ls : List Value} {lsR : Array Slot} (h : lv_has lsR nL (pm_lv b ls)) {k : Nat} {v : Value} (hk : ls[k]? = some v) (hv : pm_live v = true) : lsR[k]? = some (.val (pm_v b v)) :=
  h.2.2 (k, pm_v b v) (pm_lv_mem.mpr ⟨v, hk, hv, rfl⟩)
theorem pm_lv_sub {nL : Nat} {lsR : Array Slot} {l l' : List (Nat × Value)} (h : lv_has lsR nL l) (hs : ∀ q ∈ l', q ∈ l) : lv_has lsR nL l' := ⟨h.1, h.2.1, fun q hq => h.2.2 q (hs q hq)⟩
theorem pm_st0_len (ls : List Value) (k : Nat) : (pm_st0 ls k).length = ls.length := by
  cases k with
  | zero => rfl
  | succ j =>
    simp only [pm_st0]
    split <;> simp
theorem pm_st1_len (ls : List Value) (k : Nat) (v : Value) : (pm_st1 ls k v).length = ls.length := by simp [pm_st1, pm_st0_len]
theorem pm_st2_len (ls : List Value) (k : Nat) (v : Value) : (pm_st2 ls k v).length = ls.length := by simp [pm_st2, pm_st0_len]
theorem pm_st0_get {ls : List Value} {k j : Nat} {v : Value} (h : (pm_st0 ls k)[j]? = some v) (hv : pm_live v = true) : ls[j]? = some v ∧ ¬ (j + 1 = k ∧ v.category = 2) := by
  cases k with
  | zero => exact ⟨h, fun q => by omega⟩
  | succ i =>
    simp only [pm_st0] at h
    split at h
    · rename_i hx
      by_cases hj : i = j
      · subst hj
        cases hi : ls[i]? with
        | none => rw [hi] at hx; cases hx
        | some u =>
          rw [List.getElem?_set_self (List.getElem?_eq_some_iff.mp hi).1] at h
          cases h
          cases hv
      · rw [List.getElem?_set_ne hj] at h
        exact ⟨h, fun q => hj (by omega)⟩
    · rename_i hx
      refine ⟨h, fun q => ?_⟩
      have hj : j = i := by omega
      subst hj
      rw [h] at hx
      exact hx (congrArg some q.2)
theorem pm_lv_st1 {b : pm_B} {nL : Nat} {ls : List Value} {lsR : Array Slot} {k : Nat} {v : Value} {l : List (Nat × Value)} (hl : (k, pm_v b v) :: (pm_lv b ls).filter (fun q => !(q.1 == k) && !(q.1 + 1 == k && q.2.category == 2)) = l) (h : lv_has lsR nL l) : lv_has lsR nL (pm_lv b (pm_st1 ls k v)) := by
  subst hl
  refine pm_lv_sub h fun q hq => ?_
  obtain ⟨j, u⟩ := q
  obtain ⟨x, h1, h2, rfl⟩ := pm_lv_mem.mp hq
  by_cases hj : k = j
  · subst hj
    have hlt : k < ((pm_st0 ls k).set k v).length := (List.getElem?_eq_some_iff.mp h1).1
    rw [List.length_set] at hlt
    have h1 : ((pm_st0 ls k).set k v)[k]? = some x := h1
    rw [List.getElem?_set_self hlt] at h1
    cases h1
    exact List.mem_cons_self
  · have h1 : ((pm_st0 ls k).set k v)[j]? = some x := h1
    rw [List.getElem?_set_ne hj] at h1
    obtain ⟨h3, h4⟩ := pm_st0_get h1 h2
    refine List.mem_cons_of_mem _ (List.mem_filter.mpr ⟨pm_lv_mem.mpr ⟨x, h3, h2, rfl⟩, ?_⟩)
    simp only [Bool.and_eq_true, Bool.not_eq_true', beq_eq_false_iff_ne, Bool.and_eq_false_iff, ne_eq, pm_v_cat]
    refine ⟨fun q => hj q.symm, ?_⟩
    by_cases z : j + 1 = k
    · exact Or.inr fun q => h4 ⟨z, q⟩
    · exact Or.inl z
theorem pm_lv_st2 {b : pm_B} {nL : Nat} {ls : List Value} {lsR : Array Slot} {k : Nat} {v : Value} {l : List (Nat × Value)} (hl : (k, pm_v b v) :: (pm_lv b ls).filter (fun q => !(q.1 == k) && (!(q.1 == k + 1) && !(q.1 + 1 == k && q.2.category == 2))) = l) (h : lv_has lsR nL l) : lv_has lsR nL (pm_lv b (pm_st2 ls k v)) := by
  subst hl
  refine pm_lv_sub h fun q hq => ?_
  obtain ⟨j, u⟩ := q
  obtain ⟨x, h1, h2, rfl⟩ := pm_lv_mem.mp hq
  have h1 : (((pm_st0 ls k).set k v).set (k + 1) pm_dead)[j]? = some x := h1
  by_cases hk : k + 1 = j
  · subst hk
    have hlt : k + 1 < (((pm_st0 ls k).set k v).set (k + 1) pm_dead).length := (List.getElem?_eq_some_iff.mp h1).1
    rw [List.length_set] at hlt
    rw [List.getElem?_set_self hlt] at h1
    cases h1
    cases h2
  rw [List.getElem?_set_ne hk] at h1
  by_cases hj : k = j
  · subst hj
    have hlt : k < ((pm_st0 ls k).set k v).length := (List.getElem?_eq_some_iff.mp h1).1
    rw [List.length_set] at hlt
    rw [List.getElem?_set_self hlt] at h1
    cases h1
    exact List.mem_cons_self
  · rw [List.getElem?_set_ne hj] at h1
    obtain ⟨h3, h4⟩ := pm_st0_get h1 h2
    refine List.mem_cons_of_mem _ (List.mem_filter.mpr ⟨pm_lv_mem.mpr ⟨x, h3, h2, rfl⟩, ?_⟩)
    simp only [Bool.and_eq_true, Bool.not_eq_true', beq_eq_false_iff_ne, Bool.and_eq_false_iff, ne_eq, pm_v_cat]
    refine ⟨fun q => hj q.symm, fun q => hk q.symm, ?_⟩
    by_cases z : j + 1 = k
    · exact Or.inr fun q => h4 ⟨z, q⟩
    · exact Or.inl z
/-- a method's entry -/
theorem pm_arg_len : ∀ vs : List Value, (pm_arg vs).length = (lg_sl vs).length
  | [] => rfl
  | v :: vs => by
    have ih := pm_arg_len vs
    unfold pm_arg
    simp only [lg_sl, List.flatMap_cons] at ih ⊢
    split <;> simp [ih]
theorem pm_arg_mem {b : pm_B} : ∀ (vs : List Value) (i k : Nat) (v : Value), (pm_arg vs)[k]? = some v → pm_live v = true → (i + k, pm_v b v) ∈ lv_args i (vs.map (pm_v b))
  | [], i, k, v, h, hv => by simp [pm_arg] at h
  | u :: vs, i, k, v, h, hv => by
    unfold pm_arg at h
    simp only [List.map_cons, lv_args, pm_v_cat]
    by_cases hc : u.category = 2
    · rw [if_pos hc] at h ⊢
      match k, h with
      | 0, h => cases h; exact List.mem_cons_self
      | 1, h => cases h; cases hv
      | k + 2, h =>
        have := pm_arg_mem (b := b) vs (i + 2) k v h hv
        rw [show i + (k + 2) = i + 2 + k by omega]
        exact List.mem_cons_of_mem _ this
    · rw [if_neg hc] at h ⊢
      match k, h with
      | 0, h => cases h; exact List.mem_cons_self
      | k + 1, h =>
        have := pm_arg_mem (b := b) vs (i + 1) k v h hv
        rw [show i + (k + 1) = i + 1 + k by omega]
        exact List.mem_cons_of_mem _ this
theorem lg_sl_v (b : pm_B) (vs : List Value) : (lg_sl (vs.map (pm_v b))).length = (lg_sl vs).length := by
  induction vs with
  | nil => rfl
  | cons v vs ih =>
    simp only [lg_sl, List.map_cons, List.flatMap_cons, List.length_append, pm_v_cat] at ih ⊢
    rw [ih]
    split <;> rfl
theorem pm_ent_ok {b : pm_B} {n : Nat} {vs : List Value} {lsR : Array Slot} (h : lv_has lsR n (lv_args 0 (vs.map (pm_v b)))) : lv_has lsR n (pm_lv b (pm_ent n vs)) := by
  refine pm_lv_sub h fun q hq => ?_
  obtain ⟨k, u⟩ := q
  obtain ⟨v, h1, h2, rfl⟩ := pm_lv_mem.mp hq
  unfold pm_ent at h1
  by_cases hk : k < (pm_arg vs).length
  · rw [List.getElem?_append_left hk] at h1
    have := pm_arg_mem (b := b) vs 0 k v h1 h2
    rwa [Nat.zero_add] at this
  · rw [List.getElem?_append_right (by omega)] at h1
    have := List.mem_of_getElem? h1
    rw [List.mem_replicate] at this
    rw [this.2] at h2
    cases h2
theorem pm_ent_len {n : Nat} {vs : List Value} (h : (pm_arg vs).length ≤ n) : (pm_ent n vs).length = n := by
  simp [pm_ent]; omega
end
section
/-! ===== what a program must say of the tables, and the step of one instruction ===== -/
def pm_sz : Instr → Nat
  | .bipush _ | .ldc _ | .iload _ | .lload _ | .aload _ | .istore _ | .lstore _ | .astore _ | .newarray _ => 2
  | .sipush _ | .ldc_w _ | .getstatic _ | .ldc2_w _ | .iinc _ _ | .goto _ | .ifCond _ _ | .if_icmp _ _ | .ifnull _ | .ifnonnull _ | .getfield _ | .putfield _ | .new _ | .anewarray _ | .invokespecial _ | .invokevirtual _ | .invokestatic _ => 3
  | .tableswitch _ _ _ _ => 0
  | _ => 1
def pm_okD (cd : Nat → ByteArray) (G : pm_G) : Prop := ∀ mi pc i, pm_dec G mi pc = some i → ∃ n, decode (cd mi) pc = .ok (i, n) ∧ (pm_sz i = 0 ∨ n = pm_sz i)
def pm_okC (Tb : List Cond) (cl : List vw_C) : Prop := ∀ (ci : Nat) (q : vw_C), cl[ci]? = some q → (∀ w ∈ u_ws q.1 q.2.1 q.2.2, w ∈ Tb) ∧ (∃ ty : Nat → FieldType, ∀ k, k < q.2.2 → parseFieldDescriptor (q.2.1 k).2.2.1 = some (ty k)) ∧ (∀ a, a < q.2.2 → ∀ b, b < q.2.2 → a ≠ b → (q.2.1 a).2.1 ≠ (q.2.1 b).2.1)
def pm_okF (Tb nws : List Cond) (own : String) (k : Nat) (T : u_T) (j : Nat) : Prop := Cond.fieldLink own k (T j).1 (T j).2.1 (T j).2.2.1 ∈ Tb ∨ ∃ host, Cond.fieldLinkNest own k (T j).1 (T j).2.1 (T j).2.2.1 host ∈ nws
def pm_okG (Tb nws : List Cond) (cl : List vw_C) (y : Nat → MethodName) (G : pm_G) : Prop := ∀ mi k ci j, pm_get G mi k = some (ci, j) → ∃ q : vw_C, cl[ci]? = some q ∧ j < q.2.2 ∧ pm_okF Tb nws (y mi).cls k q.2.1 j
def pm_okP (Tb nws : List Cond) (cl : List vw_C) (y : Nat → MethodName) (G : pm_G) : Prop := ∀ mi k ci j ty, pm_put G mi k = some (ci, j, ty) → ∃ q : vw_C, cl[ci]? = some q ∧ j < q.2.2 ∧ parseFieldDescriptor (q.2.1 j).2.2.1 = some ty ∧
  (((q.2.1 j).2.2.2 = false ∧ pm_okF Tb nws (y mi).cls k q.2.1 j) ∨ ((q.2.1 j).2.2.2 = true ∧ (y mi).name = "<init>" ∧ (q.2.1 j).1 = (y mi).cls ∧ Cond.fieldLink (y mi).cls k (q.2.1 j).1 (q.2.1 j).2.1 (q.2.1 j).2.2.1 ∈ Tb))
def pm_okK (Tb : List Cond) (y : Nat → MethodName) (G : pm_G) : Prop := (∀ mi k v, pm_ldc G mi k = some v → Cond.constant (y mi).cls k v ∈ Tb) ∧ ∀ mi k v, pm_ld2 G mi k = some v → Cond.constantLong (y mi).cls k v ∈ Tb
def pm_okT (Tb nws : List Cond) (sts : List (String × String × String × Value)) (y : Nat → MethodName) (G : pm_G) : Prop := ∀ mi k v, pm_sta G mi k = some v → ∃ C n d, (C, n, d, v) ∈ sts ∧ (Cond.fieldLink (y mi).cls k C n d ∈ Tb ∨ ∃ host, Cond.fieldLinkNest (y mi).cls k C n d host ∈ nws)
def pm_okR (srs : List (String × Nat × String × Nat)) (y : Nat → MethodName) (G : pm_G) : Prop := ∀ mi k j, pm_lds G mi k = some j → ∃ tx, ((y mi).cls, k, tx, j) ∈ srs
def pm_okU (Tb : List Cond) (y : Nat → MethodName) (G : pm_G) : Prop := (∀ mi k, pm_gts G mi k = some 0 → Cond.fieldLink (y mi).cls k "java/lang/String" "coder" "B" ∈ Tb) ∧ ∀ mi k, pm_gts G mi k = some 1 → Cond.fieldLink (y mi).cls k "java/lang/String" "value" "[B" ∈ Tb
def pm_okY (Tb : List Cond) (y : Nat → MethodName) (G : pm_G) : Prop := (∀ mi k, pm_nat G mi k = some 0 → Cond.methodLink (y mi).cls k arraycopyName ∈ Tb ∧ Cond.native arraycopyName ∈ Tb ∧ Cond.static arraycopyName ∈ Tb ∧ Cond.initialized "java/lang/System" ∈ Tb) ∧
  (∀ mi k, pm_nat G mi k = some 1 → Cond.methodLink (y mi).cls k Lib.Math.max.name ∈ Tb ∧ Cond.static Lib.Math.max.name ∈ Tb ∧ Cond.initialized "java/lang/Math" ∈ Tb ∧ Cond.code Lib.Math.max.name Lib.Math.max.code 2 (some .int) ∈ Tb) ∧
  (∀ mi k, pm_nat G mi k = some 2 → Cond.methodLink (y mi).cls k Lib.Math.min.name ∈ Tb ∧ Cond.static Lib.Math.min.name ∈ Tb ∧ Cond.initialized "java/lang/Math" ∈ Tb ∧ Cond.code Lib.Math.min.name Lib.Math.min.code 2 (some .int) ∈ Tb) ∧
  ∀ mi k, pm_nat G mi k = some 3 → Cond.methodLink (y mi).cls k Lib.Math.abs.name ∈ Tb ∧ Cond.static Lib.Math.abs.name ∈ Tb ∧ Cond.initialized "java/lang/Math" ∈ Tb ∧ Cond.code Lib.Math.abs.name Lib.Math.abs.code 1 (some .int) ∈ Tb
/-- the cells outside: arrays, texts, statics, constants -/
def pm_Out (b : pm_B) (X : pm_X) (sts : List (String × String × String × Value)) (srs : List (String × Nat × String × Nat)) (U : State) (H : Heap) : Prop :=
  (∀ j xs i, X j = some (0, xs, i) → va_T .int (b.2 j) xs.length (fun k => .int (xs.getD k 0)) (fun q => b.1 ≤ q) U H) ∧
  (∀ j xs i, X j = some (1, xs, i) → va_T .byte (b.2 j) xs.length (fun k => .int (xs.getD k 0)) (fun q => b.1 ≤ q) U H) ∧
  (∀ j xs i, X j = some (2, xs, i) → va_O "java/lang/String" (b.2 j) (fun q => b.1 ≤ q) U H ∧ va_OF "java/lang/String" "coder" "B" (.int 0) (b.2 j) (fun q => b.1 ≤ q) U H ∧ va_OF "java/lang/String" "value" "[B" (.ref (b.2 i)) (b.2 j) (fun q => b.1 ≤ q) U H) ∧
  (∀ C n d v, (C, n, d, v) ∈ sts → va_Z C n d (pm_v b v) (fun q => b.1 ≤ q) U H) ∧
  ∀ own k tx j, (own, k, tx, j) ∈ srs → vk_R own k tx (b.2 j) U
theorem pm_Out.kept {b : pm_B} {X : pm_X} {sts : List (String × String × String × Value)} {srs : List (String × Nat × String × Nat)} {U : State} {H H1 : Heap} (h : pm_Out b X sts srs U H) (hq : ∀ a : Nat, a < H.size → ¬ b.1 ≤ a → H1[a]? = H[a]?) : pm_Out b X sts srs U H1 :=
  ⟨fun j xs i e => (h.1 j xs i e).kept hq, fun j xs i e => (h.2.1 j xs i e).kept hq, fun j xs i e => ⟨(h.2.2.1 j xs i e).1.kept hq, (h.2.2.1 j xs i e).2.1.kept hq, (h.2.2.1 j xs i e).2.2.kept hq⟩, fun C n d v e => (h.2.2.2.1 C n d v e).kept hq, h.2.2.2.2⟩
theorem pm_Out.warm {b : pm_B} {X : pm_X} {sts : List (String × String × String × Value)} {srs : List (String × Nat × String × Nat)} {s U : State} {H : Heap} (hW : s.WarmedH U.vm) (h : pm_Out b X sts srs s H) : pm_Out b X sts srs U H :=
  ⟨fun j xs i e => (h.1 j xs i e).moved hW.alike, fun j xs i e => (h.2.1 j xs i e).moved hW.alike, fun j xs i e => ⟨(h.2.2.1 j xs i e).1.moved hW.alike, (h.2.2.1 j xs i e).2.1.moved hW.alike, (h.2.2.1 j xs i e).2.2.moved hW.alike⟩, fun C n d v e => (h.2.2.2.1 C n d v e).moved hW.alike, fun own k tx j e => (h.2.2.2.2 own k tx j e).warm hW⟩
theorem pm_Out.call {b : pm_B} {X : pm_X} {sts : List (String × String × String × Value)} {srs : List (String × Nat × String × Nat)} {U V : State} {H : Heap} (hv : U.vm = V.vm) (h : pm_Out b X sts srs U H) : pm_Out b X sts srs V H := by
  have ha : U.vm.Alike V.vm := by rw [hv]; exact Vm.Alike.refl V.vm
  exact ⟨fun j xs i e => (h.1 j xs i e).moved ha, fun j xs i e => (h.2.1 j xs i e).moved ha, fun j xs i e => ⟨(h.2.2.1 j xs i e).1.moved ha, (h.2.2.1 j xs i e).2.1.moved ha, (h.2.2.1 j xs i e).2.2.moved ha⟩, fun C n d v e => (h.2.2.2.1 C n d v e).moved ha, fun own k tx j e => (h.2.2.2.2 own k tx j e).same hv.symm⟩
/-- what stays the same in a method's run -/
def pm_K (D : va_G) (cl : List vw_C) (cA : Nat → ClassId) (tyl : List FieldType) (nws : List Cond) (aos : List String) (U : State) : Prop := va_K D cl (pm_tys cA tyl) U ∧ (∀ w ∈ nws, va_Nw w U) ∧ ∀ C ∈ aos, va_AO C U
def pm_Fx (D : va_G) (cl : List vw_C) (cA : Nat → ClassId) (tyl : List FieldType) (Tb nws : List Cond) (aos : List String) (y : Nat → MethodName) (cd : Nat → ByteArray) (G : pm_G) (X : pm_X) (sts : List (String × String × String × Value)) (srs : List (String × Nat × String × Nat)) (b : pm_B) (mi : Nat) (p : Program) (s : State) (m : MethodId) (args : Array Value) (meth : Method) (c : Code) : Prop :=
  p.tables.exec = Jvm.exec ∧ c.code = cd mi ∧ meth.sig.returnType = pm_ret G mi ∧ c.maxLocals = pm_max G mi ∧ s.vm.findClass (y mi).cls = some m.cls ∧ (∀ w ∈ Tb, w.before args s = true) ∧ meth.locks = false ∧ meth.name = (y mi).name ∧ pm_K D cl cA tyl nws aos s ∧ b.1 ≤ s.heap.size ∧ pm_Out b X sts srs s s.heap
section PM
variable {G : pm_G} {tyl : List FieldType} {cl : List vw_C} {D : va_G} {cA : Nat → ClassId} {b : pm_B} {Tb nws : List Cond} {aos : List String} {y : Nat → MethodName} {cd : Nat → ByteArray}
variable {p : Program} {l : Launch} {e : Env} {R : Room} {s : State} {m : MethodId} {args : Array Value} {below : List Frame} {meth : Method} {c : Code} {H : Heap} {locs : List Loc} {cells slots : Nat} {Q : State → Prop}
theorem pm_jmp_of {pc : Nat} {off : Int} {ls st : List Value} {w : pm_W} {r : pm_C} (h : pm_jmp pc off ls st w = some r) : ∃ t : Nat, (pc : Int) + off = (t : Int) ∧ r = (t, ls, st, w) := by
  unfold pm_jmp at h
  split at h
  · rename_i h0
    cases h
    exact ⟨_, (Int.toNat_of_nonneg h0).symm, rfl⟩
  · cases h
theorem pm_br_of {P : Prop} [Decidable P] {pc : Nat} {off : Int} {ls st : List Value} {w : pm_W} {r : pm_C} (h : pm_br P pc off ls st w = some r) : ∃ t : Nat, (pc : Int) + off = (t : Int) ∧ ((P ∧ r = (t, ls, st, w)) ∨ (¬ P ∧ r = (pc + 3, ls, st, w))) := by
  unfold pm_br at h
  split at h
  · rename_i h1
    refine ⟨_, (Int.toNat_of_nonneg h1).symm, ?_⟩
    split at h
    · rename_i h0
      cases h
      exact Or.inl ⟨h0, rfl⟩
    · rename_i h0
      cases h
      exact Or.inr ⟨h0, rfl⟩
  · cases h
theorem pm_sum_v (st : List Value) : ((st.map (pm_v b)).map fun v => v.category).sum = pm_sum st := by
  unfold pm_sum
  rw [List.map_map]
  congr 1
  apply List.map_congr_left
  intro v _
  exact pm_v_cat b v
theorem pm_all_at {xs : List Int32} {sp n i : Nat} {P : Int32 → Bool} (h : ((xs.drop sp).take n).all P = true) (h4 : sp + n ≤ xs.length) (hi : i < n) : P (xs.getD (sp + i) 0) = true := by
  rw [List.all_eq_true] at h
  have hlt : sp + i < xs.length := by omega
  refine h _ ?_
  rw [List.getD_eq_getElem?_getD, List.getElem?_eq_getElem hlt]
  refine List.mem_of_getElem? (i := i) ?_
  rw [List.getElem?_take, if_pos hi, List.getElem?_drop, List.getElem?_eq_getElem hlt]
  rfl
/-- the goal behind an instruction -/
def pm_Go (D : va_G) (cl : List vw_C) (cA : Nat → ClassId) (b : pm_B) (nL : Nat) (p : Program) (l : Launch) (e : Env) (R : Room) (s : State) (m : MethodId) (args : Array Value) (below : List Frame) (meth : Method) (c : Code) (cells slots : Nat) (Q : State → Prop) (r : pm_C) : Prop :=
  ∀ (lsR : Array Slot) (H : Heap) (locs : List Loc), lv_has lsR nL (pm_lv b r.2.1) → r.2.1.length = nL → va_P D cl (pm_ws cA b r.2.2.2) H → va_S (fun q => b.1 ≤ q) s.heap H locs → W p l e R s m args below meth c H locs cells slots Q (F0 m r.1 lsR (r.2.2.1.map (pm_v b)))
variable {mi : Nat} {lsR : Array Slot} {pc : Nat} {ls st : List Value} {w : pm_W} {r : pm_C} {nL : Nat}
theorem pm_iload_ok {i : Nat} {pc' : Nat} (h : pm_iload pc' i ls st w = some r) (hl : lv_has lsR nL (pm_lv b ls)) : ∃ x, lsR[i]? = some (.val (.int x)) ∧ r = (pc', ls, .int x :: st, w) := by
  unfold pm_iload at h
  split at h
  · rename_i x hx
    cases h
    exact ⟨x, pm_lv_at hl hx rfl, rfl⟩
  · cases h
theorem pm_lload_ok {i : Nat} {pc' : Nat} (h : pm_lload pc' i ls st w = some r) (hl : lv_has lsR nL (pm_lv b ls)) : ∃ x, lsR[i]? = some (.val (.long x)) ∧ r = (pc', ls, .long x :: st, w) := by
  unfold pm_lload at h
  split at h
  · rename_i x hx
    cases h
    exact ⟨x, pm_lv_at hl hx rfl, rfl⟩
  · cases h
theorem pm_aload_ok {i : Nat} {pc' : Nat} (h : pm_aload pc' i ls st w = some r) (hl : lv_has lsR nL (pm_lv b ls)) : (∃ x a, lsR[i]? = some (.val (.ref a)) ∧ pm_v b x = .ref a ∧ r = (pc', ls, x :: st, w)) ∨ (lsR[i]? = some (.val .null) ∧ r = (pc', ls, .null :: st, w)) := by
  unfold pm_aload at h
  split at h
  · rename_i x hx
    cases h
    exact Or.inl ⟨.ref x, b.1 + x, pm_lv_at hl hx rfl, rfl, rfl⟩
  · rename_i hx
    cases h
    exact Or.inr ⟨pm_lv_at hl hx rfl, rfl⟩
  · rename_i x hx
    cases h
    exact Or.inl ⟨.retAddr x, b.2 x, pm_lv_at hl hx rfl, rfl, rfl⟩
  · cases h
theorem pm_istore_of {i : Nat} {pc' : Nat} (h : pm_istore pc' i ls st w = some r) : ∃ x st', st = .int x :: st' ∧ i < ls.length ∧ r = (pc', pm_st1 ls i (.int x), st', w) := by
  unfold pm_istore at h
  split at h
  · split at h
    · rename_i hk
      cases h
      exact ⟨_, _, rfl, hk, rfl⟩
    · cases h
  · cases h
theorem pm_lstore_of {i : Nat} {pc' : Nat} (h : pm_lstore pc' i ls st w = some r) : ∃ x st', st = .long x :: st' ∧ i + 1 < ls.length ∧ r = (pc', pm_st2 ls i (.long x), st', w) := by
  unfold pm_lstore at h
  split at h
  · split at h
    · rename_i hk
      cases h
      exact ⟨_, _, rfl, hk, rfl⟩
    · cases h
  · cases h
theorem pm_astore_of {i : Nat} {pc' : Nat} (h : pm_astore pc' i ls st w = some r) : i < ls.length ∧ ((∃ x a st', st = x :: st' ∧ pm_v b x = .ref a ∧ r = (pc', pm_st1 ls i x, st', w)) ∨ ∃ st', st = .null :: st' ∧ r = (pc', pm_st1 ls i .null, st', w)) := by
  unfold pm_astore at h
  split at h
  · split at h
    · rename_i hk
      cases h
      exact ⟨hk, Or.inl ⟨_, _, _, rfl, rfl, rfl⟩⟩
    · cases h
  · split at h
    · rename_i hk
      cases h
      exact ⟨hk, Or.inr ⟨_, rfl, rfl⟩⟩
    · cases h
  · split at h
    · rename_i hk
      cases h
      exact ⟨hk, Or.inl ⟨_, _, _, rfl, rfl, rfl⟩⟩
    · cases h
  · cases h
theorem pm_ii_of {f : Int32 → Int32 → Option Int32} (h : pm_ii pc f ls st w = some r) : ∃ x y z st', st = .int y :: .int x :: st' ∧ f x y = some z ∧ r = (pc + 1, ls, .int z :: st', w) := by
  unfold pm_ii at h
  split at h
  · split at h
    · rename_i hz
      cases h
      exact ⟨_, _, _, _, rfl, hz, rfl⟩
    · cases h
  · cases h
theorem pm_ll_of {f : Int64 → Int64 → Option Int64} (h : pm_ll pc f ls st w = some r) : ∃ x y z st', st = .long y :: .long x :: st' ∧ f x y = some z ∧ r = (pc + 1, ls, .long z :: st', w) := by
  unfold pm_ll at h
  split at h
  · split at h
    · rename_i hz
      cases h
      exact ⟨_, _, _, _, rfl, hz, rfl⟩
    · cases h
  · cases h
theorem pm_iald_of {X : pm_X} {t : Nat} (h : pm_iald X t pc ls st w = some r) : ∃ i st' xs, vp_in i xs.length ∧ r = (pc + 1, ls, .int (xs.getD i.toNatClampNeg 0) :: st', w) ∧ ((∃ a, st = .int i :: .ref a :: st' ∧ w[a]? = some (.inl (t, .inl xs))) ∨ ∃ j k, st = .int i :: .retAddr j :: st' ∧ X j = some (t, xs, k)) := by
  unfold pm_iald at h
  split at h
  · split at h
    · rename_i hw
      split at h
      · rename_i hc
        obtain ⟨rfl, hi⟩ := hc
        cases h
        exact ⟨_, _, _, pm_in_ok hi, rfl, Or.inr ⟨_, _, rfl, hw⟩⟩
      · cases h
    · cases h
  · split at h
    · rename_i hw
      split at h
      · rename_i hc
        obtain ⟨rfl, hi⟩ := hc
        cases h
        exact ⟨_, _, _, pm_in_ok hi, rfl, Or.inl ⟨_, rfl, hw⟩⟩
      · cases h
    · cases h
  · cases h
theorem pm_iast_of {t : Nat} {f : Int32 → Int32} (h : pm_iast t f pc ls st w = some r) : ∃ x i a st' xs, st = .int x :: .int i :: .ref a :: st' ∧ w[a]? = some (.inl (t, .inl xs)) ∧ vp_in i xs.length ∧ r = (pc + 1, ls, st', w.set a (.inl (t, .inl (xs.set i.toNatClampNeg (f x))))) := by
  unfold pm_iast at h
  split at h
  · split at h
    · rename_i hw
      split at h
      · rename_i hc
        obtain ⟨rfl, hi⟩ := hc
        cases h
        exact ⟨_, _, _, _, _, rfl, hw, pm_in_ok hi, rfl⟩
      · cases h
    · cases h
  · cases h
theorem pm_upd {xs : List Int32} {k : Nat} (h : k < xs.length) (x : Int32) : upd (fun j => xs.getD j 0) k x = fun j => (xs.set k x).getD j 0 := by
  funext j
  unfold upd
  by_cases hj : k = j
  · subst hj
    simp [h]
  · rw [if_neg (fun q => hj q.symm)]
    simp [List.getElem?_set_ne hj]
theorem pm_upq {b : pm_B} {xs : List (Option Nat)} {k : Nat} (h : k < xs.length) (v : Nat) : va_up (fun j => (xs.getD j none).map (fun q => b.1 + q)) k (some (b.1 + v)) = fun j => ((xs.set k (some v)).getD j none).map (fun q => b.1 + q) := by
  funext j
  unfold va_up
  by_cases hj : k = j
  · subst hj
    simp [h]
  · rw [if_neg (fun q => hj q.symm)]
    simp [List.getElem?_set_ne hj]
theorem pm_len_a (b : pm_B) (xs : pm_A) : (pm_a b xs).1 = pm_len xs := by
  rcases xs with _ | _ | _ <;> rfl
theorem pm_fit_ok {ty : FieldType} {v : Value} (b : pm_B) (h : pm_fit ty v = true) : narrow ty (pm_v b v) = pm_v b v ∧ fits ty (pm_v b v) = true := by
  unfold pm_fit at h
  simp only [Bool.and_eq_true, decide_eq_true_eq] at h
  exact ⟨by rw [pm_v_nar, h.1], pm_v_fit b ty v h.2⟩
theorem pm_copy_of (h : pm_copy pc ls st w = some r) : ∃ (n dp sp : Int32) (a1 a0 : Nat) (st' : List Value) (t : Nat) (xs ys : List Int32), st = .int n :: .int dp :: .ref a1 :: .int sp :: .ref a0 :: st' ∧ w[a0]? = some (.inl (t, .inl xs)) ∧ w[a1]? = some (.inl (t, .inl ys)) ∧ (t < 2 ∧ ¬ sp < 0 ∧ ¬ dp < 0 ∧ ¬ n < 0 ∧ sp.toNatClampNeg + n.toNatClampNeg ≤ xs.length ∧ dp.toNatClampNeg + n.toNatClampNeg ≤ ys.length ∧ (t = 0 ∨ ((xs.drop sp.toNatClampNeg).take n.toNatClampNeg).all (fun x => fits .byte (.int x)) = true) ∧ pm_sum st' ≤ 8) ∧ r = (pc + 3, ls, st', w.set a1 (.inl (t, .inl (pm_cpy xs ys sp.toNatClampNeg dp.toNatClampNeg n.toNatClampNeg)))) := by
  unfold pm_copy at h
  split at h
  · split at h
    · rename_i h1 h2
      split at h
      · rename_i hc
        obtain ⟨rfl, hc⟩ := hc
        cases h
        exact ⟨_, _, _, _, _, _, _, _, _, rfl, h1, h2, hc, rfl⟩
      · cases h
    · cases h
  · cases h
theorem pm_cpy_len {xs ys : List Int32} {sp dp n : Nat} (h1 : sp + n ≤ xs.length) (h2 : dp + n ≤ ys.length) : (pm_cpy xs ys sp dp n).length = ys.length := by
  simp only [pm_cpy, List.length_append, List.length_take, List.length_drop]
  omega
theorem pm_cpy_f {xs ys : List Int32} {sp dp n : Nat} (h1 : sp + n ≤ xs.length) (h2 : dp + n ≤ ys.length) : va_cpy (fun j => xs.getD j 0) (fun j => ys.getD j 0) sp dp n = fun j => (pm_cpy xs ys sp dp n).getD j 0 := by
  funext k
  unfold va_cpy pm_cpy
  simp only [List.getD_eq_getElem?_getD]
  by_cases ha : k < dp
  · rw [if_neg (by omega), List.append_assoc, List.getElem?_append_left (by simp; omega), List.getElem?_take, if_pos ha]
  · by_cases hb : k < dp + n
    · rw [if_pos (by omega), List.append_assoc, List.getElem?_append_right (by simp; omega), List.getElem?_append_left (by simp; omega), List.getElem?_take, if_pos (by simp; omega), List.getElem?_drop]
      congr 2
      simp
      congr 1
      omega
    · rw [if_neg (by omega), List.getElem?_append_right (by simp; omega), List.getElem?_drop]
      congr 2
      simp
      omega
theorem pm_oc_of {x z : Option pm_C} (h : pm_oc x z = some r) : x = some r ∨ z = some r := by
  cases x with
  | some q => exact Or.inl h
  | none => exact Or.inr h
end PM
end
section
section PM
variable {G : pm_G} {tyl : List FieldType} {cl : List vw_C} {D : va_G} {cA : Nat → ClassId} {b : pm_B} {Tb nws : List Cond} {aos : List String} {y : Nat → MethodName} {cd : Nat → ByteArray} {X : pm_X} {sts : List (String × String × String × Value)} {srs : List (String × Nat × String × Nat)}
variable {p : Program} {l : Launch} {e : Env} {R : Room} {s : State} {m : MethodId} {args : Array Value} {below : List Frame} {meth : Method} {c : Code} {H : Heap} {locs : List Loc} {cells slots : Nat} {Q : State → Prop}
variable {mi : Nat} {lsR : Array Slot} {pc : Nat} {ls st : List Value} {w : pm_W} {r : pm_C}
set_option maxHeartbeats 4000000 in
set_option maxRecDepth 100000 in
/-- one instruction that neither calls, nor makes, nor ends: as the pure machine has it -/
theorem pm_one_ok (hD : pm_okD cd G) (hC : pm_okC Tb cl) (hGt : pm_okG Tb nws cl y G) (hPt : pm_okP Tb nws cl y G) (hKs : pm_okK Tb y G) (okT : pm_okT Tb nws sts y G) (okR : pm_okR srs y G) (okU : pm_okU Tb y G) (okY : pm_okY Tb y G) (hRf : 1 ≤ R.frames) (hRl : 26 ≤ R.locals) (hRc : cells ≤ R.cells) (hRs : slots ≤ R.slots) (hT0 : tyl[0]? = some .int) (hT1 : tyl[1]? = some .byte) (hT2 : tyl[2]? = some .boolean)
    (F : pm_Fx D cl cA tyl Tb nws aos y cd G X sts srs b mi p s m args meth c) {i : Instr} (hd : pm_dec G mi pc = some i) (h : pm_one G X tyl cl mi i pc ls st w = some r) (hl : lv_has lsR (pm_max G mi) (pm_lv b ls)) (hll : ls.length = pm_max G mi)
    (hP : va_P D cl (pm_ws cA b w) H) (hS : va_S (fun q => b.1 ≤ q) s.heap H locs) (kk : pm_Go D cl cA b (pm_max G mi) p l e R s m args below meth c cells slots Q r) : W p l e R s m args below meth c H locs cells slots Q (F0 m pc lsR (st.map (pm_v b))) := by
  obtain ⟨hx, hb, hr, hml, hown, hts, hlocks, hnm, ⟨hK, hN, hA⟩, hbs, hOut⟩ := F
  obtain ⟨n, hdg, hn⟩ := hD mi pc i hd
  have hK0 : (pm_tys cA tyl)[0]? = some (cA 0, .int) := pm_tys_at hT0
  have hK1 : (pm_tys cA tyl)[1]? = some (cA 1, .byte) := pm_tys_at hT1
  have hK2 : (pm_tys cA tyl)[2]? = some (cA 2, .boolean) := pm_tys_at hT2
  have hDD : va_D (fun q => b.1 ≤ q) (pm_ws cA b w) := pm_D
  cases i with
  | iconst v =>
    have hn : n = 1 := hn.resolve_left (by simp [pm_sz])
    subst hn
    obtain rfl : _ = r := Option.some.inj h
    exact lv_iconst hx hb hdg rfl (kk _ _ _ hl hll hP hS)
  | bipush v =>
    have hn : n = 2 := hn.resolve_left (by simp [pm_sz])
    subst hn
    obtain rfl : _ = r := Option.some.inj h
    exact lv_bipush hx hb hdg rfl (kk _ _ _ hl hll hP hS)
  | sipush v =>
    have hn : n = 3 := hn.resolve_left (by simp [pm_sz])
    subst hn
    obtain rfl : _ = r := Option.some.inj h
    exact lv_sipush hx hb hdg rfl (kk _ _ _ hl hll hP hS)
  | lconst v =>
    have hn : n = 1 := hn.resolve_left (by simp [pm_sz])
    subst hn
    obtain rfl : _ = r := Option.some.inj h
    exact lv_lconst hx hb hdg rfl (kk _ _ _ hl hll hP hS)
  | aconst_null =>
    have hn : n = 1 := hn.resolve_left (by simp [pm_sz])
    subst hn
    obtain rfl : _ = r := Option.some.inj h
    exact lv_null hx hb hdg (kk _ _ _ hl hll hP hS)
  | ldc k =>
    have hn : n = 2 := hn.resolve_left (by simp [pm_sz])
    subst hn
    simp only [pm_one] at h
    split at h
    · rename_i v hv
      cases h
      exact lv_ldc hx hb hown (hts _ (hKs.1 mi k v hv)) hdg (kk _ _ _ hl hll hP hS)
    · split at h
      · rename_i j hj
        cases h
        obtain ⟨tx, hm⟩ := okR mi k j hj
        exact va_ldcS hx hb hown (hOut.2.2.2.2 _ _ _ _ hm) hdg (kk _ _ _ hl hll hP hS)
      · cases h
  | ldc_w k =>
    have hn : n = 3 := hn.resolve_left (by simp [pm_sz])
    subst hn
    simp only [pm_one] at h
    split at h
    · rename_i v hv
      cases h
      exact lv_ldcw hx hb hown (hts _ (hKs.1 mi k v hv)) hdg (kk _ _ _ hl hll hP hS)
    · cases h
  | getstatic k =>
    have hn : n = 3 := hn.resolve_left (by simp [pm_sz])
    subst hn
    simp only [pm_one] at h
    split at h
    · rename_i v hv
      cases h
      obtain ⟨C0, n0, d0, hm, hf | ⟨host, hf⟩⟩ := okT mi k v hv
      · exact va_gets hx hb (hOut.2.2.2.1 _ _ _ _ hm) hS hown (hts _ hf) (fun _ z => z) hdg (kk _ _ _ hl hll hP hS)
      · exact va_getsN hx hb (hOut.2.2.2.1 _ _ _ _ hm) hS hown (va_Nw.use rfl (hN _ hf)) (fun _ z => z) hdg (kk _ _ _ hl hll hP hS)
    · cases h
  | invokestatic k =>
    have hn : n = 3 := hn.resolve_left (by simp [pm_sz])
    subst hn
    simp only [pm_one] at h
    split at h
    · rename_i _ hk
      obtain ⟨y1, y2, y3, y4⟩ := okY.1 mi k hk
      obtain ⟨n0, dp, sp, a1, a0, st', t, xs, ys, rfl, hw0, hw1, ⟨ht, h1, h2, h3, h4, h5, h6, h7⟩, rfl⟩ := pm_copy_of h
      have hsm : ((st'.map (pm_v b)).map fun v => v.category).sum + (nativeFrameWords "java/lang/System" "arraycopy" 5 + 11) ≤ R.locals := by
        have e1 : ((st'.map (pm_v b)).map fun v => v.category).sum = pm_sum st' := pm_sum_v st'
        have e2 : nativeFrameWords "java/lang/System" "arraycopy" 5 = 7 := by decide
        omega
      have key : ∀ H1 : Heap, va_P D cl ((pm_ws cA b w).set a1 (b.1 + a1, .inl (cA t, ys.length, .inl (va_cpy (fun j => xs.getD j 0) (fun j => ys.getD j 0) sp.toNatClampNeg dp.toNatClampNeg n0.toNatClampNeg)))) H1 → va_P D cl (pm_ws cA b (w.set a1 (.inl (t, .inl (pm_cpy xs ys sp.toNatClampNeg dp.toNatClampNeg n0.toNatClampNeg))))) H1 := by
        intro H1 hP1
        rw [← pm_ws_set]
        show va_P D cl ((pm_ws cA b w).set a1 (b.1 + a1, .inl (cA t, (pm_cpy xs ys sp.toNatClampNeg dp.toNatClampNeg n0.toNatClampNeg).length, .inl (fun j => (pm_cpy xs ys sp.toNatClampNeg dp.toNatClampNeg n0.toNatClampNeg).getD j 0)))) H1
        rw [pm_cpy_len h4 h5, ← pm_cpy_f h4 h5]
        exact hP1
      rcases (show t = 0 ∨ t = 1 by omega) with rfl | rfl
      · exact va_copyi (ty := .int) hx hb (hml.trans hl.1.symm) hown (hts _ y1) (hts _ y2) (hts _ y3) (hts _ y4) hK hP hDD hS a0 a1 0 0 (pm_ws_at hw0) (pm_ws_at hw1) hK0 hK0 rfl h1 h2 h3 h4 h5 (fun _ _ => rfl) hRf hsm hdg (fun H1 locs1 hP1 _ hS1 => kk _ _ _ hl hll (key H1 hP1) hS1)
      · exact va_copyi (ty := .byte) hx hb (hml.trans hl.1.symm) hown (hts _ y1) (hts _ y2) (hts _ y3) (hts _ y4) hK hP hDD hS a0 a1 1 1 (pm_ws_at hw0) (pm_ws_at hw1) hK1 hK1 rfl h1 h2 h3 h4 h5 (fun i hi => pm_all_at (h6.resolve_left (by decide)) h4 hi) hRf hsm hdg (fun H1 locs1 hP1 _ hS1 => kk _ _ _ hl hll (key H1 hP1) hS1)
    · rename_i _ hk
      obtain ⟨y1, y2, y3, y4⟩ := okY.2.1 mi k hk
      split at h
      · split at h
        · rename_i h8
          cases h
          exact va_mmax hx hb (hml.trans hl.1.symm) hown (hts _ y1) (hts _ y2) (hts _ y3) (hts _ y4) hRf (by rw [pm_sum_v]; omega) hRc hRs hdg (kk _ _ _ hl hll hP hS)
        · cases h
      · cases h
    · rename_i _ hk
      obtain ⟨y1, y2, y3, y4⟩ := okY.2.2.1 mi k hk
      split at h
      · split at h
        · rename_i h8
          cases h
          exact va_mmin hx hb (hml.trans hl.1.symm) hown (hts _ y1) (hts _ y2) (hts _ y3) (hts _ y4) hRf (by rw [pm_sum_v]; omega) hRc hRs hdg (kk _ _ _ hl hll hP hS)
        · cases h
      · cases h
    · rename_i _ hk
      obtain ⟨y1, y2, y3, y4⟩ := okY.2.2.2 mi k hk
      split at h
      · split at h
        · rename_i h8
          cases h
          exact va_mabs hx hb (hml.trans hl.1.symm) hown (hts _ y1) (hts _ y2) (hts _ y3) (hts _ y4) hRf (by rw [pm_sum_v]; omega) hRc hRs hdg (kk _ _ _ hl hll hP hS)
        · cases h
      · cases h
    · cases h
  | ldc2_w k =>
    have hn : n = 3 := hn.resolve_left (by simp [pm_sz])
    subst hn
    simp only [pm_one] at h
    split at h
    · rename_i v hv
      cases h
      exact lv_ldc2 hx hb hown (hts _ (hKs.2 mi k v hv)) hdg (kk _ _ _ hl hll hP hS)
    · cases h
  | iload k =>
    have hn : n = 2 := hn.resolve_left (by simp [pm_sz])
    subst hn
    obtain ⟨x, h1, rfl⟩ := pm_iload_ok h hl
    exact lv_iload hx hb hdg h1 (kk _ _ _ hl hll hP hS)
  | iload_n k =>
    have hn : n = 1 := hn.resolve_left (by simp [pm_sz])
    subst hn
    obtain ⟨x, h1, rfl⟩ := pm_iload_ok h hl
    exact lv_iload_n hx hb hdg rfl h1 (kk _ _ _ hl hll hP hS)
  | lload k =>
    have hn : n = 2 := hn.resolve_left (by simp [pm_sz])
    subst hn
    obtain ⟨x, h1, rfl⟩ := pm_lload_ok h hl
    exact lv_lload hx hb hdg h1 (kk _ _ _ hl hll hP hS)
  | lload_n k =>
    have hn : n = 1 := hn.resolve_left (by simp [pm_sz])
    subst hn
    obtain ⟨x, h1, rfl⟩ := pm_lload_ok h hl
    exact lv_lload_n hx hb hdg rfl h1 (kk _ _ _ hl hll hP hS)
  | aload k =>
    have hn : n = 2 := hn.resolve_left (by simp [pm_sz])
    subst hn
    rcases pm_aload_ok h hl with ⟨x, a, h1, hv, rfl⟩ | ⟨h1, rfl⟩
    · refine lv_aload hx hb hdg h1 (W.eq ?_ (kk _ _ _ hl hll hP hS))
      simp [hv]
    · exact lv_aloadN hx hb hdg h1 (kk _ _ _ hl hll hP hS)
  | aload_n k =>
    have hn : n = 1 := hn.resolve_left (by simp [pm_sz])
    subst hn
    rcases pm_aload_ok h hl with ⟨x, a, h1, hv, rfl⟩ | ⟨h1, rfl⟩
    · refine lv_aload_n hx hb hdg rfl h1 (W.eq ?_ (kk _ _ _ hl hll hP hS))
      simp [hv]
    · exact lv_aload_nN hx hb hdg rfl h1 (kk _ _ _ hl hll hP hS)
  | istore k =>
    have hn : n = 2 := hn.resolve_left (by simp [pm_sz])
    subst hn
    obtain ⟨x, st', rfl, h1, rfl⟩ := pm_istore_of h
    exact lv_istore hx hb hdg hl (by rw [← hll]; exact h1) rfl fun lsR' hl' => kk _ _ _ (pm_lv_st1 (v := .int x) rfl hl') (by rw [pm_st1_len]; exact hll) hP hS
  | istore_n k =>
    have hn : n = 1 := hn.resolve_left (by simp [pm_sz])
    subst hn
    obtain ⟨x, st', rfl, h1, rfl⟩ := pm_istore_of h
    exact lv_istore_n hx hb hdg rfl hl (by rw [← hll]; exact h1) rfl fun lsR' hl' => kk _ _ _ (pm_lv_st1 (v := .int x) rfl hl') (by rw [pm_st1_len]; exact hll) hP hS
  | lstore k =>
    have hn : n = 2 := hn.resolve_left (by simp [pm_sz])
    subst hn
    obtain ⟨x, st', rfl, h1, rfl⟩ := pm_lstore_of h
    exact lv_lstore hx hb hdg hl (by rw [← hll]; exact h1) rfl fun lsR' hl' => kk _ _ _ (pm_lv_st2 (v := .long x) rfl hl') (by rw [pm_st2_len]; exact hll) hP hS
  | lstore_n k =>
    have hn : n = 1 := hn.resolve_left (by simp [pm_sz])
    subst hn
    obtain ⟨x, st', rfl, h1, rfl⟩ := pm_lstore_of h
    exact lv_lstore_n hx hb hdg rfl hl (by rw [← hll]; exact h1) rfl fun lsR' hl' => kk _ _ _ (pm_lv_st2 (v := .long x) rfl hl') (by rw [pm_st2_len]; exact hll) hP hS
  | astore k =>
    have hn : n = 2 := hn.resolve_left (by simp [pm_sz])
    subst hn
    obtain ⟨h1, ⟨x, a, st', rfl, hv, rfl⟩ | ⟨st', rfl, rfl⟩⟩ := pm_astore_of (b := b) h
    · refine W.eq (g2 := F0 m pc lsR (.ref a :: st'.map (pm_v b))) (by simp [hv]) ?_
      exact lv_astore hx hb hdg hl (by rw [← hll]; exact h1) rfl fun lsR' hl' => kk _ _ _ (pm_lv_st1 (v := x) (by rw [hv]) hl') (by rw [pm_st1_len]; exact hll) hP hS
    · exact lv_astoreN hx hb hdg hl (by rw [← hll]; exact h1) rfl fun lsR' hl' => kk _ _ _ (pm_lv_st1 (v := .null) rfl hl') (by rw [pm_st1_len]; exact hll) hP hS
  | astore_n k =>
    have hn : n = 1 := hn.resolve_left (by simp [pm_sz])
    subst hn
    obtain ⟨h1, ⟨x, a, st', rfl, hv, rfl⟩ | ⟨st', rfl, rfl⟩⟩ := pm_astore_of (b := b) h
    · refine W.eq (g2 := F0 m pc lsR (.ref a :: st'.map (pm_v b))) (by simp [hv]) ?_
      exact lv_astore_n hx hb hdg rfl hl (by rw [← hll]; exact h1) rfl fun lsR' hl' => kk _ _ _ (pm_lv_st1 (v := x) (by rw [hv]) hl') (by rw [pm_st1_len]; exact hll) hP hS
    · exact lv_astore_nN hx hb hdg rfl hl (by rw [← hll]; exact h1) rfl fun lsR' hl' => kk _ _ _ (pm_lv_st1 (v := .null) rfl hl') (by rw [pm_st1_len]; exact hll) hP hS
  | iinc k v =>
    have hn : n = 3 := hn.resolve_left (by simp [pm_sz])
    subst hn
    simp only [pm_one] at h
    split at h
    · rename_i x hk
      cases h
      obtain ⟨j, hj⟩ := List.getElem?_of_mem (pm_lv_mem.mpr ⟨.int x, hk, rfl, rfl⟩ : (k, pm_v b (.int x)) ∈ pm_lv b ls)
      exact lv_iinc hx hb hdg hl hj rfl (by rw [← hll]; exact (List.getElem?_eq_some_iff.mp hk).1) rfl fun lsR' hl' => kk _ _ _ (pm_lv_st1 (v := .int (x + Int32.ofInt v)) rfl hl') (by rw [pm_st1_len]; exact hll) hP hS
    · cases h
  | iadd =>
    have hn : n = 1 := hn.resolve_left (by simp [pm_sz])
    subst hn
    simp only [pm_one] at h
    obtain ⟨x, y1, z, st', rfl, hz, rfl⟩ := pm_ii_of h
    cases hz
    exact lv_iadd hx hb hdg (kk _ _ _ hl hll hP hS)
  | isub =>
    have hn : n = 1 := hn.resolve_left (by simp [pm_sz])
    subst hn
    simp only [pm_one] at h
    obtain ⟨x, y1, z, st', rfl, hz, rfl⟩ := pm_ii_of h
    cases hz
    exact lv_isub hx hb hdg (kk _ _ _ hl hll hP hS)
  | imul =>
    have hn : n = 1 := hn.resolve_left (by simp [pm_sz])
    subst hn
    simp only [pm_one] at h
    obtain ⟨x, y1, z, st', rfl, hz, rfl⟩ := pm_ii_of h
    cases hz
    exact lv_imul hx hb hdg (kk _ _ _ hl hll hP hS)
  | iand =>
    have hn : n = 1 := hn.resolve_left (by simp [pm_sz])
    subst hn
    simp only [pm_one] at h
    obtain ⟨x, y1, z, st', rfl, hz, rfl⟩ := pm_ii_of h
    cases hz
    exact lv_iand hx hb hdg (kk _ _ _ hl hll hP hS)
  | ior =>
    have hn : n = 1 := hn.resolve_left (by simp [pm_sz])
    subst hn
    simp only [pm_one] at h
    obtain ⟨x, y1, z, st', rfl, hz, rfl⟩ := pm_ii_of h
    cases hz
    exact lv_ior hx hb hdg (kk _ _ _ hl hll hP hS)
  | ixor =>
    have hn : n = 1 := hn.resolve_left (by simp [pm_sz])
    subst hn
    simp only [pm_one] at h
    obtain ⟨x, y1, z, st', rfl, hz, rfl⟩ := pm_ii_of h
    cases hz
    exact lv_ixor hx hb hdg (kk _ _ _ hl hll hP hS)
  | ishl =>
    have hn : n = 1 := hn.resolve_left (by simp [pm_sz])
    subst hn
    simp only [pm_one] at h
    obtain ⟨x, y1, z, st', rfl, hz, rfl⟩ := pm_ii_of h
    cases hz
    exact lv_ishl hx hb hdg (kk _ _ _ hl hll hP hS)
  | ishr =>
    have hn : n = 1 := hn.resolve_left (by simp [pm_sz])
    subst hn
    simp only [pm_one] at h
    obtain ⟨x, y1, z, st', rfl, hz, rfl⟩ := pm_ii_of h
    cases hz
    exact lv_ishr hx hb hdg (kk _ _ _ hl hll hP hS)
  | iushr =>
    have hn : n = 1 := hn.resolve_left (by simp [pm_sz])
    subst hn
    simp only [pm_one] at h
    obtain ⟨x, y1, z, st', rfl, hz, rfl⟩ := pm_ii_of h
    cases hz
    exact lv_iushr hx hb hdg rfl (kk _ _ _ hl hll hP hS)
  | idiv =>
    have hn : n = 1 := hn.resolve_left (by simp [pm_sz])
    subst hn
    simp only [pm_one] at h
    obtain ⟨x, y1, z, st', rfl, hz, rfl⟩ := pm_ii_of h
    have hz : (if y1 = 0 then none else some _) = some z := hz
    split at hz
    · cases hz
    · rename_i h0
      cases hz
      exact lv_idiv hx hb hdg h0 (kk _ _ _ hl hll hP hS)
  | irem =>
    have hn : n = 1 := hn.resolve_left (by simp [pm_sz])
    subst hn
    simp only [pm_one] at h
    obtain ⟨x, y1, z, st', rfl, hz, rfl⟩ := pm_ii_of h
    have hz : (if y1 = 0 then none else some _) = some z := hz
    split at hz
    · cases hz
    · rename_i h0
      cases hz
      exact lv_irem hx hb hdg h0 (kk _ _ _ hl hll hP hS)
  | lmul =>
    have hn : n = 1 := hn.resolve_left (by simp [pm_sz])
    subst hn
    simp only [pm_one] at h
    obtain ⟨x, y1, z, st', rfl, hz, rfl⟩ := pm_ll_of h
    cases hz
    exact lv_lmul hx hb hdg (kk _ _ _ hl hll hP hS)
  | ineg =>
    have hn : n = 1 := hn.resolve_left (by simp [pm_sz])
    subst hn
    simp only [pm_one] at h
    split at h
    · cases h
      exact lv_ineg hx hb hdg (kk _ _ _ hl hll hP hS)
    · cases h
  | i2l =>
    have hn : n = 1 := hn.resolve_left (by simp [pm_sz])
    subst hn
    simp only [pm_one] at h
    split at h
    · cases h
      exact lv_i2l hx hb hdg rfl (kk _ _ _ hl hll hP hS)
    · cases h
  | i2b =>
    have hn : n = 1 := hn.resolve_left (by simp [pm_sz])
    subst hn
    simp only [pm_one] at h
    split at h
    · cases h
      exact lv_i2b hx hb hdg rfl (kk _ _ _ hl hll hP hS)
    · cases h
  | i2c =>
    have hn : n = 1 := hn.resolve_left (by simp [pm_sz])
    subst hn
    simp only [pm_one] at h
    split at h
    · cases h
      exact lv_i2c hx hb hdg rfl (kk _ _ _ hl hll hP hS)
    · cases h
  | lcmp =>
    have hn : n = 1 := hn.resolve_left (by simp [pm_sz])
    subst hn
    simp only [pm_one] at h
    split at h
    · cases h
      exact W.lcmp hx hb hdg (kk _ _ _ hl hll hP hS)
    · cases h
  | dup =>
    have hn : n = 1 := hn.resolve_left (by simp [pm_sz])
    subst hn
    simp only [pm_one] at h
    split at h
    · split at h
      · rename_i hc
        cases h
        exact lv_dup hx hb hdg (by rw [pm_v_cat]; exact hc) (kk _ _ _ hl hll hP hS)
      · cases h
    · cases h
  | pop =>
    have hn : n = 1 := hn.resolve_left (by simp [pm_sz])
    subst hn
    simp only [pm_one] at h
    split at h
    · split at h
      · rename_i hc
        cases h
        exact lv_pop hx hb hdg (by rw [pm_v_cat]; exact hc) (kk _ _ _ hl hll hP hS)
      · cases h
    · cases h
  | dup2 =>
    have hn : n = 1 := hn.resolve_left (by simp [pm_sz])
    subst hn
    simp only [pm_one] at h
    split at h
    · split at h
      · rename_i hc
        cases h
        exact lv_dup2_11 hx hb hdg (by rw [pm_v_cat]; exact hc.1) (by rw [pm_v_cat]; exact hc.2) (kk _ _ _ hl hll hP hS)
      · cases h
    · cases h
  | dup_x1 =>
    have hn : n = 1 := hn.resolve_left (by simp [pm_sz])
    subst hn
    simp only [pm_one] at h
    split at h
    · split at h
      · rename_i hc
        cases h
        exact lv_dup_x1 hx hb hdg (by rw [pm_v_cat]; exact hc.1) (by rw [pm_v_cat]; exact hc.2) (kk _ _ _ hl hll hP hS)
      · cases h
    · cases h
  | dup_x2 =>
    have hn : n = 1 := hn.resolve_left (by simp [pm_sz])
    subst hn
    simp only [pm_one] at h
    split at h
    · split at h
      · rename_i hc
        cases h
        exact lv_dup_x2 hx hb hdg (by rw [pm_v_cat]; exact hc.1) (by rw [pm_v_cat]; exact hc.2.1) (by rw [pm_v_cat]; exact hc.2.2) (kk _ _ _ hl hll hP hS)
      · cases h
    · cases h
  | goto off =>
    have hn : n = 3 := hn.resolve_left (by simp [pm_sz])
    subst hn
    obtain ⟨t, ht, rfl⟩ := pm_jmp_of h
    exact lv_goto hx hb hdg ht (kk _ _ _ hl hll hP hS)
  | ifCond c0 off =>
    have hn : n = 3 := hn.resolve_left (by simp [pm_sz])
    subst hn
    have h : pm_if1 c0 pc off ls st w = some r := h
    unfold pm_if1 at h
    split at h
    · cases c0 with
      | eq =>
        obtain ⟨t, ht, ⟨h0, rfl⟩ | ⟨h0, rfl⟩⟩ := pm_br_of h
        · exact lv_if_eq hx hb hdg ht (fun _ => kk _ _ _ hl hll hP hS) (fun q => absurd h0 q)
        · exact lv_if_eq hx hb hdg ht (fun q => absurd q h0) (fun _ => kk _ _ _ hl hll hP hS)
      | ne =>
        obtain ⟨t, ht, ⟨h0, rfl⟩ | ⟨h0, rfl⟩⟩ := pm_br_of h
        · exact lv_if_ne hx hb hdg ht (fun _ => kk _ _ _ hl hll hP hS) (fun q => absurd q h0)
        · exact lv_if_ne hx hb hdg ht (fun q => absurd q h0) (fun _ => kk _ _ _ hl hll hP hS)
      | lt =>
        obtain ⟨t, ht, ⟨h0, rfl⟩ | ⟨h0, rfl⟩⟩ := pm_br_of h
        · exact lv_if_lt hx hb hdg ht (fun _ => kk _ _ _ hl hll hP hS) (fun q => absurd h0 q)
        · exact lv_if_lt hx hb hdg ht (fun q => absurd q h0) (fun _ => kk _ _ _ hl hll hP hS)
      | ge =>
        obtain ⟨t, ht, ⟨h0, rfl⟩ | ⟨h0, rfl⟩⟩ := pm_br_of h
        · exact lv_if_ge hx hb hdg ht (fun _ => kk _ _ _ hl hll hP hS) (fun q => absurd h0 q)
        · exact lv_if_ge hx hb hdg ht (fun q => absurd q h0) (fun _ => kk _ _ _ hl hll hP hS)
      | gt =>
        obtain ⟨t, ht, ⟨h0, rfl⟩ | ⟨h0, rfl⟩⟩ := pm_br_of h
        · exact lv_if_gt hx hb hdg ht (fun _ => kk _ _ _ hl hll hP hS) (fun q => absurd h0 q)
        · exact lv_if_gt hx hb hdg ht (fun q => absurd q h0) (fun _ => kk _ _ _ hl hll hP hS)
      | le =>
        obtain ⟨t, ht, ⟨h0, rfl⟩ | ⟨h0, rfl⟩⟩ := pm_br_of h
        · exact lv_if_le hx hb hdg ht (fun _ => kk _ _ _ hl hll hP hS) (fun q => absurd h0 q)
        · exact lv_if_le hx hb hdg ht (fun q => absurd q h0) (fun _ => kk _ _ _ hl hll hP hS)
    · cases h
  | if_icmp c0 off =>
    have hn : n = 3 := hn.resolve_left (by simp [pm_sz])
    subst hn
    have h : pm_if2 c0 pc off ls st w = some r := h
    unfold pm_if2 at h
    split at h
    · cases c0 with
      | eq =>
        obtain ⟨t, ht, ⟨h0, rfl⟩ | ⟨h0, rfl⟩⟩ := pm_br_of h
        · exact lv_icmp_eq hx hb hdg ht (fun _ => kk _ _ _ hl hll hP hS) (fun q => absurd h0 q)
        · exact lv_icmp_eq hx hb hdg ht (fun q => absurd q h0) (fun _ => kk _ _ _ hl hll hP hS)
      | ne =>
        obtain ⟨t, ht, ⟨h0, rfl⟩ | ⟨h0, rfl⟩⟩ := pm_br_of h
        · exact lv_icmp_ne hx hb hdg ht (fun _ => kk _ _ _ hl hll hP hS) (fun q => absurd q h0)
        · exact lv_icmp_ne hx hb hdg ht (fun q => absurd q h0) (fun _ => kk _ _ _ hl hll hP hS)
      | lt =>
        obtain ⟨t, ht, ⟨h0, rfl⟩ | ⟨h0, rfl⟩⟩ := pm_br_of h
        · exact lv_icmp_lt hx hb hdg ht (fun _ => kk _ _ _ hl hll hP hS) (fun q => absurd h0 q)
        · exact lv_icmp_lt hx hb hdg ht (fun q => absurd q h0) (fun _ => kk _ _ _ hl hll hP hS)
      | ge =>
        obtain ⟨t, ht, ⟨h0, rfl⟩ | ⟨h0, rfl⟩⟩ := pm_br_of h
        · exact lv_icmp_ge hx hb hdg ht (fun _ => kk _ _ _ hl hll hP hS) (fun q => absurd h0 q)
        · exact lv_icmp_ge hx hb hdg ht (fun q => absurd q h0) (fun _ => kk _ _ _ hl hll hP hS)
      | gt =>
        obtain ⟨t, ht, ⟨h0, rfl⟩ | ⟨h0, rfl⟩⟩ := pm_br_of h
        · exact lv_icmp_gt hx hb hdg ht (fun _ => kk _ _ _ hl hll hP hS) (fun q => absurd h0 q)
        · exact lv_icmp_gt hx hb hdg ht (fun q => absurd q h0) (fun _ => kk _ _ _ hl hll hP hS)
      | le =>
        obtain ⟨t, ht, ⟨h0, rfl⟩ | ⟨h0, rfl⟩⟩ := pm_br_of h
        · exact lv_icmp_le hx hb hdg ht (fun _ => kk _ _ _ hl hll hP hS) (fun q => absurd h0 q)
        · exact lv_icmp_le hx hb hdg ht (fun q => absurd q h0) (fun _ => kk _ _ _ hl hll hP hS)
    · cases h
  | ifnull off =>
    have hn : n = 3 := hn.resolve_left (by simp [pm_sz])
    subst hn
    simp only [pm_one] at h
    split at h
    · obtain ⟨t, ht, rfl⟩ := pm_jmp_of h
      exact lv_ifnullN hx hb hdg ht (kk _ _ _ hl hll hP hS)
    · cases h
      exact lv_ifnull hx hb hdg (kk _ _ _ hl hll hP hS)
    · cases h
  | ifnonnull off =>
    have hn : n = 3 := hn.resolve_left (by simp [pm_sz])
    subst hn
    simp only [pm_one] at h
    split at h
    · cases h
      exact lv_ifnonnullN hx hb hdg (kk _ _ _ hl hll hP hS)
    · obtain ⟨t, ht, rfl⟩ := pm_jmp_of h
      exact lv_ifnonnull hx hb hdg ht (kk _ _ _ hl hll hP hS)
    · cases h
  | tableswitch df lo hi offs =>
    simp only [pm_one] at h
    split at h
    · split at h
      · rename_i h0
        obtain ⟨t, ht, rfl⟩ := pm_jmp_of h
        exact lv_tableOut hx hb hdg h0 ht (kk _ _ _ hl hll hP hS)
      · rename_i h0
        split at h
        · rename_i off ho
          obtain ⟨t, ht, rfl⟩ := pm_jmp_of h
          exact lv_tableIn hx hb hdg (fun q => h0 (Or.inl q)) (fun q => h0 (Or.inr q)) ho ht (kk _ _ _ hl hll hP hS)
        · cases h
    · cases h
  | iaload =>
    have hn : n = 1 := hn.resolve_left (by simp [pm_sz])
    subst hn
    simp only [pm_one] at h
    obtain ⟨i, st', xs, hi, rfl, ⟨a, rfl, hw⟩ | ⟨j, k, rfl, hX⟩⟩ := pm_iald_of h
    · exact va_iald hx hb hK hP a 0 (pm_ws_at hw) hK0 hi hdg (kk _ _ _ hl hll hP hS)
    · exact va_ti hx hb (hOut.1 j xs k hX) hS hi rfl hdg (kk _ _ _ hl hll hP hS)
  | baload =>
    have hn : n = 1 := hn.resolve_left (by simp [pm_sz])
    subst hn
    simp only [pm_one] at h
    rcases pm_oc_of h with h | h
    · obtain ⟨i, st', xs, hi, rfl, ⟨a, rfl, hw⟩ | ⟨j, k, rfl, hX⟩⟩ := pm_iald_of h
      · exact va_bald hx hb hK hP a 1 (pm_ws_at hw) hK1 hi hdg (kk _ _ _ hl hll hP hS)
      · exact va_tb hx hb (hOut.2.1 j xs k hX) hS hi rfl hdg (kk _ _ _ hl hll hP hS)
    · obtain ⟨i, st', xs, hi, rfl, ⟨a, rfl, hw⟩ | ⟨j, k, rfl, hX⟩⟩ := pm_iald_of h
      · exact va_zald hx hb hK hP a 2 (pm_ws_at hw) hK2 hi hdg (kk _ _ _ hl hll hP hS)
      · cases hX
  | iastore =>
    have hn : n = 1 := hn.resolve_left (by simp [pm_sz])
    subst hn
    simp only [pm_one] at h
    obtain ⟨x, i, a, st', xs, rfl, hw, hi, rfl⟩ := pm_iast_of h
    refine va_iast hx hb hK hP hDD hS a 0 (pm_ws_at hw) hK0 hi hdg (fun H1 locs1 hP1 _ hS1 => kk _ _ _ hl hll ?_ hS1)
    show va_P D cl (pm_ws cA b (w.set a (.inl (0, .inl (xs.set i.toNatClampNeg x))))) H1
    rw [← pm_ws_set]
    show va_P D cl ((pm_ws cA b w).set a (b.1 + a, .inl (cA 0, (xs.set i.toNatClampNeg x).length, .inl (fun j => (xs.set i.toNatClampNeg x).getD j 0)))) H1
    rw [List.length_set, ← pm_upd (pm_in_lt hi)]
    exact hP1
  | bastore =>
    have hn : n = 1 := hn.resolve_left (by simp [pm_sz])
    subst hn
    simp only [pm_one] at h
    rcases pm_oc_of h with h | h
    · obtain ⟨x, i, a, st', xs, rfl, hw, hi, rfl⟩ := pm_iast_of h
      refine va_bast hx hb hK hP hDD hS a 1 (pm_ws_at hw) hK1 hi hdg (fun H1 locs1 hP1 _ hS1 => kk _ _ _ hl hll ?_ hS1)
      show va_P D cl (pm_ws cA b (w.set a (.inl (1, .inl (xs.set i.toNatClampNeg (vp_nar .byte x)))))) H1
      rw [← pm_ws_set]
      show va_P D cl ((pm_ws cA b w).set a (b.1 + a, .inl (cA 1, (xs.set i.toNatClampNeg (vp_nar .byte x)).length, .inl (fun j => (xs.set i.toNatClampNeg (vp_nar .byte x)).getD j 0)))) H1
      rw [List.length_set, ← pm_upd (pm_in_lt hi)]
      exact hP1
    · obtain ⟨x, i, a, st', xs, rfl, hw, hi, rfl⟩ := pm_iast_of h
      refine va_zast hx hb hK hP hDD hS a 2 (pm_ws_at hw) hK2 hi hdg (fun H1 locs1 hP1 _ hS1 => kk _ _ _ hl hll ?_ hS1)
      show va_P D cl (pm_ws cA b (w.set a (.inl (2, .inl (xs.set i.toNatClampNeg (vp_nar .boolean x)))))) H1
      rw [← pm_ws_set]
      show va_P D cl ((pm_ws cA b w).set a (b.1 + a, .inl (cA 2, (xs.set i.toNatClampNeg (vp_nar .boolean x)).length, .inl (fun j => (xs.set i.toNatClampNeg (vp_nar .boolean x)).getD j 0)))) H1
      rw [List.length_set, ← pm_upd (pm_in_lt hi)]
      exact hP1
  | arraylength =>
    have hn : n = 1 := hn.resolve_left (by simp [pm_sz])
    subst hn
    simp only [pm_one] at h
    split at h
    · rename_i j st'
      split at h
      · rename_i _ t xs k hX
        split at h
        · rename_i ht
          cases h
          rcases (show t = 0 ∨ t = 1 by omega) with rfl | rfl
          · exact va_tlen hx hb (hOut.1 j xs k hX) hS rfl hdg (kk _ _ _ hl hll hP hS)
          · exact va_tlen hx hb (hOut.2.1 j xs k hX) hS rfl hdg (kk _ _ _ hl hll hP hS)
        · cases h
      · cases h
    · rename_i a st'
      split at h
      · rename_i _ t xs hw
        split at h
        · rename_i ht
          cases h
          exact va_alen hx hb hK hP a t (pm_ws_at hw) (pm_tys_at (List.getElem?_eq_getElem ht)) (by rw [pm_len_a]) hdg (kk _ _ _ hl hll hP hS)
        · cases h
      · cases h
    · cases h
  | aaload =>
    have hn : n = 1 := hn.resolve_left (by simp [pm_sz])
    subst hn
    simp only [pm_one] at h
    split at h
    · rename_i i a st'
      split at h
      · rename_i _ t xs hw
        split at h
        · rename_i _ C ht
          split at h
          · rename_i hi
            cases h
            refine va_aldq hx hb hK hP a t (pm_ws_at hw) (pm_tys_at ht) (pm_in_ok hi) hdg ?_
            exact W.eq (by simp [pm_v_rf]) (kk _ _ _ hl hll hP hS)
          · cases h
        · cases h
      · cases h
    · cases h
  | aastore =>
    have hn : n = 1 := hn.resolve_left (by simp [pm_sz])
    subst hn
    simp only [pm_one] at h
    split at h
    · rename_i v i a st'
      split at h
      · rename_i _ t xs hw
        split at h
        · rename_i _ ci vs hv
          split at h
          · rename_i _ rc hc
            split at h
            · rename_i hi
              cases h
              refine va_astq hx hb hK hP hDD hS a t v ci (pm_ws_at hw) (pm_tys_at hi.1) (pm_ws_at hv) hc (pm_in_ok hi.2) hdg (fun H1 locs1 hP1 _ hS1 => kk _ _ _ hl hll ?_ hS1)
              show va_P D cl (pm_ws cA b (w.set a (.inl (t, .inr (.inr (xs.set i.toNatClampNeg (some v))))))) H1
              rw [← pm_ws_set]
              show va_P D cl ((pm_ws cA b w).set a (b.1 + a, .inl (cA t, (xs.set i.toNatClampNeg (some v)).length, .inr (.inr (.inr (.inr (fun j => ((xs.set i.toNatClampNeg (some v)).getD j none).map (fun k => b.1 + k)))))))) H1
              rw [List.length_set, ← pm_upq (pm_in_lt (pm_in_ok hi.2))]
              exact hP1
            · cases h
          · cases h
        · cases h
      · cases h
    · cases h
  | getfield k =>
    have hn : n = 3 := hn.resolve_left (by simp [pm_sz])
    subst hn
    simp only [pm_one] at h
    split at h
    · rename_i j st'
      split at h
      · rename_i _ xs i hX
        obtain ⟨o1, o2, o3⟩ := hOut.2.2.1 j xs i hX
        split at h
        · rename_i _ hk
          cases h
          exact vk_getf hx hb o2 hS hown (hts _ (okU.1 mi k hk)) (fun _ z => z) hdg (kk _ _ _ hl hll hP hS)
        · rename_i _ hk
          cases h
          exact vk_getf hx hb o3 hS hown (hts _ (okU.2 mi k hk)) (fun _ z => z) hdg (kk _ _ _ hl hll hP hS)
        · cases h
      · cases h
    · rename_i a st'
      split at h
      · rename_i _ ci j hg
        split at h
        · rename_i _ ci' fs hw
          split at h
          · rename_i hci
            subst hci
            split at h
            · rename_i _ v hv
              cases h
              obtain ⟨⟨C, T, N⟩, hq, hj, hF⟩ := hGt mi k _ j hg
              have hv' : (fs.map (pm_v b))[j]? = some (pm_v b v) := by rw [List.getElem?_map, hv]; rfl
              rcases hF with hf | ⟨host, hf⟩
              · exact va_get hx hb hts (hC _ _ hq).1 hown hK hP a (pm_ws_at hw) hq j hj (hts _ hf) (fun _ z => z) hv' hdg (kk _ _ _ hl hll hP hS)
              · exact va_getN hx hb hts (hC _ _ hq).1 hown hK hP a (pm_ws_at hw) hq j hj (va_Nw.use rfl (hN _ hf)) (fun _ z => z) hv' hdg (kk _ _ _ hl hll hP hS)
            · cases h
          · cases h
        · cases h
      · cases h
    · cases h
  | putfield k =>
    have hn : n = 3 := hn.resolve_left (by simp [pm_sz])
    subst hn
    simp only [pm_one] at h
    split at h
    · rename_i v a st'
      split at h
      · rename_i _ ci j ty hg
        split at h
        · rename_i _ ci' fs hw
          split at h
          · rename_i hci
            obtain ⟨rfl, hjl, hft⟩ := hci
            cases h
            obtain ⟨⟨C, T, N⟩, hq, hj, hty, hF⟩ := hPt mi k _ j ty hg
            obtain ⟨hin, ⟨ty0, hty0⟩, hnm0⟩ := hC _ _ hq
            obtain ⟨hn1, hf1⟩ := pm_fit_ok b hft
            have key : ∀ H1 : Heap, va_P D cl ((pm_ws cA b w).set a (b.1 + a, .inr (ci', (fs.map (pm_v b)).set j (pm_v b v)))) H1 → va_P D cl (pm_ws cA b (w.set a (.inr (ci', fs.set j v)))) H1 := by
              intro H1 hP1
              rw [← pm_ws_set]
              show va_P D cl ((pm_ws cA b w).set a (b.1 + a, .inr (ci', (fs.set j v).map (pm_v b)))) H1
              rw [List.map_set]
              exact hP1
            rcases hF with ⟨hfin, hf | ⟨host, hf⟩⟩ | ⟨hfin, hni, hde, hf⟩
            · exact va_put hx hb hts hin ty0 hty0 hnm0 hown hK hP hDD hS a (pm_ws_at hw) hq j hj (hts _ hf) (fun _ z => z) hfin hty hn1 hf1 (by rw [List.length_map]; exact hjl) hdg (fun H1 locs1 hP1 _ hS1 => kk _ _ _ hl hll (key H1 hP1) hS1)
            · exact va_putN hx hb hts hin ty0 hty0 hnm0 hown hK hP hDD hS a (pm_ws_at hw) hq j hj (va_Nw.use rfl (hN _ hf)) (fun _ z => z) hfin hty hn1 hf1 (by rw [List.length_map]; exact hjl) hdg (fun H1 locs1 hP1 _ hS1 => kk _ _ _ hl hll (key H1 hP1) hS1)
            · exact va_putF hx hb hts hin ty0 hty0 hnm0 hown hK hP hDD hS a (pm_ws_at hw) hq j hj (hts _ hf) (fun _ z => z) hfin (hnm.trans hni) hde hty hn1 hf1 (by rw [List.length_map]; exact hjl) hdg (fun H1 locs1 hP1 _ hS1 => kk _ _ _ hl hll (key H1 hP1) hS1)
          · cases h
        · cases h
      · cases h
    · cases h
  | _ => exact absurd h (by simp [pm_one])
end PM
end
section
/-! ===== the pure machine against the machine ===== -/
theorem pm_set_len {w : pm_W} {k : Nat} {e : pm_E} : (w.set k e).length = w.length := List.length_set
set_option maxHeartbeats 4000000 in
set_option maxRecDepth 100000 in
theorem pm_one_len {G : pm_G} {X : pm_X} {tyl : List FieldType} {cl : List vw_C} {mi pc : Nat} {i : Instr} {ls st : List Value} {w : pm_W} {r : pm_C} (h : pm_one G X tyl cl mi i pc ls st w = some r) : r.2.2.2.length = w.length := by
  cases i with
  | baload =>
    simp only [pm_one] at h
    rcases pm_oc_of h with h | h <;> (obtain ⟨_, _, _, _, rfl, _⟩ := pm_iald_of h; rfl)
  | bastore =>
    simp only [pm_one] at h
    rcases pm_oc_of h with h | h <;> (obtain ⟨_, _, _, _, _, _, _, _, rfl⟩ := pm_iast_of h; exact List.length_set)
  | _ => (simp only [pm_one, pm_iload, pm_lload, pm_aload, pm_istore, pm_lstore, pm_astore, pm_ii, pm_ll, pm_if1, pm_if2, pm_br, pm_jmp, pm_iald, pm_copy, pm_iast, reduceCtorEq] at h) <;> (repeat' split at h) <;> first | (cases h; first | rfl | exact List.length_set) | cases h
theorem pm_add_of {c n : Nat} {x : Option pm_R} {r : Option Value} {w : pm_W} {mc ms : Nat} (h : pm_add c n x = some (r, w, mc, ms)) : ∃ c' n', x = some (r, w, c', n') ∧ mc = c + c' ∧ ms = n + n' := by
  rcases x with _ | ⟨r', w', c', n'⟩
  · cases h
  · cases h
    exact ⟨c', n', rfl, rfl, rfl⟩
theorem pm_wlen {G : pm_G} {X : pm_X} {tyl : List FieldType} {cl : List vw_C} : ∀ (f d mi pc : Nat) (ls st : List Value) (w : pm_W) (r : Option Value) (w' : pm_W) (mc ms : Nat), pm G X tyl cl f d mi pc ls st w = some (r, w', mc, ms) → w'.length = w.length + mc := by
  intro f
  induction f with
  | zero => intro d mi pc ls st w r w' mc ms h; cases h
  | succ f ih =>
    intro d mi pc ls st w r w' mc ms h
    simp only [pm] at h
    split at h
    · cases h
    · split at h
      · rename_i h1
        rw [ih _ _ _ _ _ _ _ _ _ _ h]
        exact congrArg (· + mc) (pm_one_len h1)
      · split at h
        · split at h
          · rename_i h1
            obtain ⟨c', n', h2, rfl, rfl⟩ := pm_add_of h
            rw [ih _ _ _ _ _ _ _ _ _ _ h2, ih _ _ _ _ _ _ _ _ _ _ h1, Nat.add_assoc]
          · cases h
        · split at h
          · cases h; rfl
          · split at h
            · exact ih _ _ _ _ _ _ _ _ _ _ h
            · split at h
              · obtain ⟨c', n', h2, rfl, rfl⟩ := pm_add_of h
                rw [ih _ _ _ _ _ _ _ _ _ _ h2, List.length_append, Nat.add_assoc]
                rfl
              · cases h
end
section
def pm_rm (d mc ms : Nat) : Room := { frames := d + 1, cells := mc, slots := ms, locals := 64 * (d + 1) }
def pm_wd (Tb : List Cond) (y : Nat → MethodName) (cd : Nat → ByteArray) (G : pm_G) (mi : Nat) : List Cond := .code (y mi) (cd mi) (pm_max G mi) (pm_ret G mi) :: Tb
/-- a method's start: its arguments, the world, the tables -/
def pm_Pc (D : va_G) (cl : List vw_C) (cA : Nat → ClassId) (tyl : List FieldType) (nws : List Cond) (aos : List String) (X : pm_X) (sts : List (String × String × String × Value)) (srs : List (String × Nat × String × Nat)) (b : pm_B) (vs : List Value) (w : pm_W) : Array Value → State → Prop := fun a U => a = (vs.map (pm_v b)).toArray ∧ U.heap.size = b.1 + w.length ∧ va_P D cl (pm_ws cA b w) U.heap ∧ pm_K D cl cA tyl nws aos U ∧ pm_Out b X sts srs U U.heap
/-- a method's end: its answer, the world; nothing below b has changed -/
def pm_Qc (D : va_G) (cl : List vw_C) (cA : Nat → ClassId) (b : pm_B) (r : Option Value) (w : pm_W) : Array Value → State → Outcome → State → Prop := fun _ st oc t => oc = .returned (r.map (pm_v b)) ∧ va_P D cl (pm_ws cA b w) t.heap ∧ va_F (fun q => b.1 ≤ q) st t
def pm_nestOk (w : Cond) : Prop := (∃ a i b n d h, w = .fieldLinkNest a i b n d h) ∨ ∃ a i x h, w = .methodLinkNest a i x h
theorem pm_K.warm {D : va_G} {cl : List vw_C} {cA : Nat → ClassId} {tyl : List FieldType} {nws : List Cond} {aos : List String} (hn : ∀ w ∈ nws, pm_nestOk w) {s U : State} (hW : s.WarmedH U.vm) (h : pm_K D cl cA tyl nws aos s) : pm_K D cl cA tyl nws aos U := by
  refine ⟨h.1.moved hW.alike, fun w hw => ?_, fun C hC => (h.2.2 C hC).moved hW.alike⟩
  rcases hn w hw with ⟨a, i, b, n, d, g, rfl⟩ | ⟨a, i, x, g, rfl⟩
  · exact va_Nw.warmF hW (h.2.1 _ hw)
  · exact va_Nw.warmM hW (h.2.1 _ hw)
theorem pm_K.call {D : va_G} {cl : List vw_C} {cA : Nat → ClassId} {tyl : List FieldType} {nws : List Cond} {aos : List String} (hn : ∀ w ∈ nws, pm_nestOk w) {U V : State} (hv : U.vm = V.vm) (h : pm_K D cl cA tyl nws aos U) : pm_K D cl cA tyl nws aos V := by
  have ha : U.vm.Alike V.vm := by rw [hv]; exact Vm.Alike.refl V.vm
  refine ⟨h.1.moved ha, fun w hw => ?_, fun C hC => (h.2.2 C hC).moved ha⟩
  rcases hn w hw with ⟨a, i, b, n, d, g, rfl⟩ | ⟨a, i, x, g, rfl⟩
  · exact va_Nw.same rfl hv (h.2.1 _ hw)
  · exact va_Nw.same rfl hv (h.2.1 _ hw)
def pm_okM (Tb : List Cond) (y : Nat → MethodName) (cd : Nat → ByteArray) (G : pm_G) (mj n : Nat) : Prop := plainName (y mj).cls = true ∧ Cond.code (y mj) (cd mj) (pm_max G mj) (pm_ret G mj) ∈ Tb ∧ Cond.initialized (y mj).cls ∈ Tb ∧ ((y mj).cls ≠ "java/lang/invoke/MethodHandle" ∧ (y mj).cls ≠ "java/lang/invoke/VarHandle" ∧ (parseMethodDescriptor (y mj).desc).map (fun d => d.parameters.length) = some n) ∧ pm_max G mj ≤ 45
def pm_okL (Tb nws : List Cond) (own : String) (k : Nat) (x : MethodName) : Prop := Cond.methodLink own k x ∈ Tb ∨ ∃ host, Cond.methodLinkNest own k x host ∈ nws
def pm_okV (Tb nws : List Cond) (cl : List vw_C) (y : Nat → MethodName) (cd : Nat → ByteArray) (G : pm_G) : Prop := ∀ mi pc k mj n, pm_dec G mi pc = some (.invokevirtual k) → pm_cal G mi k = some (mj, n) → pm_okM Tb y cd G mj n ∧ pm_okL Tb nws (y mi).cls k (y mj) ∧ Cond.instanceMethod (y mj) ∈ Tb ∧ Cond.selects (y mj).cls (y mj) (y mj) ∈ Tb ∧ ((pm_hom G mj = 1000 ∧ (y mj).cls = "java/lang/String") ∨ ∃ q : vw_C, cl[pm_hom G mj]? = some q ∧ q.1 = (y mj).cls)
def pm_okS (Tb nws : List Cond) (y : Nat → MethodName) (cd : Nat → ByteArray) (G : pm_G) : Prop := ∀ mi pc k mj n, pm_dec G mi pc = some (.invokestatic k) → pm_cal G mi k = some (mj, n) → pm_okM Tb y cd G mj n ∧ pm_okL Tb nws (y mi).cls k (y mj) ∧ Cond.static (y mj) ∈ Tb
def pm_okI (Tb nws : List Cond) (y : Nat → MethodName) (cd : Nat → ByteArray) (G : pm_G) : Prop := ∀ mi pc k mj n, pm_dec G mi pc = some (.invokespecial k) → pm_cal G mi k = some (mj, n) → mj ≠ 0 → pm_okM Tb y cd G mj n ∧ pm_okL Tb nws (y mi).cls k (y mj) ∧ (y mj).name = "<init>" ∧ Cond.instanceMethod (y mj) ∈ Tb ∧ pm_ret G mj = none
def pm_okO (Tb : List Cond) (y : Nat → MethodName) (G : pm_G) : Prop := ∀ mi pc k n, pm_dec G mi pc = some (.invokespecial k) → pm_cal G mi k = some (0, n) → Cond.methodLink (y mi).cls k objectInit ∈ Tb ∧ Cond.instanceMethod objectInit ∈ Tb ∧ Cond.code objectInit ⟨#[0xb1]⟩ 1 none ∈ Tb
def pm_okN (Tb : List Cond) (cl : List vw_C) (y : Nat → MethodName) (G : pm_G) : Prop := ∀ mi k ci fs, pm_new G mi k = some (ci, fs) → ∃ q : vw_C, cl[ci]? = some q ∧ Cond.classLink (y mi).cls k q.1 ∈ Tb ∧ Cond.instantiable q.1 q.2.2 ∈ Tb ∧ Cond.initialized q.1 ∈ Tb ∧ fs.length = q.2.2 ∧ ∀ j, j < q.2.2 → (parseFieldDescriptor (q.2.1 j).2.2.1).map defaultValue = some (vp_V fs j)
def pm_okA (Tb : List Cond) (tyl : List FieldType) (aos : List String) (y : Nat → MethodName) (G : pm_G) : Prop := (∀ mi pc a, pm_dec G mi pc = some (.newarray a) → Cond.arrayClass (newarray.typeOf a) ∈ Tb) ∧ ∀ mi k t, pm_anw G mi k = some t → ∃ C, tyl[t]? = some (.object C) ∧ Cond.classLink (y mi).cls k C ∈ Tb ∧ C ∈ aos
/-- all of it -/
def pm_ok (Tb nws : List Cond) (aos : List String) (tyl : List FieldType) (cl : List vw_C) (y : Nat → MethodName) (cd : Nat → ByteArray) (G : pm_G) (sts : List (String × String × String × Value)) (srs : List (String × Nat × String × Nat)) : Prop :=
  (pm_okD cd G ∧ pm_okC Tb cl ∧ pm_okG Tb nws cl y G ∧ pm_okP Tb nws cl y G ∧ pm_okK Tb y G ∧ tyl[0]? = some .int ∧ tyl[1]? = some .byte ∧ tyl[2]? = some .boolean) ∧
  (∀ w ∈ Tb, goodWord w = true) ∧ (∀ w ∈ nws, pm_nestOk w) ∧ pm_okV Tb nws cl y cd G ∧ pm_okS Tb nws y cd G ∧ pm_okI Tb nws y cd G ∧ pm_okO Tb y G ∧ pm_okN Tb cl y G ∧ pm_okA Tb tyl aos y G ∧ (pm_okT Tb nws sts y G ∧ pm_okR srs y G ∧ pm_okU Tb y G ∧ pm_okY Tb y G) ∧ ∀ ci, cl[ci]? ≠ none → ci < 1000
section PM
variable {G : pm_G} {tyl : List FieldType} {cl : List vw_C} {D : va_G} {cA : Nat → ClassId} {b : pm_B} {Tb nws : List Cond} {aos : List String} {y : Nat → MethodName} {cd : Nat → ByteArray} {X : pm_X} {sts : List (String × String × String × Value)} {srs : List (String × Nat × String × Nat)}
variable {p : Program} {l : Launch} {e : Env} {R : Room} {s : State} {m : MethodId} {args : Array Value} {below : List Frame} {meth : Method} {c : Code} {H : Heap} {locs : List Loc} {cells slots : Nat} {Q : State → Prop}
theorem pm_hs {g : JFrame} (k : H.size ≤ s.heap.size + cells → W p l e R s m args below meth c H locs cells slots Q g) : W p l e R s m args below meth c H locs cells slots Q g :=
  fun T hT X => k (by rw [← hT]; exact X.heapSize) T hT X
theorem pm_size {w : pm_W} (hP : va_P D cl (pm_ws cA b w) H) (hS : va_S (fun q => b.1 ≤ q) s.heap H locs) (hbs : b.1 ≤ s.heap.size) (hc : s.heap.size + cells = b.1 + w.length) (h : H.size ≤ s.heap.size + cells) : H.size = b.1 + w.length := by
  have h1 := hS.1
  cases hw : w.length with
  | zero => rw [hw] at hc; omega
  | succ n =>
    have hn : n < w.length := by omega
    have h2 := (hP n _ (pm_ws_at (List.getElem?_eq_getElem hn))).lt
    have h2 : b.1 + n < H.size := h2
    omega
/-- the cell that is made lies behind all others -/
theorem pm_newq {w : pm_W} {q : Nat} {E : va_E} {H1 : Heap} (hP : va_P D cl (pm_ws cA b w ++ [(q, E)]) H1) (hD : va_D (fun x => b.1 ≤ x) (pm_ws cA b w ++ [(q, E)])) (hz : H1.size ≤ b.1 + w.length + 1) : q = b.1 + w.length := by
  have hl : (pm_ws cA b w).length = w.length := pm_ws_len cA b w
  have hq : (pm_ws cA b w ++ [(q, E)])[w.length]? = some (q, E) := by
    rw [List.getElem?_append_right (by omega), hl, Nat.sub_self]
    rfl
  have h1 : q < H1.size := (hP _ _ hq).lt
  have h2 : b.1 ≤ q := hD.2 _ _ hq
  rcases Nat.lt_or_ge q (b.1 + w.length) with h3 | h3
  · have hn : q - b.1 < w.length := by omega
    have h4 : (pm_ws cA b w ++ [(q, E)])[q - b.1]? = some (b.1 + (q - b.1), pm_e cA b w[q - b.1]) := by
      rw [List.getElem?_append_left (by omega)]
      exact pm_ws_at (List.getElem?_eq_getElem hn)
    have h5 := hD.1 _ _ _ _ h4 hq (show b.1 + (q - b.1) = q by omega)
    omega
  · omega
theorem pm_call {pc : Nat} {lsR : Array Slot} {st0 rest : List Value} {r : Option Value} {w' : pm_W} {a : Array Value} {mc ms : Nat} (hr : va_Run p l e R s m args below meth c H locs cells slots mc ms (F0 m pc lsR st0) rest (pm_Qc D cl cA b r w' a) (fun q => b.1 ≤ q)) (hS : va_S (fun q => b.1 ≤ q) s.heap H locs)
    (kk : ∀ (H1 : Heap) (locs1 : List Loc), va_P D cl (pm_ws cA b w') H1 → va_S (fun q => b.1 ≤ q) s.heap H1 locs1 → W p l e R s m args below meth c H1 locs1 (cells + mc) (slots + ms) Q (F0 m (pc + 3) lsR ((r.map (pm_v b)).toList ++ rest))) : W p l e R s m args below meth c H locs cells slots Q (F0 m pc lsR st0) := by
  intro T hT X
  obtain ⟨v, st₀, t, T', L, h0, X', hL, e1, e2, ⟨hv, hp, hz, hk⟩, st⟩ := hr T hT X
  cases hv
  rw [h0] at hz hk
  obtain ⟨t2, a1, b1⟩ := kk T'.heap (locs ++ L) (by rw [e1]; exact hp)
    ⟨Nat.le_trans hS.1 (by rw [e1]; exact hz), fun q h1 h2 => by rw [e1, hk q (Nat.lt_of_lt_of_le h1 hS.1) h2]; exact hS.2.1 q h1 h2, fun q hq => by
      rcases List.mem_append.mp hq with h | h
      · exact hS.2.2 q h
      · exact hL q h⟩ T' rfl X'
  exact ⟨t2, st t2 a1, b1⟩
end PM
end
section
/-- a run of the pure machine is a run of the machine: at fuel f -/
def pm_Sound (G : pm_G) (X : pm_X) (sts : List (String × String × String × Value)) (srs : List (String × Nat × String × Nat)) (tyl : List FieldType) (cl : List vw_C) (D : va_G) (cA : Nat → ClassId) (b : pm_B) (Tb nws : List Cond) (aos : List String) (y : Nat → MethodName) (cd : Nat → ByteArray) (l : Launch) (f : Nat) : Prop :=
  ∀ (d mi pc : Nat) (ls st : List Value) (w : pm_W) (r : Option Value) (w' : pm_W) (mc ms : Nat), pm G X tyl cl f d mi pc ls st w = some (r, w', mc, ms) → ∀ (p : Program) (e : Env) (R : Room) (s : State) (m : MethodId) (args : Array Value) (below : List Frame) (meth : Method) (c : Code) (H : Heap) (locs : List Loc) (cells slots C S : Nat) (lsR : Array Slot),
    pm_Fx D cl cA tyl Tb nws aos y cd G X sts srs b mi p s m args meth c → lv_has lsR (pm_max G mi) (pm_lv b ls) → ls.length = pm_max G mi → va_P D cl (pm_ws cA b w) H → va_S (fun q => b.1 ≤ q) s.heap H locs → s.heap.size + cells = b.1 + w.length → d + 1 ≤ R.frames → 64 * (d + 1) ≤ R.locals → cells + mc = C → slots + ms = S → C ≤ R.cells → S ≤ R.slots →
    W p l e R s m args below meth c H locs cells slots (MQ below (pm_Qc D cl cA b r w') args s C S (fun q => b.1 ≤ q)) (F0 m pc lsR (st.map (pm_v b)))
section PM
variable {G : pm_G} {tyl : List FieldType} {cl : List vw_C} {D : va_G} {cA : Nat → ClassId} {b : pm_B} {Tb nws : List Cond} {aos : List String} {y : Nat → MethodName} {cd : Nat → ByteArray} {X : pm_X} {sts : List (String × String × String × Value)} {srs : List (String × Nat × String × Nat)} {l : Launch}
/-- a method's contract out of its run -/
theorem pm_Met {f : Nat} (hS : pm_Sound G X sts srs tyl cl D cA b Tb nws aos y cd l f) {d mj : Nat} {vs : List Value} {w w' : pm_W} {r : Option Value} {mc ms : Nat} (h : pm G X tyl cl f d mj 0 (pm_ent (pm_max G mj) vs) [] w = some (r, w', mc, ms)) (hvs : (pm_arg vs).length ≤ pm_max G mj) (hpn : plainName (y mj).cls = true) :
    Met l (y mj) (pm_wd Tb y cd G mj) (pm_rm d mc ms) (pm_Pc D cl cA tyl nws aos X sts srs b vs w) (pm_Qc D cl cA b r w') mc ms (fun q => b.1 ≤ q) := by
  refine Met.ofW (cc := cd mj) (maxL := pm_max G mj) (ret := pm_ret G mj) hpn rfl ?_
  intro p e s m args below meth c s₁ B hml hv
  obtain ⟨rfl, hsz, hP, hK, hO⟩ := hv
  have hts := atoms_spec (ws := pm_wd Tb y cd G mj) B.pre
  have hl := lv_entry (vs.map (pm_v b)) (n := pm_max G mj) (by rw [lg_sl_v, ← pm_arg_len]; exact hvs)
  rw [lg_entry_eq]
  exact hS d mj 0 _ [] w r w' mc ms h p e _ s m _ below meth c s.heap [] 0 0 mc ms _ ⟨B.exec, B.bytes, B.returns, hml, findClass_of_methodNamed B.named, fun w hw => hts w (List.mem_cons_of_mem _ hw), B.notSynchronized, (name_of_methodNamed B.named B.method).1, hK, by omega, hO⟩ (pm_ent_ok hl) (pm_ent_len hvs) hP va_S.rf hsz (Nat.le_refl _) (Nat.le_refl _) (Nat.zero_add _) (Nat.zero_add _) (Nat.le_refl _) (Nat.le_refl _)
theorem pm_blind (hn : ∀ w ∈ nws, pm_nestOk w) {vs : List Value} {w : pm_W} : FrameBlind (pm_Pc D cl cA tyl nws aos X sts srs b vs w) := fun a U g mk h => ⟨h.1, h.2.1, h.2.2.1, pm_K.call (U := U) (V := U.calling g mk a) hn rfl h.2.2.2.1, pm_Out.call (U := U) (V := U.calling g mk a) rfl h.2.2.2.2⟩
theorem pm_pre (hn : ∀ w ∈ nws, pm_nestOk w) {s : State} {H : Heap} {vs : List Value} {w : pm_W} (hO : pm_Out b X sts srs s H) (hK : pm_K D cl cA tyl nws aos s) (hz : H.size = b.1 + w.length) (hP : va_P D cl (pm_ws cA b w) H) : ∀ U : State, U.heap = H → s.WarmedH U.vm → pm_Pc D cl cA tyl nws aos X sts srs b vs w (vs.map (pm_v b)).toArray U :=
  fun U hU hW => ⟨rfl, by rw [hU]; exact hz, by rw [hU]; exact hP, hK.warm hn hW, by rw [hU]; exact hO.warm hW⟩
theorem pm_cll_of {mi : Nat} {i : Instr} {d : Nat} {st : List Value} {w : pm_W} {mj d' : Nat} {vs st' : List Value} (h : pm_cll G X mi i d st w = some (mj, d', vs, st')) : d = d' + 1 ∧ pm_sum st' ≤ 8 ∧ (pm_arg vs).length ≤ pm_max G mj ∧ ∃ k n As, pm_cal G mi k = some (mj, n) ∧ As.length = n ∧
    ((i = .invokestatic k ∧ vs = As ∧ st = As.reverse ++ st') ∨ ∃ v, vs = v :: As ∧ st = As.reverse ++ v :: st' ∧ ((i = .invokespecial k ∧ mj ≠ 0 ∧ ∃ a, v = .ref a) ∨ (i = .invokevirtual k ∧ pm_rcv G X w mj v = true))) := by
  unfold pm_cll at h
  split at h
  · rename_i k
    split at h
    · rename_i mj0 n hc
      split at h
      · rename_i d0 a st0 hs
        split at h
        · rename_i h0
          cases h
          refine ⟨rfl, h0.2.2.1, h0.2.2.2, k, n, (st.take n).reverse, hc, by rw [List.length_reverse]; exact h0.2.1, Or.inr ⟨.ref a, rfl, ?_, Or.inl ⟨rfl, h0.1, a, rfl⟩⟩⟩
          rw [List.reverse_reverse, ← hs, List.take_append_drop]
        · cases h
      · cases h
    · cases h
  · rename_i k
    split at h
    · rename_i mj0 n hc
      split at h
      · rename_i d0 v st0 hs
        split at h
        · rename_i h0
          cases h
          refine ⟨rfl, h0.2.2.1, h0.2.2.2, k, n, (st.take n).reverse, hc, by rw [List.length_reverse]; exact h0.2.1, Or.inr ⟨v, rfl, ?_, Or.inr ⟨rfl, h0.1⟩⟩⟩
          rw [List.reverse_reverse, ← hs, List.take_append_drop]
        · cases h
      · cases h
    · cases h
  · rename_i k
    split at h
    · rename_i mj0 n hc
      split at h
      · split at h
        · rename_i h0
          cases h
          refine ⟨rfl, h0.2.1, h0.2.2, k, n, (st.take n).reverse, hc, by rw [List.length_reverse]; exact h0.1, Or.inl ⟨rfl, rfl, ?_⟩⟩
          rw [List.reverse_reverse, List.take_append_drop]
        · cases h
      · cases h
    · cases h
  · cases h
theorem pm_push_v (r : Option Value) (st : List Value) : (pm_push r st).map (pm_v b) = (r.map (pm_v b)).toList ++ st.map (pm_v b) := by cases r <;> rfl
theorem pm_good (hg : ∀ w ∈ Tb, goodWord w = true) {mj : Nat} (hc : Cond.code (y mj) (cd mj) (pm_max G mj) (pm_ret G mj) ∈ Tb) : GoodIn Tb (pm_wd Tb y cd G mj) := by
  intro w hw
  rcases List.mem_cons.mp hw with rfl | hw
  · exact ⟨hc, good_of_word (hg _ hc)⟩
  · exact ⟨hw, good_of_word (hg _ hw)⟩
set_option maxHeartbeats 4000000 in
/-- a call -/
theorem pm_run (hok : pm_ok Tb nws aos tyl cl y cd G sts srs) {f : Nat} (ih : pm_Sound G X sts srs tyl cl D cA b Tb nws aos y cd l f) {p : Program} {e : Env} {R : Room} {s : State} {m : MethodId} {args : Array Value} {below : List Frame} {meth : Method} {c : Code} {H : Heap} {locs : List Loc} {cells slots : Nat} {lsR : Array Slot}
    {mi pc d mj d' : Nat} {i : Instr} {st vs st' : List Value} {w w1 : pm_W} {r1 : Option Value} {c1 n1 : Nat} (hd : pm_dec G mi pc = some i) (h1 : pm_cll G X mi i d st w = some (mj, d', vs, st')) (h2 : pm G X tyl cl f d' mj 0 (pm_ent (pm_max G mj) vs) [] w = some (r1, w1, c1, n1))
    (F : pm_Fx D cl cA tyl Tb nws aos y cd G X sts srs b mi p s m args meth c) (hls : lsR.size = pm_max G mi) (hP : va_P D cl (pm_ws cA b w) H) (hS : va_S (fun q => b.1 ≤ q) s.heap H locs) (hz : H.size = b.1 + w.length) (hRf : d + 1 ≤ R.frames) (hRl : 64 * (d + 1) ≤ R.locals) (hf : cells + c1 ≤ R.cells ∧ slots + n1 ≤ R.slots) :
    va_Run p l e R s m args below meth c H locs cells slots c1 n1 (F0 m pc lsR (st.map (pm_v b))) (st'.map (pm_v b)) (pm_Qc D cl cA b r1 w1 (vs.map (pm_v b)).toArray) (fun q => b.1 ≤ q) := by
  obtain ⟨⟨okD, okC, -, -, -, -, -⟩, hg, hn, okV, okS, okI, -, -, -, -, okH⟩ := hok
  obtain ⟨hx, hb, hr, hml, hown, hts, hlocks, hnm, hK, hbs, hOut⟩ := F
  have hO : pm_Out b X sts srs s H := hOut.kept hS.2.1
  obtain ⟨rfl, hsum, harg, k, n, As, hcal, hAs, hkind⟩ := pm_cll_of h1
  obtain ⟨len, hdg, hlen⟩ := okD mi pc i hd
  have hW : 2 * (F0 m pc lsR (st.map (pm_v b))).monitorRoom + ((st'.map (pm_v b)).map fun v => v.category).sum ≤ 8 := lv_room (by rw [pm_sum_v]; exact hsum)
  have hRm : pm_max G mj ≤ 45 → (pm_rm d' c1 n1).frames + 1 ≤ R.frames ∧ 8 + (pm_max G mj + 11) + (pm_rm d' c1 n1).locals ≤ R.locals := by
    intro h45
    constructor
    · show d' + 1 + 1 ≤ R.frames
      exact hRf
    · show 8 + (pm_max G mj + 11) + 64 * (d' + 1) ≤ R.locals
      omega
  have hLn : (As.map (pm_v b)).length = n := by rw [List.length_map]; exact hAs
  rcases hkind with ⟨rfl, rfl, rfl⟩ | ⟨rv, rfl, rfl, ⟨rfl, hmj, a, rfl⟩ | ⟨rfl, hrc⟩⟩
  · have hlen : len = 3 := hlen.resolve_left (by simp [pm_sz])
    subst hlen
    obtain ⟨⟨hpn, hcode, hini, hdd, h45⟩, hlk, hst⟩ := okS mi pc k mj n hd hcal
    have M := pm_Met ih h2 harg hpn
    have hstk : (F0 m pc lsR ((vs.reverse ++ st').map (pm_v b))).stack = (vs.map (pm_v b)).reverse ++ st'.map (pm_v b) := by
      show (vs.reverse ++ st').map (pm_v b) = _
      rw [List.map_append, List.map_reverse]
    rcases hlk with hlk | ⟨host, hlk⟩
    · exact va_runS (n := n) ⟨hx, hb, hml, hown, hts⟩ M ⟨callB_of n hts (pm_good hg hcode) rfl rfl rfl (hts _ hini) (hts _ hlk) hdd (hRm h45), hts _ hst⟩ ⟨pm_blind hn, pm_pre hn hO hK hz hP⟩ rfl hLn hls hstk hW hdg hf
    · exact va_runSN (n := n) ⟨hx, hb, hml, hown, hts⟩ M ⟨va_cnB n hts (pm_good hg hcode) rfl rfl rfl (hK.2.1 _ hlk) (hts _ hini) hdd (hRm h45), hts _ hst, trivial⟩ ⟨pm_blind hn, pm_pre hn hO hK hz hP⟩ rfl hLn hls hstk hW hdg hf
  · have hlen : len = 3 := hlen.resolve_left (by simp [pm_sz])
    subst hlen
    obtain ⟨⟨hpn, hcode, hini, hdd, h45⟩, hlk, hna, hin, hret⟩ := okI mi pc k mj n hd hcal hmj
    have M := pm_Met ih h2 harg hpn
    have hstk : (F0 m pc lsR ((As.reverse ++ .ref a :: st').map (pm_v b))).stack = (As.map (pm_v b)).reverse ++ .ref (b.1 + a) :: st'.map (pm_v b) := by
      show (As.reverse ++ .ref a :: st').map (pm_v b) = _
      rw [List.map_append, List.map_reverse]
      rfl
    have hw : pm_wd Tb y cd G mj = Cond.code (y mj) (cd mj) (pm_max G mj) none :: Tb := by unfold pm_wd; rw [hret]
    rcases hlk with hlk | ⟨host, hlk⟩
    · exact va_runI (n := n) ⟨hx, hb, hml, hown, hts⟩ M ⟨callB_of n hts (pm_good hg hcode) hw rfl rfl (hts _ hini) (hts _ hlk) hdd (hRm h45), hna, hts _ hin⟩ ⟨pm_blind hn, pm_pre hn hO hK hz hP⟩ rfl hLn hls hstk hW hdg hf
    · exact va_runIN (n := n) ⟨hx, hb, hml, hown, hts⟩ M ⟨va_cnB n hts (pm_good hg hcode) hw rfl rfl (hK.2.1 _ hlk) (hts _ hini) hdd (hRm h45), hna, hts _ hin⟩ ⟨pm_blind hn, pm_pre hn hO hK hz hP⟩ rfl hLn hls hstk hW hdg hf
  · have hlen : len = 3 := hlen.resolve_left (by simp [pm_sz])
    subst hlen
    obtain ⟨⟨hpn, hcode, hini, hdd, h45⟩, hlk, hin, hsel, hhom⟩ := okV mi pc k mj n hd hcal
    have M := pm_Met ih h2 harg hpn
    have hrec : ∃ adr : Nat, pm_v b rv = .ref adr ∧ ∃ cell : Cell, H[adr]? = some cell ∧ cell.vm.isStatics = false ∧ s.vm.findClass (y mj).cls = some cell.cls := by
      unfold pm_rcv at hrc
      split at hrc
      · split at hrc
        · rename_i j _ xs i hX
          have h1000 : pm_hom G mj = 1000 := eq_of_beq hrc
          rcases hhom with ⟨-, hcls⟩ | ⟨q, hq, -⟩
          · obtain ⟨cell, c1, c2, c3, -⟩ := (hO.2.2.1 j xs i hX).1
            exact ⟨b.2 j, rfl, cell, c1, c2, by rw [hcls]; exact c3⟩
          · have := okH (pm_hom G mj) (by rw [hq]; exact fun z => by cases z)
            omega
        · cases hrc
      · rename_i a
        split at hrc
        · rename_i _ ci fs hwa
          have hci : ci = pm_hom G mj := eq_of_beq hrc
          subst hci
          rcases hhom with ⟨h1000, -⟩ | ⟨⟨C, T, N⟩, hq, hqC⟩
          · have hz0 := (hP a _ (pm_ws_at hwa))
            obtain ⟨q, hq, -⟩ := hz0
            have := okH (pm_hom G mj) (by rw [hq]; exact fun z => by cases z)
            omega
          · have hqC : C = (y mj).cls := hqC
            subst hqC
            exact ⟨b.1 + a, rfl, va_recv (q := ((y mj).cls, T, N)) hK.1 hP hq (pm_ws_at hwa)⟩
        · cases hrc
      · cases hrc
    obtain ⟨adr, hadr, hrec⟩ := hrec
    have hstk : (F0 m pc lsR ((As.reverse ++ rv :: st').map (pm_v b))).stack = (As.map (pm_v b)).reverse ++ .ref adr :: st'.map (pm_v b) := by
      show (As.reverse ++ rv :: st').map (pm_v b) = _
      rw [List.map_append, List.map_reverse, List.map_cons, hadr]
    have hpp := pm_pre (vs := rv :: As) hn hO hK hz hP
    rw [List.map_cons, hadr] at hpp ⊢
    rcases hlk with hlk | ⟨host, hlk⟩
    · exact va_runV (n := n) (C := (y mj).cls) ⟨hx, hb, hml, hown, hts⟩ M ⟨callB_of n hts (pm_good hg hcode) rfl rfl rfl (hts _ hini) (hts _ hlk) hdd (hRm h45), hts _ hin, hts _ hsel⟩ ⟨pm_blind hn, hrec, hpp⟩ rfl hLn hls hstk hW hdg hf
    · exact va_runVN (n := n) (C := (y mj).cls) ⟨hx, hb, hml, hown, hts⟩ M ⟨va_cnB n hts (pm_good hg hcode) rfl rfl rfl (hK.2.1 _ hlk) (hts _ hini) hdd (hRm h45), hts _ hin, hts _ hsel⟩ ⟨pm_blind hn, hrec, hpp⟩ rfl hLn hls hstk hW hdg hf
end PM
end
section
section PM
variable {G : pm_G} {tyl : List FieldType} {cl : List vw_C} {D : va_G} {cA : Nat → ClassId} {b : pm_B} {Tb nws : List Cond} {aos : List String} {y : Nat → MethodName} {cd : Nat → ByteArray} {X : pm_X} {sts : List (String × String × String × Value)} {srs : List (String × Nat × String × Nat)} {l : Launch}
variable {p : Program} {e : Env} {R : Room} {s : State} {m : MethodId} {args : Array Value} {below : List Frame} {meth : Method} {c : Code} {H : Heap} {locs : List Loc} {cells slots : Nat}
set_option maxHeartbeats 4000000 in
/-- a method's end -/
theorem pm_end_ok (hok : pm_ok Tb nws aos tyl cl y cd G sts srs) {mi pc : Nat} {i : Instr} {st : List Value} {w : pm_W} {r : Option Value} {lsR : Array Slot} (hd : pm_dec G mi pc = some i) (h : pm_end G mi i st = some r) (F : pm_Fx D cl cA tyl Tb nws aos y cd G X sts srs b mi p s m args meth c) (hP : va_P D cl (pm_ws cA b w) H) (hS : va_S (fun q => b.1 ≤ q) s.heap H locs) :
    W p l e R s m args below meth c H locs cells slots (MQ below (pm_Qc D cl cA b r w) args s cells slots (fun q => b.1 ≤ q)) (F0 m pc lsR (st.map (pm_v b))) := by
  obtain ⟨hx, hb, hr, hml, hown, hts, hlocks, hnm, hK, hbs, hOut⟩ := F
  obtain ⟨len, hdg, hlen⟩ := hok.1.1 mi pc i hd
  have hq : ∀ t : State, t.heap = H → s.WarmedH t.vm → pm_Qc D cl cA b r w args s (.returned (r.map (pm_v b))) t := fun t ht _ => ⟨rfl, by rw [ht]; exact hP, hS.F ht⟩
  unfold pm_end at h
  split at h
  · have hlen : len = 1 := hlen.resolve_left (by simp [pm_sz])
    subst hlen
    split at h
    · rename_i x ty hrt
      split at h
      · rename_i hna
        cases h
        exact W.zret hx hb (hr.trans hrt) hna hq hS.2.2 hdg
      · cases h
    · cases h
  · have hlen : len = 1 := hlen.resolve_left (by simp [pm_sz])
    subst hlen
    split at h
    · rename_i x hrt
      cases h
      exact W.lret hx hb (hr.trans hrt) hq hS.2.2 hdg
    · cases h
  · have hlen : len = 1 := hlen.resolve_left (by simp [pm_sz])
    subst hlen
    split at h
    · rename_i a C hrt
      cases h
      exact W.aret hx hb (hr.trans hrt) (Or.inl ⟨C, rfl⟩) (Or.inr ⟨b.1 + a, rfl⟩) hq hS.2.2 hdg
    · rename_i C hrt
      cases h
      exact W.aret hx hb (hr.trans hrt) (Or.inl ⟨C, rfl⟩) (Or.inl rfl) hq hS.2.2 hdg
    · rename_i a C hrt
      cases h
      exact W.aret hx hb (hr.trans hrt) (Or.inl ⟨C, rfl⟩) (Or.inr ⟨b.2 a, rfl⟩) hq hS.2.2 hdg
    · cases h
  · have hlen : len = 1 := hlen.resolve_left (by simp [pm_sz])
    subst hlen
    split at h
    · rename_i hrt
      cases h
      exact W.vret hx hb (hr.trans hrt) hq hS.2.2 hdg
    · cases h
  · cases h
/-- Object's constructor -/
theorem pm_obi_ok (hok : pm_ok Tb nws aos tyl cl y cd G sts srs) {Q : State → Prop} {mi pc : Nat} {i : Instr} {st st' : List Value} {lsR : Array Slot} (hd : pm_dec G mi pc = some i) (h : pm_obi G mi i st = some st') (F : pm_Fx D cl cA tyl Tb nws aos y cd G X sts srs b mi p s m args meth c) (hls : lsR.size = pm_max G mi) {d : Nat} (hRf : d + 1 ≤ R.frames) (hRl : 64 * (d + 1) ≤ R.locals)
    (kk : W p l e R s m args below meth c H locs cells slots Q (F0 m (pc + 3) lsR (st'.map (pm_v b)))) : W p l e R s m args below meth c H locs cells slots Q (F0 m pc lsR (st.map (pm_v b))) := by
  obtain ⟨hx, hb, hr, hml, hown, hts, hlocks, hnm, hK, hbs, hOut⟩ := F
  obtain ⟨len, hdg, hlen⟩ := hok.1.1 mi pc i hd
  unfold pm_obi at h
  split at h
  · rename_i k
    have hlen : len = 3 := hlen.resolve_left (by simp [pm_sz])
    subst hlen
    split at h
    · rename_i n hc
      obtain ⟨o1, o2, o3⟩ := hok.2.2.2.2.2.2.1 mi pc k n hd hc
      split at h
      · rename_i a st0
        split at h
        · rename_i h8
          cases h
          refine W.objInit hx hb hown (hts _ o1) (hts _ o2) (hts _ o3) rfl (hls.trans hml.symm) rfl hdg (by omega) ?_ kk
          show 2 * 0 + ((st'.map (pm_v b)).map fun v => v.category).sum + 12 ≤ R.locals
          rw [pm_sum_v]
          omega
        · cases h
      · cases h
    · cases h
  · cases h
theorem pm_rep (n : Nat) : (fun j => (List.replicate n (0 : Int32)).getD j 0) = fun _ => 0 := by
  funext j
  rw [List.getD_eq_getElem?_getD, List.getElem?_replicate]
  split <;> rfl
theorem pm_repq (b : pm_B) (n : Nat) : (fun j => ((List.replicate n (none : Option Nat)).getD j none).map (fun k => b.1 + k)) = fun _ => none := by
  funext j
  rw [List.getD_eq_getElem?_getD, List.getElem?_replicate]
  split <;> rfl
set_option maxHeartbeats 4000000 in
/-- a cell is made -/
theorem pm_mk_ok (hok : pm_ok Tb nws aos tyl cl y cd G sts srs) {Q : State → Prop} {mi pc : Nat} {i : Instr} {st st' : List Value} {w : pm_W} {E : pm_E} {k n : Nat} {lsR : Array Slot} (hd : pm_dec G mi pc = some i) (h : pm_mk G mi i st = some (k, st', E, n)) (F : pm_Fx D cl cA tyl Tb nws aos y cd G X sts srs b mi p s m args meth c) (hP : va_P D cl (pm_ws cA b w) H) (hS : va_S (fun q => b.1 ≤ q) s.heap H locs) (hc : s.heap.size + cells = b.1 + w.length) (hRc : cells + 1 ≤ R.cells) (hRs : slots + n ≤ R.slots)
    (kk : ∀ H1 : Heap, va_P D cl (pm_ws cA b (w ++ [E])) H1 → va_S (fun q => b.1 ≤ q) s.heap H1 locs → W p l e R s m args below meth c H1 locs (cells + 1) (slots + n) Q (F0 m (pc + k) lsR ((.ref w.length :: st').map (pm_v b)))) : W p l e R s m args below meth c H locs cells slots Q (F0 m pc lsR (st.map (pm_v b))) := by
  obtain ⟨hx, hb, hr, hml, hown, hts, hlocks, hnm, ⟨hK, hN, hA⟩, hbs, hOut⟩ := F
  obtain ⟨⟨okD, okC, -, -, -, hT0, hT1, hT2⟩, hg, hn, -, -, -, -, okN, ⟨okA, okQ⟩, -⟩ := hok
  obtain ⟨len, hdg, hlen⟩ := okD mi pc i hd
  have hAA : ∀ q, s.heap.size ≤ q → b.1 ≤ q := fun q hq => Nat.le_trans hbs hq
  have fin : ∀ (q : Nat) (H1 : Heap), va_P D cl (pm_ws cA b w ++ [(q, pm_e cA b E)]) H1 → va_D (fun x => b.1 ≤ x) (pm_ws cA b w ++ [(q, pm_e cA b E)]) → va_S (fun x => b.1 ≤ x) s.heap H1 locs → W p l e R s m args below meth c H1 locs (cells + 1) (slots + n) Q (F0 m (pc + k) lsR (.ref q :: st'.map (pm_v b))) := by
    intro q H1 hP1 hD1 hS1
    refine pm_hs fun hz => ?_
    have hq := pm_newq hP1 hD1 (by omega)
    subst hq
    exact kk H1 (by rw [pm_ws_push]; exact hP1) hS1
  have hK0 : (pm_tys cA tyl)[0]? = some (cA 0, .int) := pm_tys_at hT0
  have hK1 : (pm_tys cA tyl)[1]? = some (cA 1, .byte) := pm_tys_at hT1
  have hK2 : (pm_tys cA tyl)[2]? = some (cA 2, .boolean) := pm_tys_at hT2
  unfold pm_mk at h
  split at h
  · rename_i k0
    have hlen : len = 3 := hlen.resolve_left (by simp [pm_sz])
    subst hlen
    split at h
    · rename_i ci fs hnw
      cases h
      obtain ⟨⟨C, T, N⟩, hq, h1, h2, h3, h4, h5⟩ := okN mi k0 ci fs hnw
      obtain ⟨hin, ⟨ty, hty⟩, -⟩ := okC ci _ hq
      have h4 : fs.length = N := h4
      subst h4
      refine va_new (fs := fs.map (pm_v b)) hx hb hts hin ty hty hown (hts _ h1) (hts _ h2) (hts _ h3) hK hP pm_D hS hAA hq ?_ hRc hRs hdg (fun q H1 hP1 hD1 hS1 => fin q H1 hP1 hD1 hS1)
      intro j hj
      have h6 := h5 j hj
      rw [hty j hj] at h6
      have h6 : defaultValue (ty j) = vp_V fs j := Option.some.inj h6
      have hj' : j < fs.length := hj
      rw [h6]
      have e1 : vp_V (fs.map (pm_v b)) j = pm_v b (vp_V fs j) := by
        unfold vp_V
        rw [List.getD_eq_getElem?_getD, List.getD_eq_getElem?_getD, List.getElem?_map, List.getElem?_eq_getElem hj']
        rfl
      rw [e1, ← h6, pm_v_def]
    · cases h
  · rename_i aty
    have hlen : len = 2 := hlen.resolve_left (by simp [pm_sz])
    subst hlen
    split at h
    · rename_i x st0
      split at h
      · rename_i h0
        have harr := hts _ (okA mi pc aty hd)
        split at h
        · rename_i hty
          cases h
          refine va_newa (ty := .int) (a0 := pm_a b (.inl (List.replicate x.toNatClampNeg 0))) hx hb harr hty hK hP pm_D hS hAA (N' := x.toNatClampNeg) ?_ h0.1 rfl ?_ hRc hRs hdg (fun q cA' H1 hK1' hP1 hD1 hS1 => ?_)
          · intro cA'
            show arrV cA' (List.replicate x.toNatClampNeg (0 : Int32)).length (fun j => .int ((fun j => (List.replicate x.toNatClampNeg (0 : Int32)).getD j 0) j)) = _
            rw [pm_rep, List.length_replicate]
            rfl
          · have := h0.2
            show x.toNatClampNeg * 4 ≤ _
            omega
          · have e1 : cA' = cA 0 := by
              have q1 := (hK1'.2 (pm_tys cA tyl).length (cA', .int) (by rw [List.getElem?_append_right (Nat.le_refl _), Nat.sub_self]; rfl)).2
              have q2 := (hK.2 0 _ hK0).2
              exact Option.some.inj (Eq.trans (Eq.symm q1) q2)
            subst e1
            exact fin q H1 hP1 hD1 hS1
        · rename_i hty
          cases h
          refine va_newa (ty := .byte) (a0 := pm_a b (.inl (List.replicate x.toNatClampNeg 0))) hx hb harr hty hK hP pm_D hS hAA (N' := x.toNatClampNeg) ?_ h0.1 rfl ?_ hRc hRs hdg (fun q cA' H1 hK1' hP1 hD1 hS1 => ?_)
          · intro cA'
            show arrV cA' (List.replicate x.toNatClampNeg (0 : Int32)).length (fun j => .int ((fun j => (List.replicate x.toNatClampNeg (0 : Int32)).getD j 0) j)) = _
            rw [pm_rep, List.length_replicate]
            rfl
          · have := h0.2
            show x.toNatClampNeg * 1 ≤ _
            omega
          · have e1 : cA' = cA 1 := by
              have q1 := (hK1'.2 (pm_tys cA tyl).length (cA', .byte) (by rw [List.getElem?_append_right (Nat.le_refl _), Nat.sub_self]; rfl)).2
              have q2 := (hK.2 1 _ hK1).2
              exact Option.some.inj (Eq.trans (Eq.symm q1) q2)
            subst e1
            exact fin q H1 hP1 hD1 hS1
        · rename_i hty
          cases h
          refine va_newa (ty := .boolean) (a0 := pm_a b (.inl (List.replicate x.toNatClampNeg 0))) hx hb harr hty hK hP pm_D hS hAA (N' := x.toNatClampNeg) ?_ h0.1 rfl ?_ hRc hRs hdg (fun q cA' H1 hK1' hP1 hD1 hS1 => ?_)
          · intro cA'
            show arrV cA' (List.replicate x.toNatClampNeg (0 : Int32)).length (fun j => .int ((fun j => (List.replicate x.toNatClampNeg (0 : Int32)).getD j 0) j)) = _
            rw [pm_rep, List.length_replicate]
            rfl
          · have := h0.2
            show x.toNatClampNeg * 1 ≤ _
            omega
          · have e1 : cA' = cA 2 := by
              have q1 := (hK1'.2 (pm_tys cA tyl).length (cA', .boolean) (by rw [List.getElem?_append_right (Nat.le_refl _), Nat.sub_self]; rfl)).2
              have q2 := (hK.2 2 _ hK2).2
              exact Option.some.inj (Eq.trans (Eq.symm q1) q2)
            subst e1
            exact fin q H1 hP1 hD1 hS1
        · cases h
      · cases h
    · cases h
  · rename_i k0
    have hlen : len = 3 := hlen.resolve_left (by simp [pm_sz])
    subst hlen
    split at h
    · rename_i x st0
      split at h
      · rename_i h0
        split at h
        · rename_i t hnw
          cases h
          obtain ⟨C, hC, h1, h2⟩ := okQ mi k0 t hnw
          refine va_newq hx hb hown (hts _ h1) (hA C h2) hK hP pm_D hS hAA (N' := x.toNatClampNeg) h0.1 rfl (by have := h0.2; omega) hRc hRs hdg (fun q cA' H1 hK1' hP1 hD1 hS1 => ?_)
          have e1 : cA' = cA t := by
            obtain ⟨-, -, -, -, -, q1⟩ := (hK1'.2 (pm_tys cA tyl).length (cA', .object C) (by rw [List.getElem?_append_right (Nat.le_refl _), Nat.sub_self]; rfl)).2
            obtain ⟨-, -, -, -, -, q2⟩ := (hK.2 t _ (pm_tys_at hC)).2
            exact Option.some.inj (Eq.trans (Eq.symm q1) q2)
          subst e1
          have e2 : pm_e cA b (.inl (t, .inr (.inr (List.replicate x.toNatClampNeg none)))) = .inl (cA t, x.toNatClampNeg, .inr (.inr (.inr (.inr (fun _ => none))))) := by
            show (Sum.inl (cA t, (List.replicate x.toNatClampNeg (none : Option Nat)).length, .inr (.inr (.inr (.inr (fun j => ((List.replicate x.toNatClampNeg (none : Option Nat)).getD j none).map (fun k => b.1 + k)))))) : va_E) = _
            rw [pm_repq, List.length_replicate]
          exact fin q H1 (by rw [e2]; exact hP1) (by rw [e2]; exact hD1) hS1
        · cases h
      · cases h
    · cases h
  · cases h
set_option maxHeartbeats 4000000 in
/-- THE PURE MACHINE IS RIGHT -/
theorem pm_sound (hok : pm_ok Tb nws aos tyl cl y cd G sts srs) : ∀ f : Nat, pm_Sound G X sts srs tyl cl D cA b Tb nws aos y cd l f := by
  intro f
  induction f with
  | zero => intro d mi pc ls st w r w' mc ms h; cases h
  | succ f ih =>
    intro d mi pc ls st w r w' mc ms h p e R s m args below meth c H locs cells slots C S lsR F hl hll hP hS hc hRf hRl hCe hSe hRc hRs
    simp only [pm] at h
    split at h
    · cases h
    · rename_i i hd
      split at h
      · rename_i pc' ls' st' w1 h1
        refine pm_one_ok hok.1.1 hok.1.2.1 hok.1.2.2.1 hok.1.2.2.2.1 hok.1.2.2.2.2.1 hok.2.2.2.2.2.2.2.2.2.1.1 hok.2.2.2.2.2.2.2.2.2.1.2.1 hok.2.2.2.2.2.2.2.2.2.1.2.2.1 hok.2.2.2.2.2.2.2.2.2.1.2.2.2 (by omega) (by omega) (by omega) (by omega) hok.1.2.2.2.2.2.1 hok.1.2.2.2.2.2.2.1 hok.1.2.2.2.2.2.2.2 F hd h1 hl hll hP hS ?_
        intro lsR' H' locs' hl' hll' hP' hS'
        exact ih _ _ _ _ _ _ _ _ _ _ h p e R s m args below meth c H' locs' cells slots C S lsR' F hl' hll' hP' hS' (by rw [hc]; exact congrArg (b.1 + ·) (pm_one_len h1).symm) hRf hRl hCe hSe hRc hRs
      · split at h
        · rename_i mj d' vs st' h1
          split at h
          · rename_i r1 w1 c1 n1 h2
            obtain ⟨c2, n2, h3, rfl, rfl⟩ := pm_add_of h
            refine pm_hs fun hz => ?_
            have hsz := pm_size hP hS F.2.2.2.2.2.2.2.2.2.1 hc hz
            refine pm_call (pm_run hok ih hd h1 h2 F hl.1 hP hS hsz hRf hRl (by omega)) hS fun H1 locs1 hP1 hS1 => ?_
            have hw := pm_wlen _ _ _ _ _ _ _ _ _ _ _ h2
            rw [← pm_push_v]
            exact ih _ _ _ _ _ _ _ _ _ _ h3 p e R s m args below meth c H1 locs1 _ _ C S lsR F hl hll hP1 hS1 (by omega) hRf hRl (by omega) (by omega) hRc hRs
          · cases h
        · split at h
          · rename_i h1
            cases h
            have e1 : cells = C := hCe
            have e2 : slots = S := hSe
            subst e1; subst e2
            exact pm_end_ok hok hd h1 F hP hS
          · split at h
            · rename_i h1
              exact pm_obi_ok hok hd h1 F hl.1 hRf hRl (ih _ _ _ _ _ _ _ _ _ _ h p e R s m args below meth c H locs cells slots C S lsR F hl hll hP hS hc hRf hRl hCe hSe hRc hRs)
            · split at h
              · rename_i k st' E n h1
                obtain ⟨c2, n2, h3, rfl, rfl⟩ := pm_add_of h
                refine pm_mk_ok hok hd h1 F hP hS hc (by omega) (by omega) fun H1 hP1 hS1 => ?_
                exact ih _ _ _ _ _ _ _ _ _ _ h3 p e R s m args below meth c H1 locs _ _ C S lsR F hl hll hP1 hS1 (by rw [List.length_append]; show s.heap.size + (cells + 1) = b.1 + (w.length + 1); omega) hRf hRl (by omega) (by omega) hRc hRs
              · cases h
end PM
end
