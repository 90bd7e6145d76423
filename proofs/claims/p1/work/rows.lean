section
-- ===== PART A: goes FIRST, ahead of the names: the tables' words, and 'selects' of the private methods out of them =====
/-- a private method of a class that the tables say can be made, by its rows of tables_1 -/
def lw_okq (q : MethodName × Nat) : Prop := (q.1.cls ≠ "java/lang/invoke/MethodHandle" ∧ q.1.cls ≠ "java/lang/invoke/VarHandle") ∧ Cond.instantiable q.1.cls q.2 ∈ tables_1 ∧ Cond.privateMethod q.1 ∈ tables_1 ∧ Cond.instanceMethod q.1 ∈ tables_1
theorem lw_p0 : lw_okq (⟨"RentRiver$Tape", "readRun", "()V"⟩, 12) := ⟨⟨by decide +kernel, by decide +kernel⟩, List.mem_of_getElem? (i := 30) (by decide +kernel), List.mem_of_getElem? (i := 551) (by decide +kernel), List.mem_of_getElem? (i := 552) (by decide +kernel)⟩
theorem lw_p1 : lw_okq (⟨"RentRiver$Plain", "readRow", "(LRentRiver$Tape;)Z"⟩, 15) := ⟨⟨by decide +kernel, by decide +kernel⟩, List.mem_of_getElem? (i := 91) (by decide +kernel), List.mem_of_getElem? (i := 560) (by decide +kernel), List.mem_of_getElem? (i := 561) (by decide +kernel)⟩
theorem lw_p2 : lw_okq (⟨"RentRiver$Plain", "readTown", "(LRentRiver$Tape;)Z"⟩, 15) := ⟨⟨by decide +kernel, by decide +kernel⟩, List.mem_of_getElem? (i := 91) (by decide +kernel), List.mem_of_getElem? (i := 570) (by decide +kernel), List.mem_of_getElem? (i := 571) (by decide +kernel)⟩
theorem lw_p3 : lw_okq (⟨"RentRiver$Plain", "find", "(J)I"⟩, 15) := ⟨⟨by decide +kernel, by decide +kernel⟩, List.mem_of_getElem? (i := 91) (by decide +kernel), List.mem_of_getElem? (i := 579) (by decide +kernel), List.mem_of_getElem? (i := 580) (by decide +kernel)⟩
theorem lw_p4 : lw_okq (⟨"RentRiver$Plain", "readWater", "(LRentRiver$Tape;)Z"⟩, 15) := ⟨⟨by decide +kernel, by decide +kernel⟩, List.mem_of_getElem? (i := 91) (by decide +kernel), List.mem_of_getElem? (i := 594) (by decide +kernel), List.mem_of_getElem? (i := 595) (by decide +kernel)⟩
theorem lw_p5 : lw_okq (⟨"RentRiver$Plain", "readBid", "(LRentRiver$Tape;)Z"⟩, 15) := ⟨⟨by decide +kernel, by decide +kernel⟩, List.mem_of_getElem? (i := 91) (by decide +kernel), List.mem_of_getElem? (i := 600) (by decide +kernel), List.mem_of_getElem? (i := 601) (by decide +kernel)⟩
theorem lw_p6 : lw_okq (⟨"RentRiver$Plain", "readAboutTown", "(LRentRiver$Tape;LRentRiver$Word;)Z"⟩, 15) := ⟨⟨by decide +kernel, by decide +kernel⟩, List.mem_of_getElem? (i := 91) (by decide +kernel), List.mem_of_getElem? (i := 628) (by decide +kernel), List.mem_of_getElem? (i := 629) (by decide +kernel)⟩
theorem lw_p7 : lw_okq (⟨"RentRiver$Plain", "readMove", "(LRentRiver$Tape;)Z"⟩, 15) := ⟨⟨by decide +kernel, by decide +kernel⟩, List.mem_of_getElem? (i := 91) (by decide +kernel), List.mem_of_getElem? (i := 636) (by decide +kernel), List.mem_of_getElem? (i := 637) (by decide +kernel)⟩
theorem lw_p8 : lw_okq (⟨"RentRiver$Plain", "readFish", "(LRentRiver$Tape;)Z"⟩, 15) := ⟨⟨by decide +kernel, by decide +kernel⟩, List.mem_of_getElem? (i := 91) (by decide +kernel), List.mem_of_getElem? (i := 642) (by decide +kernel), List.mem_of_getElem? (i := 643) (by decide +kernel)⟩
theorem lw_p9 : lw_okq (⟨"RentRiver$Plain", "readPatience", "(LRentRiver$Tape;)Z"⟩, 15) := ⟨⟨by decide +kernel, by decide +kernel⟩, List.mem_of_getElem? (i := 91) (by decide +kernel), List.mem_of_getElem? (i := 648) (by decide +kernel), List.mem_of_getElem? (i := 649) (by decide +kernel)⟩
theorem lw_p10 : lw_okq (⟨"RentRiver", "closeTape", "(I)I"⟩, 14) := ⟨⟨by decide +kernel, by decide +kernel⟩, List.mem_of_getElem? (i := 22) (by decide +kernel), List.mem_of_getElem? (i := 669) (by decide +kernel), List.mem_of_getElem? (i := 670) (by decide +kernel)⟩
theorem lw_p11 : lw_okq (⟨"RentRiver", "isTown", "(I)Z"⟩, 14) := ⟨⟨by decide +kernel, by decide +kernel⟩, List.mem_of_getElem? (i := 22) (by decide +kernel), List.mem_of_getElem? (i := 681) (by decide +kernel), List.mem_of_getElem? (i := 682) (by decide +kernel)⟩
theorem lw_p12 : lw_okq (⟨"RentRiver$Contracts", "readRow", "(LRentRiver$Tape;LRentRiver$Plain;)Z"⟩, 4) := ⟨⟨by decide +kernel, by decide +kernel⟩, List.mem_of_getElem? (i := 171) (by decide +kernel), List.mem_of_getElem? (i := 722) (by decide +kernel), List.mem_of_getElem? (i := 723) (by decide +kernel)⟩
theorem lw_p13 : lw_okq (⟨"RentRiver$Contracts", "readLet", "(LRentRiver$Tape;LRentRiver$Plain;I)Z"⟩, 4) := ⟨⟨by decide +kernel, by decide +kernel⟩, List.mem_of_getElem? (i := 171) (by decide +kernel), List.mem_of_getElem? (i := 736) (by decide +kernel), List.mem_of_getElem? (i := 737) (by decide +kernel)⟩
theorem lw_p14 : lw_okq (⟨"RentRiver$Year", "letByContract", "(LRentRiver$Contracts;)V"⟩, 15) := ⟨⟨by decide +kernel, by decide +kernel⟩, List.mem_of_getElem? (i := 230) (by decide +kernel), List.mem_of_getElem? (i := 775) (by decide +kernel), List.mem_of_getElem? (i := 776) (by decide +kernel)⟩
theorem lw_p15 : lw_okq (⟨"RentRiver$Year", "pay", "(II)V"⟩, 15) := ⟨⟨by decide +kernel, by decide +kernel⟩, List.mem_of_getElem? (i := 230) (by decide +kernel), List.mem_of_getElem? (i := 783) (by decide +kernel), List.mem_of_getElem? (i := 784) (by decide +kernel)⟩
def lw_privs_1 : List (MethodName × Nat) := [(⟨"RentRiver$Tape", "readRun", "()V"⟩, 12), (⟨"RentRiver$Plain", "readRow", "(LRentRiver$Tape;)Z"⟩, 15), (⟨"RentRiver$Plain", "readTown", "(LRentRiver$Tape;)Z"⟩, 15), (⟨"RentRiver$Plain", "find", "(J)I"⟩, 15), (⟨"RentRiver$Plain", "readWater", "(LRentRiver$Tape;)Z"⟩, 15), (⟨"RentRiver$Plain", "readBid", "(LRentRiver$Tape;)Z"⟩, 15), (⟨"RentRiver$Plain", "readAboutTown", "(LRentRiver$Tape;LRentRiver$Word;)Z"⟩, 15), (⟨"RentRiver$Plain", "readMove", "(LRentRiver$Tape;)Z"⟩, 15), (⟨"RentRiver$Plain", "readFish", "(LRentRiver$Tape;)Z"⟩, 15), (⟨"RentRiver$Plain", "readPatience", "(LRentRiver$Tape;)Z"⟩, 15), (⟨"RentRiver", "closeTape", "(I)I"⟩, 14), (⟨"RentRiver", "isTown", "(I)Z"⟩, 14), (⟨"RentRiver$Contracts", "readRow", "(LRentRiver$Tape;LRentRiver$Plain;)Z"⟩, 4), (⟨"RentRiver$Contracts", "readLet", "(LRentRiver$Tape;LRentRiver$Plain;I)Z"⟩, 4), (⟨"RentRiver$Year", "letByContract", "(LRentRiver$Contracts;)V"⟩, 15), (⟨"RentRiver$Year", "pay", "(II)V"⟩, 15)]
theorem lw_r1 : ∀ q ∈ lw_privs_1, lw_okq q := List.forall_mem_cons.mpr ⟨lw_p0, List.forall_mem_cons.mpr ⟨lw_p1, List.forall_mem_cons.mpr ⟨lw_p2, List.forall_mem_cons.mpr ⟨lw_p3, List.forall_mem_cons.mpr ⟨lw_p4, List.forall_mem_cons.mpr ⟨lw_p5, List.forall_mem_cons.mpr ⟨lw_p6, List.forall_mem_cons.mpr ⟨lw_p7, List.forall_mem_cons.mpr ⟨lw_p8, List.forall_mem_cons.mpr ⟨lw_p9, List.forall_mem_cons.mpr ⟨lw_p10, List.forall_mem_cons.mpr ⟨lw_p11, List.forall_mem_cons.mpr ⟨lw_p12, List.forall_mem_cons.mpr ⟨lw_p13, List.forall_mem_cons.mpr ⟨lw_p14, List.forall_mem_cons.mpr ⟨lw_p15, fun _ h => absurd h List.not_mem_nil⟩⟩⟩⟩⟩⟩⟩⟩⟩⟩⟩⟩⟩⟩⟩⟩
theorem lw_p16 : lw_okq (⟨"RentRiver$Year", "letByBids", "(LRentRiver$Plain;)V"⟩, 15) := ⟨⟨by decide +kernel, by decide +kernel⟩, List.mem_of_getElem? (i := 230) (by decide +kernel), List.mem_of_getElem? (i := 787) (by decide +kernel), List.mem_of_getElem? (i := 788) (by decide +kernel)⟩
theorem lw_p17 : lw_okq (⟨"RentRiver$Year", "moveRiver", "(LRentRiver$Plain;)V"⟩, 15) := ⟨⟨by decide +kernel, by decide +kernel⟩, List.mem_of_getElem? (i := 230) (by decide +kernel), List.mem_of_getElem? (i := 791) (by decide +kernel), List.mem_of_getElem? (i := 792) (by decide +kernel)⟩
theorem lw_p18 : lw_okq (⟨"RentRiver$Year", "bridgeTo", "(LRentRiver$Plain;I)I"⟩, 15) := ⟨⟨by decide +kernel, by decide +kernel⟩, List.mem_of_getElem? (i := 230) (by decide +kernel), List.mem_of_getElem? (i := 802) (by decide +kernel), List.mem_of_getElem? (i := 803) (by decide +kernel)⟩
theorem lw_p19 : lw_okq (⟨"RentRiver$Year", "pour", "(LRentRiver$Plain;I)V"⟩, 15) := ⟨⟨by decide +kernel, by decide +kernel⟩, List.mem_of_getElem? (i := 230) (by decide +kernel), List.mem_of_getElem? (i := 809) (by decide +kernel), List.mem_of_getElem? (i := 810) (by decide +kernel)⟩
theorem lw_p20 : lw_okq (⟨"RentRiver$Year", "pourTo", "(LRentRiver$Plain;II)V"⟩, 15) := ⟨⟨by decide +kernel, by decide +kernel⟩, List.mem_of_getElem? (i := 230) (by decide +kernel), List.mem_of_getElem? (i := 813) (by decide +kernel), List.mem_of_getElem? (i := 814) (by decide +kernel)⟩
theorem lw_p21 : lw_okq (⟨"RentRiver$Year", "drink", "(LRentRiver$Plain;I)V"⟩, 15) := ⟨⟨by decide +kernel, by decide +kernel⟩, List.mem_of_getElem? (i := 230) (by decide +kernel), List.mem_of_getElem? (i := 818) (by decide +kernel), List.mem_of_getElem? (i := 819) (by decide +kernel)⟩
theorem lw_p22 : lw_okq (⟨"RentRiver$Year", "waterField", "(LRentRiver$Plain;I)V"⟩, 15) := ⟨⟨by decide +kernel, by decide +kernel⟩, List.mem_of_getElem? (i := 230) (by decide +kernel), List.mem_of_getElem? (i := 822) (by decide +kernel), List.mem_of_getElem? (i := 823) (by decide +kernel)⟩
theorem lw_p23 : lw_okq (⟨"RentRiver$Year", "harvest", "(LRentRiver$Plain;)V"⟩, 15) := ⟨⟨by decide +kernel, by decide +kernel⟩, List.mem_of_getElem? (i := 230) (by decide +kernel), List.mem_of_getElem? (i := 826) (by decide +kernel), List.mem_of_getElem? (i := 827) (by decide +kernel)⟩
theorem lw_p24 : lw_okq (⟨"RentRiver$Year", "inPonds", "()I"⟩, 15) := ⟨⟨by decide +kernel, by decide +kernel⟩, List.mem_of_getElem? (i := 230) (by decide +kernel), List.mem_of_getElem? (i := 838) (by decide +kernel), List.mem_of_getElem? (i := 839) (by decide +kernel)⟩
theorem lw_p25 : lw_okq (⟨"RentRiver$Cheapest", "searchPlan", "(LRentRiver$Plain;)I"⟩, 19) := ⟨⟨by decide +kernel, by decide +kernel⟩, List.mem_of_getElem? (i := 331) (by decide +kernel), List.mem_of_getElem? (i := 862) (by decide +kernel), List.mem_of_getElem? (i := 863) (by decide +kernel)⟩
theorem lw_p26 : lw_okq (⟨"RentRiver$Cheapest", "prepare", "(LRentRiver$Plain;)V"⟩, 19) := ⟨⟨by decide +kernel, by decide +kernel⟩, List.mem_of_getElem? (i := 331) (by decide +kernel), List.mem_of_getElem? (i := 866) (by decide +kernel), List.mem_of_getElem? (i := 867) (by decide +kernel)⟩
theorem lw_p27 : lw_okq (⟨"RentRiver$Cheapest", "listTails", "()V"⟩, 19) := ⟨⟨by decide +kernel, by decide +kernel⟩, List.mem_of_getElem? (i := 331) (by decide +kernel), List.mem_of_getElem? (i := 877) (by decide +kernel), List.mem_of_getElem? (i := 878) (by decide +kernel)⟩
theorem lw_p28 : lw_okq (⟨"RentRiver$Cheapest", "putAhead", "(IIII)V"⟩, 19) := ⟨⟨by decide +kernel, by decide +kernel⟩, List.mem_of_getElem? (i := 331) (by decide +kernel), List.mem_of_getElem? (i := 881) (by decide +kernel), List.mem_of_getElem? (i := 882) (by decide +kernel)⟩
theorem lw_p29 : lw_okq (⟨"RentRiver$Cheapest", "costOf", "(II)I"⟩, 19) := ⟨⟨by decide +kernel, by decide +kernel⟩, List.mem_of_getElem? (i := 331) (by decide +kernel), List.mem_of_getElem? (i := 885) (by decide +kernel), List.mem_of_getElem? (i := 886) (by decide +kernel)⟩
theorem lw_p30 : lw_okq (⟨"RentRiver$Cheapest", "tryMonth", "(III)V"⟩, 19) := ⟨⟨by decide +kernel, by decide +kernel⟩, List.mem_of_getElem? (i := 331) (by decide +kernel), List.mem_of_getElem? (i := 891) (by decide +kernel), List.mem_of_getElem? (i := 892) (by decide +kernel)⟩
theorem lw_p31 : lw_okq (⟨"RentRiver$Cheapest", "leastToCome", "(I)I"⟩, 19) := ⟨⟨by decide +kernel, by decide +kernel⟩, List.mem_of_getElem? (i := 331) (by decide +kernel), List.mem_of_getElem? (i := 895) (by decide +kernel), List.mem_of_getElem? (i := 896) (by decide +kernel)⟩
def lw_privs_2 : List (MethodName × Nat) := [(⟨"RentRiver$Year", "letByBids", "(LRentRiver$Plain;)V"⟩, 15), (⟨"RentRiver$Year", "moveRiver", "(LRentRiver$Plain;)V"⟩, 15), (⟨"RentRiver$Year", "bridgeTo", "(LRentRiver$Plain;I)I"⟩, 15), (⟨"RentRiver$Year", "pour", "(LRentRiver$Plain;I)V"⟩, 15), (⟨"RentRiver$Year", "pourTo", "(LRentRiver$Plain;II)V"⟩, 15), (⟨"RentRiver$Year", "drink", "(LRentRiver$Plain;I)V"⟩, 15), (⟨"RentRiver$Year", "waterField", "(LRentRiver$Plain;I)V"⟩, 15), (⟨"RentRiver$Year", "harvest", "(LRentRiver$Plain;)V"⟩, 15), (⟨"RentRiver$Year", "inPonds", "()I"⟩, 15), (⟨"RentRiver$Cheapest", "searchPlan", "(LRentRiver$Plain;)I"⟩, 19), (⟨"RentRiver$Cheapest", "prepare", "(LRentRiver$Plain;)V"⟩, 19), (⟨"RentRiver$Cheapest", "listTails", "()V"⟩, 19), (⟨"RentRiver$Cheapest", "putAhead", "(IIII)V"⟩, 19), (⟨"RentRiver$Cheapest", "costOf", "(II)I"⟩, 19), (⟨"RentRiver$Cheapest", "tryMonth", "(III)V"⟩, 19), (⟨"RentRiver$Cheapest", "leastToCome", "(I)I"⟩, 19)]
theorem lw_r2 : ∀ q ∈ lw_privs_2, lw_okq q := List.forall_mem_cons.mpr ⟨lw_p16, List.forall_mem_cons.mpr ⟨lw_p17, List.forall_mem_cons.mpr ⟨lw_p18, List.forall_mem_cons.mpr ⟨lw_p19, List.forall_mem_cons.mpr ⟨lw_p20, List.forall_mem_cons.mpr ⟨lw_p21, List.forall_mem_cons.mpr ⟨lw_p22, List.forall_mem_cons.mpr ⟨lw_p23, List.forall_mem_cons.mpr ⟨lw_p24, List.forall_mem_cons.mpr ⟨lw_p25, List.forall_mem_cons.mpr ⟨lw_p26, List.forall_mem_cons.mpr ⟨lw_p27, List.forall_mem_cons.mpr ⟨lw_p28, List.forall_mem_cons.mpr ⟨lw_p29, List.forall_mem_cons.mpr ⟨lw_p30, List.forall_mem_cons.mpr ⟨lw_p31, fun _ h => absurd h List.not_mem_nil⟩⟩⟩⟩⟩⟩⟩⟩⟩⟩⟩⟩⟩⟩⟩⟩
theorem lw_p32 : lw_okq (⟨"RentRiver$Cheapest", "lacksAny", "()Z"⟩, 19) := ⟨⟨by decide +kernel, by decide +kernel⟩, List.mem_of_getElem? (i := 331) (by decide +kernel), List.mem_of_getElem? (i := 899) (by decide +kernel), List.mem_of_getElem? (i := 900) (by decide +kernel)⟩
theorem lw_p33 : lw_okq (⟨"RentRiver$Cheapest", "keepPath", "(II)V"⟩, 19) := ⟨⟨by decide +kernel, by decide +kernel⟩, List.mem_of_getElem? (i := 331) (by decide +kernel), List.mem_of_getElem? (i := 903) (by decide +kernel), List.mem_of_getElem? (i := 904) (by decide +kernel)⟩
theorem lw_p34 : lw_okq (⟨"RentRiver$Cheapest", "stayFrom", "(II)V"⟩, 19) := ⟨⟨by decide +kernel, by decide +kernel⟩, List.mem_of_getElem? (i := 331) (by decide +kernel), List.mem_of_getElem? (i := 907) (by decide +kernel), List.mem_of_getElem? (i := 908) (by decide +kernel)⟩
theorem lw_p35 : lw_okq (⟨"RentRiver$Cheapest", "firstForNothing", "(I)I"⟩, 19) := ⟨⟨by decide +kernel, by decide +kernel⟩, List.mem_of_getElem? (i := 331) (by decide +kernel), List.mem_of_getElem? (i := 911) (by decide +kernel), List.mem_of_getElem? (i := 912) (by decide +kernel)⟩
theorem lw_p36 : lw_okq (⟨"RentRiver$Cheapest", "canBe", "(I)Z"⟩, 19) := ⟨⟨by decide +kernel, by decide +kernel⟩, List.mem_of_getElem? (i := 331) (by decide +kernel), List.mem_of_getElem? (i := 915) (by decide +kernel), List.mem_of_getElem? (i := 916) (by decide +kernel)⟩
theorem lw_p37 : lw_okq (⟨"RentRiver$Cheapest", "tryTails", "(II)V"⟩, 19) := ⟨⟨by decide +kernel, by decide +kernel⟩, List.mem_of_getElem? (i := 331) (by decide +kernel), List.mem_of_getElem? (i := 919) (by decide +kernel), List.mem_of_getElem? (i := 920) (by decide +kernel)⟩
theorem lw_p38 : lw_okq (⟨"RentRiver$Cheapest", "meetsNeeds", "(I)Z"⟩, 19) := ⟨⟨by decide +kernel, by decide +kernel⟩, List.mem_of_getElem? (i := 331) (by decide +kernel), List.mem_of_getElem? (i := 923) (by decide +kernel), List.mem_of_getElem? (i := 924) (by decide +kernel)⟩
theorem lw_p39 : lw_okq (⟨"RentRiver$Cheapest", "keepTail", "(I)V"⟩, 19) := ⟨⟨by decide +kernel, by decide +kernel⟩, List.mem_of_getElem? (i := 331) (by decide +kernel), List.mem_of_getElem? (i := 927) (by decide +kernel), List.mem_of_getElem? (i := 928) (by decide +kernel)⟩
theorem lw_p40 : lw_okq (⟨"RentRiver$Rounds", "clear", "()V"⟩, 4) := ⟨⟨by decide +kernel, by decide +kernel⟩, List.mem_of_getElem? (i := 399) (by decide +kernel), List.mem_of_getElem? (i := 948) (by decide +kernel), List.mem_of_getElem? (i := 949) (by decide +kernel)⟩
theorem lw_p41 : lw_okq (⟨"RentRiver$Rounds", "takeBest", "(LRentRiver$Plain;II)Z"⟩, 4) := ⟨⟨by decide +kernel, by decide +kernel⟩, List.mem_of_getElem? (i := 399) (by decide +kernel), List.mem_of_getElem? (i := 952) (by decide +kernel), List.mem_of_getElem? (i := 953) (by decide +kernel)⟩
theorem lw_p42 : lw_okq (⟨"RentRiver$Rounds", "priceNow", "(II)I"⟩, 4) := ⟨⟨by decide +kernel, by decide +kernel⟩, List.mem_of_getElem? (i := 399) (by decide +kernel), List.mem_of_getElem? (i := 956) (by decide +kernel), List.mem_of_getElem? (i := 957) (by decide +kernel)⟩
theorem lw_p43 : lw_okq (⟨"RentRiver$Leaks", "comesBy", "(LRentRiver$Plain;LRentRiver$Contracts;II)Z"⟩, 8) := ⟨⟨by decide +kernel, by decide +kernel⟩, List.mem_of_getElem? (i := 421) (by decide +kernel), List.mem_of_getElem? (i := 982) (by decide +kernel), List.mem_of_getElem? (i := 983) (by decide +kernel)⟩
theorem lw_p44 : lw_okq (⟨"RentRiver$Leaks", "asTold", "(LRentRiver$Year;I)Z"⟩, 8) := ⟨⟨by decide +kernel, by decide +kernel⟩, List.mem_of_getElem? (i := 421) (by decide +kernel), List.mem_of_getElem? (i := 996) (by decide +kernel), List.mem_of_getElem? (i := 997) (by decide +kernel)⟩
theorem lw_p45 : lw_okq (⟨"RentRiver$Leaks", "keep", "(III)V"⟩, 8) := ⟨⟨by decide +kernel, by decide +kernel⟩, List.mem_of_getElem? (i := 421) (by decide +kernel), List.mem_of_getElem? (i := 1000) (by decide +kernel), List.mem_of_getElem? (i := 1001) (by decide +kernel)⟩
theorem lw_p46 : lw_okq (⟨"RentRiver", "mostGain", "(II)I"⟩, 14) := ⟨⟨by decide +kernel, by decide +kernel⟩, List.mem_of_getElem? (i := 22) (by decide +kernel), List.mem_of_getElem? (i := 1016) (by decide +kernel), List.mem_of_getElem? (i := 1017) (by decide +kernel)⟩
theorem lw_p47 : lw_okq (⟨"RentRiver", "tryYear", "(LRentRiver$Plain;)V"⟩, 14) := ⟨⟨by decide +kernel, by decide +kernel⟩, List.mem_of_getElem? (i := 22) (by decide +kernel), List.mem_of_getElem? (i := 1025) (by decide +kernel), List.mem_of_getElem? (i := 1026) (by decide +kernel)⟩
def lw_privs_3 : List (MethodName × Nat) := [(⟨"RentRiver$Cheapest", "lacksAny", "()Z"⟩, 19), (⟨"RentRiver$Cheapest", "keepPath", "(II)V"⟩, 19), (⟨"RentRiver$Cheapest", "stayFrom", "(II)V"⟩, 19), (⟨"RentRiver$Cheapest", "firstForNothing", "(I)I"⟩, 19), (⟨"RentRiver$Cheapest", "canBe", "(I)Z"⟩, 19), (⟨"RentRiver$Cheapest", "tryTails", "(II)V"⟩, 19), (⟨"RentRiver$Cheapest", "meetsNeeds", "(I)Z"⟩, 19), (⟨"RentRiver$Cheapest", "keepTail", "(I)V"⟩, 19), (⟨"RentRiver$Rounds", "clear", "()V"⟩, 4), (⟨"RentRiver$Rounds", "takeBest", "(LRentRiver$Plain;II)Z"⟩, 4), (⟨"RentRiver$Rounds", "priceNow", "(II)I"⟩, 4), (⟨"RentRiver$Leaks", "comesBy", "(LRentRiver$Plain;LRentRiver$Contracts;II)Z"⟩, 8), (⟨"RentRiver$Leaks", "asTold", "(LRentRiver$Year;I)Z"⟩, 8), (⟨"RentRiver$Leaks", "keep", "(III)V"⟩, 8), (⟨"RentRiver", "mostGain", "(II)I"⟩, 14), (⟨"RentRiver", "tryYear", "(LRentRiver$Plain;)V"⟩, 14)]
theorem lw_r3 : ∀ q ∈ lw_privs_3, lw_okq q := List.forall_mem_cons.mpr ⟨lw_p32, List.forall_mem_cons.mpr ⟨lw_p33, List.forall_mem_cons.mpr ⟨lw_p34, List.forall_mem_cons.mpr ⟨lw_p35, List.forall_mem_cons.mpr ⟨lw_p36, List.forall_mem_cons.mpr ⟨lw_p37, List.forall_mem_cons.mpr ⟨lw_p38, List.forall_mem_cons.mpr ⟨lw_p39, List.forall_mem_cons.mpr ⟨lw_p40, List.forall_mem_cons.mpr ⟨lw_p41, List.forall_mem_cons.mpr ⟨lw_p42, List.forall_mem_cons.mpr ⟨lw_p43, List.forall_mem_cons.mpr ⟨lw_p44, List.forall_mem_cons.mpr ⟨lw_p45, List.forall_mem_cons.mpr ⟨lw_p46, List.forall_mem_cons.mpr ⟨lw_p47, fun _ h => absurd h List.not_mem_nil⟩⟩⟩⟩⟩⟩⟩⟩⟩⟩⟩⟩⟩⟩⟩⟩
theorem lw_p48 : lw_okq (⟨"RentRiver", "putNumber", "(I)V"⟩, 14) := ⟨⟨by decide +kernel, by decide +kernel⟩, List.mem_of_getElem? (i := 22) (by decide +kernel), List.mem_of_getElem? (i := 1049) (by decide +kernel), List.mem_of_getElem? (i := 1050) (by decide +kernel)⟩
theorem lw_p49 : lw_okq (⟨"RentRiver", "putByte", "(I)V"⟩, 14) := ⟨⟨by decide +kernel, by decide +kernel⟩, List.mem_of_getElem? (i := 22) (by decide +kernel), List.mem_of_getElem? (i := 1053) (by decide +kernel), List.mem_of_getElem? (i := 1054) (by decide +kernel)⟩
theorem lw_p50 : lw_okq (⟨"RentRiver", "putTenant", "(I)V"⟩, 14) := ⟨⟨by decide +kernel, by decide +kernel⟩, List.mem_of_getElem? (i := 22) (by decide +kernel), List.mem_of_getElem? (i := 1057) (by decide +kernel), List.mem_of_getElem? (i := 1058) (by decide +kernel)⟩
theorem lw_p51 : lw_okq (⟨"RentRiver$Sentence", "readCond", "(LRentRiver$Tape;I)Z"⟩, 6) := ⟨⟨by decide +kernel, by decide +kernel⟩, List.mem_of_getElem? (i := 201) (by decide +kernel), List.mem_of_getElem? (i := 1107) (by decide +kernel), List.mem_of_getElem? (i := 1108) (by decide +kernel)⟩
theorem lw_p52 : lw_okq (⟨"RentRiver$Sentence", "readAll", "(LRentRiver$Tape;I)Z"⟩, 6) := ⟨⟨by decide +kernel, by decide +kernel⟩, List.mem_of_getElem? (i := 201) (by decide +kernel), List.mem_of_getElem? (i := 1111) (by decide +kernel), List.mem_of_getElem? (i := 1112) (by decide +kernel)⟩
theorem lw_p53 : lw_okq (⟨"RentRiver$Sentence", "readOne", "(LRentRiver$Tape;I)Z"⟩, 6) := ⟨⟨by decide +kernel, by decide +kernel⟩, List.mem_of_getElem? (i := 201) (by decide +kernel), List.mem_of_getElem? (i := 1115) (by decide +kernel), List.mem_of_getElem? (i := 1116) (by decide +kernel)⟩
theorem lw_p54 : lw_okq (⟨"RentRiver$Sentence", "readClosing", "(LRentRiver$Tape;)Z"⟩, 6) := ⟨⟨by decide +kernel, by decide +kernel⟩, List.mem_of_getElem? (i := 201) (by decide +kernel), List.mem_of_getElem? (i := 1148) (by decide +kernel), List.mem_of_getElem? (i := 1149) (by decide +kernel)⟩
theorem lw_p55 : lw_okq (⟨"RentRiver$Sentence", "add", "(LRentRiver$Word;II)Z"⟩, 6) := ⟨⟨by decide +kernel, by decide +kernel⟩, List.mem_of_getElem? (i := 201) (by decide +kernel), List.mem_of_getElem? (i := 1152) (by decide +kernel), List.mem_of_getElem? (i := 1153) (by decide +kernel)⟩
theorem lw_p56 : lw_okq (⟨"RentRiver$Sentence", "readMeasure", "(LRentRiver$Tape;LRentRiver$Word;)Z"⟩, 6) := ⟨⟨by decide +kernel, by decide +kernel⟩, List.mem_of_getElem? (i := 201) (by decide +kernel), List.mem_of_getElem? (i := 1156) (by decide +kernel), List.mem_of_getElem? (i := 1157) (by decide +kernel)⟩
theorem lw_p57 : lw_okq (⟨"RentRiver$Sentence", "holdsOne", "(LRentRiver$Plain;LRentRiver$Year;II)Z"⟩, 6) := ⟨⟨by decide +kernel, by decide +kernel⟩, List.mem_of_getElem? (i := 201) (by decide +kernel), List.mem_of_getElem? (i := 1174) (by decide +kernel), List.mem_of_getElem? (i := 1175) (by decide +kernel)⟩
theorem lw_p58 : lw_okq (⟨"java/lang/Throwable", "fillInStackTrace", "(I)Ljava/lang/Throwable;"⟩, 6) := ⟨⟨by decide +kernel, by decide +kernel⟩, List.mem_of_getElem? (i := 1250) (by decide +kernel), List.mem_of_getElem? (i := 1248) (by decide +kernel), List.mem_of_getElem? (i := 1249) (by decide +kernel)⟩
theorem lw_p59 : lw_okq (⟨"RentRiverModel", "four", "(I)V"⟩, 62) := ⟨⟨by decide +kernel, by decide +kernel⟩, List.mem_of_getElem? (i := 1289) (by decide +kernel), List.mem_of_getElem? (i := 1287) (by decide +kernel), List.mem_of_getElem? (i := 1288) (by decide +kernel)⟩
theorem lw_p60 : lw_okq (⟨"RentRiverModel", "taken", "(I)V"⟩, 62) := ⟨⟨by decide +kernel, by decide +kernel⟩, List.mem_of_getElem? (i := 1289) (by decide +kernel), List.mem_of_getElem? (i := 1516) (by decide +kernel), List.mem_of_getElem? (i := 1517) (by decide +kernel)⟩
theorem lw_p61 : lw_okq (⟨"RentRiverModel", "next", "()V"⟩, 62) := ⟨⟨by decide +kernel, by decide +kernel⟩, List.mem_of_getElem? (i := 1289) (by decide +kernel), List.mem_of_getElem? (i := 1520) (by decide +kernel), List.mem_of_getElem? (i := 1521) (by decide +kernel)⟩
theorem lw_p62 : lw_okq (⟨"RentRiverModel", "peek", "()I"⟩, 62) := ⟨⟨by decide +kernel, by decide +kernel⟩, List.mem_of_getElem? (i := 1289) (by decide +kernel), List.mem_of_getElem? (i := 1524) (by decide +kernel), List.mem_of_getElem? (i := 1525) (by decide +kernel)⟩
theorem lw_p63 : lw_okq (⟨"RentRiverModel", "row", "()Z"⟩, 62) := ⟨⟨by decide +kernel, by decide +kernel⟩, List.mem_of_getElem? (i := 1289) (by decide +kernel), List.mem_of_getElem? (i := 1534) (by decide +kernel), List.mem_of_getElem? (i := 1535) (by decide +kernel)⟩
def lw_privs_4 : List (MethodName × Nat) := [(⟨"RentRiver", "putNumber", "(I)V"⟩, 14), (⟨"RentRiver", "putByte", "(I)V"⟩, 14), (⟨"RentRiver", "putTenant", "(I)V"⟩, 14), (⟨"RentRiver$Sentence", "readCond", "(LRentRiver$Tape;I)Z"⟩, 6), (⟨"RentRiver$Sentence", "readAll", "(LRentRiver$Tape;I)Z"⟩, 6), (⟨"RentRiver$Sentence", "readOne", "(LRentRiver$Tape;I)Z"⟩, 6), (⟨"RentRiver$Sentence", "readClosing", "(LRentRiver$Tape;)Z"⟩, 6), (⟨"RentRiver$Sentence", "add", "(LRentRiver$Word;II)Z"⟩, 6), (⟨"RentRiver$Sentence", "readMeasure", "(LRentRiver$Tape;LRentRiver$Word;)Z"⟩, 6), (⟨"RentRiver$Sentence", "holdsOne", "(LRentRiver$Plain;LRentRiver$Year;II)Z"⟩, 6), (⟨"java/lang/Throwable", "fillInStackTrace", "(I)Ljava/lang/Throwable;"⟩, 6), (⟨"RentRiverModel", "four", "(I)V"⟩, 62), (⟨"RentRiverModel", "taken", "(I)V"⟩, 62), (⟨"RentRiverModel", "next", "()V"⟩, 62), (⟨"RentRiverModel", "peek", "()I"⟩, 62), (⟨"RentRiverModel", "row", "()Z"⟩, 62)]
theorem lw_r4 : ∀ q ∈ lw_privs_4, lw_okq q := List.forall_mem_cons.mpr ⟨lw_p48, List.forall_mem_cons.mpr ⟨lw_p49, List.forall_mem_cons.mpr ⟨lw_p50, List.forall_mem_cons.mpr ⟨lw_p51, List.forall_mem_cons.mpr ⟨lw_p52, List.forall_mem_cons.mpr ⟨lw_p53, List.forall_mem_cons.mpr ⟨lw_p54, List.forall_mem_cons.mpr ⟨lw_p55, List.forall_mem_cons.mpr ⟨lw_p56, List.forall_mem_cons.mpr ⟨lw_p57, List.forall_mem_cons.mpr ⟨lw_p58, List.forall_mem_cons.mpr ⟨lw_p59, List.forall_mem_cons.mpr ⟨lw_p60, List.forall_mem_cons.mpr ⟨lw_p61, List.forall_mem_cons.mpr ⟨lw_p62, List.forall_mem_cons.mpr ⟨lw_p63, fun _ h => absurd h List.not_mem_nil⟩⟩⟩⟩⟩⟩⟩⟩⟩⟩⟩⟩⟩⟩⟩⟩
theorem lw_p64 : lw_okq (⟨"RentRiverModel", "isWord", "(J)Z"⟩, 62) := ⟨⟨by decide +kernel, by decide +kernel⟩, List.mem_of_getElem? (i := 1289) (by decide +kernel), List.mem_of_getElem? (i := 1538) (by decide +kernel), List.mem_of_getElem? (i := 1539) (by decide +kernel)⟩
theorem lw_p65 : lw_okq (⟨"RentRiverModel", "readTown", "()Z"⟩, 62) := ⟨⟨by decide +kernel, by decide +kernel⟩, List.mem_of_getElem? (i := 1289) (by decide +kernel), List.mem_of_getElem? (i := 1542) (by decide +kernel), List.mem_of_getElem? (i := 1543) (by decide +kernel)⟩
theorem lw_p66 : lw_okq (⟨"RentRiverModel", "bad", "(I)Z"⟩, 62) := ⟨⟨by decide +kernel, by decide +kernel⟩, List.mem_of_getElem? (i := 1289) (by decide +kernel), List.mem_of_getElem? (i := 1546) (by decide +kernel), List.mem_of_getElem? (i := 1547) (by decide +kernel)⟩
theorem lw_p67 : lw_okq (⟨"RentRiverModel", "isName", "()Z"⟩, 62) := ⟨⟨by decide +kernel, by decide +kernel⟩, List.mem_of_getElem? (i := 1289) (by decide +kernel), List.mem_of_getElem? (i := 1550) (by decide +kernel), List.mem_of_getElem? (i := 1551) (by decide +kernel)⟩
theorem lw_p68 : lw_okq (⟨"RentRiverModel", "find", "(II)I"⟩, 62) := ⟨⟨by decide +kernel, by decide +kernel⟩, List.mem_of_getElem? (i := 1289) (by decide +kernel), List.mem_of_getElem? (i := 1554) (by decide +kernel), List.mem_of_getElem? (i := 1555) (by decide +kernel)⟩
theorem lw_p69 : lw_okq (⟨"RentRiverModel", "takes", "(II)Z"⟩, 62) := ⟨⟨by decide +kernel, by decide +kernel⟩, List.mem_of_getElem? (i := 1289) (by decide +kernel), List.mem_of_getElem? (i := 1558) (by decide +kernel), List.mem_of_getElem? (i := 1559) (by decide +kernel)⟩
theorem lw_p70 : lw_okq (⟨"RentRiverModel", "readBid", "()Z"⟩, 62) := ⟨⟨by decide +kernel, by decide +kernel⟩, List.mem_of_getElem? (i := 1289) (by decide +kernel), List.mem_of_getElem? (i := 1568) (by decide +kernel), List.mem_of_getElem? (i := 1569) (by decide +kernel)⟩
theorem lw_p71 : lw_okq (⟨"RentRiverModel", "readOf", "(III)Z"⟩, 62) := ⟨⟨by decide +kernel, by decide +kernel⟩, List.mem_of_getElem? (i := 1289) (by decide +kernel), List.mem_of_getElem? (i := 1572) (by decide +kernel), List.mem_of_getElem? (i := 1573) (by decide +kernel)⟩
theorem lw_p72 : lw_okq (⟨"RentRiverModel", "sign", "(I)Z"⟩, 62) := ⟨⟨by decide +kernel, by decide +kernel⟩, List.mem_of_getElem? (i := 1289) (by decide +kernel), List.mem_of_getElem? (i := 1576) (by decide +kernel), List.mem_of_getElem? (i := 1577) (by decide +kernel)⟩
theorem lw_p73 : lw_okq (⟨"RentRiverModel", "isSign", "(I)Z"⟩, 62) := ⟨⟨by decide +kernel, by decide +kernel⟩, List.mem_of_getElem? (i := 1289) (by decide +kernel), List.mem_of_getElem? (i := 1580) (by decide +kernel), List.mem_of_getElem? (i := 1581) (by decide +kernel)⟩
theorem lw_p74 : lw_okq (⟨"RentRiverModel", "isTown", "(I)Z"⟩, 62) := ⟨⟨by decide +kernel, by decide +kernel⟩, List.mem_of_getElem? (i := 1289) (by decide +kernel), List.mem_of_getElem? (i := 1592) (by decide +kernel), List.mem_of_getElem? (i := 1593) (by decide +kernel)⟩
theorem lw_p75 : lw_okq (⟨"RentRiverModel", "throwsIf", "(Z)Z"⟩, 62) := ⟨⟨by decide +kernel, by decide +kernel⟩, List.mem_of_getElem? (i := 1289) (by decide +kernel), List.mem_of_getElem? (i := 1596) (by decide +kernel), List.mem_of_getElem? (i := 1597) (by decide +kernel)⟩
theorem lw_p76 : lw_okq (⟨"RentRiverModel", "toldOf", "(II)I"⟩, 62) := ⟨⟨by decide +kernel, by decide +kernel⟩, List.mem_of_getElem? (i := 1289) (by decide +kernel), List.mem_of_getElem? (i := 1600) (by decide +kernel), List.mem_of_getElem? (i := 1601) (by decide +kernel)⟩
theorem lw_p77 : lw_okq (⟨"RentRiverModel", "bidOf", "(II)I"⟩, 62) := ⟨⟨by decide +kernel, by decide +kernel⟩, List.mem_of_getElem? (i := 1289) (by decide +kernel), List.mem_of_getElem? (i := 1611) (by decide +kernel), List.mem_of_getElem? (i := 1612) (by decide +kernel)⟩
theorem lw_p78 : lw_okq (⟨"RentRiverModel", "bidMany", "()I"⟩, 62) := ⟨⟨by decide +kernel, by decide +kernel⟩, List.mem_of_getElem? (i := 1289) (by decide +kernel), List.mem_of_getElem? (i := 1623) (by decide +kernel), List.mem_of_getElem? (i := 1624) (by decide +kernel)⟩
theorem lw_p79 : lw_okq (⟨"RentRiverModel", "dealRow", "()Z"⟩, 62) := ⟨⟨by decide +kernel, by decide +kernel⟩, List.mem_of_getElem? (i := 1289) (by decide +kernel), List.mem_of_getElem? (i := 1635) (by decide +kernel), List.mem_of_getElem? (i := 1636) (by decide +kernel)⟩
def lw_privs_5 : List (MethodName × Nat) := [(⟨"RentRiverModel", "isWord", "(J)Z"⟩, 62), (⟨"RentRiverModel", "readTown", "()Z"⟩, 62), (⟨"RentRiverModel", "bad", "(I)Z"⟩, 62), (⟨"RentRiverModel", "isName", "()Z"⟩, 62), (⟨"RentRiverModel", "find", "(II)I"⟩, 62), (⟨"RentRiverModel", "takes", "(II)Z"⟩, 62), (⟨"RentRiverModel", "readBid", "()Z"⟩, 62), (⟨"RentRiverModel", "readOf", "(III)Z"⟩, 62), (⟨"RentRiverModel", "sign", "(I)Z"⟩, 62), (⟨"RentRiverModel", "isSign", "(I)Z"⟩, 62), (⟨"RentRiverModel", "isTown", "(I)Z"⟩, 62), (⟨"RentRiverModel", "throwsIf", "(Z)Z"⟩, 62), (⟨"RentRiverModel", "toldOf", "(II)I"⟩, 62), (⟨"RentRiverModel", "bidOf", "(II)I"⟩, 62), (⟨"RentRiverModel", "bidMany", "()I"⟩, 62), (⟨"RentRiverModel", "dealRow", "()Z"⟩, 62)]
theorem lw_r5 : ∀ q ∈ lw_privs_5, lw_okq q := List.forall_mem_cons.mpr ⟨lw_p64, List.forall_mem_cons.mpr ⟨lw_p65, List.forall_mem_cons.mpr ⟨lw_p66, List.forall_mem_cons.mpr ⟨lw_p67, List.forall_mem_cons.mpr ⟨lw_p68, List.forall_mem_cons.mpr ⟨lw_p69, List.forall_mem_cons.mpr ⟨lw_p70, List.forall_mem_cons.mpr ⟨lw_p71, List.forall_mem_cons.mpr ⟨lw_p72, List.forall_mem_cons.mpr ⟨lw_p73, List.forall_mem_cons.mpr ⟨lw_p74, List.forall_mem_cons.mpr ⟨lw_p75, List.forall_mem_cons.mpr ⟨lw_p76, List.forall_mem_cons.mpr ⟨lw_p77, List.forall_mem_cons.mpr ⟨lw_p78, List.forall_mem_cons.mpr ⟨lw_p79, fun _ h => absurd h List.not_mem_nil⟩⟩⟩⟩⟩⟩⟩⟩⟩⟩⟩⟩⟩⟩⟩⟩
theorem lw_p80 : lw_okq (⟨"RentRiverModel", "begins", "()V"⟩, 62) := ⟨⟨by decide +kernel, by decide +kernel⟩, List.mem_of_getElem? (i := 1289) (by decide +kernel), List.mem_of_getElem? (i := 1647) (by decide +kernel), List.mem_of_getElem? (i := 1648) (by decide +kernel)⟩
theorem lw_p81 : lw_okq (⟨"RentRiverModel", "month", "(I)V"⟩, 62) := ⟨⟨by decide +kernel, by decide +kernel⟩, List.mem_of_getElem? (i := 1289) (by decide +kernel), List.mem_of_getElem? (i := 1655) (by decide +kernel), List.mem_of_getElem? (i := 1656) (by decide +kernel)⟩
theorem lw_p82 : lw_okq (⟨"RentRiverModel", "lets", "(I)V"⟩, 62) := ⟨⟨by decide +kernel, by decide +kernel⟩, List.mem_of_getElem? (i := 1289) (by decide +kernel), List.mem_of_getElem? (i := 1659) (by decide +kernel), List.mem_of_getElem? (i := 1660) (by decide +kernel)⟩
theorem lw_p83 : lw_okq (⟨"RentRiverModel", "canPay", "(II)Z"⟩, 62) := ⟨⟨by decide +kernel, by decide +kernel⟩, List.mem_of_getElem? (i := 1289) (by decide +kernel), List.mem_of_getElem? (i := 1663) (by decide +kernel), List.mem_of_getElem? (i := 1664) (by decide +kernel)⟩
theorem lw_p84 : lw_okq (⟨"RentRiverModel", "of", "(II)I"⟩, 62) := ⟨⟨by decide +kernel, by decide +kernel⟩, List.mem_of_getElem? (i := 1289) (by decide +kernel), List.mem_of_getElem? (i := 1667) (by decide +kernel), List.mem_of_getElem? (i := 1668) (by decide +kernel)⟩
theorem lw_p85 : lw_okq (⟨"RentRiverModel", "pays", "(II)V"⟩, 62) := ⟨⟨by decide +kernel, by decide +kernel⟩, List.mem_of_getElem? (i := 1289) (by decide +kernel), List.mem_of_getElem? (i := 1671) (by decide +kernel), List.mem_of_getElem? (i := 1672) (by decide +kernel)⟩
theorem lw_p86 : lw_okq (⟨"RentRiverModel", "more", "(III)V"⟩, 62) := ⟨⟨by decide +kernel, by decide +kernel⟩, List.mem_of_getElem? (i := 1289) (by decide +kernel), List.mem_of_getElem? (i := 1675) (by decide +kernel), List.mem_of_getElem? (i := 1676) (by decide +kernel)⟩
theorem lw_p87 : lw_okq (⟨"RentRiverModel", "placeOf", "(I)I"⟩, 62) := ⟨⟨by decide +kernel, by decide +kernel⟩, List.mem_of_getElem? (i := 1289) (by decide +kernel), List.mem_of_getElem? (i := 1679) (by decide +kernel), List.mem_of_getElem? (i := 1680) (by decide +kernel)⟩
theorem lw_p88 : lw_okq (⟨"RentRiverModel", "wasLet", "(II)Z"⟩, 62) := ⟨⟨by decide +kernel, by decide +kernel⟩, List.mem_of_getElem? (i := 1289) (by decide +kernel), List.mem_of_getElem? (i := 1686) (by decide +kernel), List.mem_of_getElem? (i := 1687) (by decide +kernel)⟩
theorem lw_p89 : lw_okq (⟨"RentRiverModel", "comes", "(II)V"⟩, 62) := ⟨⟨by decide +kernel, by decide +kernel⟩, List.mem_of_getElem? (i := 1289) (by decide +kernel), List.mem_of_getElem? (i := 1690) (by decide +kernel), List.mem_of_getElem? (i := 1691) (by decide +kernel)⟩
theorem lw_p90 : lw_okq (⟨"RentRiverModel", "uses", "(I)V"⟩, 62) := ⟨⟨by decide +kernel, by decide +kernel⟩, List.mem_of_getElem? (i := 1289) (by decide +kernel), List.mem_of_getElem? (i := 1694) (by decide +kernel), List.mem_of_getElem? (i := 1695) (by decide +kernel)⟩
theorem lw_p91 : lw_okq (⟨"RentRiverModel", "canBe", "(I)Z"⟩, 62) := ⟨⟨by decide +kernel, by decide +kernel⟩, List.mem_of_getElem? (i := 1289) (by decide +kernel), List.mem_of_getElem? (i := 1719) (by decide +kernel), List.mem_of_getElem? (i := 1720) (by decide +kernel)⟩
theorem lw_p92 : lw_okq (⟨"RentRiverModel", "gains", "(II)I"⟩, 62) := ⟨⟨by decide +kernel, by decide +kernel⟩, List.mem_of_getElem? (i := 1289) (by decide +kernel), List.mem_of_getElem? (i := 1723) (by decide +kernel), List.mem_of_getElem? (i := 1724) (by decide +kernel)⟩
theorem lw_p93 : lw_okq (⟨"RentRiverModel", "costOf", "(II)I"⟩, 62) := ⟨⟨by decide +kernel, by decide +kernel⟩, List.mem_of_getElem? (i := 1289) (by decide +kernel), List.mem_of_getElem? (i := 1727) (by decide +kernel), List.mem_of_getElem? (i := 1728) (by decide +kernel)⟩
theorem lw_p94 : lw_okq (⟨"RentRiverModel", "holderOf", "(I)I"⟩, 62) := ⟨⟨by decide +kernel, by decide +kernel⟩, List.mem_of_getElem? (i := 1289) (by decide +kernel), List.mem_of_getElem? (i := 1743) (by decide +kernel), List.mem_of_getElem? (i := 1744) (by decide +kernel)⟩
theorem lw_p95 : lw_okq (⟨"RentRiverModel", "octet", "(I)I"⟩, 62) := ⟨⟨by decide +kernel, by decide +kernel⟩, List.mem_of_getElem? (i := 1289) (by decide +kernel), List.mem_of_getElem? (i := 1759) (by decide +kernel), List.mem_of_getElem? (i := 1760) (by decide +kernel)⟩
def lw_privs_6 : List (MethodName × Nat) := [(⟨"RentRiverModel", "begins", "()V"⟩, 62), (⟨"RentRiverModel", "month", "(I)V"⟩, 62), (⟨"RentRiverModel", "lets", "(I)V"⟩, 62), (⟨"RentRiverModel", "canPay", "(II)Z"⟩, 62), (⟨"RentRiverModel", "of", "(II)I"⟩, 62), (⟨"RentRiverModel", "pays", "(II)V"⟩, 62), (⟨"RentRiverModel", "more", "(III)V"⟩, 62), (⟨"RentRiverModel", "placeOf", "(I)I"⟩, 62), (⟨"RentRiverModel", "wasLet", "(II)Z"⟩, 62), (⟨"RentRiverModel", "comes", "(II)V"⟩, 62), (⟨"RentRiverModel", "uses", "(I)V"⟩, 62), (⟨"RentRiverModel", "canBe", "(I)Z"⟩, 62), (⟨"RentRiverModel", "gains", "(II)I"⟩, 62), (⟨"RentRiverModel", "costOf", "(II)I"⟩, 62), (⟨"RentRiverModel", "holderOf", "(I)I"⟩, 62), (⟨"RentRiverModel", "octet", "(I)I"⟩, 62)]
theorem lw_r6 : ∀ q ∈ lw_privs_6, lw_okq q := List.forall_mem_cons.mpr ⟨lw_p80, List.forall_mem_cons.mpr ⟨lw_p81, List.forall_mem_cons.mpr ⟨lw_p82, List.forall_mem_cons.mpr ⟨lw_p83, List.forall_mem_cons.mpr ⟨lw_p84, List.forall_mem_cons.mpr ⟨lw_p85, List.forall_mem_cons.mpr ⟨lw_p86, List.forall_mem_cons.mpr ⟨lw_p87, List.forall_mem_cons.mpr ⟨lw_p88, List.forall_mem_cons.mpr ⟨lw_p89, List.forall_mem_cons.mpr ⟨lw_p90, List.forall_mem_cons.mpr ⟨lw_p91, List.forall_mem_cons.mpr ⟨lw_p92, List.forall_mem_cons.mpr ⟨lw_p93, List.forall_mem_cons.mpr ⟨lw_p94, List.forall_mem_cons.mpr ⟨lw_p95, fun _ h => absurd h List.not_mem_nil⟩⟩⟩⟩⟩⟩⟩⟩⟩⟩⟩⟩⟩⟩⟩⟩
theorem lw_p96 : lw_okq (⟨"RentRiverModel", "thinks", "()V"⟩, 62) := ⟨⟨by decide +kernel, by decide +kernel⟩, List.mem_of_getElem? (i := 1289) (by decide +kernel), List.mem_of_getElem? (i := 1763) (by decide +kernel), List.mem_of_getElem? (i := 1764) (by decide +kernel)⟩
theorem lw_p97 : lw_okq (⟨"RentRiverModel", "areLevels", "(I)Z"⟩, 62) := ⟨⟨by decide +kernel, by decide +kernel⟩, List.mem_of_getElem? (i := 1289) (by decide +kernel), List.mem_of_getElem? (i := 1767) (by decide +kernel), List.mem_of_getElem? (i := 1768) (by decide +kernel)⟩
theorem lw_p98 : lw_okq (⟨"RentRiverModel", "forgets", "()V"⟩, 62) := ⟨⟨by decide +kernel, by decide +kernel⟩, List.mem_of_getElem? (i := 1289) (by decide +kernel), List.mem_of_getElem? (i := 1771) (by decide +kernel), List.mem_of_getElem? (i := 1772) (by decide +kernel)⟩
theorem lw_p99 : lw_okq (⟨"RentRiverModel", "wholeYear", "(Z)V"⟩, 62) := ⟨⟨by decide +kernel, by decide +kernel⟩, List.mem_of_getElem? (i := 1289) (by decide +kernel), List.mem_of_getElem? (i := 1791) (by decide +kernel), List.mem_of_getElem? (i := 1792) (by decide +kernel)⟩
theorem lw_p100 : lw_okq (⟨"RentRiverModel", "draw", "(I)I"⟩, 62) := ⟨⟨by decide +kernel, by decide +kernel⟩, List.mem_of_getElem? (i := 1289) (by decide +kernel), List.mem_of_getElem? (i := 1795) (by decide +kernel), List.mem_of_getElem? (i := 1796) (by decide +kernel)⟩
theorem lw_p101 : lw_okq (⟨"RentRiverModel", "putNumber", "(I)V"⟩, 62) := ⟨⟨by decide +kernel, by decide +kernel⟩, List.mem_of_getElem? (i := 1289) (by decide +kernel), List.mem_of_getElem? (i := 1816) (by decide +kernel), List.mem_of_getElem? (i := 1817) (by decide +kernel)⟩
theorem lw_p102 : lw_okq (⟨"RentRiverModel", "put", "(I)V"⟩, 62) := ⟨⟨by decide +kernel, by decide +kernel⟩, List.mem_of_getElem? (i := 1289) (by decide +kernel), List.mem_of_getElem? (i := 1820) (by decide +kernel), List.mem_of_getElem? (i := 1821) (by decide +kernel)⟩
theorem lw_p103 : lw_okq (⟨"RentRiverModel", "putName", "(J)V"⟩, 62) := ⟨⟨by decide +kernel, by decide +kernel⟩, List.mem_of_getElem? (i := 1289) (by decide +kernel), List.mem_of_getElem? (i := 1824) (by decide +kernel), List.mem_of_getElem? (i := 1825) (by decide +kernel)⟩
theorem lw_p104 : lw_okq (⟨"RentRiverModel", "nots", "()V"⟩, 62) := ⟨⟨by decide +kernel, by decide +kernel⟩, List.mem_of_getElem? (i := 1289) (by decide +kernel), List.mem_of_getElem? (i := 1853) (by decide +kernel), List.mem_of_getElem? (i := 1854) (by decide +kernel)⟩
theorem lw_p105 : lw_okq (⟨"RentRiverModel", "code", "(III)V"⟩, 62) := ⟨⟨by decide +kernel, by decide +kernel⟩, List.mem_of_getElem? (i := 1289) (by decide +kernel), List.mem_of_getElem? (i := 1857) (by decide +kernel), List.mem_of_getElem? (i := 1858) (by decide +kernel)⟩
theorem lw_p106 : lw_okq (⟨"RentRiverModel", "joins", "(I)V"⟩, 62) := ⟨⟨by decide +kernel, by decide +kernel⟩, List.mem_of_getElem? (i := 1289) (by decide +kernel), List.mem_of_getElem? (i := 1861) (by decide +kernel), List.mem_of_getElem? (i := 1862) (by decide +kernel)⟩
theorem lw_p107 : lw_okq (⟨"RentRiverModel", "behind", "()Z"⟩, 62) := ⟨⟨by decide +kernel, by decide +kernel⟩, List.mem_of_getElem? (i := 1289) (by decide +kernel), List.mem_of_getElem? (i := 1865) (by decide +kernel), List.mem_of_getElem? (i := 1866) (by decide +kernel)⟩
theorem lw_p108 : lw_okq (⟨"RentRiverModel", "operand", "()Z"⟩, 62) := ⟨⟨by decide +kernel, by decide +kernel⟩, List.mem_of_getElem? (i := 1289) (by decide +kernel), List.mem_of_getElem? (i := 1869) (by decide +kernel), List.mem_of_getElem? (i := 1870) (by decide +kernel)⟩
theorem lw_p109 : lw_okq (⟨"RentRiverModel", "leafOf", "()I"⟩, 62) := ⟨⟨by decide +kernel, by decide +kernel⟩, List.mem_of_getElem? (i := 1289) (by decide +kernel), List.mem_of_getElem? (i := 1873) (by decide +kernel), List.mem_of_getElem? (i := 1874) (by decide +kernel)⟩
theorem lw_p110 : lw_okq (⟨"RentRiverModel", "isSaid", "(I)Z"⟩, 62) := ⟨⟨by decide +kernel, by decide +kernel⟩, List.mem_of_getElem? (i := 1289) (by decide +kernel), List.mem_of_getElem? (i := 1881) (by decide +kernel), List.mem_of_getElem? (i := 1882) (by decide +kernel)⟩
theorem lw_p111 : lw_okq (⟨"RentRiverModel", "isLeaf", "(IIII)Z"⟩, 62) := ⟨⟨by decide +kernel, by decide +kernel⟩, List.mem_of_getElem? (i := 1289) (by decide +kernel), List.mem_of_getElem? (i := 1885) (by decide +kernel), List.mem_of_getElem? (i := 1886) (by decide +kernel)⟩
def lw_privs_7 : List (MethodName × Nat) := [(⟨"RentRiverModel", "thinks", "()V"⟩, 62), (⟨"RentRiverModel", "areLevels", "(I)Z"⟩, 62), (⟨"RentRiverModel", "forgets", "()V"⟩, 62), (⟨"RentRiverModel", "wholeYear", "(Z)V"⟩, 62), (⟨"RentRiverModel", "draw", "(I)I"⟩, 62), (⟨"RentRiverModel", "putNumber", "(I)V"⟩, 62), (⟨"RentRiverModel", "put", "(I)V"⟩, 62), (⟨"RentRiverModel", "putName", "(J)V"⟩, 62), (⟨"RentRiverModel", "nots", "()V"⟩, 62), (⟨"RentRiverModel", "code", "(III)V"⟩, 62), (⟨"RentRiverModel", "joins", "(I)V"⟩, 62), (⟨"RentRiverModel", "behind", "()Z"⟩, 62), (⟨"RentRiverModel", "operand", "()Z"⟩, 62), (⟨"RentRiverModel", "leafOf", "()I"⟩, 62), (⟨"RentRiverModel", "isSaid", "(I)Z"⟩, 62), (⟨"RentRiverModel", "isLeaf", "(IIII)Z"⟩, 62)]
theorem lw_r7 : ∀ q ∈ lw_privs_7, lw_okq q := List.forall_mem_cons.mpr ⟨lw_p96, List.forall_mem_cons.mpr ⟨lw_p97, List.forall_mem_cons.mpr ⟨lw_p98, List.forall_mem_cons.mpr ⟨lw_p99, List.forall_mem_cons.mpr ⟨lw_p100, List.forall_mem_cons.mpr ⟨lw_p101, List.forall_mem_cons.mpr ⟨lw_p102, List.forall_mem_cons.mpr ⟨lw_p103, List.forall_mem_cons.mpr ⟨lw_p104, List.forall_mem_cons.mpr ⟨lw_p105, List.forall_mem_cons.mpr ⟨lw_p106, List.forall_mem_cons.mpr ⟨lw_p107, List.forall_mem_cons.mpr ⟨lw_p108, List.forall_mem_cons.mpr ⟨lw_p109, List.forall_mem_cons.mpr ⟨lw_p110, List.forall_mem_cons.mpr ⟨lw_p111, fun _ h => absurd h List.not_mem_nil⟩⟩⟩⟩⟩⟩⟩⟩⟩⟩⟩⟩⟩⟩⟩⟩
def lw_privs : List (MethodName × Nat) := lw_privs_1 ++ (lw_privs_2 ++ (lw_privs_3 ++ (lw_privs_4 ++ (lw_privs_5 ++ (lw_privs_6 ++ (lw_privs_7))))))
def lw_tbl : List Cond := k2_sels lw_privs ++ tables_1
theorem lw_privs_ok : ∀ q ∈ lw_privs, lw_okq q := by
  show ∀ q ∈ lw_privs_1 ++ (lw_privs_2 ++ (lw_privs_3 ++ (lw_privs_4 ++ (lw_privs_5 ++ (lw_privs_6 ++ (lw_privs_7)))))), lw_okq q
  exact List.forall_mem_append.mpr ⟨lw_r1, List.forall_mem_append.mpr ⟨lw_r2, List.forall_mem_append.mpr ⟨lw_r3, List.forall_mem_append.mpr ⟨lw_r4, List.forall_mem_append.mpr ⟨lw_r5, List.forall_mem_append.mpr ⟨lw_r6, lw_r7⟩⟩⟩⟩⟩⟩
-- ===== end of PART A; then your names; then what follows =====
end
section
/-! ===== BEGIN words of one list among another's, by their places ===== -/
theorem goodIn_r {big : List Cond} (ws : List Cond) (ps : List Nat) (hp : ws = ps.filterMap (fun i => big[i]?)) (h : ws.all goodWord = true) : GoodIn big ws := by
  intro w hw
  have h1 := List.all_eq_true.mp h w hw
  rw [hp] at hw
  obtain ⟨i, -, hi⟩ := List.mem_filterMap.mp hw
  have hm : w ∈ big := by first | exact List.mem_of_getElem? hi | exact List.getElem?_mem hi
  exact ⟨hm, good_of_word h1⟩
theorem goodIn_app {big a b : List Cond} (ha : GoodIn big a) (hb : GoodIn big b) : GoodIn big (a ++ b) := fun w h => (List.mem_append.mp h).elim (ha w) (hb w)
theorem goodIn_ca {big a b : List Cond} {c : Cond} (ha : GoodIn big (c :: a)) (hb : GoodIn big b) : GoodIn big (c :: (a ++ b)) := fun w h => (List.mem_cons.mp h).elim (fun e => ha w (List.mem_cons.mpr (Or.inl e))) (fun h => (List.mem_append.mp h).elim (fun h => ha w (List.mem_cons.mpr (Or.inr h))) (hb w))
theorem goodIn_sub {big ws : List Cond} (hm : ∀ w ∈ ws, w ∈ big) (h : ws.all goodWord = true) : GoodIn big ws := fun w hw => ⟨hm w hw, good_of_word (List.all_eq_true.mp h w hw)⟩
/-! ===== END ===== -/


/-! ===== BEGIN exceptions that leave a method, and their catching by the caller (launches without stack traces) ===== -/
section VXA
/-! The laws vx_back, vx_callV, vx_callS, vx_callSW, vx_throw0, vx_throwS follow proofs of the library, with one case more: JvmDerived/Free/Laws.lean (Back.of_free), Shelf42/LK1.lean (callV, callS), Shelf/KitTraced.lean (throwNew0V, throwNewS). -/
/-- where a method has thrown q: the class by its name, the cell, what was written, the world -/
def vx_T (XC : String → State → State → Prop) (st : State) (q : Addr) (t : State) (mc ms : Nat) (free : Addr → Prop) : Prop :=
  ∃ (E : String) (ce : Cell) (L : List Loc), XC E st t ∧ t.heap[q]? = some ce ∧ ce.vm = .none ∧ st.vm.findClass E = some ce.cls ∧ st.WarmedH t.vm ∧ st.sameButNew ({ t with vm := st.vm } : State) L mc ms ∧ ∀ z ∈ L, free z.base
def vx_Q (Qc : Array Value → State → Outcome → State → Prop) (XC : String → State → State → Prop) (mc ms : Nat) (free : Addr → Prop) : Array Value → State → Outcome → State → Prop := fun a st o t =>
  (Qc a st o t ∧ ∃ L, FrameEnd st o t L mc ms ∧ ∀ q ∈ L, free q.base) ∨ ∃ q, o = .threw q ∧ vx_T XC st q t mc ms free
/-- a callee that returns or throws -/
def vx_Met (l : Launch) (y : MethodName) (ws : List Cond) (rm : Room) (Pc : Array Value → State → Prop) (Qc : Array Value → State → Outcome → State → Prop) (XC : String → State → State → Prop) (mc ms : Nat) (free : Addr → Prop) : Prop :=
  MetFree l y (headSpec ws rm) Pc (fun _ _ _ _ _ => True) (vx_Q Qc XC mc ms free)
def vx_Post (XC : String → State → State → Prop) (mc ms : Nat) (free : Addr → Prop) : Pt → Array Value → Addr → Pt → Prop := fun A a q B =>
  ∃ (g : JFrame) (mk : MethodId) (t : State) (L : List Loc) (E : String) (ce : Cell), B.U.heap = t.heap ∧ B.U.vm = t.vm ∧ XC E (A.U.calling g mk a) t ∧ t.heap[q]? = some ce ∧ ce.vm = .none ∧ A.U.vm.findClass E = some ce.cls ∧ B.locs = A.locs ++ L ∧ (∀ z ∈ L, free z.base) ∧ B.cells = A.cells + mc ∧ B.slots = A.slots + ms
def vx_Back (l : Launch) (R : Room) (p : Program) (e : Env) (below : List Frame) (s : State) (sargs : Array Value) (y : MethodName) (len W9 : Nat)
    (Pre : Pt → Array Value → Prop) (Post : Pt → Array Value → Option Value → Pt → Prop) (PostX : Pt → Array Value → Addr → Pt → Prop) : Prop :=
  ∀ (m : MethodId) (meth : Method) (c : Code) (A : Pt) (g : JFrame) (ig : Instr) (mk : MethodId) (a : Array Value),
    Stand p l e R s m sargs below meth c A.U A.locs A.cells A.slots → g.method = m → g.locals.size = c.maxLocals → decode c.code g.pc = .ok (ig, len) →
    2 * g.monitorRoom + (g.stack.map fun v => v.category).sum ≤ W9 → A.U.methodNamed? y = some mk → Pre A a →
    (∃ (v : Option Value) (B : Pt), Stand p l e R s m sargs below meth c B.U B.locs B.cells B.slots ∧ Post A a v B ∧
      Steps p.tables e below (doInvoke e (A.U.setTop g) [] mk a).1 (B.U.setTop { g with pc := g.pc + len, stack := v.toList ++ g.stack })) ∨
    (∃ (q : Addr) (B : Pt), Stand p l e R s m sargs below meth c B.U B.locs B.cells B.slots ∧ PostX A a q B ∧
      Steps p.tables e below (doInvoke e (A.U.setTop g) [] mk a).1 ((B.U.setTop g).pushFrame (.throwing q)))
section Payer
variable {l : Launch} {R : Room} {p : Program} {e : Env} {below : List Frame} {s : State} {sargs : Array Value} {y : MethodName} {len W9 : Nat}
theorem vx_back {ws : List Cond} {rm : Room} {Pc : Array Value → State → Prop} {Qc : Array Value → State → Outcome → State → Prop} {XC : String → State → State → Prop} {mc ms : Nat} {free : Addr → Prop} {bytes : ByteArray} {maxL : Nat} {ret : Option FieldType}
    (hM : vx_Met l y ws rm Pc Qc XC mc ms free) (hblind : FrameBlind Pc) (hrc : rm.cells = mc) (hrs : rm.slots = ms)
    (hframes : rm.frames + 1 ≤ R.frames) (hlocals : W9 + (maxL + 11) + rm.locals ≤ R.locals)
    (hws : ∀ w ∈ ws, ∀ a' U, s.WarmedH U.vm → w.before a' U = true) (hcode : Cond.code y bytes maxL ret ∈ ws) (hinit : ∀ a' U, s.WarmedH U.vm → (Cond.initialized y.cls).before a' U = true) :
    vx_Back l R p e below s sargs y len W9 (PreOf R mc ms Pc) (PostOf Qc mc ms free) (vx_Post XC mc ms free) := by
  intro m meth c A g ig mk a X hg hsize hdg hW hn hp
  have h1 : (headSpec ws rm).pre.before a A.U = true := atoms_intro fun w hw => hws w hw _ _ X.warmed
  have h2 : (Cond.code y bytes maxL ret).before a A.U = true := hws _ hcode _ _ X.warmed
  have h3 : (Cond.initialized y.cls).before a A.U = true := hinit _ _ X.warmed
  have h4 : A.cells + (headSpec ws rm).room.cells ≤ R.cells := by rw [show (headSpec ws rm).room.cells = mc from hrc]; exact hp.1
  have h5 : A.slots + (headSpec ws rm).room.slots ≤ R.slots := by rw [show (headSpec ws rm).room.slots = ms from hrs]; exact hp.2.1
  have hPc : Pc a (A.U.calling g mk a) := hblind _ _ _ _ hp.2.2
  obtain ⟨U, Ls, c0, s0⟩ := A
  dsimp only [Pt.U, Pt.locs, Pt.cells, Pt.slots] at h1 h2 h3 h4 h5 X hn hPc ⊢
  obtain ⟨methY, cY, hmY, hcY, -, hlY, -, -, -, -⟩ := Cond.code_spec hn h2
  obtain ⟨kY, hkY, -⟩ := className_of_methodNamed hn
  have hinitY : kY.init = .initialized := Cond.initialized_spec (findClass_of_methodNamed hn) hkY h3
  have h : At U g.method c below := by rw [hg]; exact X.here
  have hlocals9 : W9 + (maxL + 11) + (headSpec ws rm).room.locals ≤ R.locals := hlocals
  have happ : (headSpec ws rm).appliesLoose y e.platform (U.calling g mk a) = true :=
    Spec.appliesLoose_calling (g := g) h hdg hn hkY hinitY
      (X.room_calling (g := g) (R' := (headSpec ws rm).room) hsize hmY hcY hframes (by rw [hlY]; omega) h4 h5) h1
  obtain ⟨mid, hmid⟩ := h.above
  have hfr : (U.setTop g).frames = (.java g :: mid) ++ below := by rw [State.frames_setTop' g h.top, hmid]; rfl
  obtain ⟨o, s₂, hsteps, -, hend, hq⟩ := Steps.callFree hM p X.admits X.cas X.clock (acts := []) hfr happ hPc trivial
  have hq' : vx_Q Qc XC mc ms free a (U.calling g mk a) o s₂ := hq
  rw [State.frames_setTop' g h.top] at hend
  obtain ⟨g₀, hg0⟩ := Option.isSome_iff_exists.mp h.top
  obtain ⟨r, hr⟩ := State.topJava?_eq_some.mp hg0
  have hr' : (({ U with heap := s₂.heap, slotsUsed := s₂.slotsUsed } : State).setVm s₂.vm).frames = .java g₀ :: r := hr
  rcases hq' with ⟨hqc, L, hfe, hL⟩ | ⟨q, rfl, E, ce, L, hx, hce, hcv, hcl, hW₂, hsm, hL⟩
  · obtain ⟨⟨v, rfl⟩, hW₂, e2, q2, q3, q4, q5, q6⟩ := id hfe
    have e3 : s₂ = ({ (U.calling g mk a).setFrames s₂.frames with heap := s₂.heap, slotsUsed := s₂.slotsUsed } : State).setVm s₂.vm := by
      have : s₂ = ({ s₂ with vm := (U.calling g mk a).vm } : State).setVm s₂.vm := rfl
      rw [e2] at this
      exact this
    obtain ⟨c₂, i₂, len₂, hc₂, hd₂, hf₂⟩ := hend
    have hW' : U.WarmedH s₂.vm := hW₂
    have hcc : c₂ = c := by
      have h1 : s₂.code? g.method = U.code? g.method := by
        rw [State.code?_eq, State.code?_eq, hW'.alike.method?]
      exact Option.some.inj (hc₂.symm.trans (h1.trans h.code))
    subst hcc
    have hlen : len₂ = len := by rw [hdg] at hd₂; cases hd₂; rfl
    subst hlen
    have hs₂ : s₂ = (({ U with heap := s₂.heap, slotsUsed := s₂.slotsUsed } : State).setVm s₂.vm).setTop { g with pc := g.pc + len₂, stack := v.toList ++ g.stack } := by
      refine e3.trans ?_
      rw [hf₂, State.calling_eq h.top, State.setFrames_setFrames, State.setTop_of_frames _ hr', hr]
      rfl
    have hsame : U.sameButNew ({ U with heap := s₂.heap, slotsUsed := s₂.slotsUsed } : State) L mc ms := by
      refine ⟨?_, q2, q3, q4, q5, q6⟩
      obtain ⟨t, ht, -⟩ := State.frames_cons hr
      show ({ U with heap := s₂.heap, slotsUsed := s₂.slotsUsed } : State) = { U.setFrames U.frames with heap := s₂.heap, slotsUsed := s₂.slotsUsed }
      rw [State.setFrames_self ht]
    subst hg
    refine Or.inl ⟨v, ⟨(({ U with heap := s₂.heap, slotsUsed := s₂.slotsUsed } : State).setVm s₂.vm), Ls ++ L, c0 + mc, s0 + ms⟩,
      ⟨X.admits, X.cas, X.clock, X.frames, X.room, X.hears, X.method, X.code, (X.here.setHeapUsed s₂.heap s₂.slotsUsed).setVm hW'.alike, X.tail, State.WarmedH.trans X.warmed hW', X.limits, X.bytes, X.same.trans (hsame.setVm s.vm)⟩,
      ⟨g, mk, s₂, L, rfl, rfl, hqc, rfl, hL, rfl, rfl⟩, ?_⟩
    show Steps p.tables e below _ ((({ U with heap := s₂.heap, slotsUsed := s₂.slotsUsed } : State).setVm s₂.vm).setTop { g with pc := g.pc + len₂, stack := v.toList ++ g.stack })
    rw [← hs₂]
    exact hsteps
  · obtain ⟨e2, q2, q3, q4, q5, q6⟩ := id hsm
    have e3 : s₂ = ({ (U.calling g mk a).setFrames s₂.frames with heap := s₂.heap, slotsUsed := s₂.slotsUsed } : State).setVm s₂.vm := by
      have : s₂ = ({ s₂ with vm := (U.calling g mk a).vm } : State).setVm s₂.vm := rfl
      rw [e2] at this
      exact this
    have hf₂ : s₂.frames = .throwing q :: .java g :: U.frames.tail := hend
    have hW' : U.WarmedH s₂.vm := hW₂
    have hs₂ : s₂ = ((({ U with heap := s₂.heap, slotsUsed := s₂.slotsUsed } : State).setVm s₂.vm).setTop g).pushFrame (.throwing q) := by
      refine e3.trans ?_
      rw [hf₂, State.calling_eq h.top, State.setFrames_setFrames, State.pushFrame, State.frames_setTop _ hr', State.setTop_of_frames _ hr', State.setFrames_setFrames, hr]
      rfl
    have hsame : U.sameButNew ({ U with heap := s₂.heap, slotsUsed := s₂.slotsUsed } : State) L mc ms := by
      refine ⟨?_, q2, q3, q4, q5, q6⟩
      obtain ⟨t, ht, -⟩ := State.frames_cons hr
      show ({ U with heap := s₂.heap, slotsUsed := s₂.slotsUsed } : State) = { U.setFrames U.frames with heap := s₂.heap, slotsUsed := s₂.slotsUsed }
      rw [State.setFrames_self ht]
    subst hg
    refine Or.inr ⟨q, ⟨(({ U with heap := s₂.heap, slotsUsed := s₂.slotsUsed } : State).setVm s₂.vm), Ls ++ L, c0 + mc, s0 + ms⟩,
      ⟨X.admits, X.cas, X.clock, X.frames, X.room, X.hears, X.method, X.code, (X.here.setHeapUsed s₂.heap s₂.slotsUsed).setVm hW'.alike, X.tail, State.WarmedH.trans X.warmed hW', X.limits, X.bytes, X.same.trans (hsame.setVm s.vm)⟩,
      ⟨g, mk, s₂, L, E, ce, rfl, rfl, hx, hce, hcv, hcl, rfl, hL, rfl, rfl⟩, ?_⟩
    show Steps p.tables e below _ (((({ U with heap := s₂.heap, slotsUsed := s₂.slotsUsed } : State).setVm s₂.vm).setTop g).pushFrame (.throwing q))
    rw [← hs₂]
    exact hsteps
end Payer
section Calls
variable {p : Program} {l : Launch} {e : Env} {R : Room} {s : State} {m : MethodId} {args : Array Value} {below : List Frame} {meth : Method} {c : Code} {T : State} {locs : List Loc} {cells slots : Nat}
theorem vx_callV (X : Stand p l e R s m args below meth c T locs cells slots) (hexec : p.tables.exec = Jvm.exec) {own C : String} {index : Nat} {y : MethodName} {bytes : ByteArray} {maxL : Nat} {ret : Option FieldType}
    (hown : s.vm.findClass own = some m.cls) (hlink : (Cond.methodLink own index y).before args s = true) (hinst : (Cond.instanceMethod y).before args s = true) (hsel : (Cond.selects C y y).before args s = true)
    (hcode : (Cond.code y bytes maxL ret).before args s = true) (hy : y.cls ≠ "java/lang/invoke/MethodHandle" ∧ y.cls ≠ "java/lang/invoke/VarHandle")
    {W9 : Nat} {Pre : Pt → Array Value → Prop} {Post : Pt → Array Value → Option Value → Pt → Prop} {PostX : Pt → Array Value → Addr → Pt → Prop} (hK : vx_Back l R p e below s args y 3 W9 Pre Post PostX)
    {b : Addr} {cellB : Cell} (hcell : T.heap[b]? = some cellB) (hobj : cellB.vm.isStatics = false) (hcls : s.vm.findClass C = some cellB.cls)
    {g : JFrame} (hg : g.method = m) (hsize : g.locals.size = c.maxLocals) {argsL rest : List Value} (hlen : ∀ sig, parseMethodDescriptor y.desc = some sig → argsL.length = sig.parameters.length)
    (hstack : g.stack = argsL.reverse ++ .ref b :: rest) (hW : 2 * g.monitorRoom + (rest.map fun v => v.category).sum ≤ W9) (hdg : decode c.code g.pc = .ok (.invokevirtual index, 3))
    (hpre : ∀ vm₁, s.WarmedH vm₁ → Pre ⟨T.setVm vm₁, locs, cells, slots⟩ (Value.ref b :: argsL).toArray) :
    (∃ (v : Option Value) (vm₁ : Vm) (B : Pt), s.WarmedH vm₁ ∧ Stand p l e R s m args below meth c B.U B.locs B.cells B.slots ∧ Post ⟨T.setVm vm₁, locs, cells, slots⟩ (Value.ref b :: argsL).toArray v B ∧
      ∀ target, Steps p.tables e below (B.U.setTop { g with pc := g.pc + 3, stack := v.toList ++ rest }) target → Steps p.tables e below (T.setTop g) target) ∨
    (∃ (q : Addr) (vm₁ : Vm) (B : Pt), s.WarmedH vm₁ ∧ Stand p l e R s m args below meth c B.U B.locs B.cells B.slots ∧ PostX ⟨T.setVm vm₁, locs, cells, slots⟩ (Value.ref b :: argsL).toArray q B ∧
      Steps p.tables e below (T.setTop g) ((B.U.setTop { g with stack := rest }).pushFrame (.throwing q))) := by
  obtain ⟨mk, methM, hnamed, hmethM, hstM, habM⟩ := Cond.instanceMethod_spec hinst
  obtain ⟨methM', cM, hmethM', -, -, -, -, -, -, hsigM⟩ := Cond.code_spec hnamed hcode
  cases hmethM.symm.trans hmethM'
  obtain ⟨c2, r2, m2, q1, q2, q3, q4, kP, hkP, hkPi⟩ := Cond.selects_spec hsel
  cases hcls.symm.trans q1
  cases (State.methodFound?_of_named hnamed hy).symm.trans q2
  cases hnamed.symm.trans q3
  have hselP : selectMethod e.platform s.vm cellB.cls mk = .method mk := by rw [Launch.admits_selectMethod X.admits]; exact q4
  obtain ⟨vm₁, X₁, hstep₁⟩ := X.invokevirtual hexec hown hlink hnamed hmethM hstM hkP hkPi hy (a := b) (cell := cellB) hcell
    (fun z h => by rw [h] at hobj; cases hobj) hselP hmethM habM hkP hkPi (g := g) hg (argsL := argsL) (rest := rest) (hlen _ hsigM) hstack hdg
  rcases hK m meth c ⟨T.setVm vm₁, locs, cells, slots⟩ { g with stack := rest } (.invokevirtual index) mk (Value.ref b :: argsL).toArray X₁ hg hsize hdg hW (X₁.named hnamed) (hpre vm₁ X₁.warmed) with ⟨v, B, X', hpost, hsteps⟩ | ⟨q, B, X', hpost, hsteps⟩
  · exact Or.inl ⟨v, vm₁, B, X₁.warmed, X', hpost, fun target h => hstep₁ _ fun acts => by rw [doInvoke_state]; exact hsteps.trans h⟩
  · exact Or.inr ⟨q, vm₁, B, X₁.warmed, X', hpost, hstep₁ _ fun acts => by rw [doInvoke_state]; exact hsteps⟩
theorem vx_callS (X : Stand p l e R s m args below meth c T locs cells slots) (hexec : p.tables.exec = Jvm.exec) {own : String} {index : Nat} {y : MethodName} {bytes : ByteArray} {maxL : Nat} {ret : Option FieldType}
    (hown : s.vm.findClass own = some m.cls) (hlink : (Cond.methodLink own index y).before args s = true) (hstat : (Cond.static y).before args s = true) (hinit : (Cond.initialized y.cls).before args s = true)
    (hcode : (Cond.code y bytes maxL ret).before args s = true) (hy : y.cls ≠ "java/lang/invoke/MethodHandle" ∧ y.cls ≠ "java/lang/invoke/VarHandle")
    {W9 : Nat} {Pre : Pt → Array Value → Prop} {Post : Pt → Array Value → Option Value → Pt → Prop} {PostX : Pt → Array Value → Addr → Pt → Prop} (hK : vx_Back l R p e below s args y 3 W9 Pre Post PostX)
    {g : JFrame} (hg : g.method = m) (hsize : g.locals.size = c.maxLocals) {argsL rest : List Value} (hlen : ∀ sig, parseMethodDescriptor y.desc = some sig → argsL.length = sig.parameters.length)
    (hstack : g.stack = argsL.reverse ++ rest) (hW : 2 * g.monitorRoom + (rest.map fun v => v.category).sum ≤ W9) (hdg : decode c.code g.pc = .ok (.invokestatic index, 3))
    (hpre : ∀ vm₁, s.WarmedH vm₁ → Pre ⟨T.setVm vm₁, locs, cells, slots⟩ argsL.toArray) :
    (∃ (v : Option Value) (vm₁ : Vm) (B : Pt), s.WarmedH vm₁ ∧ Stand p l e R s m args below meth c B.U B.locs B.cells B.slots ∧ Post ⟨T.setVm vm₁, locs, cells, slots⟩ argsL.toArray v B ∧
      ∀ target, Steps p.tables e below (B.U.setTop { g with pc := g.pc + 3, stack := v.toList ++ rest }) target → Steps p.tables e below (T.setTop g) target) ∨
    (∃ (q : Addr) (vm₁ : Vm) (B : Pt), s.WarmedH vm₁ ∧ Stand p l e R s m args below meth c B.U B.locs B.cells B.slots ∧ PostX ⟨T.setVm vm₁, locs, cells, slots⟩ argsL.toArray q B ∧
      Steps p.tables e below (T.setTop g) ((B.U.setTop { g with stack := rest }).pushFrame (.throwing q))) := by
  obtain ⟨mk, hnamed⟩ := Cond.code_named hcode
  obtain ⟨methM, cM, hmethM, -, -, -, -, -, -, hsigM⟩ := Cond.code_spec hnamed hcode
  have hstatic : methM.isStatic = true := Cond.static_spec hnamed hmethM hstat
  obtain ⟨kP, hkP, -⟩ := className_of_methodNamed hnamed
  have hinitP : kP.init = .initialized := Cond.initialized_spec (findClass_of_methodNamed hnamed) hkP hinit
  obtain ⟨vm₁, X₁, hstep₁⟩ := X.invokestatic hexec hown hlink hnamed hmethM hstatic hkP hinitP hy (g := g) hg (argsL := argsL) (rest := rest) (hlen _ hsigM) hstack hdg
  rcases hK m meth c ⟨T.setVm vm₁, locs, cells, slots⟩ { g with stack := rest } (.invokestatic index) mk argsL.toArray X₁ hg hsize hdg hW (X₁.named hnamed) (hpre vm₁ X₁.warmed) with ⟨v, B, X', hpost, hsteps⟩ | ⟨q, B, X', hpost, hsteps⟩
  · exact Or.inl ⟨v, vm₁, B, X₁.warmed, X', hpost, fun target h => hstep₁ _ fun acts => by rw [doInvoke_state]; exact hsteps.trans h⟩
  · exact Or.inr ⟨q, vm₁, B, X₁.warmed, X', hpost, hstep₁ _ fun acts => by rw [doInvoke_state]; exact hsteps⟩
end Calls
theorem vx_cls {s : State} {T : State} {vm₁ : Vm} {E : String} {k : ClassId} (hW : s.WarmedH vm₁) (h : (T.setVm vm₁).vm.findClass E = some k) : s.vm.findClass E = some k := by
  have h1 : vm₁.findClass E = some k := h
  rw [hW.alike.findClass] at h1
  exact h1
/-- the method's frame g, with q thrown over it -/
def vx_W (p : Program) (l : Launch) (e : Env) (R : Room) (s : State) (m : MethodId) (args : Array Value) (below : List Frame) (meth : Method) (c : Code) (H : Heap) (locs : List Loc) (cells slots : Nat) (Q : State → Prop) (g : JFrame) (q : Addr) : Prop :=
  ∀ T : State, T.heap = H → Stand p l e R s m args below meth c T locs cells slots → ∃ t, Steps p.tables e below ((T.setTop g).pushFrame (.throwing q)) t ∧ Q t
def vx_Run (p : Program) (l : Launch) (e : Env) (R : Room) (s : State) (m : MethodId) (args : Array Value) (below : List Frame) (meth : Method) (c : Code) (H : Heap) (locs : List Loc) (cells slots mc ms : Nat) (g : JFrame) (rest : List Value) (Qa : State → Outcome → State → Prop) (XC : String → State → State → Prop) (free : Addr → Prop) : Prop :=
  ∀ T : State, T.heap = H → Stand p l e R s m args below meth c T locs cells slots →
    (∃ (v : Option Value) (st₀ t T' : State) (L : List Loc), st₀.heap = H ∧ Stand p l e R s m args below meth c T' (locs ++ L) (cells + mc) (slots + ms) ∧ (∀ q ∈ L, free q.base) ∧ T'.heap = t.heap ∧ T'.vm = t.vm ∧ Qa st₀ (.returned v) t ∧
      Goes p e below T g T' { g with pc := g.pc + 3, stack := v.toList ++ rest }) ∨
    (∃ (q : Addr) (st₀ t T' : State) (L : List Loc) (E : String) (ce : Cell), st₀.heap = H ∧ Stand p l e R s m args below meth c T' (locs ++ L) (cells + mc) (slots + ms) ∧ (∀ z ∈ L, free z.base) ∧ T'.heap = t.heap ∧ T'.vm = t.vm ∧ XC E st₀ t ∧ t.heap[q]? = some ce ∧ ce.vm = .none ∧ s.vm.findClass E = some ce.cls ∧
      Steps p.tables e below (T.setTop g) ((T'.setTop { g with stack := rest }).pushFrame (.throwing q)))
def vx_X {S : Type} (px : S → Prop) (B : String → S → State → Prop) (A : Nat → Prop) : String → State → State → Prop := fun E st t => ∃ u : S, px u ∧ B E u t ∧ va_F A st t
section Runs
variable {p : Program} {l : Launch} {e : Env} {R : Room} {s : State} {m : MethodId} {args : Array Value} {below : List Frame} {meth : Method} {c : Code} {H : Heap} {locs : List Loc} {cells slots : Nat}
variable {y : MethodName} {bytes cc : ByteArray} {maxL nL mc ms n index : Nat} {ret : Option FieldType} {ws : List Cond} {rm : Room} {Pc : Array Value → State → Prop} {Qc : Array Value → State → Outcome → State → Prop} {XC : String → State → State → Prop} {free : Addr → Prop} {Ts : List Cond} {own C : String} {b : Addr} {As rest : List Value} {g : JFrame}
theorem vx_callBack (cb : CallB R s args own index y bytes maxL ret ws rm mc ms n) (hM : vx_Met l y ws rm Pc Qc XC mc ms free) (hbl : FrameBlind Pc) : vx_Back l R p e below s args y 3 8 (PreOf R mc ms Pc) (PostOf Qc mc ms free) (vx_Post XC mc ms free) := by
  obtain ⟨hrc, hrs, hfr, hlo, hws, hcw, -, hini, -⟩ := cb
  exact vx_back (bytes := bytes) (maxL := maxL) (ret := ret) hM hbl hrc hrs hfr hlo hws hcw (fun a' U hW => word_at hW (Or.inl (by first | rfl | simp [Cond.onTables, Cond.keeps, Cond.steady])) hini)
theorem vx_runV (S : CallFix p m c cc nL s args Ts own) (hM : vx_Met l y ws rm Pc Qc XC mc ms free) (cw : CallW R s args own C index y bytes maxL ret ws rm mc ms n) (hp : PreV s H C b Pc As)
    (hg : g.method = m) (hn : As.length = n) (hsize : g.locals.size = nL) (hstack : g.stack = As.reverse ++ .ref b :: rest) (hW : 2 * g.monitorRoom + (rest.map fun v => v.category).sum ≤ 8) (hdg : decode cc g.pc = .ok (.invokevirtual index, 3)) (hf : cells + mc ≤ R.cells ∧ slots + ms ≤ R.slots) :
    vx_Run p l e R s m args below meth c H locs cells slots mc ms g rest (Qc (Value.ref b :: As).toArray) XC free := by
  have hK : vx_Back l R p e below s args y 3 8 (PreOf R mc ms Pc) (PostOf Qc mc ms free) (vx_Post XC mc ms free) := vx_callBack cw.1 hM hp.1
  obtain ⟨⟨-, -, -, -, -, -, hcode, -, hy, hlen, hl⟩, hin, hse⟩ := cw
  obtain ⟨hx, hb, hml, ho, -⟩ := S
  obtain ⟨-, ⟨cellB, hcB, hoB, hclB⟩, hPc⟩ := hp
  intro T hT X
  rcases vx_callV X hx (C := C) (bytes := bytes) (maxL := maxL) (ret := ret) ho hl hin hse hcode hy hK (by rw [hT]; exact hcB) hoB hclB hg (hsize.trans hml.symm) (argsL := As) (rest := rest) (fun sig h => hn.trans (hlen sig h)) hstack hW (by rw [hb]; exact hdg)
    (fun vm₁ hW₁ => ⟨hf.1, hf.2, hPc (T.setVm vm₁) hT hW₁⟩) with ⟨v, vm₁, ⟨U', l2, c2, s2⟩, hW₁, X', ⟨g', mk, t, L, e1, e2, hq, h1, hL, h2, h3⟩, st⟩ | ⟨q, vm₁, ⟨U', l2, c2, s2⟩, hW₁, X', ⟨g', mk, t, L, E, ce, e1, e2, hq, hce, hcv, hcl, h1, hL, h2, h3⟩, st⟩
  · dsimp only [Pt.U, Pt.locs, Pt.cells, Pt.slots] at X' e1 e2 h1 h2 h3 st
    subst h1; subst h2; subst h3
    exact Or.inl ⟨v, (T.setVm vm₁).calling g' mk (Value.ref b :: As).toArray, t, U', L, hT, X', hL, e1, e2, hq, st⟩
  · dsimp only [Pt.U, Pt.locs, Pt.cells, Pt.slots] at X' e1 e2 h1 h2 h3 st hcl
    subst h1; subst h2; subst h3
    exact Or.inr ⟨q, (T.setVm vm₁).calling g' mk (Value.ref b :: As).toArray, t, U', L, E, ce, hT, X', hL, e1, e2, hq, hce, hcv, vx_cls hW₁ hcl, st⟩
theorem vx_runS (S : CallFix p m c cc nL s args Ts own) (hM : vx_Met l y ws rm Pc Qc XC mc ms free) (cw : CallB R s args own index y bytes maxL ret ws rm mc ms n ∧ (Cond.static y).before args s = true) (hp : PreS s H Pc As)
    (hg : g.method = m) (hn : As.length = n) (hsize : g.locals.size = nL) (hstack : g.stack = As.reverse ++ rest) (hW : 2 * g.monitorRoom + (rest.map fun v => v.category).sum ≤ 8) (hdg : decode cc g.pc = .ok (.invokestatic index, 3)) (hf : cells + mc ≤ R.cells ∧ slots + ms ≤ R.slots) :
    vx_Run p l e R s m args below meth c H locs cells slots mc ms g rest (Qc As.toArray) XC free := by
  have hK : vx_Back l R p e below s args y 3 8 (PreOf R mc ms Pc) (PostOf Qc mc ms free) (vx_Post XC mc ms free) := vx_callBack cw.1 hM hp.1
  obtain ⟨⟨-, -, -, -, -, -, hcode, hini, hy, hlen, hl⟩, hstt⟩ := cw
  obtain ⟨hx, hb, hml, ho, -⟩ := S
  intro T hT X
  rcases vx_callS X hx (bytes := bytes) (maxL := maxL) (ret := ret) ho hl hstt hini hcode hy hK hg (hsize.trans hml.symm) (argsL := As) (rest := rest) (fun sig h => hn.trans (hlen sig h)) hstack hW (by rw [hb]; exact hdg)
    (fun vm₁ hW₁ => ⟨hf.1, hf.2, hp.2 (T.setVm vm₁) hT hW₁⟩) with ⟨v, vm₁, ⟨U', l2, c2, s2⟩, hW₁, X', ⟨g', mk, t, L, e1, e2, hq, h1, hL, h2, h3⟩, st⟩ | ⟨q, vm₁, ⟨U', l2, c2, s2⟩, hW₁, X', ⟨g', mk, t, L, E, ce, e1, e2, hq, hce, hcv, hcl, h1, hL, h2, h3⟩, st⟩
  · dsimp only [Pt.U, Pt.locs, Pt.cells, Pt.slots] at X' e1 e2 h1 h2 h3 st
    subst h1; subst h2; subst h3
    exact Or.inl ⟨v, (T.setVm vm₁).calling g' mk As.toArray, t, U', L, hT, X', hL, e1, e2, hq, st⟩
  · dsimp only [Pt.U, Pt.locs, Pt.cells, Pt.slots] at X' e1 e2 h1 h2 h3 st hcl
    subst h1; subst h2; subst h3
    exact Or.inr ⟨q, (T.setVm vm₁).calling g' mk As.toArray, t, U', L, E, ce, hT, X', hL, e1, e2, hq, hce, hcv, vx_cls hW₁ hcl, st⟩
end Runs
section Rows
variable {p : Program} {l : Launch} {e : Env} {R : Room} {s : State} {m : MethodId} {args : Array Value} {below : List Frame} {meth : Method} {c : Code} {H : Heap} {locs : List Loc} {cells slots : Nat} {Q : State → Prop}
variable {mc ms : Nat} {free : Addr → Prop} {A0 A1 : Nat → Prop} {H0 : Heap} {a : Array Value} {pc : Nat} {ls : Array Slot} {st0 rest : List Value}
theorem vx_keep {st₀ t T' : State} {L : List Loc} (h0 : st₀.heap = H) (e1 : T'.heap = t.heap) (hS : va_S A0 H0 H locs) (hA : ∀ q, q < H.size → A1 q → A0 q) (hf : ∀ q, free q → A0 q) (hL : ∀ q ∈ L, free q.base) (hF : va_F A1 st₀ t) :
    H.size ≤ T'.heap.size ∧ (∀ q : Nat, q < H.size → ¬ A1 q → T'.heap[q]? = H[q]?) ∧ va_S A0 H0 T'.heap (locs ++ L) := by
  obtain ⟨hz, hk⟩ := hF
  rw [h0] at hz hk
  exact ⟨by rw [e1]; exact hz, fun q h1 h2 => by rw [e1]; exact hk q h1 h2,
    ⟨Nat.le_trans hS.1 (by rw [e1]; exact hz), fun q h1 h2 => by rw [e1, hk q (Nat.lt_of_lt_of_le h1 hS.1) (fun z => h2 (hA q (Nat.lt_of_lt_of_le h1 hS.1) z))]; exact hS.2.1 q h1 h2, fun q hq => by
      rcases List.mem_append.mp hq with h | h
      · exact hS.2.2 q h
      · exact hf _ (hL q h)⟩⟩
theorem vx_calli {S SX : Type} {post : Int32 → S → Prop} {px : SX → Prop} {B : S → State → Prop} {BX : String → SX → State → Prop} {AX : Nat → Prop} (hr : vx_Run p l e R s m args below meth c H locs cells slots mc ms (F0 m pc ls st0) rest (va_Qi post B A1 a) (vx_X px BX AX) free) (hS : va_S A0 H0 H locs) (hA : ∀ q, q < H.size → A1 q → A0 q) (hf : ∀ q, free q → A0 q) (hAX : ∀ q, q < H.size → AX q → A0 q)
    (kx : ∀ (E : String) (ce : Cell) (q9 : Addr) (u : SX) (t : State) (H1 : Heap) (locs1 : List Loc), t.heap = H1 → s.vm.Alike t.vm → px u → BX E u t → H.size ≤ H1.size → (∀ q : Nat, q < H.size → ¬ AX q → H1[q]? = H[q]?) → va_S A0 H0 H1 locs1 → H1[q9]? = some ce → ce.vm = .none → s.vm.findClass E = some ce.cls → vx_W p l e R s m args below meth c H1 locs1 (cells + mc) (slots + ms) Q (F0 m pc ls rest) q9)
    (kk : ∀ (r : Int32) (u : S) (t : State) (H1 : Heap) (locs1 : List Loc), t.heap = H1 → s.vm.Alike t.vm → post r u → B u t → H.size ≤ H1.size → (∀ q : Nat, q < H.size → ¬ A1 q → H1[q]? = H[q]?) → va_S A0 H0 H1 locs1 → W p l e R s m args below meth c H1 locs1 (cells + mc) (slots + ms) Q (F0 m (pc + 3) ls (.int r :: rest))) : W p l e R s m args below meth c H locs cells slots Q (F0 m pc ls st0) := by
  intro T hT X
  rcases hr T hT X with ⟨v, st₀, t, T', L, h0, X', hL, e1, e2, ⟨⟨r, u, hv, hp, hb⟩, hF⟩, st⟩ | ⟨q, st₀, t, T', L, E, ce, h0, X', hL, e1, e2, ⟨u, hp, hb, hF⟩, hce, hcv, hcl, st⟩
  · cases hv
    obtain ⟨k1, k2, k3⟩ := vx_keep h0 e1 hS hA hf hL hF
    obtain ⟨t2, a1, b1⟩ := kk r u t T'.heap (locs ++ L) e1.symm (by rw [← e2]; exact X'.warmed.alike) hp hb k1 k2 k3 T' rfl X'
    exact ⟨t2, st t2 a1, b1⟩
  · obtain ⟨k1, k2, k3⟩ := vx_keep h0 e1 hS hAX hf hL hF
    obtain ⟨t2, a1, b1⟩ := kx E ce q u t T'.heap (locs ++ L) e1.symm (by rw [← e2]; exact X'.warmed.alike) hp hb k1 k2 k3 (by rw [e1]; exact hce) hcv hcl T' rfl X'
    exact ⟨t2, st.trans a1, b1⟩
theorem vx_calll {S SX : Type} {post : Int64 → S → Prop} {px : SX → Prop} {B : S → State → Prop} {BX : String → SX → State → Prop} {AX : Nat → Prop} (hr : vx_Run p l e R s m args below meth c H locs cells slots mc ms (F0 m pc ls st0) rest (va_Ql post B A1 a) (vx_X px BX AX) free) (hS : va_S A0 H0 H locs) (hA : ∀ q, q < H.size → A1 q → A0 q) (hf : ∀ q, free q → A0 q) (hAX : ∀ q, q < H.size → AX q → A0 q)
    (kx : ∀ (E : String) (ce : Cell) (q9 : Addr) (u : SX) (t : State) (H1 : Heap) (locs1 : List Loc), t.heap = H1 → s.vm.Alike t.vm → px u → BX E u t → H.size ≤ H1.size → (∀ q : Nat, q < H.size → ¬ AX q → H1[q]? = H[q]?) → va_S A0 H0 H1 locs1 → H1[q9]? = some ce → ce.vm = .none → s.vm.findClass E = some ce.cls → vx_W p l e R s m args below meth c H1 locs1 (cells + mc) (slots + ms) Q (F0 m pc ls rest) q9)
    (kk : ∀ (r : Int64) (u : S) (t : State) (H1 : Heap) (locs1 : List Loc), t.heap = H1 → s.vm.Alike t.vm → post r u → B u t → H.size ≤ H1.size → (∀ q : Nat, q < H.size → ¬ A1 q → H1[q]? = H[q]?) → va_S A0 H0 H1 locs1 → W p l e R s m args below meth c H1 locs1 (cells + mc) (slots + ms) Q (F0 m (pc + 3) ls (.long r :: rest))) : W p l e R s m args below meth c H locs cells slots Q (F0 m pc ls st0) := by
  intro T hT X
  rcases hr T hT X with ⟨v, st₀, t, T', L, h0, X', hL, e1, e2, ⟨⟨r, u, hv, hp, hb⟩, hF⟩, st⟩ | ⟨q, st₀, t, T', L, E, ce, h0, X', hL, e1, e2, ⟨u, hp, hb, hF⟩, hce, hcv, hcl, st⟩
  · cases hv
    obtain ⟨k1, k2, k3⟩ := vx_keep h0 e1 hS hA hf hL hF
    obtain ⟨t2, a1, b1⟩ := kk r u t T'.heap (locs ++ L) e1.symm (by rw [← e2]; exact X'.warmed.alike) hp hb k1 k2 k3 T' rfl X'
    exact ⟨t2, st t2 a1, b1⟩
  · obtain ⟨k1, k2, k3⟩ := vx_keep h0 e1 hS hAX hf hL hF
    obtain ⟨t2, a1, b1⟩ := kx E ce q u t T'.heap (locs ++ L) e1.symm (by rw [← e2]; exact X'.warmed.alike) hp hb k1 k2 k3 (by rw [e1]; exact hce) hcv hcl T' rfl X'
    exact ⟨t2, st.trans a1, b1⟩
theorem vx_callf {S SX : Type} {post : UInt32 → S → Prop} {px : SX → Prop} {B : S → State → Prop} {BX : String → SX → State → Prop} {AX : Nat → Prop} (hr : vx_Run p l e R s m args below meth c H locs cells slots mc ms (F0 m pc ls st0) rest (va_Qf post B A1 a) (vx_X px BX AX) free) (hS : va_S A0 H0 H locs) (hA : ∀ q, q < H.size → A1 q → A0 q) (hf : ∀ q, free q → A0 q) (hAX : ∀ q, q < H.size → AX q → A0 q)
    (kx : ∀ (E : String) (ce : Cell) (q9 : Addr) (u : SX) (t : State) (H1 : Heap) (locs1 : List Loc), t.heap = H1 → s.vm.Alike t.vm → px u → BX E u t → H.size ≤ H1.size → (∀ q : Nat, q < H.size → ¬ AX q → H1[q]? = H[q]?) → va_S A0 H0 H1 locs1 → H1[q9]? = some ce → ce.vm = .none → s.vm.findClass E = some ce.cls → vx_W p l e R s m args below meth c H1 locs1 (cells + mc) (slots + ms) Q (F0 m pc ls rest) q9)
    (kk : ∀ (r : UInt32) (u : S) (t : State) (H1 : Heap) (locs1 : List Loc), t.heap = H1 → s.vm.Alike t.vm → post r u → B u t → H.size ≤ H1.size → (∀ q : Nat, q < H.size → ¬ A1 q → H1[q]? = H[q]?) → va_S A0 H0 H1 locs1 → W p l e R s m args below meth c H1 locs1 (cells + mc) (slots + ms) Q (F0 m (pc + 3) ls (.float r :: rest))) : W p l e R s m args below meth c H locs cells slots Q (F0 m pc ls st0) := by
  intro T hT X
  rcases hr T hT X with ⟨v, st₀, t, T', L, h0, X', hL, e1, e2, ⟨⟨r, u, hv, hp, hb⟩, hF⟩, st⟩ | ⟨q, st₀, t, T', L, E, ce, h0, X', hL, e1, e2, ⟨u, hp, hb, hF⟩, hce, hcv, hcl, st⟩
  · cases hv
    obtain ⟨k1, k2, k3⟩ := vx_keep h0 e1 hS hA hf hL hF
    obtain ⟨t2, a1, b1⟩ := kk r u t T'.heap (locs ++ L) e1.symm (by rw [← e2]; exact X'.warmed.alike) hp hb k1 k2 k3 T' rfl X'
    exact ⟨t2, st t2 a1, b1⟩
  · obtain ⟨k1, k2, k3⟩ := vx_keep h0 e1 hS hAX hf hL hF
    obtain ⟨t2, a1, b1⟩ := kx E ce q u t T'.heap (locs ++ L) e1.symm (by rw [← e2]; exact X'.warmed.alike) hp hb k1 k2 k3 (by rw [e1]; exact hce) hcv hcl T' rfl X'
    exact ⟨t2, st.trans a1, b1⟩
theorem vx_calld {S SX : Type} {post : UInt64 → S → Prop} {px : SX → Prop} {B : S → State → Prop} {BX : String → SX → State → Prop} {AX : Nat → Prop} (hr : vx_Run p l e R s m args below meth c H locs cells slots mc ms (F0 m pc ls st0) rest (va_Qd post B A1 a) (vx_X px BX AX) free) (hS : va_S A0 H0 H locs) (hA : ∀ q, q < H.size → A1 q → A0 q) (hf : ∀ q, free q → A0 q) (hAX : ∀ q, q < H.size → AX q → A0 q)
    (kx : ∀ (E : String) (ce : Cell) (q9 : Addr) (u : SX) (t : State) (H1 : Heap) (locs1 : List Loc), t.heap = H1 → s.vm.Alike t.vm → px u → BX E u t → H.size ≤ H1.size → (∀ q : Nat, q < H.size → ¬ AX q → H1[q]? = H[q]?) → va_S A0 H0 H1 locs1 → H1[q9]? = some ce → ce.vm = .none → s.vm.findClass E = some ce.cls → vx_W p l e R s m args below meth c H1 locs1 (cells + mc) (slots + ms) Q (F0 m pc ls rest) q9)
    (kk : ∀ (r : UInt64) (u : S) (t : State) (H1 : Heap) (locs1 : List Loc), t.heap = H1 → s.vm.Alike t.vm → post r u → B u t → H.size ≤ H1.size → (∀ q : Nat, q < H.size → ¬ A1 q → H1[q]? = H[q]?) → va_S A0 H0 H1 locs1 → W p l e R s m args below meth c H1 locs1 (cells + mc) (slots + ms) Q (F0 m (pc + 3) ls (.double r :: rest))) : W p l e R s m args below meth c H locs cells slots Q (F0 m pc ls st0) := by
  intro T hT X
  rcases hr T hT X with ⟨v, st₀, t, T', L, h0, X', hL, e1, e2, ⟨⟨r, u, hv, hp, hb⟩, hF⟩, st⟩ | ⟨q, st₀, t, T', L, E, ce, h0, X', hL, e1, e2, ⟨u, hp, hb, hF⟩, hce, hcv, hcl, st⟩
  · cases hv
    obtain ⟨k1, k2, k3⟩ := vx_keep h0 e1 hS hA hf hL hF
    obtain ⟨t2, a1, b1⟩ := kk r u t T'.heap (locs ++ L) e1.symm (by rw [← e2]; exact X'.warmed.alike) hp hb k1 k2 k3 T' rfl X'
    exact ⟨t2, st t2 a1, b1⟩
  · obtain ⟨k1, k2, k3⟩ := vx_keep h0 e1 hS hAX hf hL hF
    obtain ⟨t2, a1, b1⟩ := kx E ce q u t T'.heap (locs ++ L) e1.symm (by rw [← e2]; exact X'.warmed.alike) hp hb k1 k2 k3 (by rw [e1]; exact hce) hcv hcl T' rfl X'
    exact ⟨t2, st.trans a1, b1⟩
theorem vx_callv {S SX : Type} {post : S → Prop} {px : SX → Prop} {B : S → State → Prop} {BX : String → SX → State → Prop} {AX : Nat → Prop} (hr : vx_Run p l e R s m args below meth c H locs cells slots mc ms (F0 m pc ls st0) rest (va_Qv post B A1 a) (vx_X px BX AX) free) (hS : va_S A0 H0 H locs) (hA : ∀ q, q < H.size → A1 q → A0 q) (hf : ∀ q, free q → A0 q) (hAX : ∀ q, q < H.size → AX q → A0 q)
    (kx : ∀ (E : String) (ce : Cell) (q9 : Addr) (u : SX) (t : State) (H1 : Heap) (locs1 : List Loc), t.heap = H1 → s.vm.Alike t.vm → px u → BX E u t → H.size ≤ H1.size → (∀ q : Nat, q < H.size → ¬ AX q → H1[q]? = H[q]?) → va_S A0 H0 H1 locs1 → H1[q9]? = some ce → ce.vm = .none → s.vm.findClass E = some ce.cls → vx_W p l e R s m args below meth c H1 locs1 (cells + mc) (slots + ms) Q (F0 m pc ls rest) q9)
    (kk : ∀ (u : S) (t : State) (H1 : Heap) (locs1 : List Loc), t.heap = H1 → s.vm.Alike t.vm → post u → B u t → H.size ≤ H1.size → (∀ q : Nat, q < H.size → ¬ A1 q → H1[q]? = H[q]?) → va_S A0 H0 H1 locs1 → W p l e R s m args below meth c H1 locs1 (cells + mc) (slots + ms) Q (F0 m (pc + 3) ls (rest))) : W p l e R s m args below meth c H locs cells slots Q (F0 m pc ls st0) := by
  intro T hT X
  rcases hr T hT X with ⟨v, st₀, t, T', L, h0, X', hL, e1, e2, ⟨⟨u, hv, hp, hb⟩, hF⟩, st⟩ | ⟨q, st₀, t, T', L, E, ce, h0, X', hL, e1, e2, ⟨u, hp, hb, hF⟩, hce, hcv, hcl, st⟩
  · cases hv
    obtain ⟨k1, k2, k3⟩ := vx_keep h0 e1 hS hA hf hL hF
    obtain ⟨t2, a1, b1⟩ := kk u t T'.heap (locs ++ L) e1.symm (by rw [← e2]; exact X'.warmed.alike) hp hb k1 k2 k3 T' rfl X'
    exact ⟨t2, st t2 a1, b1⟩
  · obtain ⟨k1, k2, k3⟩ := vx_keep h0 e1 hS hAX hf hL hF
    obtain ⟨t2, a1, b1⟩ := kx E ce q u t T'.heap (locs ++ L) e1.symm (by rw [← e2]; exact X'.warmed.alike) hp hb k1 k2 k3 (by rw [e1]; exact hce) hcv hcl T' rfl X'
    exact ⟨t2, st.trans a1, b1⟩
/-- caught by the row x of this method's table; the rows ahead don't take it -/
theorem vx_catch {own name : String} {E : String} {ce : Cell} {q : Addr} (hown : s.vm.findClass own = some m.cls) (pre : List ExceptionTableEntry) (x : ExceptionTableEntry) (suf : List ExceptionTableEntry) (hsplit : c.exceptionTable.toList = pre ++ x :: suf)
    (hpass : ∀ z ∈ pre, covers z pc = false ∨ (z.catchType ≠ 0 ∧ ∃ nm : String, (Cond.classLink own z.catchType nm).before args s = true ∧ va_Nc E nm s)) (hx : covers x pc = true) (h0 : x.catchType ≠ 0)
    (hlink : (Cond.classLink own x.catchType name).before args s = true) (hcast : (Cond.castable E name).before args s = true) (hcell : H[q]? = some ce) (hv : ce.vm = .none) (hcl : s.vm.findClass E = some ce.cls)
    (kk : W p l e R s m args below meth c H locs cells slots Q (F0 m x.handlerPc ls [.ref q])) : vx_W p l e R s m args below meth c H locs cells slots Q (F0 m pc ls rest) q := by
  intro T hT X
  have hpl : e.platform.magicAccessors = ({} : Platform).magicAccessors := by rw [X.admits.platform]
  obtain ⟨c3, c4, hc3, hc4, hasg⟩ := Cond.castable_spec hcast
  cases Option.some.inj (hc3.symm.trans hcl)
  obtain ⟨c5, hc5, hcl5⟩ := Cond.classLink_spec hown hlink e.platform hpl
  cases Option.some.inj (hc4.symm.trans hc5)
  obtain ⟨vm', X', st⟩ := X.thenCaughtThrough q (g := F0 m pc ls rest) rfl (Steps.refl _) (by rw [hT]; exact hcell) (by rw [hv]; rfl) (by obtain ⟨k9, h9, -⟩ := Vm.findClass_spec hcl; exact ⟨k9, h9⟩) pre x suf hsplit
    (fun z hz => by
      rcases hpass z hz with h | ⟨hz0, nm, hl1, hn1⟩
      · exact Or.inl h
      · obtain ⟨c6, hc6, hcl6⟩ := Cond.classLink_spec hown hl1 e.platform hpl
        obtain ⟨a8, b8, h1, h2, h3⟩ := hn1
        cases Option.some.inj (h1.symm.trans hcl)
        cases Option.some.inj (h2.symm.trans hc6)
        exact Or.inr ⟨hz0, _, hcl6, h3⟩) hx (Or.inr ⟨h0, c4, hcl5, hasg⟩)
  obtain ⟨t, a1, b1⟩ := kk (T.setVm vm') hT X'
  exact ⟨t, st.trans a1, b1⟩
end Rows
section Ends
variable {p : Program} {l : Launch} {e : Env} {R : Room} {s : State} {m : MethodId} {args : Array Value} {below : List Frame} {meth : Method} {c : Code} {H : Heap} {locs : List Loc} {cells slots : Nat} {Q : State → Prop}
variable {mc ms : Nat} {free : Addr → Prop} {A0 A1 : Nat → Prop} {H0 : Heap} {a : Array Value} {ls : Array Slot} {st0 rest : List Value}
variable {Qc : Array Value → State → Outcome → State → Prop} {XC : String → State → State → Prop}
/-- what a body that may throw owes at its end -/
def vx_MQ (below : List Frame) (Qc : Array Value → State → Outcome → State → Prop) (XC : String → State → State → Prop) (a : Array Value) (s : State) (mc ms : Nat) (free : Addr → Prop) : State → Prop := fun t =>
  ∃ o, t.status = .running ∧ Ended t below o ∧ vx_Q Qc XC mc ms free a s o t
theorem vx_ret {g : JFrame} {mc ms : Nat} (k : W p l e R s m args below meth c H locs cells slots (MQ below Qc args s mc ms free) g) : W p l e R s m args below meth c H locs cells slots (vx_MQ below Qc XC args s mc ms free) g := by
  intro T hT X
  obtain ⟨t, a1, o, b1, b2, b3, b4⟩ := k T hT X
  exact ⟨t, a1, o, b1, b2, Or.inl ⟨b3, b4⟩⟩
/-- not caught here: it goes on to the caller -/
theorem vx_widen {g : JFrame} {q : Addr} {k n : Nat} (h1 : cells ≤ k) (h2 : slots ≤ n) (kk : vx_W p l e R s m args below meth c H locs k n Q g q) : vx_W p l e R s m args below meth c H locs cells slots Q g q := fun T hT X => kk T hT (stand_widen X h1 h2)
theorem vx_out {pc : Nat} {E : String} {ce : Cell} {q : Addr} {mc ms : Nat} (hout : ∀ x ∈ c.exceptionTable.toList, covers x pc = false) (hlocks : meth.locks = false) (hcell : H[q]? = some ce) (hv : ce.vm = .none) (hcl : s.vm.findClass E = some ce.cls)
    (hx : ∀ t : State, t.heap = H → s.vm.Alike t.vm → XC E s t) (hf : ∀ z ∈ locs, free z.base) (hc : cells ≤ mc) (hs : slots ≤ ms) :
    vx_W p l e R s m args below meth c H locs cells slots (vx_MQ below Qc XC args s mc ms free) (F0 m pc ls rest) q := by
  intro T hT X
  obtain ⟨st1, hrun, hend, hW, hsm⟩ := X.leaveThrown q (g := F0 m pc ls rest) rfl rfl rfl hout hlocks
  have hcell9 : (T.setFrames (.throwing q :: below)).heap[q]? = some ce := by
    show T.heap[q]? = some ce
    rw [hT]; exact hcell
  exact ⟨_, st1, .threw q, hrun, hend, Or.inr ⟨q, rfl, E, ce, locs, hx _ hT hW.alike, hcell9, hv, hcl, hW, hsm.mono hc hs, hf⟩⟩
theorem vx_frame {U : State} {k n : Nat} (h : s.sameButNew ({ U with vm := s.vm } : State) locs k n) : s.heap.size ≤ U.heap.size ∧ ∀ q : Nat, q < s.heap.size → (∀ z ∈ locs, z.base ≠ q) → U.heap[q]? = s.heap[q]? := by
  obtain ⟨-, h2, -, -, -, h6⟩ := h
  refine ⟨h2, fun q hq hz => ?_⟩
  obtain ⟨c9, e1, e2, e3, e4⟩ := h6 q _ (Array.getElem?_eq_getElem hq)
  have hs : c9.slots = (s.heap[q]).slots := Array.ext_getElem? fun i => e4 i fun hm => hz _ hm rfl
  have h9 : c9 = s.heap[q] := by
    rw [hs] at e2
    exact e2
  have e5 : U.heap[q]? = some c9 := e1
  rw [e5, h9, Array.getElem?_eq_getElem hq]
/-- the words of a throw but the four that speak of the heap -/
def vx_no (w : Cond) : Bool := decide (w ≠ .isRef (.static Bundle.tN "UNASSIGNED_STACK" Bundle.steD)) && decide (w ≠ .isRef (.static Bundle.tN "SUPPRESSED_SENTINEL" Bundle.listD)) && decide (w ≠ .laysStatic Bundle.tN "UNASSIGNED_STACK" Bundle.steD) && decide (w ≠ .laysStatic Bundle.tN "SUPPRESSED_SENTINEL" Bundle.listD)
def vx_at0 (own : String) (ic : Nat) (X : String) (names : List String) : List Cond := (Bundle.ownAtoms0 own ic X names).filter vx_no
def vx_atS (own : String) (ic : Nat) (X : String) (names : List String) : List Cond := (Bundle.ownAtoms own ic X names).filter vx_no
/-- a word that the tables alone decide, or a good one -/
def vx_ot (w : Cond) : Bool := w.onTables || goodWord w
theorem vx_ot_at {args a' : Array Value} {s U : State} {w : Cond} (hW : s.WarmedH U.vm) (hvm : s.vm = U.vm) (hg : vx_ot w = true) (h : w.before args s = true) : w.before a' U = true := by
  simp only [vx_ot, Bool.or_eq_true] at hg
  rcases hg with hg | hg
  · exact va_tabs hg hvm h
  · exact word_at hW (good_of_word hg) h
/-- a list's words: the good ones out of the method's own list, the others by premises of their own -/
theorem vx_hat {args : Array Value} {s : State} {L B : List Cond} (h1 : ∀ w ∈ L.filter goodWord, w.before args s = true) (h2 : ∀ w ∈ L.filter (fun w => !goodWord w), w ∈ B) (h3 : ∀ w ∈ B, w.before args s = true) : ∀ w ∈ L, w.before args s = true := by
  intro w hw
  by_cases g : goodWord w = true
  · exact h1 w (List.mem_filter.mpr ⟨hw, g⟩)
  · refine h3 w (h2 w (List.mem_filter.mpr ⟨hw, ?_⟩))
    show (!goodWord w) = true
    cases hgw : goodWord w
    · rfl
    · exact absurd hgw g
theorem vx_c {args : Array Value} {s : State} {w : Cond} {B : List Cond} (h : w.before args s = true) (t : ∀ w ∈ B, w.before args s = true) : ∀ w' ∈ w :: B, w'.before args s = true := fun w' h' => (List.mem_cons.mp h').elim (fun e => by rw [e]; exact h) (t w')
theorem vx_n {args : Array Value} {s : State} : ∀ w ∈ ([] : List Cond), w.before args s = true := fun _ h => nomatch h
theorem vx_own {args : Array Value} {s : State} {L : List Cond} (h1 : ∀ w ∈ L.filter vx_no, w.before args s = true)
    (hU : (Cond.isRef (.static Bundle.tN "UNASSIGNED_STACK" Bundle.steD)).before args s = true) (hN : (Cond.isRef (.static Bundle.tN "SUPPRESSED_SENTINEL" Bundle.listD)).before args s = true)
    (lU : (Cond.laysStatic Bundle.tN "UNASSIGNED_STACK" Bundle.steD).before args s = true) (lN : (Cond.laysStatic Bundle.tN "SUPPRESSED_SENTINEL" Bundle.listD).before args s = true) : ∀ w ∈ L, w.before args s = true := by
  intro w hw
  by_cases e1 : w = .isRef (.static Bundle.tN "UNASSIGNED_STACK" Bundle.steD)
  · rw [e1]; exact hU
  · by_cases e2 : w = .isRef (.static Bundle.tN "SUPPRESSED_SENTINEL" Bundle.listD)
    · rw [e2]; exact hN
    · by_cases e3 : w = .laysStatic Bundle.tN "UNASSIGNED_STACK" Bundle.steD
      · rw [e3]; exact lU
      · by_cases e4 : w = .laysStatic Bundle.tN "SUPPRESSED_SENTINEL" Bundle.listD
        · rw [e4]; exact lN
        · exact h1 w (List.mem_filter.mpr ⟨hw, by unfold vx_no; rw [decide_eq_true e1, decide_eq_true e2, decide_eq_true e3, decide_eq_true e4]; rfl⟩)
/-- where a static field lies, its class's statics cell in H -/
def vx_L (C n d : String) (A : Nat → Prop) (U : State) (H : Heap) : Prop := ∃ (c : ClassId) (k : Class) (i : Nat) (f : Field) (a : Nat) (cell : Cell), U.vm.findClass C = some c ∧ U.fieldFound? C n d = some (c, k, i, f) ∧ f.isStatic = true ∧ k.statics = some a ∧ H[a]? = some cell ∧ cell.vm.isStatics = true ∧ cell.cls = c ∧ f.slot < cell.slots.size ∧ k.staticTypes[f.slot]? = some f.type ∧ ¬ A a
theorem vx_L.moved {C n d : String} {A : Nat → Prop} {u U : State} {H : Heap} (hvm : u.vm.Alike U.vm) (h : vx_L C n d A u H) : vx_L C n d A U H := by
  obtain ⟨c, k, i, f, a, cell, h1, h2, h3, h4, h5, h6, h7, h8, h9, h10⟩ := h
  obtain ⟨k', hi', he⟩ := State.fieldFound?_setVm hvm h2
  exact ⟨c, k', i, f, a, cell, by rw [hvm.findClass]; exact h1, hi', h3, by rw [he]; exact h4, h5, h6, h7, h8, by rw [he]; exact h9, h10⟩
theorem vx_L.kept {C n d : String} {A : Nat → Prop} {U : State} {H H1 : Heap} (h : vx_L C n d A U H) (hq : ∀ a : Nat, a < H.size → ¬ A a → H1[a]? = H[a]?) : vx_L C n d A U H1 := by
  obtain ⟨c, k, i, f, a, cell, h1, h2, h3, h4, h5, h6, h7, h8, h9, h10⟩ := h
  exact ⟨c, k, i, f, a, cell, h1, h2, h3, h4, by rw [hq a (Array.getElem?_eq_some_iff.mp h5).1 h10]; exact h5, h6, h7, h8, h9, h10⟩
theorem vx_L.narrow {C n d : String} {A B : Nat → Prop} {U : State} {H : Heap} (h : vx_L C n d A U H) (hAB : ∀ q, B q → A q) : vx_L C n d B U H := by
  obtain ⟨c, k, i, f, a, cell, h1, h2, h3, h4, h5, h6, h7, h8, h9, h10⟩ := h
  exact ⟨c, k, i, f, a, cell, h1, h2, h3, h4, h5, h6, h7, h8, h9, fun z => h10 (hAB _ z)⟩
theorem vx_L.word {C n d : String} {A : Nat → Prop} {s : State} {args : Array Value} (h : vx_L C n d A s s.heap) : (Cond.laysStatic C n d).before args s = true := by
  obtain ⟨c, k, i, f, a, cell, h1, h2, h3, h4, h5, h6, h7, h8, h9, -⟩ := h
  show (Cond.laysStatic C n d).holds args s none s [] = true
  exact Cond.laysStatic_of h1 h2 h3 h4 h5 h6 h7 h8 h9
/-- .. and what it holds: null or some reference -/
def vx_Zq (C n d : String) (A : Nat → Prop) (U : State) (H : Heap) : Prop := va_Zq C n d A U H ∧ vx_L C n d A U H
theorem vx_Zq.moved {C n d : String} {A : Nat → Prop} {u U : State} {H : Heap} (hvm : u.vm.Alike U.vm) (h : vx_Zq C n d A u H) : vx_Zq C n d A U H := ⟨va_Zq.moved hvm h.1, vx_L.moved hvm h.2⟩
theorem vx_Zq.kept {C n d : String} {A : Nat → Prop} {U : State} {H H1 : Heap} (h : vx_Zq C n d A U H) (hq : ∀ a : Nat, a < H.size → ¬ A a → H1[a]? = H[a]?) : vx_Zq C n d A U H1 := ⟨va_Zq.kept h.1 hq, vx_L.kept h.2 hq⟩
theorem vx_Zq.narrow {C n d : String} {A B : Nat → Prop} {U : State} {H : Heap} (h : vx_Zq C n d A U H) (hAB : ∀ q, B q → A q) : vx_Zq C n d B U H := ⟨va_Zq.narrow h.1 hAB, vx_L.narrow h.2 hAB⟩
theorem vx_Zqof {args : Array Value} {s : State} {C n d : String} {A : Nat → Prop} (hl : (Cond.laysStatic C n d).before args s = true) (hini : (Cond.initialized C).before args s = true) (h : (Cond.isRef (.static C n d)).before args s = true) (hA : ∀ a : Nat, a < s.heap.size → ¬ A a) : vx_Zq C n d A s s.heap := by
  refine ⟨va_Zqof hl hini h hA, ?_⟩
  obtain ⟨c, k, i, f, a, cell, h1, h2, h3, h4, h5, h6, h7, h8, h9⟩ := Cond.laysStatic_spec hl
  exact ⟨c, k, i, f, a, cell, h1, h2, h3, h4, h5, h6, h7, h8, h9, hA a (Array.getElem?_eq_some_iff.mp h5).1⟩
theorem vx_isRef {C n d : String} {v : Value} {A : Nat → Prop} {s : State} {args : Array Value} (h : va_Z C n d v A s s.heap) (hv : v.isRef = true) : (Cond.isRef (.static C n d)).before args s = true := by
  obtain ⟨cf, kf, fi, f, a, cell, h1, h2, h3, h4, h5, h6, h7, -⟩ := h
  have he : (Term.static C n d).eval args s none [] s = some v := by
    simp [Term.eval, State.fieldNamed?, h1, h2, h4, h5, h6, h7]
  simp only [Cond.before, Cond.holds, Cond.value, he]
  cases v <;> simp_all [Value.isRef]
theorem vx_isRefq {C n d : String} {A : Nat → Prop} {s : State} {args : Array Value} (h : va_Zq C n d A s s.heap) : (Cond.isRef (.static C n d)).before args s = true := by
  rcases h with h | ⟨t, h⟩
  · exact vx_isRef h rfl
  · exact vx_isRef h rfl
/-- the same frame, seen from here: as if the method were called anew in this heap -/
theorem vx_rebase {T : State} (X : Stand p l e R s m args below meth c T locs cells slots) {R' : Room} (hf : R'.frames ≤ R.frames) (hl : R'.locals ≤ R.locals) (hc : cells + R'.cells ≤ R.cells) (hs : slots + R'.slots ≤ R.slots) :
    Stand p l e R' ((T.setVm s.vm).setFrames (.invoking m args :: below)) m args below meth c T [] 0 0 := by
  have htop : (T.setVm s.vm).topJava?.isSome := X.here.top
  have hF : ((T.setVm s.vm).setFrames (.invoking m args :: below)).frames = .invoking m args :: below := State.frames_setFrames _ (State.cur_lt_of_top htop)
  obtain ⟨g₀, hg0⟩ := Option.isSome_iff_exists.mp htop
  obtain ⟨r, hr⟩ := State.topJava?_eq_some.mp hg0
  have hl9 : e.platform.stackLimits (T.setVm s.vm).me = e.platform.stackLimits s.me := X.limits
  have hb9 : (T.setVm s.vm).me.stackBytes = s.me.stackBytes := X.bytes
  refine ⟨X.admits, X.cas, X.clock, hF, ?_, X.hears, X.method, X.code, X.here, X.tail, X.warmed, ?_, ?_, ?_⟩
  · have h := X.room
    have hU : ((T.setVm s.vm).setFrames (.invoking m args :: below)).localsInUse = s.localsInUse := by
      rw [State.localsInUse_invoking hF (meth := meth) (c := c) X.method X.code, State.localsInUse_invoking X.frames X.method X.code]
    simp only [State.hasRoom, Bool.and_eq_true, decide_eq_true_eq] at h ⊢
    obtain ⟨⟨⟨⟨h1, h2, h3, h4, h5, h6⟩, h7⟩, h8⟩, h9⟩ := h
    rw [X.frames, List.length_cons] at h2 h3
    have q1 := X.heapSize
    have q2 := X.used
    simp only [hF, hU, List.length_cons, State.stackLimits_setFrames, State.stackBytes_setFrames, hl9, hb9]
    refine ⟨⟨⟨⟨by omega, by omega, by omega, by omega, by omega, h6⟩, ?_⟩, ?_⟩, X.book⟩
    · show T.heap.size + R'.cells ≤ e.platform.maxCells
      omega
    · show T.slotsUsed + R'.slots ≤ e.platform.maxSlots
      omega
  · rw [State.stackLimits_setFrames]; rfl
  · rw [State.stackBytes_setFrames]; rfl
  · refine ⟨?_, Nat.le_refl _, Nat.le_refl _, ?_, ?_, fun a c9 h9 => ⟨c9, h9, rfl, rfl, fun _ _ => rfl⟩⟩
    · obtain ⟨t, ht, -⟩ := State.frames_cons hr
      show T.setVm s.vm = { ((T.setVm s.vm).setFrames (.invoking m args :: below)).setFrames (T.setVm s.vm).frames with heap := T.heap, slotsUsed := T.slotsUsed }
      rw [State.setFrames_setFrames, State.setFrames_self ht]
      rfl
    · show T.slotsUsed = T.slotsUsed + ((T.heap.toList.drop T.heap.size).map (·.slots.size)).sum
      rw [List.drop_eq_nil_of_le (Nat.le_of_eq Array.length_toList)]
      rfl
    · show ((T.heap.toList.drop T.heap.size).map (·.slots.size)).sum ≤ 0
      rw [List.drop_eq_nil_of_le (Nat.le_of_eq Array.length_toList)]
      exact Nat.le_refl _
/-- 'throw new E()': new; dup; invokespecial; athrow -/
theorem vx_throw0 {cc : ByteArray} {pc : Nat} (hexec : p.tables.exec = Jvm.exec) (hb : c.code = cc) (hl : l.stackTraces = false) {own cls : String} {names : List String} {ik ic mc ms : Nat} {A : Nat → Prop}
    (hown : s.vm.findClass own = some m.cls) (hcls : Bundle.fit cls = true) (hnames : ∀ n ∈ names, Bundle.fit n = true)
    (hk : (Cond.classLink own ik cls).before args s = true) (hini : (Cond.initialized cls).before args s = true) (hat : ∀ w ∈ vx_at0 own ic cls names, w.before args s = true)
    (hgood : ∀ w ∈ Cond.classLink own ik cls :: Cond.initialized cls :: vx_at0 own ic cls names, vx_ot w = true)
    (hU : vx_Zq Bundle.tN "UNASSIGNED_STACK" Bundle.steD A s s.heap) (hN : vx_Zq Bundle.tN "SUPPRESSED_SENTINEL" Bundle.listD A s s.heap) (hS : va_S A s.heap H locs) (hsize : ls.size = c.maxLocals)
    (d0 : decode cc pc = .ok (.new ik, 3)) (d3 : decode cc (pc + 3) = .ok (.dup, 1)) (d4 : decode cc (pc + 4) = .ok (.invokespecial ic, 3)) (d7 : decode cc (pc + 7) = .ok (.athrow, 1))
    (hout : ∀ x ∈ c.exceptionTable.toList, covers x (pc + 7) = false)
    (hRframes : names.length + 3 < R.frames) (hRlocals : (rest.map fun v => v.category).sum + (13 * (names.length + 1) + 42) ≤ R.locals) (hRcells : cells + 1 ≤ R.cells) (hRslots : slots + 6 ≤ R.slots) (hlocks : meth.locks = false)
    (hx : ∀ t : State, s.vm.Alike t.vm → H.size ≤ t.heap.size → (∀ q : Nat, q < H.size → t.heap[q]? = H[q]?) → XC cls s t)
    (hf : ∀ z ∈ locs, free z.base) (hc : cells + 1 ≤ mc) (hs : slots + 6 ≤ ms) :
    W p l e R s m args below meth c H locs cells slots (vx_MQ below Qc XC args s mc ms free) (F0 m pc ls rest) := by
  intro T hT X
  have htr : e.platform.stackTraces = false := (show e.platform.stackTraces = l.stackTraces by rw [X.admits.platform]).trans hl
  have Y := vx_rebase X (R' := { frames := R.frames, locals := R.locals, cells := 1, slots := 6 }) (Nat.le_refl _) (Nat.le_refl _) hRcells hRslots
  obtain ⟨s', hA⟩ : ∃ z, z = (T.setVm s.vm).setFrames (.invoking m args :: below) := ⟨_, rfl⟩
  rw [← hA] at Y
  have hvm : s'.vm = s.vm := by rw [hA]; rfl
  have hhp : s'.heap = H := by rw [hA]; exact hT
  have hW0 : s.WarmedH s'.vm := by rw [hvm]; exact State.WarmedH.refl s
  have hat' : ∀ w ∈ vx_at0 own ic cls names, w.before args s' = true := fun w hw => vx_ot_at hW0 hvm.symm (hgood w (List.mem_cons_of_mem _ (List.mem_cons_of_mem _ hw))) (hat w hw)
  have hk' : (Cond.classLink own ik cls).before args s' = true := vx_ot_at hW0 hvm.symm (hgood _ List.mem_cons_self) hk
  have hini' : (Cond.initialized cls).before args s' = true := vx_ot_at hW0 hvm.symm (hgood _ (List.mem_cons_of_mem _ List.mem_cons_self)) hini
  have hU' : vx_Zq Bundle.tN "UNASSIGNED_STACK" Bundle.steD A s' s'.heap := by rw [hhp]; exact vx_Zq.moved hW0.alike (hU.kept hS.2.1)
  have hN' : vx_Zq Bundle.tN "SUPPRESSED_SENTINEL" Bundle.listD A s' s'.heap := by rw [hhp]; exact vx_Zq.moved hW0.alike (hN.kept hS.2.1)
  have h : ∀ w ∈ Bundle.ownAtoms0 own ic cls names, w.before args s' = true := vx_own hat' (vx_isRefq hU'.1) (vx_isRefq hN'.1) hU'.2.word hN'.2.word
  have hown' : s'.vm.findClass own = some m.cls := by rw [hvm]; exact hown
  have hins : (Cond.instantiable cls 6).before args s' = true := h _ (by simp [Bundle.ownAtoms0])
  obtain ⟨vm₁, cX, kX, hfX, hkX, -, -, X₁, st1⟩ := Y.newCold hexec (own := own) (C := cls) (index := ik) (n := 6) hown' hk' hins hini'
    (g := F0 m pc ls rest) rfl (by rw [hb]; exact d0) (Nat.le_refl _) (Nat.le_refl _)
  generalize hT1 : (T.setVm vm₁).pushCell { cls := cX, slots := kX.instanceTypes.map defaultValue, vm := .none } = T1 at X₁ st1
  have hcat : (Value.ref T.heap.size).category = 1 := rfl
  have hcellA : T1.heap[T.heap.size]? = some (freshCell cX kX) := by rw [← hT1]; exact State.heap_pushCell_size _ _
  have d3' : decode c.code (pc + 3) = .ok (.dup, 1) := by rw [hb]; exact d3
  obtain ⟨U, hsteps, hrun, hend, hW, hsame, ce, hce, hO⟩ := X₁.ctorThrow0 hexec htr (own := own) (cls := cls) (names := names) (ic := ic) hown' hcls hnames h (fun x hx => nomatch hx) hfX hkX hcellA (by rw [hhp, hT]; exact Nat.le_refl _)
    (g := { method := m, pc := pc + 4, locals := ls, stack := .ref T.heap.size :: .ref T.heap.size :: rest, locked := none }) rfl hsize rfl rfl (rest := rest) rfl
    (by rw [hb]; exact d4) (by rw [hb]; exact d7) hout hRframes (by simp only [List.map_cons, List.sum_cons, hcat]; omega) hlocks
  obtain ⟨f1, f2⟩ := vx_frame hsame
  rw [hhp] at f1 f2
  have hWs : s.WarmedH U.vm := State.WarmedH.trans hW0 hW
  have hcl : s.vm.findClass cls = some ce.cls := by
    have h9 := hO.cls
    rw [hvm] at h9
    exact h9
  have hall : s.sameButNew ({ U with vm := s.vm } : State) locs mc ms := by
    subst hA
    obtain ⟨e1, e2⟩ := hsame
    rw [State.setFrames_setFrames] at e1
    have h2 : (T.setVm s.vm).sameButNew ({ U with vm := s.vm } : State) [] (0 + 1) (0 + 6) := ⟨e1, e2⟩
    have h3 := X.same.trans h2
    rw [List.append_nil] at h3
    exact h3.mono hc hs
  refine ⟨U, ?_, .threw T.heap.size, hrun, hend, Or.inr ⟨T.heap.size, rfl, cls, ce, locs, hx U hWs.alike f1 (fun q hq => f2 q hq (fun z hz => nomatch hz)), hce, hO.vm, hcl, hWs, hall, hf⟩⟩
  refine st1 _ ?_
  show Steps p.tables e below (T1.setTop { method := m, pc := pc + 3, locals := ls, stack := .ref T.heap.size :: rest, locked := none }) _
  jvm_step X₁.here [X₁.here.top, hexec, d3', Value.category]
  exact hsteps
/-- 'throw new E("text")': new; dup; ldc; invokespecial; athrow -/
theorem vx_throwS {cc : ByteArray} {pc : Nat} (hexec : p.tables.exec = Jvm.exec) (hb : c.code = cc) (hl : l.stackTraces = false) {own cls text : String} {names : List String} {ik is ic mc ms sa : Nat} {A : Nat → Prop}
    (hown : s.vm.findClass own = some m.cls) (hcls : Bundle.fit cls = true) (hnames : ∀ n ∈ names, Bundle.fit n = true)
    (hk : (Cond.classLink own ik cls).before args s = true) (hini : (Cond.initialized cls).before args s = true) (hstr : vk_R own is text sa s) (hat : ∀ w ∈ vx_atS own ic cls names, w.before args s = true)
    (hgood : ∀ w ∈ Cond.classLink own ik cls :: Cond.initialized cls :: vx_atS own ic cls names, vx_ot w = true)
    (hU : vx_Zq Bundle.tN "UNASSIGNED_STACK" Bundle.steD A s s.heap) (hN : vx_Zq Bundle.tN "SUPPRESSED_SENTINEL" Bundle.listD A s s.heap) (hS : va_S A s.heap H locs) (hsize : ls.size = c.maxLocals)
    (d0 : decode cc pc = .ok (.new ik, 3)) (d3 : decode cc (pc + 3) = .ok (.dup, 1)) (d4 : decode cc (pc + 4) = .ok (.ldc is, 2)) (d6 : decode cc (pc + 6) = .ok (.invokespecial ic, 3)) (d9 : decode cc (pc + 9) = .ok (.athrow, 1))
    (hout : ∀ x ∈ c.exceptionTable.toList, covers x (pc + 9) = false)
    (hRframes : names.length + 3 < R.frames) (hRlocals : (rest.map fun v => v.category).sum + (13 * (names.length + 1) + 43) ≤ R.locals) (hRcells : cells + 1 ≤ R.cells) (hRslots : slots + 6 ≤ R.slots) (hlocks : meth.locks = false)
    (hx : ∀ t : State, s.vm.Alike t.vm → H.size ≤ t.heap.size → (∀ q : Nat, q < H.size → t.heap[q]? = H[q]?) → XC cls s t)
    (hf : ∀ z ∈ locs, free z.base) (hc : cells + 1 ≤ mc) (hs : slots + 6 ≤ ms) :
    W p l e R s m args below meth c H locs cells slots (vx_MQ below Qc XC args s mc ms free) (F0 m pc ls rest) := by
  intro T hT X
  have htr : e.platform.stackTraces = false := (show e.platform.stackTraces = l.stackTraces by rw [X.admits.platform]).trans hl
  have Y := vx_rebase X (R' := { frames := R.frames, locals := R.locals, cells := 1, slots := 6 }) (Nat.le_refl _) (Nat.le_refl _) hRcells hRslots
  obtain ⟨s', hA⟩ : ∃ z, z = (T.setVm s.vm).setFrames (.invoking m args :: below) := ⟨_, rfl⟩
  rw [← hA] at Y
  have hvm : s'.vm = s.vm := by rw [hA]; rfl
  have hhp : s'.heap = H := by rw [hA]; exact hT
  have hW0 : s.WarmedH s'.vm := by rw [hvm]; exact State.WarmedH.refl s
  have hat' : ∀ w ∈ vx_atS own ic cls names, w.before args s' = true := fun w hw => vx_ot_at hW0 hvm.symm (hgood w (List.mem_cons_of_mem _ (List.mem_cons_of_mem _ hw))) (hat w hw)
  have hk' : (Cond.classLink own ik cls).before args s' = true := vx_ot_at hW0 hvm.symm (hgood _ List.mem_cons_self) hk
  have hini' : (Cond.initialized cls).before args s' = true := vx_ot_at hW0 hvm.symm (hgood _ (List.mem_cons_of_mem _ List.mem_cons_self)) hini
  have hU' : vx_Zq Bundle.tN "UNASSIGNED_STACK" Bundle.steD A s' s'.heap := by rw [hhp]; exact vx_Zq.moved hW0.alike (hU.kept hS.2.1)
  have hN' : vx_Zq Bundle.tN "SUPPRESSED_SENTINEL" Bundle.listD A s' s'.heap := by rw [hhp]; exact vx_Zq.moved hW0.alike (hN.kept hS.2.1)
  have h : ∀ w ∈ Bundle.ownAtoms own ic cls names, w.before args s' = true := vx_own hat' (vx_isRefq hU'.1) (vx_isRefq hN'.1) hU'.2.word hN'.2.word
  have hown' : s'.vm.findClass own = some m.cls := by rw [hvm]; exact hown
  have hins : (Cond.instantiable cls 6).before args s' = true := h _ (by simp [Bundle.ownAtoms])
  obtain ⟨vm₁, cX, kX, hfX, hkX, -, -, X₁, st1⟩ := Y.newCold hexec (own := own) (C := cls) (index := ik) (n := 6) hown' hk' hins hini'
    (g := F0 m pc ls rest) rfl (by rw [hb]; exact d0) (Nat.le_refl _) (Nat.le_refl _)
  generalize hT1 : (T.setVm vm₁).pushCell { cls := cX, slots := kX.instanceTypes.map defaultValue, vm := .none } = T1 at X₁ st1
  have hcat : (Value.ref T.heap.size).category = 1 := rfl
  have hcellA : T1.heap[T.heap.size]? = some (freshCell cX kX) := by rw [← hT1]; exact State.heap_pushCell_size _ _
  have d3' : decode c.code (pc + 3) = .ok (.dup, 1) := by rw [hb]; exact d3
  have d4' : decode c.code (pc + 4) = .ok (.ldc is, 2) := by rw [hb]; exact d4
  have hstr' : vk_R own is text sa s' := vk_R.warm hW0 hstr
  obtain ⟨U, hsteps, hrun, hend, hW, hsame, ce, hce, hO⟩ := X₁.ctorThrowS hexec htr (own := own) (cls := cls) (names := names) (ic := ic) hown' hcls hnames h (fun x hx => nomatch hx) hfX hkX hcellA (by rw [hhp, hT]; exact Nat.le_refl _) (msg := .ref sa) rfl
    (g := { method := m, pc := pc + 6, locals := ls, stack := .ref sa :: .ref T.heap.size :: .ref T.heap.size :: rest, locked := none }) rfl hsize rfl rfl (rest := rest) rfl
    (by rw [hb]; exact d6) (by rw [hb]; exact d9) hout hRframes (by simp only [List.map_cons, List.sum_cons, hcat]; omega) hlocks
  obtain ⟨f1, f2⟩ := vx_frame hsame
  rw [hhp] at f1 f2
  have hWs : s.WarmedH U.vm := State.WarmedH.trans hW0 hW
  have hcl : s.vm.findClass cls = some ce.cls := by
    have h9 := hO.cls
    rw [hvm] at h9
    exact h9
  have hall : s.sameButNew ({ U with vm := s.vm } : State) locs mc ms := by
    subst hA
    obtain ⟨e1, e2⟩ := hsame
    rw [State.setFrames_setFrames] at e1
    have h2 : (T.setVm s.vm).sameButNew ({ U with vm := s.vm } : State) [] (0 + 1) (0 + 6) := ⟨e1, e2⟩
    have h3 := X.same.trans h2
    rw [List.append_nil] at h3
    exact h3.mono hc hs
  refine ⟨U, ?_, .threw T.heap.size, hrun, hend, Or.inr ⟨T.heap.size, rfl, cls, ce, locs, hx U hWs.alike f1 (fun q hq => f2 q hq (fun z hz => nomatch hz)), hce, hO.vm, hcl, hWs, hall, hf⟩⟩
  refine st1 _ ?_
  show Steps p.tables e below (T1.setTop { method := m, pc := pc + 3, locals := ls, stack := .ref T.heap.size :: rest, locked := none }) _
  jvm_step X₁.here [X₁.here.top, hexec, d3', Value.category]
  exact X₁.ldcString hexec (own := own) (text := text) (index := is) (a := sa) hown' hstr'.1 hstr'.2
    (g := { method := m, pc := pc + 4, locals := ls, stack := .ref T.heap.size :: .ref T.heap.size :: rest, locked := none }) rfl d4' _ hsteps
/-- 'throw new E("text")', the text by a wide index -/
theorem vx_throwSW {cc : ByteArray} {pc : Nat} (hexec : p.tables.exec = Jvm.exec) (hb : c.code = cc) (hl : l.stackTraces = false) {own cls text : String} {names : List String} {ik is ic mc ms sa : Nat} {A : Nat → Prop}
    (hown : s.vm.findClass own = some m.cls) (hcls : Bundle.fit cls = true) (hnames : ∀ n ∈ names, Bundle.fit n = true)
    (hk : (Cond.classLink own ik cls).before args s = true) (hini : (Cond.initialized cls).before args s = true) (hstr : vk_R own is text sa s) (hat : ∀ w ∈ vx_atS own ic cls names, w.before args s = true)
    (hgood : ∀ w ∈ Cond.classLink own ik cls :: Cond.initialized cls :: vx_atS own ic cls names, vx_ot w = true)
    (hU : vx_Zq Bundle.tN "UNASSIGNED_STACK" Bundle.steD A s s.heap) (hN : vx_Zq Bundle.tN "SUPPRESSED_SENTINEL" Bundle.listD A s s.heap) (hS : va_S A s.heap H locs) (hsize : ls.size = c.maxLocals)
    (d0 : decode cc pc = .ok (.new ik, 3)) (d3 : decode cc (pc + 3) = .ok (.dup, 1)) (d4 : decode cc (pc + 4) = .ok (.ldc_w is, 3)) (d7 : decode cc (pc + 7) = .ok (.invokespecial ic, 3)) (d10 : decode cc (pc + 10) = .ok (.athrow, 1))
    (hout : ∀ x ∈ c.exceptionTable.toList, covers x (pc + 10) = false)
    (hRframes : names.length + 3 < R.frames) (hRlocals : (rest.map fun v => v.category).sum + (13 * (names.length + 1) + 43) ≤ R.locals) (hRcells : cells + 1 ≤ R.cells) (hRslots : slots + 6 ≤ R.slots) (hlocks : meth.locks = false)
    (hx : ∀ t : State, s.vm.Alike t.vm → H.size ≤ t.heap.size → (∀ q : Nat, q < H.size → t.heap[q]? = H[q]?) → XC cls s t)
    (hf : ∀ z ∈ locs, free z.base) (hc : cells + 1 ≤ mc) (hs : slots + 6 ≤ ms) :
    W p l e R s m args below meth c H locs cells slots (vx_MQ below Qc XC args s mc ms free) (F0 m pc ls rest) := by
  intro T hT X
  have htr : e.platform.stackTraces = false := (show e.platform.stackTraces = l.stackTraces by rw [X.admits.platform]).trans hl
  have Y := vx_rebase X (R' := { frames := R.frames, locals := R.locals, cells := 1, slots := 6 }) (Nat.le_refl _) (Nat.le_refl _) hRcells hRslots
  obtain ⟨s', hA⟩ : ∃ z, z = (T.setVm s.vm).setFrames (.invoking m args :: below) := ⟨_, rfl⟩
  rw [← hA] at Y
  have hvm : s'.vm = s.vm := by rw [hA]; rfl
  have hhp : s'.heap = H := by rw [hA]; exact hT
  have hW0 : s.WarmedH s'.vm := by rw [hvm]; exact State.WarmedH.refl s
  have hat' : ∀ w ∈ vx_atS own ic cls names, w.before args s' = true := fun w hw => vx_ot_at hW0 hvm.symm (hgood w (List.mem_cons_of_mem _ (List.mem_cons_of_mem _ hw))) (hat w hw)
  have hk' : (Cond.classLink own ik cls).before args s' = true := vx_ot_at hW0 hvm.symm (hgood _ List.mem_cons_self) hk
  have hini' : (Cond.initialized cls).before args s' = true := vx_ot_at hW0 hvm.symm (hgood _ (List.mem_cons_of_mem _ List.mem_cons_self)) hini
  have hU' : vx_Zq Bundle.tN "UNASSIGNED_STACK" Bundle.steD A s' s'.heap := by rw [hhp]; exact vx_Zq.moved hW0.alike (hU.kept hS.2.1)
  have hN' : vx_Zq Bundle.tN "SUPPRESSED_SENTINEL" Bundle.listD A s' s'.heap := by rw [hhp]; exact vx_Zq.moved hW0.alike (hN.kept hS.2.1)
  have h : ∀ w ∈ Bundle.ownAtoms own ic cls names, w.before args s' = true := vx_own hat' (vx_isRefq hU'.1) (vx_isRefq hN'.1) hU'.2.word hN'.2.word
  have hown' : s'.vm.findClass own = some m.cls := by rw [hvm]; exact hown
  have hins : (Cond.instantiable cls 6).before args s' = true := h _ (by simp [Bundle.ownAtoms])
  obtain ⟨vm₁, cX, kX, hfX, hkX, -, -, X₁, st1⟩ := Y.newCold hexec (own := own) (C := cls) (index := ik) (n := 6) hown' hk' hins hini'
    (g := F0 m pc ls rest) rfl (by rw [hb]; exact d0) (Nat.le_refl _) (Nat.le_refl _)
  generalize hT1 : (T.setVm vm₁).pushCell { cls := cX, slots := kX.instanceTypes.map defaultValue, vm := .none } = T1 at X₁ st1
  have hcat : (Value.ref T.heap.size).category = 1 := rfl
  have hcellA : T1.heap[T.heap.size]? = some (freshCell cX kX) := by rw [← hT1]; exact State.heap_pushCell_size _ _
  have d3' : decode c.code (pc + 3) = .ok (.dup, 1) := by rw [hb]; exact d3
  have d4' : decode c.code (pc + 4) = .ok (.ldc_w is, 3) := by rw [hb]; exact d4
  have hstr' : vk_R own is text sa s' := vk_R.warm hW0 hstr
  obtain ⟨U, hsteps, hrun, hend, hW, hsame, ce, hce, hO⟩ := X₁.ctorThrowS hexec htr (own := own) (cls := cls) (names := names) (ic := ic) hown' hcls hnames h (fun x hx => nomatch hx) hfX hkX hcellA (by rw [hhp, hT]; exact Nat.le_refl _) (msg := .ref sa) rfl
    (g := { method := m, pc := pc + 7, locals := ls, stack := .ref sa :: .ref T.heap.size :: .ref T.heap.size :: rest, locked := none }) rfl hsize rfl rfl (rest := rest) rfl
    (by rw [hb]; exact d7) (by rw [hb]; exact d10) hout hRframes (by simp only [List.map_cons, List.sum_cons, hcat]; omega) hlocks
  obtain ⟨f1, f2⟩ := vx_frame hsame
  rw [hhp] at f1 f2
  have hWs : s.WarmedH U.vm := State.WarmedH.trans hW0 hW
  have hcl : s.vm.findClass cls = some ce.cls := by
    have h9 := hO.cls
    rw [hvm] at h9
    exact h9
  have hall : s.sameButNew ({ U with vm := s.vm } : State) locs mc ms := by
    subst hA
    obtain ⟨e1, e2⟩ := hsame
    rw [State.setFrames_setFrames] at e1
    have h2 : (T.setVm s.vm).sameButNew ({ U with vm := s.vm } : State) [] (0 + 1) (0 + 6) := ⟨e1, e2⟩
    have h3 := X.same.trans h2
    rw [List.append_nil] at h3
    exact h3.mono hc hs
  refine ⟨U, ?_, .threw T.heap.size, hrun, hend, Or.inr ⟨T.heap.size, rfl, cls, ce, locs, hx U hWs.alike f1 (fun q hq => f2 q hq (fun z hz => nomatch hz)), hce, hO.vm, hcl, hWs, hall, hf⟩⟩
  refine st1 _ ?_
  show Steps p.tables e below (T1.setTop { method := m, pc := pc + 3, locals := ls, stack := .ref T.heap.size :: rest, locked := none }) _
  jvm_step X₁.here [X₁.here.top, hexec, d3', Value.category]
  exact X₁.ldcStringW hexec (own := own) (text := text) (index := is) (a := sa) hown' hstr'.1 hstr'.2
    (g := { method := m, pc := pc + 4, locals := ls, stack := .ref T.heap.size :: .ref T.heap.size :: rest, locked := none }) rfl d4' _ hsteps
end Ends
section Bodies
variable {l : Launch}
theorem vx_ofW {y : MethodName} {ws ws' : List Cond} {rm : Room} {Pc : Array Value → State → Prop} {Qc : Array Value → State → Outcome → State → Prop} {XC : String → State → State → Prop} {mc ms : Nat} {free : Addr → Prop} {cc : ByteArray} {maxL : Nat} {ret : Option FieldType}
    (hy : plainName y.cls = true) (hw : ws = Cond.code y cc maxL ret :: ws')
    (body : ∀ p e s m args below meth c s₁, BodyLoose p l y (headSpec ws rm) cc maxL ret e s m args below meth c s₁ → c.maxLocals = maxL → (∀ x ∈ c.exceptionTable.toList, False) → Pc args s →
      W p l e (headSpec ws rm).room s m args below meth c s.heap [] 0 0 (vx_MQ below Qc XC args s mc ms free) (entryFrame m args maxL)) : vx_Met l y ws rm Pc Qc XC mc ms free := by
  refine MetFree.of_bodyS (code := cc) (maxLocals := maxL) (ret := ret) hy ?_ ?_
  · intro args s m h hn
    obtain ⟨meth, c, h1, h2, h3, h4, h5, h6, -, -⟩ := Cond.code_spec hn (atoms_spec (ws := ws) h _ (by rw [hw]; exact List.mem_cons_self))
    exact ⟨meth, c, h1, h2, h3, h4, h5, h6⟩
  · intro p e s m args below meth c s₁ B hml hP _
    have hh0 : s₁.heap = s.heap := by rw [B.state]; rfl
    have ht : ∀ x ∈ c.exceptionTable.toList, False := by
      obtain ⟨meth9, c9, h1, h2, -, -, -, -, h7, -⟩ := Cond.code_spec B.named (atoms_spec (ws := ws) B.pre _ (by rw [hw]; exact List.mem_cons_self))
      cases Option.some.inj (h1.symm.trans B.method)
      cases Option.some.inj (h2.symm.trans (Stand.of_body B).code)
      intro x hx
      rw [Array.isEmpty_iff.mp h7] at hx
      cases hx
    obtain ⟨t, a1, o, b1, b2, b3⟩ := body p e s m args below meth c s₁ B hml ht hP s₁ hh0 (Stand.of_body B)
    exact ⟨t, o, a1, b1, b2, b3⟩
/-- the table of a body with handlers -/
theorem vx_table {p : Program} {x y : MethodName} {S : Spec} {cc bytes : ByteArray} {maxL maxL' : Nat} {ret ret' : Option FieldType} {e : Env} {s s₁ : State} {m : MethodId} {args : Array Value} {below : List Frame} {meth : Method} {c : Code} {hh : List (Nat × Nat × Nat × Nat)}
    (B : BodyLoose p l y S cc maxL ret e s m args below meth c s₁) (h : (Cond.codeWith y bytes maxL' ret' hh).before args s = true) : c.exceptionTable.toList = tableOf hh := by
  obtain ⟨m9, meth9, c9, hn9, h1, h2, -, -, h6, -⟩ := Cond.codeWith_spec h
  cases Option.some.inj (hn9.symm.trans B.named)
  cases Option.some.inj (h1.symm.trans B.method)
  cases Option.some.inj (h2.symm.trans (Stand.of_body B).code)
  rw [← h6, table_eq]
end Bodies
end VXA
/-! ===== END ===== -/
/-! ===== BEGIN a static call of a method with an exception table ===== -/
section VXS
variable {p : Program} {l : Launch} {e : Env} {R : Room} {s : State} {m : MethodId} {args : Array Value} {below : List Frame} {meth : Method} {c : Code} {T : State} {H : Heap} {locs : List Loc} {cells slots : Nat}
abbrev vx_CSW (R : Room) (s : State) (args : Array Value) (own : String) (index : Nat) (y : MethodName) (bytes : ByteArray) (maxL : Nat) (ret : Option FieldType) (hh : List (Nat × Nat × Nat × Nat)) (ws : List Cond) (rm : Room) (mc ms n : Nat) : Prop :=
  (rm.cells = mc ∧ rm.slots = ms ∧ rm.frames + 1 ≤ R.frames ∧ 8 + (maxL + 11) + rm.locals ≤ R.locals ∧ (∀ w ∈ ws, ∀ (a' : Array Value) (U : State), s.WarmedH U.vm → w.before a' U = true) ∧ Cond.codeWith y bytes maxL ret hh ∈ ws) ∧
  (Cond.codeWith y bytes maxL ret hh).before args s = true ∧ (Cond.initialized y.cls).before args s = true ∧ (y.cls ≠ "java/lang/invoke/MethodHandle" ∧ y.cls ≠ "java/lang/invoke/VarHandle") ∧
  (∀ sig, parseMethodDescriptor y.desc = some sig → n = sig.parameters.length) ∧ (Cond.methodLink own index y).before args s = true ∧ (Cond.static y).before args s = true
theorem vx_cwSW {own : String} {index maxL mc ms : Nat} {y : MethodName} {bytes : ByteArray} {ret : Option FieldType} {hh : List (Nat × Nat × Nat × Nat)} {Ts ws ws' : List Cond} {rm : Room} (n : Nat) (ht : ∀ w ∈ Ts, w.before args s = true) (hT : GoodIn Ts (va_wsS own index y ws)) (hw : ws = Cond.codeWith y bytes maxL ret hh :: ws') (hrc : rm.cells = mc) (hrs : rm.slots = ms)
    (hd : y.cls ≠ "java/lang/invoke/MethodHandle" ∧ y.cls ≠ "java/lang/invoke/VarHandle" ∧ (parseMethodDescriptor y.desc).map (fun d => d.parameters.length) = some n) (hR : rm.frames + 1 ≤ R.frames ∧ 8 + (maxL + 11) + rm.locals ≤ R.locals) :
    vx_CSW R s args own index y bytes maxL ret hh ws rm mc ms n := by
  have ok : ∀ w ∈ va_wsS own index y ws, w.before args s = true := fun w h => ht w (hT w h).1
  have hG : GoodIn Ts ws := fun w h => hT w (by unfold va_wsS; exact List.mem_append_right _ h)
  have hc : Cond.codeWith y bytes maxL ret hh ∈ ws := by rw [hw]; exact List.mem_cons_self
  refine ⟨⟨hrc, hrs, hR.1, hR.2, pay_in ht hG, hc⟩, ht _ (hG _ hc).1, ok _ (by simp [va_wsS]), ⟨hd.1, hd.2.1⟩, fun sig h => ?_, ok _ (by simp [va_wsS]), ok _ (by simp [va_wsS])⟩
  have h2 := hd.2.2
  rw [h] at h2
  exact (Option.some.inj h2).symm
theorem vx_callSW (X : Stand p l e R s m args below meth c T locs cells slots) (hexec : p.tables.exec = Jvm.exec) {own : String} {index : Nat} {y : MethodName} {bytes : ByteArray} {maxL : Nat} {ret : Option FieldType} {hh : List (Nat × Nat × Nat × Nat)}
    (hown : s.vm.findClass own = some m.cls) (hlink : (Cond.methodLink own index y).before args s = true) (hstat : (Cond.static y).before args s = true) (hinit : (Cond.initialized y.cls).before args s = true)
    (hcode : (Cond.codeWith y bytes maxL ret hh).before args s = true) (hy : y.cls ≠ "java/lang/invoke/MethodHandle" ∧ y.cls ≠ "java/lang/invoke/VarHandle")
    {W9 : Nat} {Pre : Pt → Array Value → Prop} {Post : Pt → Array Value → Option Value → Pt → Prop} (hK : Back l R p e below s args y 3 W9 Pre Post)
    {g : JFrame} (hg : g.method = m) (hsize : g.locals.size = c.maxLocals) {argsL rest : List Value} (hlen : ∀ sig, parseMethodDescriptor y.desc = some sig → argsL.length = sig.parameters.length)
    (hstack : g.stack = argsL.reverse ++ rest) (hW : 2 * g.monitorRoom + (rest.map fun v => v.category).sum ≤ W9) (hdg : decode c.code g.pc = .ok (.invokestatic index, 3))
    (hpre : ∀ vm₁, s.WarmedH vm₁ → Pre ⟨T.setVm vm₁, locs, cells, slots⟩ argsL.toArray) :
    ∃ (v : Option Value) (vm₁ : Vm) (B : Pt), s.WarmedH vm₁ ∧ Stand p l e R s m args below meth c B.U B.locs B.cells B.slots ∧ Post ⟨T.setVm vm₁, locs, cells, slots⟩ argsL.toArray v B ∧
      ∀ target, Steps p.tables e below (B.U.setTop { g with pc := g.pc + 3, stack := v.toList ++ rest }) target → Steps p.tables e below (T.setTop g) target := by
  obtain ⟨mk, methM, cM, hnamed, hmethM, -, -, -, -, -, -, hsigM⟩ := Cond.codeWith_spec hcode
  have hstatic : methM.isStatic = true := Cond.static_spec hnamed hmethM hstat
  obtain ⟨kP, hkP, -⟩ := className_of_methodNamed hnamed
  have hinitP : kP.init = .initialized := Cond.initialized_spec (findClass_of_methodNamed hnamed) hkP hinit
  obtain ⟨vm₁, X₁, hstep₁⟩ := X.invokestatic hexec hown hlink hnamed hmethM hstatic hkP hinitP hy (g := g) hg (argsL := argsL) (rest := rest) (hlen _ hsigM) hstack hdg
  obtain ⟨v, B, X', hpost, hsteps⟩ := hK m meth c ⟨T.setVm vm₁, locs, cells, slots⟩ { g with stack := rest } (.invokestatic index) mk argsL.toArray X₁ hg hsize hdg hW (X₁.named hnamed) (hpre vm₁ X₁.warmed)
  exact ⟨v, vm₁, B, X₁.warmed, X', hpost, fun target h => hstep₁ _ fun acts => by rw [doInvoke_state]; exact hsteps.trans h⟩
theorem vx_runSW {y : MethodName} {bytes cc : ByteArray} {maxL nL mc ms n index : Nat} {ret : Option FieldType} {hh : List (Nat × Nat × Nat × Nat)} {ws : List Cond} {rm : Room} {Pc : Array Value → State → Prop} {Qc : Array Value → State → Outcome → State → Prop} {free : Addr → Prop} {Ts : List Cond} {own : String} {As rest : List Value} {g : JFrame}
    (S : CallFix p m c cc nL s args Ts own) (hM : Met l y ws rm Pc Qc mc ms free) (cw : vx_CSW R s args own index y bytes maxL ret hh ws rm mc ms n) (hp : PreS s H Pc As)
    (hg : g.method = m) (hn : As.length = n) (hsize : g.locals.size = nL) (hstack : g.stack = As.reverse ++ rest) (hW : 2 * g.monitorRoom + (rest.map fun v => v.category).sum ≤ 8) (hdg : decode cc g.pc = .ok (.invokestatic index, 3)) (hf : cells + mc ≤ R.cells ∧ slots + ms ≤ R.slots) :
    va_Run p l e R s m args below meth c H locs cells slots mc ms g rest (Qc As.toArray) (free) := by
  obtain ⟨⟨hrc, hrs, hfr, hlo, hws, hcw⟩, hcode, hini, hy, hlen, hl, hstt⟩ := cw
  have hK : Back l R p e below s args y 3 8 (PreOf R mc ms Pc) (PostOf Qc mc ms free) := va_backW (hh := hh) (bytes := bytes) (maxL := maxL) (ret := ret) hM hp.1 hrc hrs hfr hlo hws hcw (fun a' U hW => word_at hW (Or.inl (by first | rfl | simp [Cond.onTables, Cond.keeps, Cond.steady])) hini)
  obtain ⟨hx, hb, hml, ho, -⟩ := S
  intro T hT X
  obtain ⟨v, vm₁, ⟨U', l2, c2, s2⟩, hW₁, X', ⟨g', mk, t, L, e1, e2, hq, h1, hL, h2, h3⟩, st⟩ := vx_callSW X hx (hh := hh) (bytes := bytes) (maxL := maxL) (ret := ret) ho hl hstt hini hcode hy hK hg (hsize.trans hml.symm) (argsL := As) (rest := rest) (fun sig h => hn.trans (hlen sig h)) hstack hW (by rw [hb]; exact hdg)
    (fun vm₁ hW₁ => ⟨hf.1, hf.2, hp.2 (T.setVm vm₁) hT hW₁⟩)
  dsimp only [Pt.U, Pt.locs, Pt.cells, Pt.slots] at X' e1 e2 h1 h2 h3 st
  subst h1; subst h2; subst h3
  exact ⟨v, (T.setVm vm₁).calling g' mk As.toArray, t, U', L, hT, X', hL, e1, e2, hq, st⟩
/-- not caught here, past rows that name other classes: it goes on to the caller -/
theorem vx_outP {p : Program} {l : Launch} {e : Env} {R : Room} {s : State} {m : MethodId} {args : Array Value} {below : List Frame} {meth : Method} {c : Code} {H : Heap} {locs : List Loc} {cells slots : Nat} {free : Addr → Prop} {ls : Array Slot} {rest : List Value} {Qc : Array Value → State → Outcome → State → Prop} {XC : String → State → State → Prop}
    {pc : Nat} {own E : String} {ce : Cell} {q : Addr} {mc ms : Nat} (hown : s.vm.findClass own = some m.cls) (hlocks : meth.locks = false)
    (hpass : ∀ z ∈ c.exceptionTable.toList, covers z pc = false ∨ (z.catchType ≠ 0 ∧ ∃ nm : String, (Cond.classLink own z.catchType nm).before args s = true ∧ va_Nc E nm s)) (hcell : H[q]? = some ce) (hv : ce.vm = .none) (hcl : s.vm.findClass E = some ce.cls)
    (hx : ∀ t : State, t.heap = H → s.vm.Alike t.vm → XC E s t) (hf : ∀ z ∈ locs, free z.base) (hc : cells ≤ mc) (hs : slots ≤ ms) :
    vx_W p l e R s m args below meth c H locs cells slots (vx_MQ below Qc XC args s mc ms free) (F0 m pc ls rest) q := by
  intro T hT X
  have hpl : e.platform.magicAccessors = ({} : Platform).magicAccessors := by rw [X.admits.platform]
  obtain ⟨vm', hW', X', st⟩ := X.outThrough hlocks q (g := F0 m pc ls rest) rfl rfl rfl (cell := ce) (by rw [hT]; exact hcell) (by rw [hv]; rfl)
    (by obtain ⟨k9, h9, -⟩ := Vm.findClass_spec hcl; exact ⟨k9, h9⟩) (fun z hz => by
      rcases hpass z hz with h | ⟨hz0, nm, hl1, hn1⟩
      · exact Or.inl h
      · obtain ⟨c6, hc6, hcl6⟩ := Cond.classLink_spec hown hl1 e.platform hpl
        obtain ⟨a8, b8, h1, h2, h3⟩ := hn1
        cases Option.some.inj (h1.symm.trans hcl)
        cases Option.some.inj (h2.symm.trans hc6)
        exact Or.inr ⟨hz0, _, hcl6, h3⟩)
  obtain ⟨g₀, hfr⟩ := X'.frames_eq
  have hcell9 : ((T.setVm vm').setFrames (.throwing q :: below)).heap[q]? = some ce := by
    show T.heap[q]? = some ce
    rw [hT]; exact hcell
  have hend : Ended ((T.setVm vm').setFrames (.throwing q :: below)) below (.threw q) := State.frames_setFrames _ (State.cur_lt_of_frames hfr)
  refine ⟨(T.setVm vm').setFrames (.throwing q :: below), ?_, .threw q, X'.here.running, hend, Or.inr ⟨q, rfl, E, ce, locs, hx _ hT (X'.ends _).1.alike, hcell9, hv, hcl, (X'.ends _).1, (X'.ends _).2.mono hc hs, hf⟩⟩
  rw [X.pushThrowing_eq]
  exact st
/-- a thing of a world lies in the heap -/
theorem vx_lt {D : va_G} {cl : List vw_C} {ws : va_W} {H1 : Heap} (h : va_P D cl ws H1) {k : Nat} {q : Nat × va_E} (hk : ws[k]? = some q) : q.1 < H1.size := (h k q hk).lt
end VXS
/-! ===== END ===== -/
/-! ===== BEGIN methods with a table of their own: called by a name, returning or throwing ===== -/
section VXH
/-! vx_backW, vx_callVX, vx_callSX, vx_callVW, vx_runVW, vx_runVX, vx_runSX, vx_ofWH follow the same proofs as their sisters above (Free/Laws.lean, Shelf42/LK1.lean); vx_outP calls Shelf42/NT130.lean (outThrough). -/
section
variable {l : Launch} {R : Room} {p : Program} {e : Env} {below : List Frame} {s : State} {sargs : Array Value} {y : MethodName} {len W9 : Nat}
theorem vx_backW {ws : List Cond} {rm : Room} {Pc : Array Value → State → Prop} {Qc : Array Value → State → Outcome → State → Prop} {XC : String → State → State → Prop} {mc ms : Nat} {free : Addr → Prop} {bytes : ByteArray} {maxL : Nat} {ret : Option FieldType} {hh : List (Nat × Nat × Nat × Nat)}
    (hM : vx_Met l y ws rm Pc Qc XC mc ms free) (hblind : FrameBlind Pc) (hrc : rm.cells = mc) (hrs : rm.slots = ms)
    (hframes : rm.frames + 1 ≤ R.frames) (hlocals : W9 + (maxL + 11) + rm.locals ≤ R.locals)
    (hws : ∀ w ∈ ws, ∀ a' U, s.WarmedH U.vm → w.before a' U = true) (hcode : Cond.codeWith y bytes maxL ret hh ∈ ws) (hinit : ∀ a' U, s.WarmedH U.vm → (Cond.initialized y.cls).before a' U = true) :
    vx_Back l R p e below s sargs y len W9 (PreOf R mc ms Pc) (PostOf Qc mc ms free) (vx_Post XC mc ms free) := by
  intro m meth c A g ig mk a X hg hsize hdg hW hn hp
  have h1 : (headSpec ws rm).pre.before a A.U = true := atoms_intro fun w hw => hws w hw _ _ X.warmed
  have h2 : (Cond.codeWith y bytes maxL ret hh).before a A.U = true := hws _ hcode _ _ X.warmed
  have h3 : (Cond.initialized y.cls).before a A.U = true := hinit _ _ X.warmed
  have h4 : A.cells + (headSpec ws rm).room.cells ≤ R.cells := by rw [show (headSpec ws rm).room.cells = mc from hrc]; exact hp.1
  have h5 : A.slots + (headSpec ws rm).room.slots ≤ R.slots := by rw [show (headSpec ws rm).room.slots = ms from hrs]; exact hp.2.1
  have hPc : Pc a (A.U.calling g mk a) := hblind _ _ _ _ hp.2.2
  obtain ⟨U, Ls, c0, s0⟩ := A
  dsimp only [Pt.U, Pt.locs, Pt.cells, Pt.slots] at h1 h2 h3 h4 h5 X hn hPc ⊢
  obtain ⟨m9, methY, cY, hn9, hmY, hcY, -, hlY, -⟩ := Cond.codeWith_spec h2
  cases Option.some.inj (hn9.symm.trans hn)
  obtain ⟨kY, hkY, -⟩ := className_of_methodNamed hn
  have hinitY : kY.init = .initialized := Cond.initialized_spec (findClass_of_methodNamed hn) hkY h3
  have h : At U g.method c below := by rw [hg]; exact X.here
  have hlocals9 : W9 + (maxL + 11) + (headSpec ws rm).room.locals ≤ R.locals := hlocals
  have happ : (headSpec ws rm).appliesLoose y e.platform (U.calling g mk a) = true :=
    Spec.appliesLoose_calling (g := g) h hdg hn hkY hinitY
      (X.room_calling (g := g) (R' := (headSpec ws rm).room) hsize hmY hcY hframes (by rw [hlY]; omega) h4 h5) h1
  obtain ⟨mid, hmid⟩ := h.above
  have hfr : (U.setTop g).frames = (.java g :: mid) ++ below := by rw [State.frames_setTop' g h.top, hmid]; rfl
  obtain ⟨o, s₂, hsteps, -, hend, hq⟩ := Steps.callFree hM p X.admits X.cas X.clock (acts := []) hfr happ hPc trivial
  have hq' : vx_Q Qc XC mc ms free a (U.calling g mk a) o s₂ := hq
  rw [State.frames_setTop' g h.top] at hend
  obtain ⟨g₀, hg0⟩ := Option.isSome_iff_exists.mp h.top
  obtain ⟨r, hr⟩ := State.topJava?_eq_some.mp hg0
  have hr' : (({ U with heap := s₂.heap, slotsUsed := s₂.slotsUsed } : State).setVm s₂.vm).frames = .java g₀ :: r := hr
  rcases hq' with ⟨hqc, L, hfe, hL⟩ | ⟨q, rfl, E, ce, L, hx, hce, hcv, hcl, hW₂, hsm, hL⟩
  · obtain ⟨⟨v, rfl⟩, hW₂, e2, q2, q3, q4, q5, q6⟩ := id hfe
    have e3 : s₂ = ({ (U.calling g mk a).setFrames s₂.frames with heap := s₂.heap, slotsUsed := s₂.slotsUsed } : State).setVm s₂.vm := by
      have : s₂ = ({ s₂ with vm := (U.calling g mk a).vm } : State).setVm s₂.vm := rfl
      rw [e2] at this
      exact this
    obtain ⟨c₂, i₂, len₂, hc₂, hd₂, hf₂⟩ := hend
    have hW' : U.WarmedH s₂.vm := hW₂
    have hcc : c₂ = c := by
      have h1 : s₂.code? g.method = U.code? g.method := by
        rw [State.code?_eq, State.code?_eq, hW'.alike.method?]
      exact Option.some.inj (hc₂.symm.trans (h1.trans h.code))
    subst hcc
    have hlen : len₂ = len := by rw [hdg] at hd₂; cases hd₂; rfl
    subst hlen
    have hs₂ : s₂ = (({ U with heap := s₂.heap, slotsUsed := s₂.slotsUsed } : State).setVm s₂.vm).setTop { g with pc := g.pc + len₂, stack := v.toList ++ g.stack } := by
      refine e3.trans ?_
      rw [hf₂, State.calling_eq h.top, State.setFrames_setFrames, State.setTop_of_frames _ hr', hr]
      rfl
    have hsame : U.sameButNew ({ U with heap := s₂.heap, slotsUsed := s₂.slotsUsed } : State) L mc ms := by
      refine ⟨?_, q2, q3, q4, q5, q6⟩
      obtain ⟨t, ht, -⟩ := State.frames_cons hr
      show ({ U with heap := s₂.heap, slotsUsed := s₂.slotsUsed } : State) = { U.setFrames U.frames with heap := s₂.heap, slotsUsed := s₂.slotsUsed }
      rw [State.setFrames_self ht]
    subst hg
    refine Or.inl ⟨v, ⟨(({ U with heap := s₂.heap, slotsUsed := s₂.slotsUsed } : State).setVm s₂.vm), Ls ++ L, c0 + mc, s0 + ms⟩,
      ⟨X.admits, X.cas, X.clock, X.frames, X.room, X.hears, X.method, X.code, (X.here.setHeapUsed s₂.heap s₂.slotsUsed).setVm hW'.alike, X.tail, State.WarmedH.trans X.warmed hW', X.limits, X.bytes, X.same.trans (hsame.setVm s.vm)⟩,
      ⟨g, mk, s₂, L, rfl, rfl, hqc, rfl, hL, rfl, rfl⟩, ?_⟩
    show Steps p.tables e below _ ((({ U with heap := s₂.heap, slotsUsed := s₂.slotsUsed } : State).setVm s₂.vm).setTop { g with pc := g.pc + len₂, stack := v.toList ++ g.stack })
    rw [← hs₂]
    exact hsteps
  · obtain ⟨e2, q2, q3, q4, q5, q6⟩ := id hsm
    have e3 : s₂ = ({ (U.calling g mk a).setFrames s₂.frames with heap := s₂.heap, slotsUsed := s₂.slotsUsed } : State).setVm s₂.vm := by
      have : s₂ = ({ s₂ with vm := (U.calling g mk a).vm } : State).setVm s₂.vm := rfl
      rw [e2] at this
      exact this
    have hf₂ : s₂.frames = .throwing q :: .java g :: U.frames.tail := hend
    have hW' : U.WarmedH s₂.vm := hW₂
    have hs₂ : s₂ = ((({ U with heap := s₂.heap, slotsUsed := s₂.slotsUsed } : State).setVm s₂.vm).setTop g).pushFrame (.throwing q) := by
      refine e3.trans ?_
      rw [hf₂, State.calling_eq h.top, State.setFrames_setFrames, State.pushFrame, State.frames_setTop _ hr', State.setTop_of_frames _ hr', State.setFrames_setFrames, hr]
      rfl
    have hsame : U.sameButNew ({ U with heap := s₂.heap, slotsUsed := s₂.slotsUsed } : State) L mc ms := by
      refine ⟨?_, q2, q3, q4, q5, q6⟩
      obtain ⟨t, ht, -⟩ := State.frames_cons hr
      show ({ U with heap := s₂.heap, slotsUsed := s₂.slotsUsed } : State) = { U.setFrames U.frames with heap := s₂.heap, slotsUsed := s₂.slotsUsed }
      rw [State.setFrames_self ht]
    subst hg
    refine Or.inr ⟨q, ⟨(({ U with heap := s₂.heap, slotsUsed := s₂.slotsUsed } : State).setVm s₂.vm), Ls ++ L, c0 + mc, s0 + ms⟩,
      ⟨X.admits, X.cas, X.clock, X.frames, X.room, X.hears, X.method, X.code, (X.here.setHeapUsed s₂.heap s₂.slotsUsed).setVm hW'.alike, X.tail, State.WarmedH.trans X.warmed hW', X.limits, X.bytes, X.same.trans (hsame.setVm s.vm)⟩,
      ⟨g, mk, s₂, L, E, ce, rfl, rfl, hx, hce, hcv, hcl, rfl, hL, rfl, rfl⟩, ?_⟩
    show Steps p.tables e below _ (((({ U with heap := s₂.heap, slotsUsed := s₂.slotsUsed } : State).setVm s₂.vm).setTop g).pushFrame (.throwing q))
    rw [← hs₂]
    exact hsteps
end
variable {p : Program} {l : Launch} {e : Env} {R : Room} {s : State} {m : MethodId} {args : Array Value} {below : List Frame} {meth : Method} {c : Code} {T : State} {H : Heap} {locs : List Loc} {cells slots : Nat}
theorem vx_callVX (X : Stand p l e R s m args below meth c T locs cells slots) (hexec : p.tables.exec = Jvm.exec) {own C : String} {index : Nat} {y : MethodName} {bytes : ByteArray} {maxL : Nat} {ret : Option FieldType} {hh : List (Nat × Nat × Nat × Nat)}
    (hown : s.vm.findClass own = some m.cls) (hlink : (Cond.methodLink own index y).before args s = true) (hinst : (Cond.instanceMethod y).before args s = true) (hsel : (Cond.selects C y y).before args s = true)
    (hcode : (Cond.codeWith y bytes maxL ret hh).before args s = true) (hy : y.cls ≠ "java/lang/invoke/MethodHandle" ∧ y.cls ≠ "java/lang/invoke/VarHandle")
    {W9 : Nat} {Pre : Pt → Array Value → Prop} {Post : Pt → Array Value → Option Value → Pt → Prop} {PostX : Pt → Array Value → Addr → Pt → Prop} (hK : vx_Back l R p e below s args y 3 W9 Pre Post PostX)
    {b : Addr} {cellB : Cell} (hcell : T.heap[b]? = some cellB) (hobj : cellB.vm.isStatics = false) (hcls : s.vm.findClass C = some cellB.cls)
    {g : JFrame} (hg : g.method = m) (hsize : g.locals.size = c.maxLocals) {argsL rest : List Value} (hlen : ∀ sig, parseMethodDescriptor y.desc = some sig → argsL.length = sig.parameters.length)
    (hstack : g.stack = argsL.reverse ++ .ref b :: rest) (hW : 2 * g.monitorRoom + (rest.map fun v => v.category).sum ≤ W9) (hdg : decode c.code g.pc = .ok (.invokevirtual index, 3))
    (hpre : ∀ vm₁, s.WarmedH vm₁ → Pre ⟨T.setVm vm₁, locs, cells, slots⟩ (Value.ref b :: argsL).toArray) :
    (∃ (v : Option Value) (vm₁ : Vm) (B : Pt), s.WarmedH vm₁ ∧ Stand p l e R s m args below meth c B.U B.locs B.cells B.slots ∧ Post ⟨T.setVm vm₁, locs, cells, slots⟩ (Value.ref b :: argsL).toArray v B ∧
      ∀ target, Steps p.tables e below (B.U.setTop { g with pc := g.pc + 3, stack := v.toList ++ rest }) target → Steps p.tables e below (T.setTop g) target) ∨
    (∃ (q : Addr) (vm₁ : Vm) (B : Pt), s.WarmedH vm₁ ∧ Stand p l e R s m args below meth c B.U B.locs B.cells B.slots ∧ PostX ⟨T.setVm vm₁, locs, cells, slots⟩ (Value.ref b :: argsL).toArray q B ∧
      Steps p.tables e below (T.setTop g) ((B.U.setTop { g with stack := rest }).pushFrame (.throwing q))) := by
  obtain ⟨mk, methM, hnamed, hmethM, hstM, habM⟩ := Cond.instanceMethod_spec hinst
  obtain ⟨m8, methM', cM, hn8, hmethM', -, -, -, -, -, -, hsigM⟩ := Cond.codeWith_spec hcode
  cases Option.some.inj (hn8.symm.trans hnamed)
  cases hmethM.symm.trans hmethM'
  obtain ⟨c2, r2, m2, q1, q2, q3, q4, kP, hkP, hkPi⟩ := Cond.selects_spec hsel
  cases hcls.symm.trans q1
  cases (State.methodFound?_of_named hnamed hy).symm.trans q2
  cases hnamed.symm.trans q3
  have hselP : selectMethod e.platform s.vm cellB.cls mk = .method mk := by rw [Launch.admits_selectMethod X.admits]; exact q4
  obtain ⟨vm₁, X₁, hstep₁⟩ := X.invokevirtual hexec hown hlink hnamed hmethM hstM hkP hkPi hy (a := b) (cell := cellB) hcell
    (fun z h => by rw [h] at hobj; cases hobj) hselP hmethM habM hkP hkPi (g := g) hg (argsL := argsL) (rest := rest) (hlen _ hsigM) hstack hdg
  rcases hK m meth c ⟨T.setVm vm₁, locs, cells, slots⟩ { g with stack := rest } (.invokevirtual index) mk (Value.ref b :: argsL).toArray X₁ hg hsize hdg hW (X₁.named hnamed) (hpre vm₁ X₁.warmed) with ⟨v, B, X', hpost, hsteps⟩ | ⟨q, B, X', hpost, hsteps⟩
  · exact Or.inl ⟨v, vm₁, B, X₁.warmed, X', hpost, fun target h => hstep₁ _ fun acts => by rw [doInvoke_state]; exact hsteps.trans h⟩
  · exact Or.inr ⟨q, vm₁, B, X₁.warmed, X', hpost, hstep₁ _ fun acts => by rw [doInvoke_state]; exact hsteps⟩
theorem vx_callSX (X : Stand p l e R s m args below meth c T locs cells slots) (hexec : p.tables.exec = Jvm.exec) {own : String} {index : Nat} {y : MethodName} {bytes : ByteArray} {maxL : Nat} {ret : Option FieldType} {hh : List (Nat × Nat × Nat × Nat)}
    (hown : s.vm.findClass own = some m.cls) (hlink : (Cond.methodLink own index y).before args s = true) (hstat : (Cond.static y).before args s = true) (hinit : (Cond.initialized y.cls).before args s = true)
    (hcode : (Cond.codeWith y bytes maxL ret hh).before args s = true) (hy : y.cls ≠ "java/lang/invoke/MethodHandle" ∧ y.cls ≠ "java/lang/invoke/VarHandle")
    {W9 : Nat} {Pre : Pt → Array Value → Prop} {Post : Pt → Array Value → Option Value → Pt → Prop} {PostX : Pt → Array Value → Addr → Pt → Prop} (hK : vx_Back l R p e below s args y 3 W9 Pre Post PostX)
    {g : JFrame} (hg : g.method = m) (hsize : g.locals.size = c.maxLocals) {argsL rest : List Value} (hlen : ∀ sig, parseMethodDescriptor y.desc = some sig → argsL.length = sig.parameters.length)
    (hstack : g.stack = argsL.reverse ++ rest) (hW : 2 * g.monitorRoom + (rest.map fun v => v.category).sum ≤ W9) (hdg : decode c.code g.pc = .ok (.invokestatic index, 3))
    (hpre : ∀ vm₁, s.WarmedH vm₁ → Pre ⟨T.setVm vm₁, locs, cells, slots⟩ argsL.toArray) :
    (∃ (v : Option Value) (vm₁ : Vm) (B : Pt), s.WarmedH vm₁ ∧ Stand p l e R s m args below meth c B.U B.locs B.cells B.slots ∧ Post ⟨T.setVm vm₁, locs, cells, slots⟩ argsL.toArray v B ∧
      ∀ target, Steps p.tables e below (B.U.setTop { g with pc := g.pc + 3, stack := v.toList ++ rest }) target → Steps p.tables e below (T.setTop g) target) ∨
    (∃ (q : Addr) (vm₁ : Vm) (B : Pt), s.WarmedH vm₁ ∧ Stand p l e R s m args below meth c B.U B.locs B.cells B.slots ∧ PostX ⟨T.setVm vm₁, locs, cells, slots⟩ argsL.toArray q B ∧
      Steps p.tables e below (T.setTop g) ((B.U.setTop { g with stack := rest }).pushFrame (.throwing q))) := by
  obtain ⟨mk, methM, cM, hnamed, hmethM, -, -, -, -, -, -, hsigM⟩ := Cond.codeWith_spec hcode
  have hstatic : methM.isStatic = true := Cond.static_spec hnamed hmethM hstat
  obtain ⟨kP, hkP, -⟩ := className_of_methodNamed hnamed
  have hinitP : kP.init = .initialized := Cond.initialized_spec (findClass_of_methodNamed hnamed) hkP hinit
  obtain ⟨vm₁, X₁, hstep₁⟩ := X.invokestatic hexec hown hlink hnamed hmethM hstatic hkP hinitP hy (g := g) hg (argsL := argsL) (rest := rest) (hlen _ hsigM) hstack hdg
  rcases hK m meth c ⟨T.setVm vm₁, locs, cells, slots⟩ { g with stack := rest } (.invokestatic index) mk argsL.toArray X₁ hg hsize hdg hW (X₁.named hnamed) (hpre vm₁ X₁.warmed) with ⟨v, B, X', hpost, hsteps⟩ | ⟨q, B, X', hpost, hsteps⟩
  · exact Or.inl ⟨v, vm₁, B, X₁.warmed, X', hpost, fun target h => hstep₁ _ fun acts => by rw [doInvoke_state]; exact hsteps.trans h⟩
  · exact Or.inr ⟨q, vm₁, B, X₁.warmed, X', hpost, hstep₁ _ fun acts => by rw [doInvoke_state]; exact hsteps⟩
theorem vx_callVW (X : Stand p l e R s m args below meth c T locs cells slots) (hexec : p.tables.exec = Jvm.exec) {own C : String} {index : Nat} {y : MethodName} {bytes : ByteArray} {maxL : Nat} {ret : Option FieldType} {hh : List (Nat × Nat × Nat × Nat)}
    (hown : s.vm.findClass own = some m.cls) (hlink : (Cond.methodLink own index y).before args s = true) (hinst : (Cond.instanceMethod y).before args s = true) (hsel : (Cond.selects C y y).before args s = true)
    (hcode : (Cond.codeWith y bytes maxL ret hh).before args s = true) (hy : y.cls ≠ "java/lang/invoke/MethodHandle" ∧ y.cls ≠ "java/lang/invoke/VarHandle")
    {W9 : Nat} {Pre : Pt → Array Value → Prop} {Post : Pt → Array Value → Option Value → Pt → Prop} (hK : Back l R p e below s args y 3 W9 Pre Post)
    {b : Addr} {cellB : Cell} (hcell : T.heap[b]? = some cellB) (hobj : cellB.vm.isStatics = false) (hcls : s.vm.findClass C = some cellB.cls)
    {g : JFrame} (hg : g.method = m) (hsize : g.locals.size = c.maxLocals) {argsL rest : List Value} (hlen : ∀ sig, parseMethodDescriptor y.desc = some sig → argsL.length = sig.parameters.length)
    (hstack : g.stack = argsL.reverse ++ .ref b :: rest) (hW : 2 * g.monitorRoom + (rest.map fun v => v.category).sum ≤ W9) (hdg : decode c.code g.pc = .ok (.invokevirtual index, 3))
    (hpre : ∀ vm₁, s.WarmedH vm₁ → Pre ⟨T.setVm vm₁, locs, cells, slots⟩ (Value.ref b :: argsL).toArray) :
    ∃ (v : Option Value) (vm₁ : Vm) (B : Pt), s.WarmedH vm₁ ∧ Stand p l e R s m args below meth c B.U B.locs B.cells B.slots ∧ Post ⟨T.setVm vm₁, locs, cells, slots⟩ (Value.ref b :: argsL).toArray v B ∧
      ∀ target, Steps p.tables e below (B.U.setTop { g with pc := g.pc + 3, stack := v.toList ++ rest }) target → Steps p.tables e below (T.setTop g) target := by
  obtain ⟨mk, methM, hnamed, hmethM, hstM, habM⟩ := Cond.instanceMethod_spec hinst
  obtain ⟨m8, methM', cM, hn8, hmethM', -, -, -, -, -, -, hsigM⟩ := Cond.codeWith_spec hcode
  cases Option.some.inj (hn8.symm.trans hnamed)
  cases hmethM.symm.trans hmethM'
  obtain ⟨c2, r2, m2, q1, q2, q3, q4, kP, hkP, hkPi⟩ := Cond.selects_spec hsel
  cases hcls.symm.trans q1
  cases (State.methodFound?_of_named hnamed hy).symm.trans q2
  cases hnamed.symm.trans q3
  have hselP : selectMethod e.platform s.vm cellB.cls mk = .method mk := by rw [Launch.admits_selectMethod X.admits]; exact q4
  obtain ⟨vm₁, X₁, hstep₁⟩ := X.invokevirtual hexec hown hlink hnamed hmethM hstM hkP hkPi hy (a := b) (cell := cellB) hcell
    (fun z h => by rw [h] at hobj; cases hobj) hselP hmethM habM hkP hkPi (g := g) hg (argsL := argsL) (rest := rest) (hlen _ hsigM) hstack hdg
  obtain ⟨v, B, X', hpost, hsteps⟩ := hK m meth c ⟨T.setVm vm₁, locs, cells, slots⟩ { g with stack := rest } (.invokevirtual index) mk (Value.ref b :: argsL).toArray X₁ hg hsize hdg hW (X₁.named hnamed) (hpre vm₁ X₁.warmed)
  exact ⟨v, vm₁, B, X₁.warmed, X', hpost, fun target h => hstep₁ _ fun acts => by rw [doInvoke_state]; exact hsteps.trans h⟩
abbrev vx_CVW (R : Room) (s : State) (args : Array Value) (own C : String) (index : Nat) (y : MethodName) (bytes : ByteArray) (maxL : Nat) (ret : Option FieldType) (hh : List (Nat × Nat × Nat × Nat)) (ws : List Cond) (rm : Room) (mc ms n : Nat) : Prop :=
  (rm.cells = mc ∧ rm.slots = ms ∧ rm.frames + 1 ≤ R.frames ∧ 8 + (maxL + 11) + rm.locals ≤ R.locals ∧ (∀ w ∈ ws, ∀ (a' : Array Value) (U : State), s.WarmedH U.vm → w.before a' U = true) ∧ Cond.codeWith y bytes maxL ret hh ∈ ws) ∧
  (Cond.codeWith y bytes maxL ret hh).before args s = true ∧ (Cond.initialized y.cls).before args s = true ∧ (y.cls ≠ "java/lang/invoke/MethodHandle" ∧ y.cls ≠ "java/lang/invoke/VarHandle") ∧
  (∀ sig, parseMethodDescriptor y.desc = some sig → n = sig.parameters.length) ∧ (Cond.methodLink own index y).before args s = true ∧ (Cond.instanceMethod y).before args s = true ∧ (Cond.selects C y y).before args s = true
theorem vx_cwVW {own C : String} {index maxL mc ms : Nat} {y : MethodName} {bytes : ByteArray} {ret : Option FieldType} {hh : List (Nat × Nat × Nat × Nat)} {Ts ws ws' : List Cond} {rm : Room} (n : Nat) (ht : ∀ w ∈ Ts, w.before args s = true) (hT : GoodIn Ts (wsV own index C y ws)) (hw : ws = Cond.codeWith y bytes maxL ret hh :: ws') (hrc : rm.cells = mc) (hrs : rm.slots = ms)
    (hd : y.cls = C ∧ y.cls ≠ "java/lang/invoke/MethodHandle" ∧ y.cls ≠ "java/lang/invoke/VarHandle" ∧ (parseMethodDescriptor y.desc).map (fun d => d.parameters.length) = some n) (hR : rm.frames + 1 ≤ R.frames ∧ 8 + (maxL + 11) + rm.locals ≤ R.locals) :
    vx_CVW R s args own C index y bytes maxL ret hh ws rm mc ms n := by
  obtain ⟨hC, hd⟩ := hd
  subst hC
  have ok : ∀ w ∈ wsV own index y.cls y ws, w.before args s = true := fun w h => ht w (hT w h).1
  have hG : GoodIn Ts ws := fun w h => hT w (by unfold wsV; exact List.mem_append_right _ h)
  have hc : Cond.codeWith y bytes maxL ret hh ∈ ws := by rw [hw]; exact List.mem_cons_self
  refine ⟨⟨hrc, hrs, hR.1, hR.2, pay_in ht hG, hc⟩, ht _ (hG _ hc).1, ok _ (by simp [wsV]), ⟨hd.1, hd.2.1⟩, fun sig h => ?_, ok _ (by simp [wsV]), ok _ (by simp [wsV]), ok _ (by simp [wsV])⟩
  have h2 := hd.2.2
  rw [h] at h2
  exact (Option.some.inj h2).symm
theorem vx_runVW {y : MethodName} {bytes cc : ByteArray} {maxL nL mc ms n index : Nat} {ret : Option FieldType} {hh : List (Nat × Nat × Nat × Nat)} {ws : List Cond} {rm : Room} {Pc : Array Value → State → Prop} {Qc : Array Value → State → Outcome → State → Prop} {free : Addr → Prop} {Ts : List Cond} {own C : String} {b : Addr} {As rest : List Value} {g : JFrame}
    (S : CallFix p m c cc nL s args Ts own) (hM : Met l y ws rm Pc Qc mc ms free) (cw : vx_CVW R s args own C index y bytes maxL ret hh ws rm mc ms n) (hp : PreV s H C b Pc As)
    (hg : g.method = m) (hn : As.length = n) (hsize : g.locals.size = nL) (hstack : g.stack = As.reverse ++ .ref b :: rest) (hW : 2 * g.monitorRoom + (rest.map fun v => v.category).sum ≤ 8) (hdg : decode cc g.pc = .ok (.invokevirtual index, 3)) (hf : cells + mc ≤ R.cells ∧ slots + ms ≤ R.slots) :
    va_Run p l e R s m args below meth c H locs cells slots mc ms g rest (Qc (Value.ref b :: As).toArray) free := by
  obtain ⟨⟨hrc, hrs, hfr, hlo, hws, hcw⟩, hcode, hini, hy, hlen, hl, hin, hse⟩ := cw
  have hK : Back l R p e below s args y 3 8 (PreOf R mc ms Pc) (PostOf Qc mc ms free) := va_backW (hh := hh) (bytes := bytes) (maxL := maxL) (ret := ret) hM hp.1 hrc hrs hfr hlo hws hcw (fun a' U hW => word_at hW (Or.inl (by first | rfl | simp [Cond.onTables, Cond.keeps, Cond.steady])) hini)
  obtain ⟨hx, hb, hml, ho, -⟩ := S
  obtain ⟨-, ⟨cellB, hcB, hoB, hclB⟩, hPc⟩ := hp
  intro T hT X
  obtain ⟨v, vm₁, ⟨U', l2, c2, s2⟩, hW₁, X', ⟨g', mk, t, L, e1, e2, hq, h1, hL, h2, h3⟩, st⟩ := vx_callVW X hx (C := C) (hh := hh) (bytes := bytes) (maxL := maxL) (ret := ret) ho hl hin hse hcode hy hK (by rw [hT]; exact hcB) hoB hclB hg (hsize.trans hml.symm) (argsL := As) (rest := rest) (fun sig h => hn.trans (hlen sig h)) hstack hW (by rw [hb]; exact hdg)
    (fun vm₁ hW₁ => ⟨hf.1, hf.2, hPc (T.setVm vm₁) hT hW₁⟩)
  dsimp only [Pt.U, Pt.locs, Pt.cells, Pt.slots] at X' e1 e2 h1 h2 h3 st
  subst h1; subst h2; subst h3
  exact ⟨v, (T.setVm vm₁).calling g' mk (Value.ref b :: As).toArray, t, U', L, hT, X', hL, e1, e2, hq, st⟩
section
variable {y : MethodName} {bytes cc : ByteArray} {maxL nL mc ms n index : Nat} {ret : Option FieldType} {ws : List Cond} {rm : Room} {Pc : Array Value → State → Prop} {Qc : Array Value → State → Outcome → State → Prop} {XC : String → State → State → Prop} {free : Addr → Prop} {Ts : List Cond} {own C : String} {b : Addr} {As rest : List Value} {g : JFrame}
theorem vx_runVX {hh : List (Nat × Nat × Nat × Nat)} (S : CallFix p m c cc nL s args Ts own) (hM : vx_Met l y ws rm Pc Qc XC mc ms free) (cw : vx_CVW R s args own C index y bytes maxL ret hh ws rm mc ms n) (hp : PreV s H C b Pc As)
    (hg : g.method = m) (hn : As.length = n) (hsize : g.locals.size = nL) (hstack : g.stack = As.reverse ++ .ref b :: rest) (hW : 2 * g.monitorRoom + (rest.map fun v => v.category).sum ≤ 8) (hdg : decode cc g.pc = .ok (.invokevirtual index, 3)) (hf : cells + mc ≤ R.cells ∧ slots + ms ≤ R.slots) :
    vx_Run p l e R s m args below meth c H locs cells slots mc ms g rest (Qc (Value.ref b :: As).toArray) XC free := by
  obtain ⟨⟨hrc, hrs, hfr, hlo, hws, hcw⟩, hcode, hini, hy, hlen, hl, hin, hse⟩ := cw
  have hK : vx_Back l R p e below s args y 3 8 (PreOf R mc ms Pc) (PostOf Qc mc ms free) (vx_Post XC mc ms free) := vx_backW (hh := hh) (bytes := bytes) (maxL := maxL) (ret := ret) hM hp.1 hrc hrs hfr hlo hws hcw (fun a' U hW => word_at hW (Or.inl (by first | rfl | simp [Cond.onTables, Cond.keeps, Cond.steady])) hini)
  obtain ⟨hx, hb, hml, ho, -⟩ := S
  obtain ⟨-, ⟨cellB, hcB, hoB, hclB⟩, hPc⟩ := hp
  intro T hT X
  rcases vx_callVX X hx (C := C) (hh := hh) (bytes := bytes) (maxL := maxL) (ret := ret) ho hl hin hse hcode hy hK (by rw [hT]; exact hcB) hoB hclB hg (hsize.trans hml.symm) (argsL := As) (rest := rest) (fun sig h => hn.trans (hlen sig h)) hstack hW (by rw [hb]; exact hdg)
    (fun vm₁ hW₁ => ⟨hf.1, hf.2, hPc (T.setVm vm₁) hT hW₁⟩) with ⟨v, vm₁, ⟨U', l2, c2, s2⟩, hW₁, X', ⟨g', mk, t, L, e1, e2, hq, h1, hL, h2, h3⟩, st⟩ | ⟨q, vm₁, ⟨U', l2, c2, s2⟩, hW₁, X', ⟨g', mk, t, L, E, ce, e1, e2, hq, hce, hcv, hcl, h1, hL, h2, h3⟩, st⟩
  · dsimp only [Pt.U, Pt.locs, Pt.cells, Pt.slots] at X' e1 e2 h1 h2 h3 st
    subst h1; subst h2; subst h3
    exact Or.inl ⟨v, (T.setVm vm₁).calling g' mk (Value.ref b :: As).toArray, t, U', L, hT, X', hL, e1, e2, hq, st⟩
  · dsimp only [Pt.U, Pt.locs, Pt.cells, Pt.slots] at X' e1 e2 h1 h2 h3 st hcl
    subst h1; subst h2; subst h3
    exact Or.inr ⟨q, (T.setVm vm₁).calling g' mk (Value.ref b :: As).toArray, t, U', L, E, ce, hT, X', hL, e1, e2, hq, hce, hcv, vx_cls hW₁ hcl, st⟩
theorem vx_runSX {hh : List (Nat × Nat × Nat × Nat)} (S : CallFix p m c cc nL s args Ts own) (hM : vx_Met l y ws rm Pc Qc XC mc ms free) (cw : vx_CSW R s args own index y bytes maxL ret hh ws rm mc ms n) (hp : PreS s H Pc As)
    (hg : g.method = m) (hn : As.length = n) (hsize : g.locals.size = nL) (hstack : g.stack = As.reverse ++ rest) (hW : 2 * g.monitorRoom + (rest.map fun v => v.category).sum ≤ 8) (hdg : decode cc g.pc = .ok (.invokestatic index, 3)) (hf : cells + mc ≤ R.cells ∧ slots + ms ≤ R.slots) :
    vx_Run p l e R s m args below meth c H locs cells slots mc ms g rest (Qc As.toArray) XC free := by
  obtain ⟨⟨hrc, hrs, hfr, hlo, hws, hcw⟩, hcode, hini, hy, hlen, hl, hstt⟩ := cw
  have hK : vx_Back l R p e below s args y 3 8 (PreOf R mc ms Pc) (PostOf Qc mc ms free) (vx_Post XC mc ms free) := vx_backW (hh := hh) (bytes := bytes) (maxL := maxL) (ret := ret) hM hp.1 hrc hrs hfr hlo hws hcw (fun a' U hW => word_at hW (Or.inl (by first | rfl | simp [Cond.onTables, Cond.keeps, Cond.steady])) hini)
  obtain ⟨hx, hb, hml, ho, -⟩ := S
  intro T hT X
  rcases vx_callSX X hx (hh := hh) (bytes := bytes) (maxL := maxL) (ret := ret) ho hl hstt hini hcode hy hK hg (hsize.trans hml.symm) (argsL := As) (rest := rest) (fun sig h => hn.trans (hlen sig h)) hstack hW (by rw [hb]; exact hdg)
    (fun vm₁ hW₁ => ⟨hf.1, hf.2, hp.2 (T.setVm vm₁) hT hW₁⟩) with ⟨v, vm₁, ⟨U', l2, c2, s2⟩, hW₁, X', ⟨g', mk, t, L, e1, e2, hq, h1, hL, h2, h3⟩, st⟩ | ⟨q, vm₁, ⟨U', l2, c2, s2⟩, hW₁, X', ⟨g', mk, t, L, E, ce, e1, e2, hq, hce, hcv, hcl, h1, hL, h2, h3⟩, st⟩
  · dsimp only [Pt.U, Pt.locs, Pt.cells, Pt.slots] at X' e1 e2 h1 h2 h3 st
    subst h1; subst h2; subst h3
    exact Or.inl ⟨v, (T.setVm vm₁).calling g' mk As.toArray, t, U', L, hT, X', hL, e1, e2, hq, st⟩
  · dsimp only [Pt.U, Pt.locs, Pt.cells, Pt.slots] at X' e1 e2 h1 h2 h3 st hcl
    subst h1; subst h2; subst h3
    exact Or.inr ⟨q, (T.setVm vm₁).calling g' mk As.toArray, t, U', L, E, ce, hT, X', hL, e1, e2, hq, hce, hcv, vx_cls hW₁ hcl, st⟩
end
end VXH
theorem vx_ofWH {l : Launch} {y : MethodName} {ws ws' : List Cond} {rm : Room} {Pc : Array Value → State → Prop} {Qc : Array Value → State → Outcome → State → Prop} {XC : String → State → State → Prop} {mc ms : Nat} {free : Addr → Prop} {cc : ByteArray} {maxL : Nat} {ret : Option FieldType} {hh : List (Nat × Nat × Nat × Nat)}
    (hy : plainName y.cls = true) (hw : ws = Cond.codeWith y cc maxL ret hh :: ws')
    (body : ∀ p e s m args below meth c s₁, BodyLoose p l y (headSpec ws rm) cc maxL ret e s m args below meth c s₁ → c.maxLocals = maxL → Pc args s →
      W p l e (headSpec ws rm).room s m args below meth c s.heap [] 0 0 (vx_MQ below Qc XC args s mc ms free) (entryFrame m args maxL)) : vx_Met l y ws rm Pc Qc XC mc ms free := by
  refine MetFree.of_bodyS (code := cc) (maxLocals := maxL) (ret := ret) hy ?_ ?_
  · intro args s m h hn
    obtain ⟨m9, meth, c, hn9, h1, h2, h3, h4, -, h5, h6, -⟩ := Cond.codeWith_spec (atoms_spec (ws := ws) h _ (by rw [hw]; exact List.mem_cons_self))
    cases hn.symm.trans hn9
    exact ⟨meth, c, h1, h2, h3, h4, h5, h6⟩
  · intro p e s m args below meth c s₁ B hml hP _
    have hh0 : s₁.heap = s.heap := by rw [B.state]; rfl
    obtain ⟨t, a1, o, b1, b2, b3⟩ := body p e s m args below meth c s₁ B hml hP s₁ hh0 (Stand.of_body B)
    exact ⟨t, o, a1, b1, b2, b3⟩
/-! ===== END ===== -/
end
section
/-! ===== BEGIN printed: names, fields, word lists, decode rows ===== -/
def RX0 : String := "RentRiver$Cheapest"
def TX0 : u_T := fun k => match k with
  | 0 => ("RentRiver$Cheapest", "plan", "[I", true)
  | 1 => ("RentRiver$Cheapest", "done", "Z", false)
  | 2 => ("RentRiver$Cheapest", "planned", "I", false)
  | 3 => ("RentRiver$Cheapest", "solved", "I", false)
  | 4 => ("RentRiver$Cheapest", "answer", "I", false)
  | 5 => ("RentRiver$Cheapest", "towns", "I", false)
  | 6 => ("RentRiver$Cheapest", "move", "I", false)
  | 7 => ("RentRiver$Cheapest", "bridges", "[I", true)
  | 8 => ("RentRiver$Cheapest", "lacks", "[I", true)
  | 9 => ("RentRiver$Cheapest", "gains", "[[I", true)
  | 10 => ("RentRiver$Cheapest", "rest", "[[I", true)
  | 11 => ("RentRiver$Cheapest", "restBest", "[I", true)
  | 12 => ("RentRiver$Cheapest", "tailGains", "[[I", true)
  | 13 => ("RentRiver$Cheapest", "tailCosts", "[I", true)
  | 14 => ("RentRiver$Cheapest", "tailTowns", "[I", true)
  | 15 => ("RentRiver$Cheapest", "tails", "I", false)
  | 16 => ("RentRiver$Cheapest", "path", "[I", true)
  | 17 => ("RentRiver$Cheapest", "best", "[I", true)
  | _ => ("RentRiver$Cheapest", "bestPaid", "I", false)
def tyX0 : Nat → FieldType := fun k => match k with
  | 0 => .array .int
  | 1 => .boolean
  | 2 => .int
  | 3 => .int
  | 4 => .int
  | 5 => .int
  | 6 => .int
  | 7 => .array .int
  | 8 => .array .int
  | 9 => .array (.array .int)
  | 10 => .array (.array .int)
  | 11 => .array .int
  | 12 => .array (.array .int)
  | 13 => .array .int
  | 14 => .array .int
  | 15 => .int
  | 16 => .array .int
  | 17 => .array .int
  | _ => .int
abbrev wsX00 : List Cond := u_ws RX0 TX0 19
theorem nmX0 : ∀ a, a < 19 → ∀ b, b < 19 → a ≠ b → (TX0 a).2.1 ≠ (TX0 b).2.1 := by decide +kernel
theorem tyX0_ok : ∀ k, k < 19 → parseFieldDescriptor (TX0 k).2.2.1 = some (tyX0 k) := by decide +kernel
abbrev cX0_init : ByteArray := prog_2_method_1_code
def yX0_init : MethodName := ⟨RX0, "<init>", "()V"⟩
abbrev cX0_solve : ByteArray := prog_2_method_2_code
def yX0_solve : MethodName := ⟨RX0, "solve", "(LRentRiver$Plain;)I"⟩
abbrev cX0_searchPlan : ByteArray := prog_2_method_3_code
def yX0_searchPlan : MethodName := ⟨RX0, "searchPlan", "(LRentRiver$Plain;)I"⟩
abbrev cX0_prepare : ByteArray := prog_2_method_4_code
def yX0_prepare : MethodName := ⟨RX0, "prepare", "(LRentRiver$Plain;)V"⟩
abbrev cX0_listTails : ByteArray := prog_2_method_5_code
def yX0_listTails : MethodName := ⟨RX0, "listTails", "()V"⟩
abbrev cX0_putAhead : ByteArray := prog_2_method_6_code
def yX0_putAhead : MethodName := ⟨RX0, "putAhead", "(IIII)V"⟩
abbrev cX0_tryMonth : ByteArray := prog_2_method_7_code
def yX0_tryMonth : MethodName := ⟨RX0, "tryMonth", "(III)V"⟩
abbrev cX0_lacksAny : ByteArray := prog_2_method_8_code
def yX0_lacksAny : MethodName := ⟨RX0, "lacksAny", "()Z"⟩
abbrev cX0_canBe : ByteArray := prog_2_method_9_code
def yX0_canBe : MethodName := ⟨RX0, "canBe", "(I)Z"⟩
abbrev cX0_costOf : ByteArray := prog_2_method_10_code
def yX0_costOf : MethodName := ⟨RX0, "costOf", "(II)I"⟩
abbrev cX0_leastToCome : ByteArray := prog_2_method_11_code
def yX0_leastToCome : MethodName := ⟨RX0, "leastToCome", "(I)I"⟩
abbrev cX0_keepPath : ByteArray := prog_2_method_12_code
def yX0_keepPath : MethodName := ⟨RX0, "keepPath", "(II)V"⟩
abbrev cX0_stayFrom : ByteArray := prog_2_method_13_code
def yX0_stayFrom : MethodName := ⟨RX0, "stayFrom", "(II)V"⟩
abbrev cX0_firstForNothing : ByteArray := prog_2_method_14_code
def yX0_firstForNothing : MethodName := ⟨RX0, "firstForNothing", "(I)I"⟩
abbrev cX0_tryTails : ByteArray := prog_2_method_15_code
def yX0_tryTails : MethodName := ⟨RX0, "tryTails", "(II)V"⟩
abbrev cX0_meetsNeeds : ByteArray := prog_2_method_16_code
def yX0_meetsNeeds : MethodName := ⟨RX0, "meetsNeeds", "(I)Z"⟩
abbrev cX0_keepTail : ByteArray := prog_2_method_17_code
def yX0_keepTail : MethodName := ⟨RX0, "keepTail", "(I)V"⟩
def RX1 : String := "RentRiver$Contracts"
def TX1 : u_T := fun k => match k with
  | 0 => ("RentRiver$Contracts", "first", "[I", true)
  | 1 => ("RentRiver$Contracts", "second", "[I", true)
  | 2 => ("RentRiver$Contracts", "cost", "[I", true)
  | _ => ("RentRiver$Contracts", "rows", "I", false)
def tyX1 : Nat → FieldType := fun k => match k with
  | 0 => .array .int
  | 1 => .array .int
  | 2 => .array .int
  | _ => .int
abbrev wsX10 : List Cond := u_ws RX1 TX1 4
theorem nmX1 : ∀ a, a < 4 → ∀ b, b < 4 → a ≠ b → (TX1 a).2.1 ≠ (TX1 b).2.1 := by decide +kernel
theorem tyX1_ok : ∀ k, k < 4 → parseFieldDescriptor (TX1 k).2.2.1 = some (tyX1 k) := by decide +kernel
abbrev cX1_init : ByteArray := prog_3_method_1_code
def yX1_init : MethodName := ⟨RX1, "<init>", "()V"⟩
abbrev cX1_clear : ByteArray := prog_3_method_2_code
def yX1_clear : MethodName := ⟨RX1, "clear", "()V"⟩
abbrev cX1_copy : ByteArray := prog_3_method_3_code
def yX1_copy : MethodName := ⟨RX1, "copy", "(LRentRiver$Contracts;)V"⟩
abbrev cX1_tells : ByteArray := prog_3_method_4_code
def yX1_tells : MethodName := ⟨RX1, "tells", "(I)Z"⟩
abbrev cX1_tell : ByteArray := prog_3_method_5_code
def yX1_tell : MethodName := ⟨RX1, "tell", "(IIII)V"⟩
abbrev cX1_readRows : ByteArray := prog_3_method_6_code
def yX1_readRows : MethodName := ⟨RX1, "readRows", "(LRentRiver$Tape;LRentRiver$Plain;)V"⟩
abbrev cX1_readRow : ByteArray := prog_3_method_7_code
def yX1_readRow : MethodName := ⟨RX1, "readRow", "(LRentRiver$Tape;LRentRiver$Plain;)Z"⟩
abbrev cX1_readLet : ByteArray := prog_3_method_8_code
def yX1_readLet : MethodName := ⟨RX1, "readLet", "(LRentRiver$Tape;LRentRiver$Plain;I)Z"⟩
def RX2 : String := "RentRiver$Leaks"
def TX2 : u_T := fun k => match k with
  | 0 => ("RentRiver$Leaks", "found", "[[I", true)
  | 1 => ("RentRiver$Leaks", "kept", "I", false)
  | 2 => ("RentRiver$Leaks", "all", "I", false)
  | 3 => ("RentRiver$Leaks", "levelsTold", "[Z", true)
  | 4 => ("RentRiver$Leaks", "levels", "[[I", true)
  | 5 => ("RentRiver$Leaks", "last", "I", false)
  | 6 => ("RentRiver$Leaks", "tight", "LRentRiver$Year;", true)
  | _ => ("RentRiver$Leaks", "leaking", "LRentRiver$Year;", true)
def tyX2 : Nat → FieldType := fun k => match k with
  | 0 => .array (.array .int)
  | 1 => .int
  | 2 => .int
  | 3 => .array .boolean
  | 4 => .array (.array .int)
  | 5 => .int
  | 6 => .object "RentRiver$Year"
  | _ => .object "RentRiver$Year"
abbrev wsX20 : List Cond := u_ws RX2 TX2 8
theorem nmX2 : ∀ a, a < 8 → ∀ b, b < 8 → a ≠ b → (TX2 a).2.1 ≠ (TX2 b).2.1 := by decide +kernel
theorem tyX2_ok : ∀ k, k < 8 → parseFieldDescriptor (TX2 k).2.2.1 = some (tyX2 k) := by decide +kernel
abbrev cX2_init : ByteArray := prog_4_method_1_code
def yX2_init : MethodName := ⟨RX2, "<init>", "()V"⟩
abbrev cX2_readLevels : ByteArray := prog_4_method_2_code
def yX2_readLevels : MethodName := ⟨RX2, "readLevels", "(LRentRiver$Tape;I)Z"⟩
abbrev cX2_run : ByteArray := prog_4_method_3_code
def yX2_run : MethodName := ⟨RX2, "run", "(LRentRiver$Plain;LRentRiver$Contracts;)I"⟩
abbrev cX2_comesBy : ByteArray := prog_4_method_4_code
def yX2_comesBy : MethodName := ⟨RX2, "comesBy", "(LRentRiver$Plain;LRentRiver$Contracts;II)Z"⟩
abbrev cX2_asTold : ByteArray := prog_4_method_5_code
def yX2_asTold : MethodName := ⟨RX2, "asTold", "(LRentRiver$Year;I)Z"⟩
abbrev cX2_keep : ByteArray := prog_4_method_6_code
def yX2_keep : MethodName := ⟨RX2, "keep", "(III)V"⟩
def RX3 : String := "RentRiver$Plain"
def TX3 : u_T := fun k => match k with
  | 0 => ("RentRiver$Plain", "names", "[J", true)
  | 1 => ("RentRiver$Plain", "told", "[[I", true)
  | 2 => ("RentRiver$Plain", "bids", "[[I", true)
  | 3 => ("RentRiver$Plain", "water", "[I", true)
  | 4 => ("RentRiver$Plain", "towns", "I", false)
  | 5 => ("RentRiver$Plain", "bidCount", "I", false)
  | 6 => ("RentRiver$Plain", "move", "I", false)
  | 7 => ("RentRiver$Plain", "fish", "I", false)
  | 8 => ("RentRiver$Plain", "patience", "I", false)
  | 9 => ("RentRiver$Plain", "serial", "I", false)
  | 10 => ("RentRiver$Plain", "toldOf", "[I", true)
  | 11 => ("RentRiver$Plain", "toldWater", "I", false)
  | 12 => ("RentRiver$Plain", "toldMove", "Z", false)
  | 13 => ("RentRiver$Plain", "toldFish", "Z", false)
  | _ => ("RentRiver$Plain", "toldPatience", "Z", false)
def tyX3 : Nat → FieldType := fun k => match k with
  | 0 => .array .long
  | 1 => .array (.array .int)
  | 2 => .array (.array .int)
  | 3 => .array .int
  | 4 => .int
  | 5 => .int
  | 6 => .int
  | 7 => .int
  | 8 => .int
  | 9 => .int
  | 10 => .array .int
  | 11 => .int
  | 12 => .boolean
  | 13 => .boolean
  | _ => .boolean
abbrev wsX30 : List Cond := u_ws RX3 TX3 15
theorem nmX3 : ∀ a, a < 15 → ∀ b, b < 15 → a ≠ b → (TX3 a).2.1 ≠ (TX3 b).2.1 := by decide +kernel
theorem tyX3_ok : ∀ k, k < 15 → parseFieldDescriptor (TX3 k).2.2.1 = some (tyX3 k) := by decide +kernel
abbrev cX3_init : ByteArray := prog_5_method_1_code
def yX3_init : MethodName := ⟨RX3, "<init>", "()V"⟩
abbrev cX3_clear : ByteArray := prog_5_method_2_code
def yX3_clear : MethodName := ⟨RX3, "clear", "()V"⟩
abbrev cX3_copy : ByteArray := prog_5_method_3_code
def yX3_copy : MethodName := ⟨RX3, "copy", "(LRentRiver$Plain;)V"⟩
abbrev cX3_setBid : ByteArray := prog_5_method_4_code
def yX3_setBid : MethodName := ⟨RX3, "setBid", "(III)V"⟩
abbrev cX3_gain : ByteArray := prog_5_method_5_code
def yX3_gain : MethodName := ⟨RX3, "gain", "(II)I"⟩
abbrev cX3_placeOf : ByteArray := prog_5_method_6_code
def yX3_placeOf : MethodName := ⟨RX3, "placeOf", "(I)I"⟩
abbrev cX3_readRows : ByteArray := prog_5_method_7_code
def yX3_readRows : MethodName := ⟨RX3, "readRows", "(LRentRiver$Tape;)I"⟩
abbrev cX3_readRow : ByteArray := prog_5_method_8_code
def yX3_readRow : MethodName := ⟨RX3, "readRow", "(LRentRiver$Tape;)Z"⟩
abbrev cX3_readTown : ByteArray := prog_5_method_9_code
def yX3_readTown : MethodName := ⟨RX3, "readTown", "(LRentRiver$Tape;)Z"⟩
abbrev cX3_find : ByteArray := prog_5_method_10_code
def yX3_find : MethodName := ⟨RX3, "find", "(J)I"⟩
abbrev cX3_townHere : ByteArray := prog_5_method_11_code
def yX3_townHere : MethodName := ⟨RX3, "townHere", "(LRentRiver$Tape;)I"⟩
abbrev cX3_nextTown : ByteArray := prog_5_method_12_code
def yX3_nextTown : MethodName := ⟨RX3, "nextTown", "(LRentRiver$Tape;)I"⟩
abbrev cX3_readWater : ByteArray := prog_5_method_13_code
def yX3_readWater : MethodName := ⟨RX3, "readWater", "(LRentRiver$Tape;)Z"⟩
abbrev cX3_readBid : ByteArray := prog_5_method_14_code
def yX3_readBid : MethodName := ⟨RX3, "readBid", "(LRentRiver$Tape;)Z"⟩
abbrev cX3_readAboutTown : ByteArray := prog_5_method_15_code
def yX3_readAboutTown : MethodName := ⟨RX3, "readAboutTown", "(LRentRiver$Tape;LRentRiver$Word;)Z"⟩
abbrev cX3_readMove : ByteArray := prog_5_method_16_code
def yX3_readMove : MethodName := ⟨RX3, "readMove", "(LRentRiver$Tape;)Z"⟩
abbrev cX3_readFish : ByteArray := prog_5_method_17_code
def yX3_readFish : MethodName := ⟨RX3, "readFish", "(LRentRiver$Tape;)Z"⟩
abbrev cX3_readPatience : ByteArray := prog_5_method_18_code
def yX3_readPatience : MethodName := ⟨RX3, "readPatience", "(LRentRiver$Tape;)Z"⟩
def RX4 : String := "RentRiver$Rounds"
def TX4 : u_T := fun k => match k with
  | 0 => ("RentRiver$Rounds", "done", "Z", false)
  | 1 => ("RentRiver$Rounds", "monthOf", "[I", true)
  | 2 => ("RentRiver$Rounds", "prices", "[I", true)
  | _ => ("RentRiver$Rounds", "owner", "[I", true)
def tyX4 : Nat → FieldType := fun k => match k with
  | 0 => .boolean
  | 1 => .array .int
  | 2 => .array .int
  | _ => .array .int
abbrev wsX40 : List Cond := u_ws RX4 TX4 4
theorem nmX4 : ∀ a, a < 4 → ∀ b, b < 4 → a ≠ b → (TX4 a).2.1 ≠ (TX4 b).2.1 := by decide +kernel
theorem tyX4_ok : ∀ k, k < 4 → parseFieldDescriptor (TX4 k).2.2.1 = some (tyX4 k) := by decide +kernel
abbrev cX4_init : ByteArray := prog_6_method_1_code
def yX4_init : MethodName := ⟨RX4, "<init>", "()V"⟩
abbrev cX4_run : ByteArray := prog_6_method_2_code
def yX4_run : MethodName := ⟨RX4, "run", "(LRentRiver$Plain;I)I"⟩
abbrev cX4_clear : ByteArray := prog_6_method_3_code
def yX4_clear : MethodName := ⟨RX4, "clear", "()V"⟩
abbrev cX4_priceNow : ByteArray := prog_6_method_4_code
def yX4_priceNow : MethodName := ⟨RX4, "priceNow", "(II)I"⟩
abbrev cX4_takeBest : ByteArray := prog_6_method_5_code
def yX4_takeBest : MethodName := ⟨RX4, "takeBest", "(LRentRiver$Plain;II)Z"⟩
def RX5 : String := "RentRiver$Sentence"
def TX5 : u_T := fun k => match k with
  | 0 => ("RentRiver$Sentence", "steps", "[LRentRiver$Word;", true)
  | 1 => ("RentRiver$Sentence", "signs", "[I", true)
  | 2 => ("RentRiver$Sentence", "numbers", "[I", true)
  | 3 => ("RentRiver$Sentence", "stack", "[Z", true)
  | 4 => ("RentRiver$Sentence", "size", "I", false)
  | _ => ("RentRiver$Sentence", "ones", "I", false)
def tyX5 : Nat → FieldType := fun k => match k with
  | 0 => .array (.object "RentRiver$Word")
  | 1 => .array .int
  | 2 => .array .int
  | 3 => .array .boolean
  | 4 => .int
  | _ => .int
abbrev wsX50 : List Cond := u_ws RX5 TX5 6
theorem nmX5 : ∀ a, a < 6 → ∀ b, b < 6 → a ≠ b → (TX5 a).2.1 ≠ (TX5 b).2.1 := by decide +kernel
theorem tyX5_ok : ∀ k, k < 6 → parseFieldDescriptor (TX5 k).2.2.1 = some (tyX5 k) := by decide +kernel
abbrev cX5_init : ByteArray := prog_7_method_1_code
def yX5_init : MethodName := ⟨RX5, "<init>", "()V"⟩
abbrev cX5_clear : ByteArray := prog_7_method_2_code
def yX5_clear : MethodName := ⟨RX5, "clear", "()V"⟩
abbrev cX5_copy : ByteArray := prog_7_method_3_code
def yX5_copy : MethodName := ⟨RX5, "copy", "(LRentRiver$Sentence;)V"⟩
abbrev cX5_add : ByteArray := prog_7_method_4_code
def yX5_add : MethodName := ⟨RX5, "add", "(LRentRiver$Word;II)Z"⟩
abbrev cX5_readText : ByteArray := prog_7_method_5_code
def yX5_readText : MethodName := ⟨RX5, "readText", "(LRentRiver$Tape;)V"⟩
abbrev cX5_readCond : ByteArray := prog_7_method_6_code
def yX5_readCond : MethodName := ⟨RX5, "readCond", "(LRentRiver$Tape;I)Z"⟩
abbrev cX5_readAll : ByteArray := prog_7_method_7_code
def yX5_readAll : MethodName := ⟨RX5, "readAll", "(LRentRiver$Tape;I)Z"⟩
abbrev cX5_readOne : ByteArray := prog_7_method_8_code
def yX5_readOne : MethodName := ⟨RX5, "readOne", "(LRentRiver$Tape;I)Z"⟩
abbrev cX5_begins : ByteArray := prog_7_method_9_code
def yX5_begins : MethodName := ⟨RX5, "begins", "(LRentRiver$Word;)Z"⟩
abbrev cX5_readClosing : ByteArray := prog_7_method_10_code
def yX5_readClosing : MethodName := ⟨RX5, "readClosing", "(LRentRiver$Tape;)Z"⟩
abbrev cX5_readMeasure : ByteArray := prog_7_method_11_code
def yX5_readMeasure : MethodName := ⟨RX5, "readMeasure", "(LRentRiver$Tape;LRentRiver$Word;)Z"⟩
abbrev cX5_holds : ByteArray := prog_7_method_12_code
def yX5_holds : MethodName := ⟨RX5, "holds", "(LRentRiver$Plain;LRentRiver$Year;I)Z"⟩
abbrev cX5_holdsOne : ByteArray := prog_7_method_13_code
def yX5_holdsOne : MethodName := ⟨RX5, "holdsOne", "(LRentRiver$Plain;LRentRiver$Year;II)Z"⟩
def RX6 : String := "RentRiver$State"
def TX6 : u_T := fun k => match k with
  | 0 => ("RentRiver$State", "plain", "LRentRiver$Plain;", false)
  | 1 => ("RentRiver$State", "deals", "LRentRiver$Contracts;", false)
  | 2 => ("RentRiver$State", "sentence", "LRentRiver$Sentence;", false)
  | _ => ("RentRiver$State", "year", "LRentRiver$Year;", true)
def tyX6 : Nat → FieldType := fun k => match k with
  | 0 => .object "RentRiver$Plain"
  | 1 => .object "RentRiver$Contracts"
  | 2 => .object "RentRiver$Sentence"
  | _ => .object "RentRiver$Year"
abbrev wsX60 : List Cond := u_ws RX6 TX6 4
theorem nmX6 : ∀ a, a < 4 → ∀ b, b < 4 → a ≠ b → (TX6 a).2.1 ≠ (TX6 b).2.1 := by decide +kernel
theorem tyX6_ok : ∀ k, k < 4 → parseFieldDescriptor (TX6 k).2.2.1 = some (tyX6 k) := by decide +kernel
abbrev cX6_init : ByteArray := prog_8_method_1_code
def yX6_init : MethodName := ⟨RX6, "<init>", "()V"⟩
abbrev cX6_copy : ByteArray := prog_8_method_2_code
def yX6_copy : MethodName := ⟨RX6, "copy", "(LRentRiver$State;)V"⟩
def RX7 : String := "RentRiver$Tape"
def TX7 : u_T := fun k => match k with
  | 0 => ("RentRiver$Tape", "bytes", "[B", true)
  | 1 => ("RentRiver$Tape", "size", "I", false)
  | 2 => ("RentRiver$Tape", "fault", "I", false)
  | 3 => ("RentRiver$Tape", "faultAt", "I", false)
  | 4 => ("RentRiver$Tape", "kind", "I", false)
  | 5 => ("RentRiver$Tape", "start", "I", false)
  | 6 => ("RentRiver$Tape", "number", "I", false)
  | 7 => ("RentRiver$Tape", "sign", "I", false)
  | 8 => ("RentRiver$Tape", "code", "J", false)
  | 9 => ("RentRiver$Tape", "word", "LRentRiver$Word;", false)
  | 10 => ("RentRiver$Tape", "most", "I", false)
  | _ => ("RentRiver$Tape", "here", "I", false)
def tyX7 : Nat → FieldType := fun k => match k with
  | 0 => .array .byte
  | 1 => .int
  | 2 => .int
  | 3 => .int
  | 4 => .int
  | 5 => .int
  | 6 => .int
  | 7 => .int
  | 8 => .long
  | 9 => .object "RentRiver$Word"
  | 10 => .int
  | _ => .int
abbrev wsX70 : List Cond := u_ws RX7 TX7 12
theorem nmX7 : ∀ a, a < 12 → ∀ b, b < 12 → a ≠ b → (TX7 a).2.1 ≠ (TX7 b).2.1 := by decide +kernel
theorem tyX7_ok : ∀ k, k < 12 → parseFieldDescriptor (TX7 k).2.2.1 = some (tyX7 k) := by decide +kernel
abbrev cX7_init : ByteArray := prog_9_method_1_code
def yX7_init : MethodName := ⟨RX7, "<init>", "()V"⟩
abbrev cX7_hasRoom : ByteArray := prog_9_method_2_code
def yX7_hasRoom : MethodName := ⟨RX7, "hasRoom", "()Z"⟩
abbrev cX7_put : ByteArray := prog_9_method_3_code
def yX7_put : MethodName := ⟨RX7, "put", "(I)V"⟩
abbrev cX7_valueAt : ByteArray := prog_9_method_4_code
def yX7_valueAt : MethodName := ⟨RX7, "valueAt", "(I)I"⟩
abbrev cX7_open : ByteArray := prog_9_method_5_code
def yX7_open : MethodName := ⟨RX7, "open", "(I)V"⟩
abbrev cX7_advance : ByteArray := prog_9_method_6_code
def yX7_advance : MethodName := ⟨RX7, "advance", "()V"⟩
abbrev cX7_isLetter : ByteArray := prog_9_method_7_code
def yX7_isLetter : MethodName := ⟨RX7, "isLetter", "(I)Z"⟩
abbrev cX7_isDigit : ByteArray := prog_9_method_8_code
def yX7_isDigit : MethodName := ⟨RX7, "isDigit", "(I)Z"⟩
abbrev cX7_readRun : ByteArray := prog_9_method_9_code
def yX7_readRun : MethodName := ⟨RX7, "readRun", "()V"⟩
abbrev cX7_refuse : ByteArray := prog_9_method_10_code
def yX7_refuse : MethodName := ⟨RX7, "refuse", "(I)Z"⟩
abbrev cX7_finish : ByteArray := prog_9_method_11_code
def yX7_finish : MethodName := ⟨RX7, "finish", "()Z"⟩
abbrev cX7_numberHere : ByteArray := prog_9_method_12_code
def yX7_numberHere : MethodName := ⟨RX7, "numberHere", "(II)I"⟩
abbrev cX7_nextNumber : ByteArray := prog_9_method_13_code
def yX7_nextNumber : MethodName := ⟨RX7, "nextNumber", "(II)I"⟩
abbrev cX7_isSign : ByteArray := prog_9_method_14_code
def yX7_isSign : MethodName := ⟨RX7, "isSign", "(I)Z"⟩
abbrev cX7_nextSign : ByteArray := prog_9_method_15_code
def yX7_nextSign : MethodName := ⟨RX7, "nextSign", "(I)Z"⟩
abbrev cX7_nameHere : ByteArray := prog_9_method_16_code
def yX7_nameHere : MethodName := ⟨RX7, "nameHere", "()Z"⟩
def RX8 : String := "RentRiver$Undo"
def TX8 : u_T := fun k => match k with
  | 0 => ("RentRiver$Undo", "towns", "[I", true)
  | 1 => ("RentRiver$Undo", "months", "[I", true)
  | 2 => ("RentRiver$Undo", "before", "[I", true)
  | _ => ("RentRiver$Undo", "size", "I", false)
def tyX8 : Nat → FieldType := fun k => match k with
  | 0 => .array .int
  | 1 => .array .int
  | 2 => .array .int
  | _ => .int
abbrev wsX80 : List Cond := u_ws RX8 TX8 4
theorem nmX8 : ∀ a, a < 4 → ∀ b, b < 4 → a ≠ b → (TX8 a).2.1 ≠ (TX8 b).2.1 := by decide +kernel
theorem tyX8_ok : ∀ k, k < 4 → parseFieldDescriptor (TX8 k).2.2.1 = some (tyX8 k) := by decide +kernel
abbrev cX8_init : ByteArray := prog_10_method_1_code
def yX8_init : MethodName := ⟨RX8, "<init>", "()V"⟩
abbrev cX8_keep : ByteArray := prog_10_method_2_code
def yX8_keep : MethodName := ⟨RX8, "keep", "(III)V"⟩
abbrev cX8_back : ByteArray := prog_10_method_3_code
def yX8_back : MethodName := ⟨RX8, "back", "(LRentRiver$Plain;)I"⟩
def RX9 : String := "RentRiver$Word"
def TX9 : u_T := fun k => match k with
  | _ => ("", "", "", false)
def tyX9 : Nat → FieldType := fun k => match k with
  | _ => .int
abbrev wsX90 : List Cond := u_ws RX9 TX9 0
theorem nmX9 : ∀ a, a < 0 → ∀ b, b < 0 → a ≠ b → (TX9 a).2.1 ≠ (TX9 b).2.1 := by decide +kernel
theorem tyX9_ok : ∀ k, k < 0 → parseFieldDescriptor (TX9 k).2.2.1 = some (tyX9 k) := by decide +kernel
abbrev cX9_find : ByteArray := prog_11_method_4_code
def yX9_find : MethodName := ⟨RX9, "find", "(J)LRentRiver$Word;"⟩
abbrev cX9_isMeasure : ByteArray := prog_11_method_5_code
def yX9_isMeasure : MethodName := ⟨RX9, "isMeasure", "()Z"⟩
abbrev cX9_isAboutTown : ByteArray := prog_11_method_6_code
def yX9_isAboutTown : MethodName := ⟨RX9, "isAboutTown", "()Z"⟩
def RX10 : String := "RentRiver$Year"
def TX10 : u_T := fun k => match k with
  | 0 => ("RentRiver$Year", "running", "Z", false)
  | 1 => ("RentRiver$Year", "months", "I", false)
  | 2 => ("RentRiver$Year", "treasury", "I", false)
  | 3 => ("RentRiver$Year", "letTo", "[I", true)
  | 4 => ("RentRiver$Year", "letAlso", "[I", true)
  | 5 => ("RentRiver$Year", "letFor", "[I", true)
  | 6 => ("RentRiver$Year", "of", "[[I", true)
  | 7 => ("RentRiver$Year", "lies", "I", false)
  | 8 => ("RentRiver$Year", "fish", "I", false)
  | 9 => ("RentRiver$Year", "rained", "I", false)
  | 10 => ("RentRiver$Year", "used", "I", false)
  | 11 => ("RentRiver$Year", "seeped", "I", false)
  | 12 => ("RentRiver$Year", "atSea", "I", false)
  | 13 => ("RentRiver$Year", "lettings", "I", false)
  | _ => ("RentRiver$Year", "moves", "I", false)
def tyX10 : Nat → FieldType := fun k => match k with
  | 0 => .boolean
  | 1 => .int
  | 2 => .int
  | 3 => .array .int
  | 4 => .array .int
  | 5 => .array .int
  | 6 => .array (.array .int)
  | 7 => .int
  | 8 => .int
  | 9 => .int
  | 10 => .int
  | 11 => .int
  | 12 => .int
  | 13 => .int
  | _ => .int
abbrev wsX100 : List Cond := u_ws RX10 TX10 15
theorem nmX10 : ∀ a, a < 15 → ∀ b, b < 15 → a ≠ b → (TX10 a).2.1 ≠ (TX10 b).2.1 := by decide +kernel
theorem tyX10_ok : ∀ k, k < 15 → parseFieldDescriptor (TX10 k).2.2.1 = some (tyX10 k) := by decide +kernel
abbrev cX10_init : ByteArray := prog_12_method_1_code
def yX10_init : MethodName := ⟨RX10, "<init>", "()V"⟩
abbrev cX10_start : ByteArray := prog_12_method_2_code
def yX10_start : MethodName := ⟨RX10, "start", "(LRentRiver$Plain;)V"⟩
abbrev cX10_copy : ByteArray := prog_12_method_3_code
def yX10_copy : MethodName := ⟨RX10, "copy", "(LRentRiver$Year;)V"⟩
abbrev cX10_number : ByteArray := prog_12_method_4_code
def yX10_number : MethodName := ⟨RX10, "number", "(I)I"⟩
abbrev cX10_inPonds : ByteArray := prog_12_method_5_code
def yX10_inPonds : MethodName := ⟨RX10, "inPonds", "()I"⟩
abbrev cX10_lacks : ByteArray := prog_12_method_6_code
def yX10_lacks : MethodName := ⟨RX10, "lacks", "(LRentRiver$Plain;I)Z"⟩
abbrev cX10_goOn : ByteArray := prog_12_method_7_code
def yX10_goOn : MethodName := ⟨RX10, "goOn", "(LRentRiver$Plain;LRentRiver$Contracts;I)V"⟩
abbrev cX10_draw : ByteArray := prog_12_method_8_code
def yX10_draw : MethodName := ⟨RX10, "draw", "(LRentRiver$Plain;LRentRiver$Contracts;I)V"⟩
abbrev cX10_nextMonth : ByteArray := prog_12_method_9_code
def yX10_nextMonth : MethodName := ⟨RX10, "nextMonth", "(LRentRiver$Plain;LRentRiver$Contracts;I)V"⟩
abbrev cX10_canPay : ByteArray := prog_12_method_10_code
def yX10_canPay : MethodName := ⟨RX10, "canPay", "(II)Z"⟩
abbrev cX10_letByContract : ByteArray := prog_12_method_11_code
def yX10_letByContract : MethodName := ⟨RX10, "letByContract", "(LRentRiver$Contracts;)V"⟩
abbrev cX10_letByBids : ByteArray := prog_12_method_12_code
def yX10_letByBids : MethodName := ⟨RX10, "letByBids", "(LRentRiver$Plain;)V"⟩
abbrev cX10_leastBid : ByteArray := prog_12_method_13_code
def yX10_leastBid : MethodName := ⟨RX10, "leastBid", "(LRentRiver$Plain;II)I"⟩
abbrev cX10_pay : ByteArray := prog_12_method_14_code
def yX10_pay : MethodName := ⟨RX10, "pay", "(II)V"⟩
abbrev cX10_moveRiver : ByteArray := prog_12_method_15_code
def yX10_moveRiver : MethodName := ⟨RX10, "moveRiver", "(LRentRiver$Plain;)V"⟩
abbrev cX10_bridgeTo : ByteArray := prog_12_method_16_code
def yX10_bridgeTo : MethodName := ⟨RX10, "bridgeTo", "(LRentRiver$Plain;I)I"⟩
abbrev cX10_pour : ByteArray := prog_12_method_17_code
def yX10_pour : MethodName := ⟨RX10, "pour", "(LRentRiver$Plain;I)V"⟩
abbrev cX10_pourTo : ByteArray := prog_12_method_18_code
def yX10_pourTo : MethodName := ⟨RX10, "pourTo", "(LRentRiver$Plain;II)V"⟩
abbrev cX10_drink : ByteArray := prog_12_method_19_code
def yX10_drink : MethodName := ⟨RX10, "drink", "(LRentRiver$Plain;I)V"⟩
abbrev cX10_waterField : ByteArray := prog_12_method_20_code
def yX10_waterField : MethodName := ⟨RX10, "waterField", "(LRentRiver$Plain;I)V"⟩
abbrev cX10_harvest : ByteArray := prog_12_method_21_code
def yX10_harvest : MethodName := ⟨RX10, "harvest", "(LRentRiver$Plain;)V"⟩
abbrev cX10_leakFrom : ByteArray := prog_12_method_22_code
def yX10_leakFrom : MethodName := ⟨RX10, "leakFrom", "(II)V"⟩
def RX11 : String := "RentRiver"
def TX11 : u_T := fun k => match k with
  | 0 => ("RentRiver", "tape", "LRentRiver$Tape;", true)
  | 1 => ("RentRiver", "now", "LRentRiver$State;", true)
  | 2 => ("RentRiver", "spare", "LRentRiver$State;", true)
  | 3 => ("RentRiver", "images", "[LRentRiver$State;", true)
  | 4 => ("RentRiver", "kept", "[Z", true)
  | 5 => ("RentRiver", "undone", "LRentRiver$Undo;", true)
  | 6 => ("RentRiver", "planner", "LRentRiver$Cheapest;", true)
  | 7 => ("RentRiver", "auction", "LRentRiver$Rounds;", true)
  | 8 => ("RentRiver", "search", "LRentRiver$Leaks;", true)
  | 9 => ("RentRiver", "trial", "LRentRiver$Year;", true)
  | 10 => ("RentRiver", "text", "[B", true)
  | 11 => ("RentRiver", "textSize", "I", false)
  | 12 => ("RentRiver", "latestFault", "I", false)
  | _ => ("RentRiver", "plains", "I", false)
def tyX11 : Nat → FieldType := fun k => match k with
  | 0 => .object "RentRiver$Tape"
  | 1 => .object "RentRiver$State"
  | 2 => .object "RentRiver$State"
  | 3 => .array (.object "RentRiver$State")
  | 4 => .array .boolean
  | 5 => .object "RentRiver$Undo"
  | 6 => .object "RentRiver$Cheapest"
  | 7 => .object "RentRiver$Rounds"
  | 8 => .object "RentRiver$Leaks"
  | 9 => .object "RentRiver$Year"
  | 10 => .array .byte
  | 11 => .int
  | 12 => .int
  | _ => .int
abbrev wsX110 : List Cond := u_ws RX11 TX11 14
theorem nmX11 : ∀ a, a < 14 → ∀ b, b < 14 → a ≠ b → (TX11 a).2.1 ≠ (TX11 b).2.1 := by decide +kernel
theorem tyX11_ok : ∀ k, k < 14 → parseFieldDescriptor (TX11 k).2.2.1 = some (tyX11 k) := by decide +kernel
abbrev cX11_init : ByteArray := prog_1_method_1_code
def yX11_init : MethodName := ⟨RX11, "<init>", "()V"⟩
abbrev cX11_feed : ByteArray := prog_1_method_2_code
def yX11_feed : MethodName := ⟨RX11, "feed", "(IIIII)I"⟩
abbrev cX11_end : ByteArray := prog_1_method_3_code
def yX11_end : MethodName := ⟨RX11, "end", "(I)Z"⟩
abbrev cX11_plain : ByteArray := prog_1_method_4_code
def yX11_plain : MethodName := ⟨RX11, "plain", "()I"⟩
abbrev cX11_closeTape : ByteArray := prog_1_method_5_code
def yX11_closeTape : MethodName := ⟨RX11, "closeTape", "(I)I"⟩
abbrev cX11_fault : ByteArray := prog_1_method_6_code
def yX11_fault : MethodName := ⟨RX11, "fault", "()I"⟩
abbrev cX11_told : ByteArray := prog_1_method_7_code
def yX11_told : MethodName := ⟨RX11, "told", "(II)I"⟩
abbrev cX11_isTown : ByteArray := prog_1_method_8_code
def yX11_isTown : MethodName := ⟨RX11, "isTown", "(I)Z"⟩
abbrev cX11_isMonth : ByteArray := prog_1_method_9_code
def yX11_isMonth : MethodName := ⟨RX11, "isMonth", "(I)Z"⟩
abbrev cX11_bid : ByteArray := prog_1_method_10_code
def yX11_bid : MethodName := ⟨RX11, "bid", "(II)I"⟩
abbrev cX11_offer : ByteArray := prog_1_method_11_code
def yX11_offer : MethodName := ⟨RX11, "offer", "(III)Z"⟩
abbrev cX11_undo : ByteArray := prog_1_method_12_code
def yX11_undo : MethodName := ⟨RX11, "undo", "()I"⟩
abbrev cX11_water : ByteArray := prog_1_method_13_code
def yX11_water : MethodName := ⟨RX11, "water", "(I)I"⟩
abbrev cX11_contracts : ByteArray := prog_1_method_14_code
def yX11_contracts : MethodName := ⟨RX11, "contracts", "()I"⟩
abbrev cX11_contract : ByteArray := prog_1_method_15_code
def yX11_contract : MethodName := ⟨RX11, "contract", "(II)I"⟩
abbrev cX11_begin : ByteArray := prog_1_method_16_code
def yX11_begin : MethodName := ⟨RX11, "begin", "()Z"⟩
abbrev cX11_on : ByteArray := prog_1_method_17_code
def yX11_on : MethodName := ⟨RX11, "on", "(I)I"⟩
abbrev cX11_year : ByteArray := prog_1_method_18_code
def yX11_year : MethodName := ⟨RX11, "year", "(I)I"⟩
abbrev cX11_town : ByteArray := prog_1_method_19_code
def yX11_town : MethodName := ⟨RX11, "town", "(II)I"⟩
abbrev cX11_let : ByteArray := prog_1_method_20_code
def yX11_let : MethodName := ⟨RX11, "let", "(II)I"⟩
abbrev cX11_droughts : ByteArray := prog_1_method_21_code
def yX11_droughts : MethodName := ⟨RX11, "droughts", "()I"⟩
abbrev cX11_cheapest : ByteArray := prog_1_method_22_code
def yX11_cheapest : MethodName := ⟨RX11, "cheapest", "()I"⟩
abbrev cX11_plan : ByteArray := prog_1_method_23_code
def yX11_plan : MethodName := ⟨RX11, "plan", "(I)I"⟩
abbrev cX11_take : ByteArray := prog_1_method_24_code
def yX11_take : MethodName := ⟨RX11, "take", "()Z"⟩
abbrev cX11_rounds : ByteArray := prog_1_method_25_code
def yX11_rounds : MethodName := ⟨RX11, "rounds", "(I)I"⟩
abbrev cX11_has : ByteArray := prog_1_method_26_code
def yX11_has : MethodName := ⟨RX11, "has", "(I)I"⟩
abbrev cX11_price : ByteArray := prog_1_method_27_code
def yX11_price : MethodName := ⟨RX11, "price", "(I)I"⟩
abbrev cX11_leaks : ByteArray := prog_1_method_28_code
def yX11_leaks : MethodName := ⟨RX11, "leaks", "()I"⟩
abbrev cX11_leak : ByteArray := prog_1_method_29_code
def yX11_leak : MethodName := ⟨RX11, "leak", "(II)I"⟩
abbrev cX11_wettest : ByteArray := prog_1_method_30_code
def yX11_wettest : MethodName := ⟨RX11, "wettest", "(I)I"⟩
abbrev cX11_enough : ByteArray := prog_1_method_31_code
def yX11_enough : MethodName := ⟨RX11, "enough", "(I)I"⟩
abbrev cX11_mostGain : ByteArray := prog_1_method_32_code
def yX11_mostGain : MethodName := ⟨RX11, "mostGain", "(II)I"⟩
abbrev cX11_shoresOf : ByteArray := prog_1_method_33_code
def yX11_shoresOf : MethodName := ⟨RX11, "shoresOf", "()I"⟩
abbrev cX11_tryYear : ByteArray := prog_1_method_34_code
def yX11_tryYear : MethodName := ⟨RX11, "tryYear", "(LRentRiver$Plain;)V"⟩
abbrev cX11_thirsty : ByteArray := prog_1_method_35_code
def yX11_thirsty : MethodName := ⟨RX11, "thirsty", "()I"⟩
abbrev cX11_bidsOf : ByteArray := prog_1_method_36_code
def yX11_bidsOf : MethodName := ⟨RX11, "bidsOf", "(I)I"⟩
abbrev cX11_greatest : ByteArray := prog_1_method_37_code
def yX11_greatest : MethodName := ⟨RX11, "greatest", "(I)I"⟩
abbrev cX11_write : ByteArray := prog_1_method_38_code
def yX11_write : MethodName := ⟨RX11, "write", "()I"⟩
abbrev cX11_putByte : ByteArray := prog_1_method_39_code
def yX11_putByte : MethodName := ⟨RX11, "putByte", "(I)V"⟩
abbrev cX11_putNumber : ByteArray := prog_1_method_40_code
def yX11_putNumber : MethodName := ⟨RX11, "putNumber", "(I)V"⟩
abbrev cX11_putTenant : ByteArray := prog_1_method_41_code
def yX11_putTenant : MethodName := ⟨RX11, "putTenant", "(I)V"⟩
abbrev cX11_byteAt : ByteArray := prog_1_method_42_code
def yX11_byteAt : MethodName := ⟨RX11, "byteAt", "(I)I"⟩
abbrev cX11_worth : ByteArray := prog_1_method_43_code
def yX11_worth : MethodName := ⟨RX11, "worth", "(I)I"⟩
abbrev cX11_drawn : ByteArray := prog_1_method_44_code
def yX11_drawn : MethodName := ⟨RX11, "drawn", "(I)I"⟩
abbrev cX11_shores : ByteArray := prog_1_method_45_code
def yX11_shores : MethodName := ⟨RX11, "shores", "(III)I"⟩
abbrev cX11_must : ByteArray := prog_1_method_46_code
def yX11_must : MethodName := ⟨RX11, "must", "(II)I"⟩
abbrev cX11_sentence : ByteArray := prog_1_method_47_code
def yX11_sentence : MethodName := ⟨RX11, "sentence", "()I"⟩
abbrev cX11_said : ByteArray := prog_1_method_48_code
def yX11_said : MethodName := ⟨RX11, "said", "(I)I"⟩
abbrev cX11_image : ByteArray := prog_1_method_49_code
def yX11_image : MethodName := ⟨RX11, "image", "(I)Z"⟩
abbrev cX11_restore : ByteArray := prog_1_method_50_code
def yX11_restore : MethodName := ⟨RX11, "restore", "(I)Z"⟩
abbrev cX11_count : ByteArray := prog_1_method_51_code
def yX11_count : MethodName := ⟨RX11, "count", "(I)I"⟩
def RX12 : String := "RentRiverModel"
def TX12 : u_T := fun k => match k with
  | 0 => ("RentRiverModel", "thrown", "I", false)
  | 1 => ("RentRiverModel", "tape", "[B", true)
  | 2 => ("RentRiverModel", "length", "I", false)
  | 3 => ("RentRiverModel", "size", "I", false)
  | 4 => ("RentRiverModel", "p", "I", false)
  | 5 => ("RentRiverModel", "limit", "I", false)
  | 6 => ("RentRiverModel", "s", "[I", true)
  | 7 => ("RentRiverModel", "h", "[I", true)
  | 8 => ("RentRiverModel", "read", "[I", true)
  | 9 => ("RentRiverModel", "names", "[J", true)
  | 10 => ("RentRiverModel", "reserved", "[J", true)
  | 11 => ("RentRiverModel", "token", "I", false)
  | 12 => ("RentRiverModel", "at", "I", false)
  | 13 => ("RentRiverModel", "span", "I", false)
  | 14 => ("RentRiverModel", "number", "I", false)
  | 15 => ("RentRiverModel", "fault", "I", false)
  | 16 => ("RentRiverModel", "faultAt", "I", false)
  | 17 => ("RentRiverModel", "word", "J", false)
  | 18 => ("RentRiverModel", "got", "I", false)
  | 19 => ("RentRiverModel", "rows", "I", false)
  | 20 => ("RentRiverModel", "onces", "I", false)
  | 21 => ("RentRiverModel", "bids", "I", false)
  | 22 => ("RentRiverModel", "rain", "I", false)
  | 23 => ("RentRiverModel", "had", "[I", true)
  | 24 => ("RentRiverModel", "of0", "I", false)
  | 25 => ("RentRiverModel", "plainNumber", "I", false)
  | 26 => ("RentRiverModel", "plainsRead", "I", false)
  | 27 => ("RentRiverModel", "undone", "[I", true)
  | 28 => ("RentRiverModel", "undoMany", "I", false)
  | 29 => ("RentRiverModel", "lies", "I", false)
  | 30 => ("RentRiverModel", "other", "I", false)
  | 31 => ("RentRiverModel", "paid", "I", false)
  | 32 => ("RentRiverModel", "leakTown", "I", false)
  | 33 => ("RentRiverModel", "leakMonth", "I", false)
  | 34 => ("RentRiverModel", "leakMuch", "I", false)
  | 35 => ("RentRiverModel", "tried", "[I", true)
  | 36 => ("RentRiverModel", "costs", "[I", true)
  | 37 => ("RentRiverModel", "havings", "[I", true)
  | 38 => ("RentRiverModel", "plan", "[I", true)
  | 39 => ("RentRiverModel", "hasPlan", "Z", false)
  | 40 => ("RentRiverModel", "planNumber", "I", false)
  | 41 => ("RentRiverModel", "hasMonth", "[I", true)
  | 42 => ("RentRiverModel", "prices", "[I", true)
  | 43 => ("RentRiverModel", "roundTowns", "I", false)
  | 44 => ("RentRiverModel", "hasRounds", "Z", false)
  | 45 => ("RentRiverModel", "before", "[I", true)
  | 46 => ("RentRiverModel", "bidsKept", "[I", true)
  | 47 => ("RentRiverModel", "seed", "I", false)
  | 48 => ("RentRiverModel", "leaksFound", "[I", true)
  | 49 => ("RentRiverModel", "leakMany", "I", false)
  | 50 => ("RentRiverModel", "text", "[B", true)
  | 51 => ("RentRiverModel", "textMany", "I", false)
  | 52 => ("RentRiverModel", "stack", "[I", true)
  | 53 => ("RentRiverModel", "codes", "I", false)
  | 54 => ("RentRiverModel", "ones", "I", false)
  | 55 => ("RentRiverModel", "top", "I", false)
  | 56 => ("RentRiverModel", "deep", "I", false)
  | 57 => ("RentRiverModel", "isWhole", "Z", false)
  | 58 => ("RentRiverModel", "values", "[Z", true)
  | 59 => ("RentRiverModel", "kept", "[I", true)
  | 60 => ("RentRiverModel", "namesKept", "[J", true)
  | _ => ("RentRiverModel", "isKept", "[Z", true)
def tyX12 : Nat → FieldType := fun k => match k with
  | 0 => .int
  | 1 => .array .byte
  | 2 => .int
  | 3 => .int
  | 4 => .int
  | 5 => .int
  | 6 => .array .int
  | 7 => .array .int
  | 8 => .array .int
  | 9 => .array .long
  | 10 => .array .long
  | 11 => .int
  | 12 => .int
  | 13 => .int
  | 14 => .int
  | 15 => .int
  | 16 => .int
  | 17 => .long
  | 18 => .int
  | 19 => .int
  | 20 => .int
  | 21 => .int
  | 22 => .int
  | 23 => .array .int
  | 24 => .int
  | 25 => .int
  | 26 => .int
  | 27 => .array .int
  | 28 => .int
  | 29 => .int
  | 30 => .int
  | 31 => .int
  | 32 => .int
  | 33 => .int
  | 34 => .int
  | 35 => .array .int
  | 36 => .array .int
  | 37 => .array .int
  | 38 => .array .int
  | 39 => .boolean
  | 40 => .int
  | 41 => .array .int
  | 42 => .array .int
  | 43 => .int
  | 44 => .boolean
  | 45 => .array .int
  | 46 => .array .int
  | 47 => .int
  | 48 => .array .int
  | 49 => .int
  | 50 => .array .byte
  | 51 => .int
  | 52 => .array .int
  | 53 => .int
  | 54 => .int
  | 55 => .int
  | 56 => .int
  | 57 => .boolean
  | 58 => .array .boolean
  | 59 => .array .int
  | 60 => .array .long
  | _ => .array .boolean
abbrev wsX120 : List Cond := u_ws RX12 TX12 62
theorem nmX12 : ∀ a, a < 62 → ∀ b, b < 62 → a ≠ b → (TX12 a).2.1 ≠ (TX12 b).2.1 := by decide +kernel
theorem tyX12_ok : ∀ k, k < 62 → parseFieldDescriptor (TX12 k).2.2.1 = some (tyX12 k) := by decide +kernel
abbrev cX12_thrown : ByteArray := prog_14_method_1_code
def yX12_thrown : MethodName := ⟨RX12, "thrown", "()I"⟩
abbrev cX12_throwsIf : ByteArray := prog_14_method_2_code
def yX12_throwsIf : MethodName := ⟨RX12, "throwsIf", "(Z)Z"⟩
abbrev cX12_feed : ByteArray := prog_14_method_3_code
def yX12_feed : MethodName := ⟨RX12, "feed", "(IIIII)I"⟩
abbrev cX12_four : ByteArray := prog_14_method_4_code
def yX12_four : MethodName := ⟨RX12, "four", "(I)V"⟩
abbrev cX12_end : ByteArray := prog_14_method_5_code
def yX12_end : MethodName := ⟨RX12, "end", "(I)Z"⟩
abbrev cX12_taken : ByteArray := prog_14_method_6_code
def yX12_taken : MethodName := ⟨RX12, "taken", "(I)V"⟩
abbrev cX12_isIn : ByteArray := prog_14_method_7_code
def yX12_isIn : MethodName := ⟨RX12, "isIn", "(III)Z"⟩
abbrev cX12_bitOf : ByteArray := prog_14_method_8_code
def yX12_bitOf : MethodName := ⟨RX12, "bitOf", "(II)Z"⟩
abbrev cX12_octet : ByteArray := prog_14_method_9_code
def yX12_octet : MethodName := ⟨RX12, "octet", "(I)I"⟩
abbrev cX12_init : ByteArray := prog_14_method_10_code
def yX12_init : MethodName := ⟨RX12, "<init>", "()V"⟩
abbrev cX12_peek : ByteArray := prog_14_method_11_code
def yX12_peek : MethodName := ⟨RX12, "peek", "()I"⟩
abbrev cX12_isSmall : ByteArray := prog_14_method_12_code
def yX12_isSmall : MethodName := ⟨RX12, "isSmall", "(I)Z"⟩
abbrev cX12_isDigit : ByteArray := prog_14_method_13_code
def yX12_isDigit : MethodName := ⟨RX12, "isDigit", "(I)Z"⟩
abbrev cX12_next : ByteArray := prog_14_method_14_code
def yX12_next : MethodName := ⟨RX12, "next", "()V"⟩
abbrev cX12_bad : ByteArray := prog_14_method_15_code
def yX12_bad : MethodName := ⟨RX12, "bad", "(I)Z"⟩
abbrev cX12_isWord : ByteArray := prog_14_method_16_code
def yX12_isWord : MethodName := ⟨RX12, "isWord", "(J)Z"⟩
abbrev cX12_isSign : ByteArray := prog_14_method_17_code
def yX12_isSign : MethodName := ⟨RX12, "isSign", "(I)Z"⟩
abbrev cX12_sign : ByteArray := prog_14_method_18_code
def yX12_sign : MethodName := ⟨RX12, "sign", "(I)Z"⟩
abbrev cX12_isName : ByteArray := prog_14_method_19_code
def yX12_isName : MethodName := ⟨RX12, "isName", "()Z"⟩
abbrev cX12_takes : ByteArray := prog_14_method_20_code
def yX12_takes : MethodName := ⟨RX12, "takes", "(II)Z"⟩
abbrev cX12_find : ByteArray := prog_14_method_21_code
def yX12_find : MethodName := ⟨RX12, "find", "(II)I"⟩
abbrev cX12_row : ByteArray := prog_14_method_22_code
def yX12_row : MethodName := ⟨RX12, "row", "()Z"⟩
abbrev cX12_readTown : ByteArray := prog_14_method_23_code
def yX12_readTown : MethodName := ⟨RX12, "readTown", "()Z"⟩
abbrev cX12_readBid : ByteArray := prog_14_method_24_code
def yX12_readBid : MethodName := ⟨RX12, "readBid", "()Z"⟩
abbrev cX12_readOf : ByteArray := prog_14_method_25_code
def yX12_readOf : MethodName := ⟨RX12, "readOf", "(III)Z"⟩
abbrev cX12_plain : ByteArray := prog_14_method_26_code
def yX12_plain : MethodName := ⟨RX12, "plain", "()I"⟩
abbrev cX12_fault : ByteArray := prog_14_method_27_code
def yX12_fault : MethodName := ⟨RX12, "fault", "()I"⟩
abbrev cX12_isTown : ByteArray := prog_14_method_28_code
def yX12_isTown : MethodName := ⟨RX12, "isTown", "(I)Z"⟩
abbrev cX12_isMonth : ByteArray := prog_14_method_29_code
def yX12_isMonth : MethodName := ⟨RX12, "isMonth", "(I)Z"⟩
abbrev cX12_toldOf : ByteArray := prog_14_method_30_code
def yX12_toldOf : MethodName := ⟨RX12, "toldOf", "(II)I"⟩
abbrev cX12_bidOf : ByteArray := prog_14_method_31_code
def yX12_bidOf : MethodName := ⟨RX12, "bidOf", "(II)I"⟩
abbrev cX12_told : ByteArray := prog_14_method_32_code
def yX12_told : MethodName := ⟨RX12, "told", "(II)I"⟩
abbrev cX12_bid : ByteArray := prog_14_method_33_code
def yX12_bid : MethodName := ⟨RX12, "bid", "(II)I"⟩
abbrev cX12_water : ByteArray := prog_14_method_34_code
def yX12_water : MethodName := ⟨RX12, "water", "(I)I"⟩
abbrev cX12_bidMany : ByteArray := prog_14_method_35_code
def yX12_bidMany : MethodName := ⟨RX12, "bidMany", "()I"⟩
abbrev cX12_offer : ByteArray := prog_14_method_36_code
def yX12_offer : MethodName := ⟨RX12, "offer", "(III)Z"⟩
abbrev cX12_undo : ByteArray := prog_14_method_37_code
def yX12_undo : MethodName := ⟨RX12, "undo", "()I"⟩
abbrev cX12_dealRow : ByteArray := prog_14_method_38_code
def yX12_dealRow : MethodName := ⟨RX12, "dealRow", "()Z"⟩
abbrev cX12_contracts : ByteArray := prog_14_method_39_code
def yX12_contracts : MethodName := ⟨RX12, "contracts", "()I"⟩
abbrev cX12_contract : ByteArray := prog_14_method_40_code
def yX12_contract : MethodName := ⟨RX12, "contract", "(II)I"⟩
abbrev cX12_begins : ByteArray := prog_14_method_41_code
def yX12_begins : MethodName := ⟨RX12, "begins", "()V"⟩
abbrev cX12_of : ByteArray := prog_14_method_42_code
def yX12_of : MethodName := ⟨RX12, "of", "(II)I"⟩
abbrev cX12_more : ByteArray := prog_14_method_43_code
def yX12_more : MethodName := ⟨RX12, "more", "(III)V"⟩
abbrev cX12_canPay : ByteArray := prog_14_method_44_code
def yX12_canPay : MethodName := ⟨RX12, "canPay", "(II)Z"⟩
abbrev cX12_pays : ByteArray := prog_14_method_45_code
def yX12_pays : MethodName := ⟨RX12, "pays", "(II)V"⟩
abbrev cX12_lets : ByteArray := prog_14_method_46_code
def yX12_lets : MethodName := ⟨RX12, "lets", "(I)V"⟩
abbrev cX12_placeOf : ByteArray := prog_14_method_47_code
def yX12_placeOf : MethodName := ⟨RX12, "placeOf", "(I)I"⟩
abbrev cX12_sizeOf : ByteArray := prog_14_method_48_code
def yX12_sizeOf : MethodName := ⟨RX12, "sizeOf", "(I)I"⟩
abbrev cX12_comes : ByteArray := prog_14_method_49_code
def yX12_comes : MethodName := ⟨RX12, "comes", "(II)V"⟩
abbrev cX12_wasLet : ByteArray := prog_14_method_50_code
def yX12_wasLet : MethodName := ⟨RX12, "wasLet", "(II)Z"⟩
abbrev cX12_month : ByteArray := prog_14_method_51_code
def yX12_month : MethodName := ⟨RX12, "month", "(I)V"⟩
abbrev cX12_uses : ByteArray := prog_14_method_52_code
def yX12_uses : MethodName := ⟨RX12, "uses", "(I)V"⟩
abbrev cX12_begin : ByteArray := prog_14_method_53_code
def yX12_begin : MethodName := ⟨RX12, "begin", "()Z"⟩
abbrev cX12_on : ByteArray := prog_14_method_54_code
def yX12_on : MethodName := ⟨RX12, "on", "(I)I"⟩
abbrev cX12_year : ByteArray := prog_14_method_55_code
def yX12_year : MethodName := ⟨RX12, "year", "(I)I"⟩
abbrev cX12_town : ByteArray := prog_14_method_56_code
def yX12_town : MethodName := ⟨RX12, "town", "(II)I"⟩
abbrev cX12_let : ByteArray := prog_14_method_57_code
def yX12_let : MethodName := ⟨RX12, "let", "(II)I"⟩
abbrev cX12_droughts : ByteArray := prog_14_method_58_code
def yX12_droughts : MethodName := ⟨RX12, "droughts", "()I"⟩
abbrev cX12_costOf : ByteArray := prog_14_method_59_code
def yX12_costOf : MethodName := ⟨RX12, "costOf", "(II)I"⟩
abbrev cX12_gains : ByteArray := prog_14_method_60_code
def yX12_gains : MethodName := ⟨RX12, "gains", "(II)I"⟩
abbrev cX12_canBe : ByteArray := prog_14_method_61_code
def yX12_canBe : MethodName := ⟨RX12, "canBe", "(I)Z"⟩
abbrev cX12_cheapest : ByteArray := prog_14_method_62_code
def yX12_cheapest : MethodName := ⟨RX12, "cheapest", "()I"⟩
abbrev cX12_plan : ByteArray := prog_14_method_63_code
def yX12_plan : MethodName := ⟨RX12, "plan", "(I)I"⟩
abbrev cX12_take : ByteArray := prog_14_method_64_code
def yX12_take : MethodName := ⟨RX12, "take", "()Z"⟩
abbrev cX12_holderOf : ByteArray := prog_14_method_65_code
def yX12_holderOf : MethodName := ⟨RX12, "holderOf", "(I)I"⟩
abbrev cX12_rounds : ByteArray := prog_14_method_66_code
def yX12_rounds : MethodName := ⟨RX12, "rounds", "(I)I"⟩
abbrev cX12_has : ByteArray := prog_14_method_67_code
def yX12_has : MethodName := ⟨RX12, "has", "(I)I"⟩
abbrev cX12_price : ByteArray := prog_14_method_68_code
def yX12_price : MethodName := ⟨RX12, "price", "(I)I"⟩
abbrev cX12_thinks : ByteArray := prog_14_method_69_code
def yX12_thinks : MethodName := ⟨RX12, "thinks", "()V"⟩
abbrev cX12_forgets : ByteArray := prog_14_method_70_code
def yX12_forgets : MethodName := ⟨RX12, "forgets", "()V"⟩
abbrev cX12_wholeYear : ByteArray := prog_14_method_71_code
def yX12_wholeYear : MethodName := ⟨RX12, "wholeYear", "(Z)V"⟩
abbrev cX12_draw : ByteArray := prog_14_method_72_code
def yX12_draw : MethodName := ⟨RX12, "draw", "(I)I"⟩
abbrev cX12_areLevels : ByteArray := prog_14_method_73_code
def yX12_areLevels : MethodName := ⟨RX12, "areLevels", "(I)Z"⟩
abbrev cX12_leaks : ByteArray := prog_14_method_74_code
def yX12_leaks : MethodName := ⟨RX12, "leaks", "()I"⟩
abbrev cX12_leak : ByteArray := prog_14_method_75_code
def yX12_leak : MethodName := ⟨RX12, "leak", "(II)I"⟩
abbrev cX12_wettest : ByteArray := prog_14_method_76_code
def yX12_wettest : MethodName := ⟨RX12, "wettest", "(I)I"⟩
abbrev cX12_enough : ByteArray := prog_14_method_77_code
def yX12_enough : MethodName := ⟨RX12, "enough", "(I)I"⟩
abbrev cX12_shoresOf : ByteArray := prog_14_method_78_code
def yX12_shoresOf : MethodName := ⟨RX12, "shoresOf", "()I"⟩
abbrev cX12_thirsty : ByteArray := prog_14_method_79_code
def yX12_thirsty : MethodName := ⟨RX12, "thirsty", "()I"⟩
abbrev cX12_bidsOf : ByteArray := prog_14_method_80_code
def yX12_bidsOf : MethodName := ⟨RX12, "bidsOf", "(I)I"⟩
abbrev cX12_greatest : ByteArray := prog_14_method_81_code
def yX12_greatest : MethodName := ⟨RX12, "greatest", "(I)I"⟩
abbrev cX12_put : ByteArray := prog_14_method_82_code
def yX12_put : MethodName := ⟨RX12, "put", "(I)V"⟩
abbrev cX12_putNumber : ByteArray := prog_14_method_83_code
def yX12_putNumber : MethodName := ⟨RX12, "putNumber", "(I)V"⟩
abbrev cX12_putName : ByteArray := prog_14_method_84_code
def yX12_putName : MethodName := ⟨RX12, "putName", "(J)V"⟩
abbrev cX12_write : ByteArray := prog_14_method_85_code
def yX12_write : MethodName := ⟨RX12, "write", "()I"⟩
abbrev cX12_byteAt : ByteArray := prog_14_method_86_code
def yX12_byteAt : MethodName := ⟨RX12, "byteAt", "(I)I"⟩
abbrev cX12_worth : ByteArray := prog_14_method_87_code
def yX12_worth : MethodName := ⟨RX12, "worth", "(I)I"⟩
abbrev cX12_drawn : ByteArray := prog_14_method_88_code
def yX12_drawn : MethodName := ⟨RX12, "drawn", "(I)I"⟩
abbrev cX12_shores : ByteArray := prog_14_method_89_code
def yX12_shores : MethodName := ⟨RX12, "shores", "(III)I"⟩
abbrev cX12_must : ByteArray := prog_14_method_90_code
def yX12_must : MethodName := ⟨RX12, "must", "(II)I"⟩
abbrev cX12_code : ByteArray := prog_14_method_91_code
def yX12_code : MethodName := ⟨RX12, "code", "(III)V"⟩
abbrev cX12_joins : ByteArray := prog_14_method_92_code
def yX12_joins : MethodName := ⟨RX12, "joins", "(I)V"⟩
abbrev cX12_nots : ByteArray := prog_14_method_93_code
def yX12_nots : MethodName := ⟨RX12, "nots", "()V"⟩
abbrev cX12_leafOf : ByteArray := prog_14_method_94_code
def yX12_leafOf : MethodName := ⟨RX12, "leafOf", "()I"⟩
abbrev cX12_operand : ByteArray := prog_14_method_95_code
def yX12_operand : MethodName := ⟨RX12, "operand", "()Z"⟩
abbrev cX12_behind : ByteArray := prog_14_method_96_code
def yX12_behind : MethodName := ⟨RX12, "behind", "()Z"⟩
abbrev cX12_sentence : ByteArray := prog_14_method_97_code
def yX12_sentence : MethodName := ⟨RX12, "sentence", "()I"⟩
abbrev cX12_isLeaf : ByteArray := prog_14_method_98_code
def yX12_isLeaf : MethodName := ⟨RX12, "isLeaf", "(IIII)Z"⟩
abbrev cX12_isSaid : ByteArray := prog_14_method_99_code
def yX12_isSaid : MethodName := ⟨RX12, "isSaid", "(I)Z"⟩
abbrev cX12_said : ByteArray := prog_14_method_100_code
def yX12_said : MethodName := ⟨RX12, "said", "(I)I"⟩
abbrev cX12_image : ByteArray := prog_14_method_101_code
def yX12_image : MethodName := ⟨RX12, "image", "(I)Z"⟩
abbrev cX12_restore : ByteArray := prog_14_method_102_code
def yX12_restore : MethodName := ⟨RX12, "restore", "(I)Z"⟩
abbrev cX12_count : ByteArray := prog_14_method_103_code
def yX12_count : MethodName := ⟨RX12, "count", "(I)I"⟩
def RJx145de : String := "java/io/Serializable"
def TJx145de : u_T := fun k => match k with
  | _ => ("", "", "", false)
def tyJx145de : Nat → FieldType := fun k => match k with
  | _ => .int
abbrev wsJx145de0 : List Cond := u_ws RJx145de TJx145de 0
theorem nmJx145de : ∀ a, a < 0 → ∀ b, b < 0 → a ≠ b → (TJx145de a).2.1 ≠ (TJx145de b).2.1 := by decide +kernel
theorem tyJx145de_ok : ∀ k, k < 0 → parseFieldDescriptor (TJx145de k).2.2.1 = some (tyJx145de k) := by decide +kernel
def RJx29ce0 : String := "java/lang/Enum"
def TJx29ce0 : u_T := fun k => match k with
  | _ => ("", "", "", false)
def tyJx29ce0 : Nat → FieldType := fun k => match k with
  | _ => .int
abbrev wsJx29ce00 : List Cond := u_ws RJx29ce0 TJx29ce0 0
theorem nmJx29ce0 : ∀ a, a < 0 → ∀ b, b < 0 → a ≠ b → (TJx29ce0 a).2.1 ≠ (TJx29ce0 b).2.1 := by decide +kernel
theorem tyJx29ce0_ok : ∀ k, k < 0 → parseFieldDescriptor (TJx29ce0 k).2.2.1 = some (tyJx29ce0 k) := by decide +kernel
def RJ9 : String := "java/lang/Math"
def TJ9 : u_T := fun k => match k with
  | _ => ("", "", "", false)
def tyJ9 : Nat → FieldType := fun k => match k with
  | _ => .int
abbrev wsJ90 : List Cond := u_ws RJ9 TJ9 0
theorem nmJ9 : ∀ a, a < 0 → ∀ b, b < 0 → a ≠ b → (TJ9 a).2.1 ≠ (TJ9 b).2.1 := by decide +kernel
theorem tyJ9_ok : ∀ k, k < 0 → parseFieldDescriptor (TJ9 k).2.2.1 = some (tyJ9 k) := by decide +kernel
abbrev cJ9_abs_0f7a4 : ByteArray := prog_18_method_59_code
def yJ9_abs_0f7a4 : MethodName := ⟨RJ9, "abs", "(I)I"⟩
abbrev cJ9_max_7cf53 : ByteArray := prog_18_method_65_code
def yJ9_max_7cf53 : MethodName := ⟨RJ9, "max", "(II)I"⟩
abbrev cJ9_min_7cf53 : ByteArray := prog_18_method_69_code
def yJ9_min_7cf53 : MethodName := ⟨RJ9, "min", "(II)I"⟩
def RJ0 : String := "java/lang/String"
def TJ0 : u_T := fun k => match k with
  | _ => ("", "", "", false)
def tyJ0 : Nat → FieldType := fun k => match k with
  | _ => .int
abbrev wsJ00 : List Cond := u_ws RJ0 TJ0 0
theorem nmJ0 : ∀ a, a < 0 → ∀ b, b < 0 → a ≠ b → (TJ0 a).2.1 ≠ (TJ0 b).2.1 := by decide +kernel
theorem tyJ0_ok : ∀ k, k < 0 → parseFieldDescriptor (TJ0 k).2.2.1 = some (tyJ0 k) := by decide +kernel
def RJ10 : String := "java/lang/System"
def TJ10 : u_T := fun k => match k with
  | _ => ("", "", "", false)
def tyJ10 : Nat → FieldType := fun k => match k with
  | _ => .int
abbrev wsJ100 : List Cond := u_ws RJ10 TJ10 0
theorem nmJ10 : ∀ a, a < 0 → ∀ b, b < 0 → a ≠ b → (TJ10 a).2.1 ≠ (TJ10 b).2.1 := by decide +kernel
theorem tyJ10_ok : ∀ k, k < 0 → parseFieldDescriptor (TJ10 k).2.2.1 = some (tyJ10 k) := by decide +kernel
def RL : String := "RentRiverLaw"
abbrev cL_told : ByteArray := method_3_code
def yL_told : MethodName := ⟨RL, "told", "(LRentRiver;II[J)I"⟩
abbrev cL_law : ByteArray := code
def yL_law : MethodName := ⟨RL, "law", "([I)Z"⟩
abbrev vwCl : List vw_C := [(RX0, TX0, 19), (RX1, TX1, 4), (RX2, TX2, 8), (RX3, TX3, 15), (RX4, TX4, 4), (RX5, TX5, 6), (RX6, TX6, 4), (RX7, TX7, 12), (RX8, TX8, 4), (RX10, TX10, 15), (RX11, TX11, 14), (RX12, TX12, 62)]
end
section
/-! ===== the words of the tables that go over to a callee ===== -/
def mj_tb : List Cond := lw_tbl.filter goodWord
theorem mj_tb_good : GoodIn lw_tbl mj_tb := fun w h => ⟨(List.mem_filter.mp h).1, good_of_word (List.mem_filter.mp h).2⟩
theorem mj_tb_in {i : Nat} {w : Cond} (h : lw_tbl[i]? = some w) (hg : goodWord w = true) : w ∈ mj_tb := List.mem_filter.mpr ⟨List.mem_of_getElem? h, hg⟩
theorem mj_lay0 : ∀ w ∈ u_ws RX0 TX0 19, w ∈ mj_tb := by decide +kernel
theorem mj_lay1 : ∀ w ∈ u_ws RX1 TX1 4, w ∈ mj_tb := by decide +kernel
theorem mj_lay2 : ∀ w ∈ u_ws RX2 TX2 8, w ∈ mj_tb := by decide +kernel
theorem mj_lay3 : ∀ w ∈ u_ws RX3 TX3 15, w ∈ mj_tb := by decide +kernel
theorem mj_lay4 : ∀ w ∈ u_ws RX4 TX4 4, w ∈ mj_tb := by decide +kernel
theorem mj_lay5 : ∀ w ∈ u_ws RX5 TX5 6, w ∈ mj_tb := by decide +kernel
theorem mj_lay6 : ∀ w ∈ u_ws RX6 TX6 4, w ∈ mj_tb := by decide +kernel
theorem mj_lay7 : ∀ w ∈ u_ws RX7 TX7 12, w ∈ mj_tb := by decide +kernel
theorem mj_lay8 : ∀ w ∈ u_ws RX8 TX8 4, w ∈ mj_tb := by decide +kernel
theorem mj_lay9 : ∀ w ∈ u_ws RX10 TX10 15, w ∈ mj_tb := by decide +kernel
theorem mj_lay10 : ∀ w ∈ u_ws RX11 TX11 14, w ∈ mj_tb := by decide +kernel
theorem mj_lay11 : ∀ w ∈ u_ws RX12 TX12 62, w ∈ mj_tb := by decide +kernel
end
section
/-! ===== a small machine over a flat memory: values, memory, heap typing, what a method's code needs ===== -/
abbrev mj_V : Type := Int ⊕ (Int64 ⊕ Option Nat)
abbrev mj_M : Type := (Nat → Nat → Int) × (Nat → Nat → Int64) × (Nat → Nat → Option Nat)
abbrev mj_G : Type := Nat → Nat × Nat
/-- an instruction, its pc, what its pool entry or its target is, a number -/
abbrev mj_E : Type := Instr × Nat × List Nat × Int
abbrev mj_P : Type := Option mj_V → mj_G → mj_M → Prop
abbrev mj_C : Type := Nat → List mj_V → mj_G → mj_M → mj_P → Prop
abbrev mj_L : Type := List (Option mj_V)
def mj_in (z : Int) : Prop := -2147483648 ≤ z ∧ z < 2147483648
def mj_val : mj_V → Value
  | .inl z => .int (Int32.ofInt z)
  | .inr (.inl w) => .long w
  | .inr (.inr r) => va_rf r
def mj_ok : mj_V → Prop
  | .inl z => mj_in z
  | .inr _ => True
/-- what a slot of a sort holds: 0 an int, 1 a long, else a reference -/
def mj_sv (so : Nat) (M : mj_M) (a k : Nat) : Value := match so with
  | 0 => .int (Int32.ofInt (M.1 a k))
  | 1 => .long (M.2.1 a k)
  | _ => va_rf (M.2.2 a k)
def mj_fs (ty : FieldType) : Nat := match ty with
  | .long => 1
  | .object _ => 2
  | .array _ => 2
  | _ => 0
def mj_ty (ci k : Nat) : FieldType := match ci with
  | 0 => tyX0 k
  | 1 => tyX1 k
  | 2 => tyX2 k
  | 3 => tyX3 k
  | 4 => tyX4 k
  | 5 => tyX5 k
  | 6 => tyX6 k
  | 7 => tyX7 k
  | 8 => tyX8 k
  | 9 => tyX10 k
  | 10 => tyX11 k
  | _ => tyX12 k
def mj_so (ci k : Nat) : Nat := mj_fs (mj_ty ci k)
/-- the array types -/
def mj_at (j : Nat) : FieldType := match j with
  | 0 => .int
  | 1 => .byte
  | 2 => .boolean
  | 3 => .long
  | 4 => .array .int
  | 5 => .object "RentRiver$Word"
  | _ => .object "RentRiver$State"
def mj_as (j : Nat) : Nat := mj_fs (mj_at j)
def mj_p0 (M : mj_M) (a k : Nat) (z : Int) : mj_M := (fun x j => if x = a ∧ j = k then z else M.1 x j, M.2.1, M.2.2)
def mj_p1 (M : mj_M) (a k : Nat) (z : Int64) : mj_M := (M.1, fun x j => if x = a ∧ j = k then z else M.2.1 x j, M.2.2)
def mj_p2 (M : mj_M) (a k : Nat) (z : Option Nat) : mj_M := (M.1, M.2.1, fun x j => if x = a ∧ j = k then z else M.2.2 x j)
/-- a new cell at a -/
def mj_g (G : mj_G) (a t n : Nat) : mj_G := fun x => if x = a then (t, n) else G x
def mj_z (M : mj_M) (a : Nat) : mj_M := (fun x j => if x = a then 0 else M.1 x j, fun x j => if x = a then 0 else M.2.1 x j, fun x j => if x = a then none else M.2.2 x j)
/-- n rows behind a -/
def mj_gg (G : mj_G) (a t n t2 k : Nat) : mj_G := fun x => if x = a then (t, n) else if a < x ∧ x ≤ a + n then (t2, k) else G x
def mj_zz (M : mj_M) (a n : Nat) : mj_M := (fun x j => if a ≤ x ∧ x ≤ a + n then 0 else M.1 x j, fun x j => if a ≤ x ∧ x ≤ a + n then 0 else M.2.1 x j, fun x j => if x = a then (if j < n then some (a + 1 + j) else none) else if a ≤ x ∧ x ≤ a + n then none else M.2.2 x j)
def mj_nt : mj_L → Nat → Option mj_V
  | [], _ => none
  | x :: _, 0 => x
  | _ :: t, n + 1 => mj_nt t n
/-- a long that begins one place ahead is spoilt -/
def mj_kl (L : mj_L) (i : Nat) : mj_L := match i with
  | 0 => L
  | j + 1 => match mj_nt L j with
    | some (.inr (.inl _)) => L.set j none
    | _ => L
def mj_s1 (L : mj_L) (i : Nat) (v : mj_V) : mj_L := (mj_kl L i).set i (some v)
def mj_s2 (L : mj_L) (i : Nat) (v : mj_V) : mj_L := ((mj_kl L i).set i (some v)).set (i + 1) none
def mj_cat : List mj_V → Nat
  | [] => 0
  | .inr (.inl _) :: t => 2 + mj_cat t
  | _ :: t => 1 + mj_cat t
def mj_hd (l : List Nat) : Nat := match l with
  | [] => 0
  | x :: _ => x
def mj_h1 (l : List Nat) : Nat := match l with
  | _ :: x :: _ => x
  | _ => 0
def mj_h2 (l : List Nat) : Nat := match l with
  | _ :: _ :: x :: _ => x
  | _ => 0
-- the rows of the machine, each with what goes on behind it
def mj_ldi (L : mj_L) (i : Nat) (k : mj_V → Prop) : Prop := match mj_nt L i with
  | some (.inl z) => k (.inl z)
  | _ => False
def mj_ldl (L : mj_L) (i : Nat) (k : mj_V → Prop) : Prop := match mj_nt L i with
  | some (.inr (.inl z)) => k (.inr (.inl z))
  | _ => False
def mj_lda (L : mj_L) (i : Nat) (k : mj_V → Prop) : Prop := match mj_nt L i with
  | some (.inr (.inr z)) => k (.inr (.inr z))
  | _ => False
def mj_i1 (st : List mj_V) (k : Int → List mj_V → Prop) : Prop := match st with
  | .inl x :: t => k x t
  | _ => False
def mj_l1 (st : List mj_V) (k : Int64 → List mj_V → Prop) : Prop := match st with
  | .inr (.inl x) :: t => k x t
  | _ => False
def mj_r1 (st : List mj_V) (k : Option Nat → List mj_V → Prop) : Prop := match st with
  | .inr (.inr x) :: t => k x t
  | _ => False
def mj_a1 (st : List mj_V) (k : Nat → List mj_V → Prop) : Prop := match st with
  | .inr (.inr (some x)) :: t => k x t
  | _ => False
/-- a value of category one on top -/
def mj_c1 (st : List mj_V) (k : mj_V → List mj_V → Prop) : Prop := match st with
  | .inl x :: t => k (.inl x) t
  | .inr (.inr x) :: t => k (.inr (.inr x)) t
  | _ => False
def mj_bin (f : Int → Int → Int) (st : List mj_V) (g : Int32 → Int32 → Int32) (k : List mj_V → Prop) : Prop := mj_i1 st fun y st => mj_i1 st fun x st => (mj_in (f x y) ∧ k (.inl (f x y) :: st)) ∨ ∀ z, mj_in z → z = (g (Int32.ofInt x) (Int32.ofInt y)).toInt → k (.inl z :: st)
def mj_op (st : List mj_V) (g : Int32 → Int32 → Int32) (k : List mj_V → Prop) : Prop := mj_i1 st fun y st => mj_i1 st fun x st => ∀ z, mj_in z → z = (g (Int32.ofInt x) (Int32.ofInt y)).toInt → k (.inl z :: st)
def mj_un (st : List mj_V) (g : Int32 → Int32) (k : List mj_V → Prop) : Prop := mj_i1 st fun x st => ∀ z, mj_in z → z = (g (Int32.ofInt x)).toInt → k (.inl z :: st)
def mj_cc (c : ClassFile.Cond) (x y : Int) : Prop := match c with
  | .eq => x = y
  | .ne => x ≠ y
  | .lt => x < y
  | .ge => y ≤ x
  | .gt => y < x
  | .le => x ≤ y
def mj_br (c : Prop) (a b : Prop) : Prop := (c → a) ∧ (¬ c → b)
def mj_rf (r : Option Nat) (k : mj_V → Prop) : Prop := (∀ b, r = some b → k (.inr (.inr (some b)))) ∧ (r = none → k (.inr (.inr none)))
def mj_is (G : mj_G) (a s : Nat) (k : Nat → Nat → Prop) : Prop := ∃ t n, G a = (t, n) ∧ t % 1000 = s ∧ k t n
/-- a cell that may be written -/
def mj_iw (G : mj_G) (a s : Nat) (k : Nat → Nat → Prop) : Prop := ∃ t n, G a = (t, n) ∧ t % 1000 = s ∧ t < 900000 ∧ k t n
def mj_get (ci fk : Nat) (st : List mj_V) (G : mj_G) (M : mj_M) (k : List mj_V → Prop) : Prop := mj_a1 st fun a st => mj_is G a (ci + 1) fun _ _ => match mj_so ci fk with
  | 0 => k (.inl (M.1 a fk) :: st)
  | 1 => k (.inr (.inl (M.2.1 a fk)) :: st)
  | _ => mj_rf (M.2.2 a fk) fun v => k (v :: st)
def mj_put (ci fk : Nat) (st : List mj_V) (G : mj_G) (M : mj_M) (k : List mj_V → mj_M → Prop) : Prop := match mj_so ci fk with
  | 0 => mj_i1 st fun z st => mj_a1 st fun a st => mj_iw G a (ci + 1) fun _ _ => (mj_ty ci fk = .boolean → z = 0 ∨ z = 1) ∧ k st (mj_p0 M a fk z)
  | 1 => mj_l1 st fun z st => mj_a1 st fun a st => mj_iw G a (ci + 1) fun _ _ => k st (mj_p1 M a fk z)
  | _ => mj_r1 st fun z st => mj_a1 st fun a st => mj_iw G a (ci + 1) fun _ _ => k st (mj_p2 M a fk z)
def mj_ald (j : Nat) (st : List mj_V) (G : mj_G) (k : Nat → Nat → List mj_V → Prop) : Prop := mj_i1 st fun i st => mj_a1 st fun a st => mj_is G a (100 + j) fun _ n => 0 ≤ i ∧ i < n ∧ k a i.toNat st
def mj_aldw (j : Nat) (st : List mj_V) (G : mj_G) (k : Nat → Nat → List mj_V → Prop) : Prop := mj_i1 st fun i st => mj_a1 st fun a st => mj_iw G a (100 + j) fun _ n => 0 ≤ i ∧ i < n ∧ k a i.toNat st
def mj_bald (st : List mj_V) (G : mj_G) (k : Nat → Nat → List mj_V → Prop) : Prop := mj_ald 1 st G k ∨ mj_ald 2 st G k
/-- the narrowing of an int that is kept as a byte -/
def mj_nb (z : Int) : Int := (Int32.ofInt z).toInt8.toInt32.toInt
def mj_new (G : mj_G) (M : mj_M) (t n : Nat) (k : Nat → mj_G → mj_M → Prop) : Prop := ∀ a, (∀ x, a ≤ x → G x = (0, 0)) → k a (mj_g G a t n) (mj_z M a)
/-- the first n values of the stack, the deepest first -/
def mj_pop : Nat → List mj_V → List mj_V → (List mj_V → List mj_V → Prop) → Prop
  | 0, acc, st, k => k acc st
  | _ + 1, _, [], _ => False
  | n + 1, acc, v :: st, k => mj_pop n (v :: acc) st k
def mj_ret (r : Option mj_V) (st : List mj_V) : List mj_V := match r with
  | none => st
  | some v => v :: st
/-- a switch's targets, from v on -/
def mj_sw (z : Int) (k : Nat → Prop) : Int → List Nat → Prop
  | _, [] => True
  | v, t :: ts => (z = v → k t) ∧ mj_sw z k (v + 1) ts
def mj_cp0 (M : mj_M) (a b sp dp n : Nat) : mj_M := (fun x j => if x = b ∧ dp ≤ j ∧ j < dp + n then M.1 a (sp + (j - dp)) else M.1 x j, M.2.1, M.2.2)
def mj_cp1 (M : mj_M) (a b sp dp n : Nat) : mj_M := (M.1, fun x j => if x = b ∧ dp ≤ j ∧ j < dp + n then M.2.1 a (sp + (j - dp)) else M.2.1 x j, M.2.2)
def mj_cpy (j : Nat) (st : List mj_V) (G : mj_G) (k : Nat → Nat → Nat → Nat → Nat → List mj_V → Prop) : Prop := mj_i1 st fun n st => mj_i1 st fun dp st => mj_a1 st fun b st => mj_i1 st fun sp st => mj_a1 st fun a st => mj_is G a (100 + j) fun _ na => mj_iw G b (100 + j) fun _ nb => 0 ≤ sp ∧ 0 ≤ dp ∧ 0 ≤ n ∧ sp + n ≤ na ∧ dp + n ≤ nb ∧ mj_cat st ≤ 8 ∧ k a b sp.toNat dp.toNat n.toNat st
/-- Math.max, Math.min, Math.abs, and the copying of arrays -/
def mj_lib (f : Nat) (st : List mj_V) (G : mj_G) (M : mj_M) (k : List mj_V → mj_M → Prop) : Prop := match f with
  | 0 => mj_i1 st fun y st => mj_i1 st fun x st => mj_cat st ≤ 8 ∧ ∀ z, (x < y → z = y) → (¬ x < y → z = x) → k (.inl z :: st) M
  | 1 => mj_i1 st fun y st => mj_i1 st fun x st => mj_cat st ≤ 8 ∧ ∀ z, (y < x → z = y) → (¬ y < x → z = x) → k (.inl z :: st) M
  | 2 => mj_i1 st fun x st => mj_cat st ≤ 8 ∧ ∀ z, mj_in z → (0 ≤ x → z = x) → (x < 0 → x ≠ -2147483648 → z = -x) → k (.inl z :: st) M
  | 3 => mj_cpy 0 st G fun a b sp dp n st => k st (mj_cp0 M a b sp dp n)
  | 4 => mj_cpy 3 st G fun a b sp dp n st => k st (mj_cp1 M a b sp dp n)
  | _ => False
/-- what a call's callee makes: cells and slots -/
def mj_x (mcs : Nat → Nat × Nat) (C : mj_C) (full : List mj_E) (Q : mj_P) : Nat → List mj_E → mj_L → List mj_V → mj_G → mj_M → Nat → Nat → Prop
  | 0, _, _, _, _, _, _, _ => False
  | _ + 1, [], _, _, _, _, _, _ => False
  | n + 1, x :: rest, L, st, G, M, cb, sb => match x.1 with
    | .iload_n i => mj_ldi L i.val fun v => mj_x mcs C full Q n rest L (v :: st) G M cb sb
    | .iload i => mj_ldi L i fun v => mj_x mcs C full Q n rest L (v :: st) G M cb sb
    | .lload_n i => mj_ldl L i.val fun v => mj_x mcs C full Q n rest L (v :: st) G M cb sb
    | .lload i => mj_ldl L i fun v => mj_x mcs C full Q n rest L (v :: st) G M cb sb
    | .aload_n i => mj_lda L i.val fun v => mj_x mcs C full Q n rest L (v :: st) G M cb sb
    | .aload i => mj_lda L i fun v => mj_x mcs C full Q n rest L (v :: st) G M cb sb
    | .istore_n i => mj_i1 st fun z st => mj_x mcs C full Q n rest (mj_s1 L i.val (.inl z)) st G M cb sb
    | .istore i => mj_i1 st fun z st => mj_x mcs C full Q n rest (mj_s1 L i (.inl z)) st G M cb sb
    | .lstore_n i => mj_l1 st fun z st => mj_x mcs C full Q n rest (mj_s2 L i.val (.inr (.inl z))) st G M cb sb
    | .lstore i => mj_l1 st fun z st => mj_x mcs C full Q n rest (mj_s2 L i (.inr (.inl z))) st G M cb sb
    | .astore_n i => mj_r1 st fun z st => mj_x mcs C full Q n rest (mj_s1 L i.val (.inr (.inr z))) st G M cb sb
    | .astore i => mj_r1 st fun z st => mj_x mcs C full Q n rest (mj_s1 L i (.inr (.inr z))) st G M cb sb
    | .iinc i c => mj_ldi L i fun v => mj_i1 [v] fun z _ => mj_in (z + c) ∧ mj_x mcs C full Q n rest (mj_s1 L i (.inl (z + c))) st G M cb sb
    | .iconst z => mj_x mcs C full Q n rest L (.inl z :: st) G M cb sb
    | .bipush z => mj_x mcs C full Q n rest L (.inl z :: st) G M cb sb
    | .sipush z => mj_x mcs C full Q n rest L (.inl z :: st) G M cb sb
    | .ldc _ => mj_x mcs C full Q n rest L (.inl x.2.2.2 :: st) G M cb sb
    | .ldc2_w _ => mj_x mcs C full Q n rest L (.inr (.inl (Int64.ofInt x.2.2.2)) :: st) G M cb sb
    | .lconst z => mj_x mcs C full Q n rest L (.inr (.inl (Int64.ofNat z.val)) :: st) G M cb sb
    | .aconst_null => mj_x mcs C full Q n rest L (.inr (.inr none) :: st) G M cb sb
    | .iadd => mj_bin (fun x y => x + y) st (fun x y => x + y) fun st => mj_x mcs C full Q n rest L st G M cb sb
    | .isub => mj_bin (fun x y => x - y) st (fun x y => x - y) fun st => mj_x mcs C full Q n rest L st G M cb sb
    | .imul => mj_bin (fun x y => x * y) st (fun x y => x * y) fun st => mj_x mcs C full Q n rest L st G M cb sb
    | .iand => mj_op st (fun x y => x &&& y) fun st => mj_x mcs C full Q n rest L st G M cb sb
    | .ior => mj_op st (fun x y => x ||| y) fun st => mj_x mcs C full Q n rest L st G M cb sb
    | .ishl => mj_op st (fun x y => x <<< (y &&& 31)) fun st => mj_x mcs C full Q n rest L st G M cb sb
    | .ishr => mj_op st (fun x y => x >>> (y &&& 31)) fun st => mj_x mcs C full Q n rest L st G M cb sb
    | .iushr => mj_op st (fun x y => (x.toUInt32 >>> (y.toUInt32 &&& Int32.toUInt32 31)).toInt32) fun st => mj_x mcs C full Q n rest L st G M cb sb
    | .ineg => mj_un st (fun x => -x) fun st => mj_x mcs C full Q n rest L st G M cb sb
    | .i2b => mj_un st (fun x => x.toInt8.toInt32) fun st => mj_x mcs C full Q n rest L st G M cb sb
    | .dup => mj_c1 st fun v st => mj_x mcs C full Q n rest L (v :: v :: st) G M cb sb
    | .dup2 => mj_c1 st fun v st => mj_c1 st fun w st => mj_x mcs C full Q n rest L (v :: w :: v :: w :: st) G M cb sb
    | .pop => mj_c1 st fun _ st => mj_x mcs C full Q n rest L st G M cb sb
    | .ifCond c _ => mj_i1 st fun z st => mj_br (mj_cc c z 0) (mj_x mcs C full Q n (full.drop (mj_hd x.2.2.1)) L st G M cb sb) (mj_x mcs C full Q n rest L st G M cb sb)
    | .if_icmp c _ => mj_i1 st fun y st => mj_i1 st fun z st => mj_br (mj_cc c z y) (mj_x mcs C full Q n (full.drop (mj_hd x.2.2.1)) L st G M cb sb) (mj_x mcs C full Q n rest L st G M cb sb)
    | .ifnull _ => mj_r1 st fun z st => mj_br (z = none) (mj_x mcs C full Q n (full.drop (mj_hd x.2.2.1)) L st G M cb sb) (mj_x mcs C full Q n rest L st G M cb sb)
    | .ifnonnull _ => mj_r1 st fun z st => mj_br (z ≠ none) (mj_x mcs C full Q n (full.drop (mj_hd x.2.2.1)) L st G M cb sb) (mj_x mcs C full Q n rest L st G M cb sb)
    | .goto _ => mj_x mcs C full Q n (full.drop (mj_hd x.2.2.1)) L st G M cb sb
    | .getfield _ => x.2.2.1 ≠ [] ∧ mj_get (mj_hd x.2.2.1) (mj_h1 x.2.2.1) st G M fun st => mj_x mcs C full Q n rest L st G M cb sb
    | .putfield _ => x.2.2.1 ≠ [] ∧ mj_put (mj_hd x.2.2.1) (mj_h1 x.2.2.1) st G M fun st M => mj_x mcs C full Q n rest L st G M cb sb
    | .iaload => mj_ald 0 st G fun a i st => mj_x mcs C full Q n rest L (.inl (M.1 a i) :: st) G M cb sb
    | .baload => mj_bald st G fun a i st => mj_x mcs C full Q n rest L (.inl (M.1 a i) :: st) G M cb sb
    | .laload => mj_ald 3 st G fun a i st => mj_x mcs C full Q n rest L (.inr (.inl (M.2.1 a i)) :: st) G M cb sb
    | .aaload => mj_ald (mj_hd x.2.2.1) st G fun a i st => mj_rf (M.2.2 a i) fun v => mj_x mcs C full Q n rest L (v :: st) G M cb sb
    | .iastore => mj_i1 st fun z st => mj_aldw 0 st G fun a i st => mj_x mcs C full Q n rest L st G (mj_p0 M a i z) cb sb
    | .bastore => mj_i1 st fun z st => (mj_aldw 1 st G fun a i st => mj_x mcs C full Q n rest L st G (mj_p0 M a i (mj_nb z)) cb sb) ∨ ((z = 0 ∨ z = 1) ∧ mj_aldw 2 st G fun a i st => mj_x mcs C full Q n rest L st G (mj_p0 M a i z) cb sb)
    | .lastore => mj_l1 st fun z st => mj_aldw 3 st G fun a i st => mj_x mcs C full Q n rest L st G (mj_p1 M a i z) cb sb
    | .anewarray _ => mj_i1 st fun z st => 0 ≤ z ∧ z ≤ 100000 ∧ 1 ≤ cb ∧ z.toNat ≤ sb ∧ ∃ t, t % 1000 = 100 + mj_hd x.2.2.1 ∧ mj_new G M t z.toNat fun a G M => mj_x mcs C full Q n rest L (.inr (.inr (some a)) :: st) G M (cb - 1) (sb - z.toNat)
    | .aastore => mj_r1 st fun z st => mj_aldw (mj_hd x.2.2.1) st G fun a i st => (∀ b, z = some b → mj_hd x.2.2.1 = 6 ∧ mj_is G b 7 fun _ _ => True) ∧ mj_x mcs C full Q n rest L st G (mj_p2 M a i z) cb sb
    | .tableswitch _ lo hi _ => mj_i1 st fun z st => (z < lo ∨ hi < z → mj_x mcs C full Q n (full.drop (mj_hd x.2.2.1)) L st G M cb sb) ∧ mj_sw z (fun t => mj_x mcs C full Q n (full.drop t) L st G M cb sb) lo (x.2.2.1.drop 1)
    | .arraylength => mj_a1 st fun a st => ∃ t k j, G a = (t, k) ∧ t % 1000 = 100 + j ∧ j < 7 ∧ mj_in k ∧ mj_x mcs C full Q n rest L (.inl k :: st) G M cb sb
    | .newarray _ => mj_i1 st fun z st => 0 ≤ z ∧ z ≤ 100000 ∧ 1 ≤ cb ∧ z.toNat ≤ sb ∧ ∃ t, t % 1000 = 100 + mj_hd x.2.2.1 ∧ mj_new G M t z.toNat fun a G M => mj_x mcs C full Q n rest L (.inr (.inr (some a)) :: st) G M (cb - 1) (sb - z.toNat)
    | .multianewarray _ _ => mj_i1 st fun z st => mj_i1 st fun y st => 0 ≤ z ∧ z ≤ 1000 ∧ 0 ≤ y ∧ y ≤ 1000 ∧ 1 + y.toNat ≤ cb ∧ y.toNat + y.toNat * z.toNat ≤ sb ∧ ∃ t t2, t % 1000 = 104 ∧ t2 % 1000 = 100 ∧ ∀ a, (∀ x, a ≤ x → G x = (0, 0)) → mj_x mcs C full Q n rest L (.inr (.inr (some a)) :: st) (mj_gg G a t y.toNat t2 z.toNat) (mj_zz M a y.toNat) (cb - (1 + y.toNat)) (sb - (y.toNat + y.toNat * z.toNat))
    | .new _ => x.2.2.1 ≠ [] ∧ 1 ≤ cb ∧ mj_h1 x.2.2.1 ≤ sb ∧ ∃ t, t % 1000 = mj_hd x.2.2.1 + 1 ∧ mj_new G M t 0 fun a G M => mj_x mcs C full Q n rest L (.inr (.inr (some a)) :: st) G M (cb - 1) (sb - mj_h1 x.2.2.1)
    | .invokevirtual _ => x.2.2.1 ≠ [] ∧ mj_pop (mj_h1 x.2.2.1) [] st fun As st => mj_a1 st fun a st => mj_is G a (mj_h2 x.2.2.1 + 1) fun _ _ => mj_cat st ≤ 8 ∧ (mcs (mj_hd x.2.2.1)).1 ≤ cb ∧ (mcs (mj_hd x.2.2.1)).2 ≤ sb ∧ C (mj_hd x.2.2.1) (.inr (.inr (some a)) :: As) G M fun r G M => mj_x mcs C full Q n rest L (mj_ret r st) G M (cb - (mcs (mj_hd x.2.2.1)).1) (sb - (mcs (mj_hd x.2.2.1)).2)
    | .invokestatic _ => match x.2.2.1 with
      | [f] => mj_lib f st G M fun st M => mj_x mcs C full Q n rest L st G M cb sb
      | _ => x.2.2.1 ≠ [] ∧ mj_pop (mj_h1 x.2.2.1) [] st fun As st => mj_cat st ≤ 8 ∧ (mcs (mj_hd x.2.2.1)).1 ≤ cb ∧ (mcs (mj_hd x.2.2.1)).2 ≤ sb ∧ C (mj_hd x.2.2.1) As G M fun r G M => mj_x mcs C full Q n rest L (mj_ret r st) G M (cb - (mcs (mj_hd x.2.2.1)).1) (sb - (mcs (mj_hd x.2.2.1)).2)
    | .invokespecial _ => match x.2.2.1 with
      | [] => mj_a1 st fun _ st => mj_cat st ≤ 8 ∧ mj_x mcs C full Q n rest L st G M cb sb
      | y :: _ => mj_pop (mj_h1 x.2.2.1) [] st fun As st => mj_a1 st fun a st => mj_is G a (mj_h2 x.2.2.1 + 1) fun _ _ => mj_cat st ≤ 8 ∧ (mcs y).1 ≤ cb ∧ (mcs y).2 ≤ sb ∧ C y (.inr (.inr (some a)) :: As) G M fun r G M => mj_x mcs C full Q n rest L (mj_ret r st) G M (cb - (mcs y).1) (sb - (mcs y).2)
    | .ireturn => mj_i1 st fun z st => st = [] ∧ (x.2.2.2 = 1 → z = 0 ∨ z = 1) ∧ Q (some (.inl z)) G M
    | .return_ => st = [] ∧ Q none G M
    | _ => False
end
section
/-! ===== the small machine and the machine: heaps, locals, the judgement ===== -/
theorem mj_ti {z : Int} (h : mj_in z) : (Int32.ofInt z).toInt = z := by
  obtain ⟨h1, h2⟩ := h
  rw [Int32.toInt_ofInt]
  exact Int.bmod_eq_of_le (by simp [Int32.size]; omega) (by simp [Int32.size]; omega)
theorem mj_it (x : Int32) : Int32.ofInt x.toInt = x := Int32.ofInt_toInt x
theorem mj_rng (x : Int32) : mj_in x.toInt := ⟨by have := Int32.le_toInt x; simp at this; omega, by have := Int32.toInt_lt x; simp at this; omega⟩
theorem mj_lt {x y : Int} (hx : mj_in x) (hy : mj_in y) : Int32.ofInt x < Int32.ofInt y ↔ x < y := by rw [Int32.lt_iff_toInt_lt, mj_ti hx, mj_ti hy]
theorem mj_le {x y : Int} (hx : mj_in x) (hy : mj_in y) : Int32.ofInt x ≤ Int32.ofInt y ↔ x ≤ y := by rw [Int32.le_iff_toInt_le, mj_ti hx, mj_ti hy]
theorem mj_eq {x y : Int} (hx : mj_in x) (hy : mj_in y) : Int32.ofInt x = Int32.ofInt y ↔ x = y := ⟨fun h => by rw [← mj_ti hx, ← mj_ti hy, h], fun h => by rw [h]⟩
theorem mj_nn {z : Int} (hz : mj_in z) (h : 0 ≤ z) : ¬ Int32.ofInt z < 0 := by
  rw [Int32.lt_iff_toInt_lt, mj_ti hz]; simp; omega
theorem mj_nat {z : Int} (hz : mj_in z) : (Int32.ofInt z).toNatClampNeg = z.toNat := by
  show (Int32.ofInt z).toInt.toNat = _
  rw [mj_ti hz]
/-! the locals -/
def mj_asc : Nat → mj_L → List (Nat × Value)
  | _, [] => []
  | i, none :: t => mj_asc (i + 1) t
  | i, some v :: t => (i, mj_val v) :: mj_asc (i + 1) t
theorem mj_asc_of : ∀ (L : mj_L) (i j : Nat) (v : mj_V), mj_nt L j = some v → (i + j, mj_val v) ∈ mj_asc i L
  | [], _, _, _, h => by simp [mj_nt] at h
  | none :: t, i, 0, v, h => by simp [mj_nt] at h
  | none :: t, i, j + 1, v, h => by
    have := mj_asc_of t (i + 1) j v h
    rw [show i + 1 + j = i + (j + 1) by omega] at this
    exact this
  | some w :: t, i, 0, v, h => by
    have e : w = v := Option.some.inj h
    subst e
    exact List.mem_cons_self
  | some w :: t, i, j + 1, v, h => by
    have := mj_asc_of t (i + 1) j v h
    rw [show i + 1 + j = i + (j + 1) by omega] at this
    exact List.mem_cons_of_mem _ this
theorem mj_of_asc : ∀ (L : mj_L) (i : Nat) (q : Nat × Value), q ∈ mj_asc i L → ∃ (j : Nat) (v : mj_V), q = (i + j, mj_val v) ∧ mj_nt L j = some v
  | [], _, _, h => by simp [mj_asc] at h
  | none :: t, i, q, h => by
    obtain ⟨j, v, h1, h2⟩ := mj_of_asc t (i + 1) q h
    exact ⟨j + 1, v, by rw [h1, show i + 1 + j = i + (j + 1) by omega], h2⟩
  | some w :: t, i, q, h => by
    rcases List.mem_cons.mp h with h | h
    · exact ⟨0, w, h, rfl⟩
    · obtain ⟨j, v, h1, h2⟩ := mj_of_asc t (i + 1) q h
      exact ⟨j + 1, v, by rw [h1, show i + 1 + j = i + (j + 1) by omega], h2⟩
theorem mj_nt_set : ∀ (L : mj_L) (i j : Nat) (x : Option mj_V), mj_nt (L.set i x) j = if j = i ∧ i < L.length then x else mj_nt L j
  | [], i, j, x => by simp [mj_nt]
  | y :: t, 0, 0, x => by simp [mj_nt]
  | y :: t, 0, j + 1, x => by simp [mj_nt]
  | y :: t, i + 1, 0, x => by simp [mj_nt]
  | y :: t, i + 1, j + 1, x => by
    show mj_nt (t.set i x) j = _
    rw [mj_nt_set t i j x]
    simp [mj_nt]
theorem mj_nt_mem : ∀ (L : mj_L) (j : Nat) (v : mj_V), mj_nt L j = some v → some v ∈ L
  | [], _, _, h => by simp [mj_nt] at h
  | y :: t, 0, v, h => by
    have e : y = some v := h
    rw [e]; exact List.mem_cons_self
  | y :: t, j + 1, v, h => List.mem_cons_of_mem _ (mj_nt_mem t j v h)
def mj_LO (ls : Array Slot) (nL : Nat) (L : mj_L) : Prop := lv_has ls nL (mj_asc 0 L) ∧ L.length = nL ∧ ∀ j v, mj_nt L j = some v → mj_ok v
theorem mj_LO.at {ls : Array Slot} {nL : Nat} {L : mj_L} (h : mj_LO ls nL L) {i : Nat} {v : mj_V} (hv : mj_nt L i = some v) : ls[i]? = some (.val (mj_val v)) := by
  have := h.1.2.2 _ (mj_asc_of L 0 i v hv)
  simpa using this
theorem mj_cat2 (v : mj_V) : ((mj_val v).category == 2) = true ↔ ∃ w, v = .inr (.inl w) := by
  rcases v with z | w | r
  · simp [mj_val, Value.category]
  · simp [mj_val, Value.category]
  · cases r <;> simp [mj_val, va_rf, Value.category]
theorem mj_kl_len (L : mj_L) (i : Nat) : (mj_kl L i).length = L.length := by
  unfold mj_kl
  cases i with
  | zero => rfl
  | succ j =>
    dsimp only
    split <;> simp
theorem mj_kl_nt {L : mj_L} {i j : Nat} {v : mj_V} (h : mj_nt (mj_kl L i) j = some v) : mj_nt L j = some v ∧ ¬ (j + 1 = i ∧ ∃ w, v = .inr (.inl w)) := by
  unfold mj_kl at h
  cases i with
  | zero => exact ⟨h, fun q => by omega⟩
  | succ k =>
    dsimp only at h
    split at h
    · rename_i w hw
      rw [mj_nt_set] at h
      split at h
      · cases h
      · rename_i hn
        refine ⟨h, fun q => ?_⟩
        have e : j = k := by omega
        subst e
        have hl : ¬ j < L.length := fun z => hn ⟨rfl, z⟩
        have : ∀ (L : mj_L) (j : Nat), ¬ j < L.length → mj_nt L j = none := by
          intro L
          induction L with
          | nil => intro j _; rfl
          | cons y t ih =>
            intro j hj
            cases j with
            | zero => simp at hj
            | succ j => exact ih j (by simp at hj; omega)
        rw [this L j hl] at h
        cases h
    · rename_i hw
      refine ⟨h, fun q => ?_⟩
      obtain ⟨q1, w, q2⟩ := q
      have e : j = k := by omega
      subst e
      exact hw w (by rw [h, q2])
theorem mj_LO.st1 {ls ls' : Array Slot} {nL i : Nat} {L : mj_L} {v : mj_V} (h : mj_LO ls nL L) (hi : i < nL) (hv : mj_ok v)
    (h' : lv_has ls' nL ((i, mj_val v) :: (mj_asc 0 L).filter (fun q => !(q.1 == i) && !(q.1 + 1 == i && q.2.category == 2)))) : mj_LO ls' nL (mj_s1 L i v) := by
  refine ⟨⟨h'.1, h'.2.1, fun q hq => h'.2.2 q ?_⟩, ?_, ?_⟩
  · obtain ⟨j, w, rfl, hw⟩ := mj_of_asc _ _ _ hq
    unfold mj_s1 at hw
    rw [mj_nt_set] at hw
    split at hw
    · rename_i hc
      have e : v = w := Option.some.inj hw
      rw [e, hc.1]; simp
    · rename_i hc
      have hj : j ≠ i := fun q => hc ⟨q, by rw [mj_kl_len, h.2.1]; exact hi⟩
      obtain ⟨h1, h2⟩ := mj_kl_nt hw
      refine List.mem_cons_of_mem _ (List.mem_filter.mpr ⟨mj_asc_of L 0 j w h1, ?_⟩)
      have e1 : (0 + j == i) = false := by simp; exact hj
      rw [Bool.and_eq_true]
      refine ⟨by simp; exact hj, ?_⟩
      rw [Bool.not_eq_true', Bool.and_eq_false_iff]
      by_cases hji : j + 1 = i
      · right
        have := mt (fun q => (⟨hji, (mj_cat2 w).mp q⟩ : j + 1 = i ∧ ∃ w', w = .inr (.inl w'))) h2
        simpa using this
      · left
        simp; exact hji
  · unfold mj_s1; rw [List.length_set, mj_kl_len]; exact h.2.1
  · intro j w hw
    unfold mj_s1 at hw
    rw [mj_nt_set] at hw
    split at hw
    · have e : v = w := Option.some.inj hw
      rw [← e]; exact hv
    · exact h.2.2 j w (mj_kl_nt hw).1
theorem mj_LO.st2 {ls ls' : Array Slot} {nL i : Nat} {L : mj_L} {v : mj_V} (h : mj_LO ls nL L) (hi : i + 1 < nL) (hv : mj_ok v)
    (h' : lv_has ls' nL ((i, mj_val v) :: (mj_asc 0 L).filter (fun q => !(q.1 == i) && (!(q.1 == i + 1) && !(q.1 + 1 == i && q.2.category == 2))))) : mj_LO ls' nL (mj_s2 L i v) := by
  refine ⟨⟨h'.1, h'.2.1, fun q hq => h'.2.2 q ?_⟩, ?_, ?_⟩
  · obtain ⟨j, w, rfl, hw⟩ := mj_of_asc _ _ _ hq
    unfold mj_s2 at hw
    rw [mj_nt_set] at hw
    split at hw
    · cases hw
    · rename_i hc0
      have hj1 : j ≠ i + 1 := fun q => hc0 ⟨q, by rw [List.length_set, mj_kl_len, h.2.1]; exact hi⟩
      rw [mj_nt_set] at hw
      split at hw
      · rename_i hc
        have e : v = w := Option.some.inj hw
        rw [e, hc.1]; simp
      · rename_i hc
        have hj : j ≠ i := fun q => hc ⟨q, by rw [mj_kl_len, h.2.1]; omega⟩
        obtain ⟨h1, h2⟩ := mj_kl_nt hw
        refine List.mem_cons_of_mem _ (List.mem_filter.mpr ⟨mj_asc_of L 0 j w h1, ?_⟩)
        rw [Bool.and_eq_true, Bool.and_eq_true]
        refine ⟨by simp; exact hj, by simp; exact hj1, ?_⟩
        rw [Bool.not_eq_true', Bool.and_eq_false_iff]
        by_cases hji : j + 1 = i
        · right
          have := mt (fun q => (⟨hji, (mj_cat2 w).mp q⟩ : j + 1 = i ∧ ∃ w', w = .inr (.inl w'))) h2
          simpa using this
        · left
          simp; exact hji
  · unfold mj_s2; rw [List.length_set, List.length_set, mj_kl_len]; exact h.2.1
  · intro j w hw
    unfold mj_s2 at hw
    rw [mj_nt_set] at hw
    split at hw
    · cases hw
    · rw [mj_nt_set] at hw
      split at hw
      · have e : v = w := Option.some.inj hw
        rw [← e]; exact hv
      · exact h.2.2 j w (mj_kl_nt hw).1
/-! the heap -/
theorem mj_bare (vm : Vm) (comp : ClassId) : (vm.bare.classes.findIdx? fun (x : Class) => match x.kind with | .array component _ => component == comp | _ => false) = (vm.classes.findIdx? fun (x : Class) => match x.kind with | .array component _ => component == comp | _ => false) := by
  simp only [Vm.bare, Array.findIdx?_map]
  rfl
theorem mj_aoa {t : FieldType} {u U : State} (hvm : u.vm.Alike U.vm) (h : (Cond.arrayOver (.array t)).before #[] u = true) : (Cond.arrayOver (.array t)).before #[] U = true := by
  obtain ⟨comp, c, k, h1, h2, h3, h4, h5⟩ := arrayOverA_spec h
  obtain ⟨k', hk', he⟩ := hvm.2.2 _ _ h3
  have hi : (U.vm.classes.findIdx? fun (x : Class) => match x.kind with | .array component _ => component == comp | _ => false) = some c := by
    rw [← mj_bare]
    first | rw [hvm.bare_eq] | rw [← hvm.bare_eq]
    rw [mj_bare]
    exact h2
  have hkind : k'.kind = .array comp (.array t) := by rw [he]; exact h4
  have f1 : U.vm.findClass (FieldType.array t).toString = some comp := by rw [hvm.findClass]; exact h1
  have f2 : U.vm.findClass ("[" ++ (FieldType.array t).toString) = some c := by rw [hvm.findClass]; exact h5
  unfold Cond.before Cond.holds
  simp only [Cond.value]
  rw [f1, Option.bind_some]
  refine (congrArg (fun o : Option Nat => (o.bind (fun c => (U.vm.classes[c]?).map fun (k : Class) => match k.kind with | .array _ ty => decide (ty = FieldType.array t) && decide (U.vm.findClass ("[" ++ (FieldType.array t).toString) = some c) | _ => false) == some true)) hi).trans ?_
  simp [hk', hkind, f2]
def mj_cn (j : Nat) : String := match j with
  | 5 => "RentRiver$Word"
  | _ => "RentRiver$State"
def mj_K (D : va_G) (dA : Nat → ClassId) (U : State) : Prop :=
  (∀ (ci : Nat) (q : vw_C), vwCl[ci]? = some q → u_Kn U q.1 q.2.1 q.2.2 (D.1 ci) (D.2 ci)) ∧ (∀ j : Nat, j < 7 → U.vm.findClass ("[" ++ (mj_at j).toString) = some (dA j) ∧ ArrOfT U (dA j) (mj_at j)) ∧
  (Cond.arrayOver (.array .int)).before #[] U = true ∧ ∀ j : Nat, j = 5 ∨ j = 6 → va_AO (mj_cn j) U ∧ va_RA U (dA j) (.object (mj_cn j))
theorem mj_K.moved {D : va_G} {dA : Nat → ClassId} {u U : State} (hvm : u.vm.Alike U.vm) (h : mj_K D dA u) : mj_K D dA U :=
  ⟨fun ci q hq => u_Kn_moved hvm (h.1 ci q hq), fun j hj => ⟨by rw [hvm.findClass]; exact (h.2.1 j hj).1, arrOfT_moved hvm (h.2.1 j hj).2⟩, mj_aoa hvm h.2.2.1, fun j hj => ⟨(h.2.2.2 j hj).1.moved hvm, (h.2.2.2 j hj).2.moved hvm⟩⟩
def mj_H (D : va_G) (dA : Nat → ClassId) (B : Nat) (G : mj_G) (M : mj_M) (H : Heap) : Prop :=
  (∀ a k, mj_in (M.1 a k)) ∧ (∀ x, H.size ≤ x → G x = (0, 0)) ∧ ∀ a t n, G a = (t, n) → t ≠ 0 → (t < 900000 → B ≤ a) ∧
    (∀ (ci : Nat) (r : vw_C), t % 1000 = ci + 1 → vwCl[ci]? = some r → t_OB a (D.1 ci) r.2.2 (D.2 ci) H (fun k => mj_sv (mj_so ci k) M a k)) ∧
    (∀ j : Nat, t % 1000 = 100 + j → H[a]? = some (arrV (dA j) n (fun k => mj_sv (mj_as j) M a k)))
def mj_Q (D : va_G) (dA : Nat → ClassId) (B : Nat) (Q : mj_P) : Array Value → State → Outcome → State → Prop := fun _ st o t =>
  ∃ (r : Option mj_V) (G : mj_G) (M : mj_M), o = .returned (r.map mj_val) ∧ Q r G M ∧ (∀ v, r = some v → mj_ok v) ∧ mj_H D dA B G M t.heap ∧ mj_K D dA t ∧ va_F (fun q => B ≤ q) st t
/-- what is fixed while a method runs -/
def mj_X (p : Program) (l : Launch) (e : Env) (R : Room) (s : State) (m : MethodId) (args : Array Value) (below : List Frame) (meth : Method) (c : Code) (own : String) (cc : ByteArray) (ret : Option FieldType) (D : va_G) (dA : Nat → ClassId) (B nL mc ms : Nat) (Q : mj_P) : Prop :=
  (p.tables.exec = Jvm.exec ∧ c.code = cc ∧ c.maxLocals = nL ∧ meth.sig.returnType = ret ∧ s.vm.findClass own = some m.cls) ∧ (∀ w ∈ mj_tb, w.before args s = true) ∧ meth.locks = false ∧ mj_K D dA s ∧ B ≤ s.heap.size ∧ (1 ≤ R.frames ∧ 100 ≤ R.locals ∧ mc ≤ R.cells ∧ ms ≤ R.slots)
def mj_J {p : Program} {l : Launch} {e : Env} {R : Room} {s : State} {m : MethodId} {args : Array Value} {below : List Frame} {meth : Method} {c : Code} {own : String} {cc : ByteArray} {ret : Option FieldType} {D : va_G} {dA : Nat → ClassId} {B nL mc ms : Nat} {Q : mj_P}
    (_ : mj_X p l e R s m args below meth c own cc ret D dA B nL mc ms Q) (pc : Nat) (L : mj_L) (st : List mj_V) (G : mj_G) (M : mj_M) (cb sb : Nat) : Prop :=
  ∀ (H : Heap) (locs : List Loc) (ls : Array Slot) (cells slots : Nat), mj_H D dA B G M H → va_S (fun q => B ≤ q) s.heap H locs → mj_LO ls nL L → (∀ v ∈ st, mj_ok v) → cells + cb ≤ mc → slots + sb ≤ ms →
    W p l e R s m args below meth c H locs cells slots (MQ below (mj_Q D dA B Q) args s mc ms (fun q => B ≤ q)) (F0 m pc ls (st.map mj_val))
theorem mj_cons {st : List mj_V} {v : mj_V} (h : ∀ w ∈ st, mj_ok w) (hv : mj_ok v) : ∀ w ∈ v :: st, mj_ok w := fun w hw => by
  rcases List.mem_cons.mp hw with rfl | q
  · exact hv
  · exact h w q
theorem mj_tl {st : List mj_V} {v : mj_V} (h : ∀ w ∈ v :: st, mj_ok w) : ∀ w ∈ st, mj_ok w := fun w hw => h w (List.mem_cons_of_mem _ hw)
theorem mj_head {st : List mj_V} {v : mj_V} (h : ∀ w ∈ v :: st, mj_ok w) : mj_ok v := h v List.mem_cons_self
end
section
/-! ===== the plain instructions ===== -/
section MJO
variable {p : Program} {l : Launch} {e : Env} {R : Room} {s : State} {m : MethodId} {args : Array Value} {below : List Frame} {meth : Method} {c : Code} {own : String} {cc : ByteArray} {ret : Option FieldType} {D : va_G} {dA : Nat → ClassId} {B nL mc ms : Nat} {Q : mj_P}
variable {pc : Nat} {L : mj_L} {st : List mj_V} {G : mj_G} {M : mj_M} {cb sb : Nat}
theorem mj_o_iload_n (X : mj_X p l e R s m args below meth c own cc ret D dA B nL mc ms Q) {k : Fin 4} {z : Int} (hd : decode cc pc = .ok (.iload_n k, 1)) (h : mj_nt L k.val = some (.inl z)) (kk : mj_J X (pc + 1) L (.inl z :: st) G M cb sb) : mj_J X pc L st G M cb sb := by
  intro H locs ls cells slots hH hS hL hst hc hs
  exact lv_iload_n X.1.1 X.1.2.1 hd rfl (hL.at h) (kk H locs ls cells slots hH hS hL (mj_cons hst (hL.2.2 _ _ h)) hc hs)
theorem mj_o_iload (X : mj_X p l e R s m args below meth c own cc ret D dA B nL mc ms Q) {k : Nat} {z : Int} (hd : decode cc pc = .ok (.iload k, 2)) (h : mj_nt L k = some (.inl z)) (kk : mj_J X (pc + 2) L (.inl z :: st) G M cb sb) : mj_J X pc L st G M cb sb := by
  intro H locs ls cells slots hH hS hL hst hc hs
  exact lv_iload X.1.1 X.1.2.1 hd (hL.at h) (kk H locs ls cells slots hH hS hL (mj_cons hst (hL.2.2 _ _ h)) hc hs)
theorem mj_o_lload_n (X : mj_X p l e R s m args below meth c own cc ret D dA B nL mc ms Q) {k : Fin 4} {z : Int64} (hd : decode cc pc = .ok (.lload_n k, 1)) (h : mj_nt L k.val = some (.inr (.inl z))) (kk : mj_J X (pc + 1) L (.inr (.inl z) :: st) G M cb sb) : mj_J X pc L st G M cb sb := by
  intro H locs ls cells slots hH hS hL hst hc hs
  exact lv_lload_n X.1.1 X.1.2.1 hd rfl (hL.at h) (kk H locs ls cells slots hH hS hL (mj_cons hst (hL.2.2 _ _ h)) hc hs)
theorem mj_o_lload (X : mj_X p l e R s m args below meth c own cc ret D dA B nL mc ms Q) {k : Nat} {z : Int64} (hd : decode cc pc = .ok (.lload k, 2)) (h : mj_nt L k = some (.inr (.inl z))) (kk : mj_J X (pc + 2) L (.inr (.inl z) :: st) G M cb sb) : mj_J X pc L st G M cb sb := by
  intro H locs ls cells slots hH hS hL hst hc hs
  exact lv_lload X.1.1 X.1.2.1 hd (hL.at h) (kk H locs ls cells slots hH hS hL (mj_cons hst (hL.2.2 _ _ h)) hc hs)
theorem mj_o_aload_n (X : mj_X p l e R s m args below meth c own cc ret D dA B nL mc ms Q) {k : Fin 4} {z : Option Nat} (hd : decode cc pc = .ok (.aload_n k, 1)) (h : mj_nt L k.val = some (.inr (.inr z))) (kk : mj_J X (pc + 1) L (.inr (.inr z) :: st) G M cb sb) : mj_J X pc L st G M cb sb := by
  intro H locs ls cells slots hH hS hL hst hc hs
  have g := kk H locs ls cells slots hH hS hL (mj_cons hst (hL.2.2 _ _ h)) hc hs
  cases z with
  | none => exact lv_aload_nN X.1.1 X.1.2.1 hd rfl (hL.at h) g
  | some a => exact lv_aload_n X.1.1 X.1.2.1 hd rfl (hL.at h) g
theorem mj_o_aload (X : mj_X p l e R s m args below meth c own cc ret D dA B nL mc ms Q) {k : Nat} {z : Option Nat} (hd : decode cc pc = .ok (.aload k, 2)) (h : mj_nt L k = some (.inr (.inr z))) (kk : mj_J X (pc + 2) L (.inr (.inr z) :: st) G M cb sb) : mj_J X pc L st G M cb sb := by
  intro H locs ls cells slots hH hS hL hst hc hs
  have g := kk H locs ls cells slots hH hS hL (mj_cons hst (hL.2.2 _ _ h)) hc hs
  cases z with
  | none => exact lv_aloadN X.1.1 X.1.2.1 hd (hL.at h) g
  | some a => exact lv_aload X.1.1 X.1.2.1 hd (hL.at h) g
theorem mj_o_istore_n (X : mj_X p l e R s m args below meth c own cc ret D dA B nL mc ms Q) {k : Fin 4} {z : Int} (hd : decode cc pc = .ok (.istore_n k, 1)) (hn : k.val < nL) (kk : mj_J X (pc + 1) (mj_s1 L k.val (.inl z)) st G M cb sb) : mj_J X pc L (.inl z :: st) G M cb sb := by
  intro H locs ls cells slots hH hS hL hst hc hs
  exact lv_istore_n X.1.1 X.1.2.1 hd rfl hL.1 hn rfl (fun ls' hl' => kk H locs ls' cells slots hH hS (hL.st1 hn (mj_head hst) hl') (mj_tl hst) hc hs)
theorem mj_o_istore (X : mj_X p l e R s m args below meth c own cc ret D dA B nL mc ms Q) {k : Nat} {z : Int} (hd : decode cc pc = .ok (.istore k, 2)) (hn : k < nL) (kk : mj_J X (pc + 2) (mj_s1 L k (.inl z)) st G M cb sb) : mj_J X pc L (.inl z :: st) G M cb sb := by
  intro H locs ls cells slots hH hS hL hst hc hs
  exact lv_istore X.1.1 X.1.2.1 hd hL.1 hn rfl (fun ls' hl' => kk H locs ls' cells slots hH hS (hL.st1 hn (mj_head hst) hl') (mj_tl hst) hc hs)
theorem mj_o_lstore_n (X : mj_X p l e R s m args below meth c own cc ret D dA B nL mc ms Q) {k : Fin 4} {z : Int64} (hd : decode cc pc = .ok (.lstore_n k, 1)) (hn : k.val + 1 < nL) (kk : mj_J X (pc + 1) (mj_s2 L k.val (.inr (.inl z))) st G M cb sb) : mj_J X pc L (.inr (.inl z) :: st) G M cb sb := by
  intro H locs ls cells slots hH hS hL hst hc hs
  exact lv_lstore_n X.1.1 X.1.2.1 hd rfl hL.1 hn rfl (fun ls' hl' => kk H locs ls' cells slots hH hS (hL.st2 hn (mj_head hst) hl') (mj_tl hst) hc hs)
theorem mj_o_lstore (X : mj_X p l e R s m args below meth c own cc ret D dA B nL mc ms Q) {k : Nat} {z : Int64} (hd : decode cc pc = .ok (.lstore k, 2)) (hn : k + 1 < nL) (kk : mj_J X (pc + 2) (mj_s2 L k (.inr (.inl z))) st G M cb sb) : mj_J X pc L (.inr (.inl z) :: st) G M cb sb := by
  intro H locs ls cells slots hH hS hL hst hc hs
  exact lv_lstore X.1.1 X.1.2.1 hd hL.1 hn rfl (fun ls' hl' => kk H locs ls' cells slots hH hS (hL.st2 hn (mj_head hst) hl') (mj_tl hst) hc hs)
theorem mj_o_astore_n (X : mj_X p l e R s m args below meth c own cc ret D dA B nL mc ms Q) {k : Fin 4} {z : Option Nat} (hd : decode cc pc = .ok (.astore_n k, 1)) (hn : k.val < nL) (kk : mj_J X (pc + 1) (mj_s1 L k.val (.inr (.inr z))) st G M cb sb) : mj_J X pc L (.inr (.inr z) :: st) G M cb sb := by
  intro H locs ls cells slots hH hS hL hst hc hs
  cases z with
  | none => exact lv_astore_nN X.1.1 X.1.2.1 hd rfl hL.1 hn rfl (fun ls' hl' => kk H locs ls' cells slots hH hS (hL.st1 (v := .inr (.inr none)) hn trivial hl') (mj_tl hst) hc hs)
  | some a => exact lv_astore_n X.1.1 X.1.2.1 hd rfl hL.1 hn rfl (fun ls' hl' => kk H locs ls' cells slots hH hS (hL.st1 (v := .inr (.inr (some a))) hn trivial hl') (mj_tl hst) hc hs)
theorem mj_o_astore (X : mj_X p l e R s m args below meth c own cc ret D dA B nL mc ms Q) {k : Nat} {z : Option Nat} (hd : decode cc pc = .ok (.astore k, 2)) (hn : k < nL) (kk : mj_J X (pc + 2) (mj_s1 L k (.inr (.inr z))) st G M cb sb) : mj_J X pc L (.inr (.inr z) :: st) G M cb sb := by
  intro H locs ls cells slots hH hS hL hst hc hs
  cases z with
  | none => exact lv_astoreN X.1.1 X.1.2.1 hd hL.1 hn rfl (fun ls' hl' => kk H locs ls' cells slots hH hS (hL.st1 (v := .inr (.inr none)) hn trivial hl') (mj_tl hst) hc hs)
  | some a => exact lv_astore X.1.1 X.1.2.1 hd hL.1 hn rfl (fun ls' hl' => kk H locs ls' cells slots hH hS (hL.st1 (v := .inr (.inr (some a))) hn trivial hl') (mj_tl hst) hc hs)
theorem mj_o_iinc (X : mj_X p l e R s m args below meth c own cc ret D dA B nL mc ms Q) {k : Nat} {n z : Int} (hd : decode cc pc = .ok (.iinc k n, 3)) (h : mj_nt L k = some (.inl z)) (hn : k < nL) (hin : mj_in (z + n)) (kk : mj_J X (pc + 3) (mj_s1 L k (.inl (z + n))) st G M cb sb) : mj_J X pc L st G M cb sb := by
  intro H locs ls cells slots hH hS hL hst hc hs
  have hm := mj_asc_of L 0 k _ h
  rw [Nat.zero_add] at hm
  obtain ⟨i, hi⟩ := List.getElem?_of_mem hm
  exact lv_iinc (v := Int32.ofInt (z + n)) X.1.1 X.1.2.1 hd hL.1 hi (Int32.ofInt_add z n).symm hn rfl (fun ls' hl' => kk H locs ls' cells slots hH hS (hL.st1 (v := .inl (z + n)) hn hin hl') hst hc hs)
theorem mj_o_iconst (X : mj_X p l e R s m args below meth c own cc ret D dA B nL mc ms Q) {z : Int} (hd : decode cc pc = .ok (.iconst z, 1)) (hz : mj_in z)  (kk : mj_J X (pc + 1) L (.inl z :: st) G M cb sb) : mj_J X pc L st G M cb sb := by
  intro H locs ls cells slots hH hS hL hst hc hs
  exact lv_iconst X.1.1 X.1.2.1 hd rfl (kk H locs ls cells slots hH hS hL (mj_cons hst hz) hc hs)
theorem mj_o_bipush (X : mj_X p l e R s m args below meth c own cc ret D dA B nL mc ms Q) {z : Int} (hd : decode cc pc = .ok (.bipush z, 2)) (hz : mj_in z) (hv : (Int8.ofInt z).toInt32 = Int32.ofInt z) (kk : mj_J X (pc + 2) L (.inl z :: st) G M cb sb) : mj_J X pc L st G M cb sb := by
  intro H locs ls cells slots hH hS hL hst hc hs
  exact lv_bipush X.1.1 X.1.2.1 hd hv (kk H locs ls cells slots hH hS hL (mj_cons hst hz) hc hs)
theorem mj_o_sipush (X : mj_X p l e R s m args below meth c own cc ret D dA B nL mc ms Q) {z : Int} (hd : decode cc pc = .ok (.sipush z, 3)) (hz : mj_in z) (hv : (Int16.ofInt z).toInt32 = Int32.ofInt z) (kk : mj_J X (pc + 3) L (.inl z :: st) G M cb sb) : mj_J X pc L st G M cb sb := by
  intro H locs ls cells slots hH hS hL hst hc hs
  exact lv_sipush X.1.1 X.1.2.1 hd hv (kk H locs ls cells slots hH hS hL (mj_cons hst hz) hc hs)
theorem mj_o_ldc (X : mj_X p l e R s m args below meth c own cc ret D dA B nL mc ms Q) {i : Nat} {z : Int} (hd : decode cc pc = .ok (.ldc i, 2)) (hz : mj_in z) (hw : Cond.constant own i (Int32.ofInt z) ∈ mj_tb) (kk : mj_J X (pc + 2) L (.inl z :: st) G M cb sb) : mj_J X pc L st G M cb sb := by
  intro H locs ls cells slots hH hS hL hst hc hs
  exact W.ldc X.1.1 X.1.2.1 X.1.2.2.2.2 (X.2.1 _ hw) rfl hd (kk H locs ls cells slots hH hS hL (mj_cons hst hz) hc hs)
theorem mj_o_ldc2 (X : mj_X p l e R s m args below meth c own cc ret D dA B nL mc ms Q) {i : Nat} {z : Int64} (hd : decode cc pc = .ok (.ldc2_w i, 3)) (hw : Cond.constantLong own i z ∈ mj_tb) (kk : mj_J X (pc + 3) L (.inr (.inl z) :: st) G M cb sb) : mj_J X pc L st G M cb sb := by
  intro H locs ls cells slots hH hS hL hst hc hs
  exact W.ldc2 X.1.1 X.1.2.1 X.1.2.2.2.2 (X.2.1 _ hw) rfl hd (kk H locs ls cells slots hH hS hL (mj_cons hst trivial) hc hs)
theorem mj_o_lconst (X : mj_X p l e R s m args below meth c own cc ret D dA B nL mc ms Q) {k : Fin 2} (hd : decode cc pc = .ok (.lconst k, 1)) (kk : mj_J X (pc + 1) L (.inr (.inl (Int64.ofNat k.val)) :: st) G M cb sb) : mj_J X pc L st G M cb sb := by
  intro H locs ls cells slots hH hS hL hst hc hs
  exact lv_lconst X.1.1 X.1.2.1 hd rfl (kk H locs ls cells slots hH hS hL (mj_cons hst trivial) hc hs)
theorem mj_o_null (X : mj_X p l e R s m args below meth c own cc ret D dA B nL mc ms Q) (hd : decode cc pc = .ok (.aconst_null, 1)) (kk : mj_J X (pc + 1) L (.inr (.inr none) :: st) G M cb sb) : mj_J X pc L st G M cb sb := by
  intro H locs ls cells slots hH hS hL hst hc hs
  exact lv_null X.1.1 X.1.2.1 hd (kk H locs ls cells slots hH hS hL (mj_cons hst trivial) hc hs)
theorem mj_o_iadd (X : mj_X p l e R s m args below meth c own cc ret D dA B nL mc ms Q) (hd : decode cc pc = .ok (.iadd, 1)) {x y : Int} (kk : (mj_in (x + y) ∧ mj_J X (pc + 1) L (.inl (x + y) :: st) G M cb sb) ∨ ∀ z, mj_in z → z = (Int32.ofInt x + Int32.ofInt y).toInt → mj_J X (pc + 1) L (.inl z :: st) G M cb sb) : mj_J X pc L (.inl y :: .inl x :: st) G M cb sb := by
  intro H locs ls cells slots hH hS hL hst hc hs
  refine lv_iadd X.1.1 X.1.2.1 hd ?_
  rcases kk with ⟨hi, kk⟩ | kk
  · have g := kk H locs ls cells slots hH hS hL (mj_cons (mj_tl (mj_tl hst)) hi) hc hs
    rw [← Int32.ofInt_add]
    exact g
  · have g := kk _ (mj_rng _) rfl H locs ls cells slots hH hS hL (mj_cons (mj_tl (mj_tl hst)) (mj_rng _)) hc hs
    simp only [List.map_cons, mj_val, mj_it] at g
    exact g
theorem mj_o_isub (X : mj_X p l e R s m args below meth c own cc ret D dA B nL mc ms Q) (hd : decode cc pc = .ok (.isub, 1)) {x y : Int} (kk : (mj_in (x - y) ∧ mj_J X (pc + 1) L (.inl (x - y) :: st) G M cb sb) ∨ ∀ z, mj_in z → z = (Int32.ofInt x - Int32.ofInt y).toInt → mj_J X (pc + 1) L (.inl z :: st) G M cb sb) : mj_J X pc L (.inl y :: .inl x :: st) G M cb sb := by
  intro H locs ls cells slots hH hS hL hst hc hs
  refine lv_isub X.1.1 X.1.2.1 hd ?_
  rcases kk with ⟨hi, kk⟩ | kk
  · have g := kk H locs ls cells slots hH hS hL (mj_cons (mj_tl (mj_tl hst)) hi) hc hs
    rw [← Int32.ofInt_sub]
    exact g
  · have g := kk _ (mj_rng _) rfl H locs ls cells slots hH hS hL (mj_cons (mj_tl (mj_tl hst)) (mj_rng _)) hc hs
    simp only [List.map_cons, mj_val, mj_it] at g
    exact g
theorem mj_o_imul (X : mj_X p l e R s m args below meth c own cc ret D dA B nL mc ms Q) (hd : decode cc pc = .ok (.imul, 1)) {x y : Int} (kk : (mj_in (x * y) ∧ mj_J X (pc + 1) L (.inl (x * y) :: st) G M cb sb) ∨ ∀ z, mj_in z → z = (Int32.ofInt x * Int32.ofInt y).toInt → mj_J X (pc + 1) L (.inl z :: st) G M cb sb) : mj_J X pc L (.inl y :: .inl x :: st) G M cb sb := by
  intro H locs ls cells slots hH hS hL hst hc hs
  refine lv_imul X.1.1 X.1.2.1 hd ?_
  rcases kk with ⟨hi, kk⟩ | kk
  · have g := kk H locs ls cells slots hH hS hL (mj_cons (mj_tl (mj_tl hst)) hi) hc hs
    rw [← Int32.ofInt_mul]
    exact g
  · have g := kk _ (mj_rng _) rfl H locs ls cells slots hH hS hL (mj_cons (mj_tl (mj_tl hst)) (mj_rng _)) hc hs
    simp only [List.map_cons, mj_val, mj_it] at g
    exact g
theorem mj_o_iand (X : mj_X p l e R s m args below meth c own cc ret D dA B nL mc ms Q) (hd : decode cc pc = .ok (.iand, 1)) {x y : Int} (kk : ∀ z, mj_in z → z = (Int32.ofInt x &&& Int32.ofInt y).toInt → mj_J X (pc + 1) L (.inl z :: st) G M cb sb) : mj_J X pc L (.inl y :: .inl x :: st) G M cb sb := by
  intro H locs ls cells slots hH hS hL hst hc hs
  refine lv_iand X.1.1 X.1.2.1 hd ?_
  have g := kk _ (mj_rng _) rfl H locs ls cells slots hH hS hL (mj_cons (mj_tl (mj_tl hst)) (mj_rng _)) hc hs
  simp only [List.map_cons, mj_val, mj_it] at g
  exact g
theorem mj_o_ior (X : mj_X p l e R s m args below meth c own cc ret D dA B nL mc ms Q) (hd : decode cc pc = .ok (.ior, 1)) {x y : Int} (kk : ∀ z, mj_in z → z = (Int32.ofInt x ||| Int32.ofInt y).toInt → mj_J X (pc + 1) L (.inl z :: st) G M cb sb) : mj_J X pc L (.inl y :: .inl x :: st) G M cb sb := by
  intro H locs ls cells slots hH hS hL hst hc hs
  refine lv_ior X.1.1 X.1.2.1 hd ?_
  have g := kk _ (mj_rng _) rfl H locs ls cells slots hH hS hL (mj_cons (mj_tl (mj_tl hst)) (mj_rng _)) hc hs
  simp only [List.map_cons, mj_val, mj_it] at g
  exact g
theorem mj_o_ishl (X : mj_X p l e R s m args below meth c own cc ret D dA B nL mc ms Q) (hd : decode cc pc = .ok (.ishl, 1)) {x y : Int} (kk : ∀ z, mj_in z → z = (Int32.ofInt x <<< (Int32.ofInt y &&& 31)).toInt → mj_J X (pc + 1) L (.inl z :: st) G M cb sb) : mj_J X pc L (.inl y :: .inl x :: st) G M cb sb := by
  intro H locs ls cells slots hH hS hL hst hc hs
  refine lv_ishl X.1.1 X.1.2.1 hd ?_
  have g := kk _ (mj_rng _) rfl H locs ls cells slots hH hS hL (mj_cons (mj_tl (mj_tl hst)) (mj_rng _)) hc hs
  simp only [List.map_cons, mj_val, mj_it] at g
  exact g
theorem mj_o_ishr (X : mj_X p l e R s m args below meth c own cc ret D dA B nL mc ms Q) (hd : decode cc pc = .ok (.ishr, 1)) {x y : Int} (kk : ∀ z, mj_in z → z = (Int32.ofInt x >>> (Int32.ofInt y &&& 31)).toInt → mj_J X (pc + 1) L (.inl z :: st) G M cb sb) : mj_J X pc L (.inl y :: .inl x :: st) G M cb sb := by
  intro H locs ls cells slots hH hS hL hst hc hs
  refine lv_ishr X.1.1 X.1.2.1 hd ?_
  have g := kk _ (mj_rng _) rfl H locs ls cells slots hH hS hL (mj_cons (mj_tl (mj_tl hst)) (mj_rng _)) hc hs
  simp only [List.map_cons, mj_val, mj_it] at g
  exact g
theorem mj_o_iushr (X : mj_X p l e R s m args below meth c own cc ret D dA B nL mc ms Q) (hd : decode cc pc = .ok (.iushr, 1)) {x y : Int} (kk : ∀ z, mj_in z → z = (((Int32.ofInt x).toUInt32 >>> ((Int32.ofInt y).toUInt32 &&& Int32.toUInt32 31)).toInt32).toInt → mj_J X (pc + 1) L (.inl z :: st) G M cb sb) : mj_J X pc L (.inl y :: .inl x :: st) G M cb sb := by
  intro H locs ls cells slots hH hS hL hst hc hs
  refine lv_iushr X.1.1 X.1.2.1 hd rfl ?_
  have g := kk _ (mj_rng _) rfl H locs ls cells slots hH hS hL (mj_cons (mj_tl (mj_tl hst)) (mj_rng _)) hc hs
  simp only [List.map_cons, mj_val, mj_it] at g
  exact g
theorem mj_o_ineg (X : mj_X p l e R s m args below meth c own cc ret D dA B nL mc ms Q) (hd : decode cc pc = .ok (.ineg, 1)) {x : Int} (kk : ∀ z, mj_in z → z = (-(Int32.ofInt x)).toInt → mj_J X (pc + 1) L (.inl z :: st) G M cb sb) : mj_J X pc L (.inl x :: st) G M cb sb := by
  intro H locs ls cells slots hH hS hL hst hc hs
  refine lv_ineg X.1.1 X.1.2.1 hd ?_
  have g := kk _ (mj_rng _) rfl H locs ls cells slots hH hS hL (mj_cons (mj_tl hst) (mj_rng _)) hc hs
  simp only [List.map_cons, mj_val, mj_it] at g
  exact g
theorem mj_o_i2b (X : mj_X p l e R s m args below meth c own cc ret D dA B nL mc ms Q) (hd : decode cc pc = .ok (.i2b, 1)) {x : Int} (kk : ∀ z, mj_in z → z = ((Int32.ofInt x).toInt8.toInt32).toInt → mj_J X (pc + 1) L (.inl z :: st) G M cb sb) : mj_J X pc L (.inl x :: st) G M cb sb := by
  intro H locs ls cells slots hH hS hL hst hc hs
  refine lv_i2b X.1.1 X.1.2.1 hd rfl ?_
  have g := kk _ (mj_rng _) rfl H locs ls cells slots hH hS hL (mj_cons (mj_tl hst) (mj_rng _)) hc hs
  simp only [List.map_cons, mj_val, mj_it] at g
  exact g
theorem mj_c1_cat {v : mj_V} (h : ∀ w, v ≠ .inr (.inl w)) : (mj_val v).category = 1 := by
  rcases v with z | w | r
  · rfl
  · exact absurd rfl (h w)
  · cases r <;> rfl
theorem mj_o_dup (X : mj_X p l e R s m args below meth c own cc ret D dA B nL mc ms Q) {v : mj_V} (hd : decode cc pc = .ok (.dup, 1)) (hv : ∀ w, v ≠ .inr (.inl w)) (kk : mj_J X (pc + 1) L (v :: v :: st) G M cb sb) : mj_J X pc L (v :: st) G M cb sb := by
  intro H locs ls cells slots hH hS hL hst hc hs
  exact lv_dup X.1.1 X.1.2.1 hd (mj_c1_cat hv) (kk H locs ls cells slots hH hS hL (mj_cons hst (mj_head hst)) hc hs)
theorem mj_o_dup2 (X : mj_X p l e R s m args below meth c own cc ret D dA B nL mc ms Q) {v w : mj_V} (hd : decode cc pc = .ok (.dup2, 1)) (hv : ∀ x, v ≠ .inr (.inl x)) (hw : ∀ x, w ≠ .inr (.inl x)) (kk : mj_J X (pc + 1) L (v :: w :: v :: w :: st) G M cb sb) : mj_J X pc L (v :: w :: st) G M cb sb := by
  intro H locs ls cells slots hH hS hL hst hc hs
  exact lv_dup2_11 X.1.1 X.1.2.1 hd (mj_c1_cat hv) (mj_c1_cat hw) (kk H locs ls cells slots hH hS hL (mj_cons (mj_cons hst (mj_head (mj_tl hst))) (mj_head hst)) hc hs)
theorem mj_o_pop (X : mj_X p l e R s m args below meth c own cc ret D dA B nL mc ms Q) {v : mj_V} (hd : decode cc pc = .ok (.pop, 1)) (hv : ∀ w, v ≠ .inr (.inl w)) (kk : mj_J X (pc + 1) L st G M cb sb) : mj_J X pc L (v :: st) G M cb sb := by
  intro H locs ls cells slots hH hS hL hst hc hs
  exact lv_pop X.1.1 X.1.2.1 hd (mj_c1_cat hv) (kk H locs ls cells slots hH hS hL (mj_tl hst) hc hs)
theorem mj_o_icmp_eq (X : mj_X p l e R s m args below meth c own cc ret D dA B nL mc ms Q) {off : Int} {tgt : Nat} (hd : decode cc pc = .ok (.if_icmp .eq off, 3)) (ht : (pc : Int) + off = (tgt : Int)) {x y : Int} (kt : x = y → mj_J X tgt L st G M cb sb) (kf : ¬ (x = y) → mj_J X (pc + 3) L st G M cb sb) : mj_J X pc L (.inl y :: .inl x :: st) G M cb sb := by
  intro H locs ls cells slots hH hS hL hst hc hs
  have hy : mj_in y := mj_head hst
  have hx : mj_in x := mj_head (mj_tl hst)
  exact lv_icmp_eq X.1.1 X.1.2.1 hd ht (fun q => kt ((mj_eq hx hy).mp q) H locs ls cells slots hH hS hL (mj_tl (mj_tl hst)) hc hs) (fun q => kf (fun z => q ((mj_eq hx hy).mpr z)) H locs ls cells slots hH hS hL (mj_tl (mj_tl hst)) hc hs)
theorem mj_o_if_eq (X : mj_X p l e R s m args below meth c own cc ret D dA B nL mc ms Q) {off : Int} {tgt : Nat} (hd : decode cc pc = .ok (.ifCond .eq off, 3)) (ht : (pc : Int) + off = (tgt : Int)) {x : Int} (kt : x = 0 → mj_J X tgt L st G M cb sb) (kf : ¬ (x = 0) → mj_J X (pc + 3) L st G M cb sb) : mj_J X pc L (.inl x :: st) G M cb sb := by
  intro H locs ls cells slots hH hS hL hst hc hs
  have hy : mj_in 0 := ⟨by decide, by decide⟩
  have hx : mj_in x := mj_head hst
  exact lv_if_eq X.1.1 X.1.2.1 hd ht (fun q => kt ((mj_eq hx hy).mp q) H locs ls cells slots hH hS hL (mj_tl hst) hc hs) (fun q => kf (fun z => q ((mj_eq hx hy).mpr z)) H locs ls cells slots hH hS hL (mj_tl hst) hc hs)
theorem mj_o_icmp_ne (X : mj_X p l e R s m args below meth c own cc ret D dA B nL mc ms Q) {off : Int} {tgt : Nat} (hd : decode cc pc = .ok (.if_icmp .ne off, 3)) (ht : (pc : Int) + off = (tgt : Int)) {x y : Int} (kt : x ≠ y → mj_J X tgt L st G M cb sb) (kf : ¬ (x ≠ y) → mj_J X (pc + 3) L st G M cb sb) : mj_J X pc L (.inl y :: .inl x :: st) G M cb sb := by
  intro H locs ls cells slots hH hS hL hst hc hs
  have hy : mj_in y := mj_head hst
  have hx : mj_in x := mj_head (mj_tl hst)
  exact lv_icmp_ne X.1.1 X.1.2.1 hd ht (fun q => kt (fun z => q ((mj_eq hx hy).mpr z)) H locs ls cells slots hH hS hL (mj_tl (mj_tl hst)) hc hs) (fun q => kf (fun z => z ((mj_eq hx hy).mp q)) H locs ls cells slots hH hS hL (mj_tl (mj_tl hst)) hc hs)
theorem mj_o_if_ne (X : mj_X p l e R s m args below meth c own cc ret D dA B nL mc ms Q) {off : Int} {tgt : Nat} (hd : decode cc pc = .ok (.ifCond .ne off, 3)) (ht : (pc : Int) + off = (tgt : Int)) {x : Int} (kt : x ≠ 0 → mj_J X tgt L st G M cb sb) (kf : ¬ (x ≠ 0) → mj_J X (pc + 3) L st G M cb sb) : mj_J X pc L (.inl x :: st) G M cb sb := by
  intro H locs ls cells slots hH hS hL hst hc hs
  have hy : mj_in 0 := ⟨by decide, by decide⟩
  have hx : mj_in x := mj_head hst
  exact lv_if_ne X.1.1 X.1.2.1 hd ht (fun q => kt (fun z => q ((mj_eq hx hy).mpr z)) H locs ls cells slots hH hS hL (mj_tl hst) hc hs) (fun q => kf (fun z => z ((mj_eq hx hy).mp q)) H locs ls cells slots hH hS hL (mj_tl hst) hc hs)
theorem mj_o_icmp_lt (X : mj_X p l e R s m args below meth c own cc ret D dA B nL mc ms Q) {off : Int} {tgt : Nat} (hd : decode cc pc = .ok (.if_icmp .lt off, 3)) (ht : (pc : Int) + off = (tgt : Int)) {x y : Int} (kt : x < y → mj_J X tgt L st G M cb sb) (kf : ¬ (x < y) → mj_J X (pc + 3) L st G M cb sb) : mj_J X pc L (.inl y :: .inl x :: st) G M cb sb := by
  intro H locs ls cells slots hH hS hL hst hc hs
  have hy : mj_in y := mj_head hst
  have hx : mj_in x := mj_head (mj_tl hst)
  exact lv_icmp_lt X.1.1 X.1.2.1 hd ht (fun q => kt ((mj_lt hx hy).mp q) H locs ls cells slots hH hS hL (mj_tl (mj_tl hst)) hc hs) (fun q => kf (fun z => q ((mj_lt hx hy).mpr z)) H locs ls cells slots hH hS hL (mj_tl (mj_tl hst)) hc hs)
theorem mj_o_if_lt (X : mj_X p l e R s m args below meth c own cc ret D dA B nL mc ms Q) {off : Int} {tgt : Nat} (hd : decode cc pc = .ok (.ifCond .lt off, 3)) (ht : (pc : Int) + off = (tgt : Int)) {x : Int} (kt : x < 0 → mj_J X tgt L st G M cb sb) (kf : ¬ (x < 0) → mj_J X (pc + 3) L st G M cb sb) : mj_J X pc L (.inl x :: st) G M cb sb := by
  intro H locs ls cells slots hH hS hL hst hc hs
  have hy : mj_in 0 := ⟨by decide, by decide⟩
  have hx : mj_in x := mj_head hst
  exact lv_if_lt X.1.1 X.1.2.1 hd ht (fun q => kt ((mj_lt hx hy).mp q) H locs ls cells slots hH hS hL (mj_tl hst) hc hs) (fun q => kf (fun z => q ((mj_lt hx hy).mpr z)) H locs ls cells slots hH hS hL (mj_tl hst) hc hs)
theorem mj_o_icmp_ge (X : mj_X p l e R s m args below meth c own cc ret D dA B nL mc ms Q) {off : Int} {tgt : Nat} (hd : decode cc pc = .ok (.if_icmp .ge off, 3)) (ht : (pc : Int) + off = (tgt : Int)) {x y : Int} (kt : y ≤ x → mj_J X tgt L st G M cb sb) (kf : ¬ (y ≤ x) → mj_J X (pc + 3) L st G M cb sb) : mj_J X pc L (.inl y :: .inl x :: st) G M cb sb := by
  intro H locs ls cells slots hH hS hL hst hc hs
  have hy : mj_in y := mj_head hst
  have hx : mj_in x := mj_head (mj_tl hst)
  exact lv_icmp_ge X.1.1 X.1.2.1 hd ht (fun q => kt ((mj_le hy hx).mp q) H locs ls cells slots hH hS hL (mj_tl (mj_tl hst)) hc hs) (fun q => kf (fun z => q ((mj_le hy hx).mpr z)) H locs ls cells slots hH hS hL (mj_tl (mj_tl hst)) hc hs)
theorem mj_o_if_ge (X : mj_X p l e R s m args below meth c own cc ret D dA B nL mc ms Q) {off : Int} {tgt : Nat} (hd : decode cc pc = .ok (.ifCond .ge off, 3)) (ht : (pc : Int) + off = (tgt : Int)) {x : Int} (kt : 0 ≤ x → mj_J X tgt L st G M cb sb) (kf : ¬ (0 ≤ x) → mj_J X (pc + 3) L st G M cb sb) : mj_J X pc L (.inl x :: st) G M cb sb := by
  intro H locs ls cells slots hH hS hL hst hc hs
  have hy : mj_in 0 := ⟨by decide, by decide⟩
  have hx : mj_in x := mj_head hst
  exact lv_if_ge X.1.1 X.1.2.1 hd ht (fun q => kt ((mj_le hy hx).mp q) H locs ls cells slots hH hS hL (mj_tl hst) hc hs) (fun q => kf (fun z => q ((mj_le hy hx).mpr z)) H locs ls cells slots hH hS hL (mj_tl hst) hc hs)
theorem mj_o_icmp_gt (X : mj_X p l e R s m args below meth c own cc ret D dA B nL mc ms Q) {off : Int} {tgt : Nat} (hd : decode cc pc = .ok (.if_icmp .gt off, 3)) (ht : (pc : Int) + off = (tgt : Int)) {x y : Int} (kt : y < x → mj_J X tgt L st G M cb sb) (kf : ¬ (y < x) → mj_J X (pc + 3) L st G M cb sb) : mj_J X pc L (.inl y :: .inl x :: st) G M cb sb := by
  intro H locs ls cells slots hH hS hL hst hc hs
  have hy : mj_in y := mj_head hst
  have hx : mj_in x := mj_head (mj_tl hst)
  exact lv_icmp_gt X.1.1 X.1.2.1 hd ht (fun q => kt ((mj_lt hy hx).mp q) H locs ls cells slots hH hS hL (mj_tl (mj_tl hst)) hc hs) (fun q => kf (fun z => q ((mj_lt hy hx).mpr z)) H locs ls cells slots hH hS hL (mj_tl (mj_tl hst)) hc hs)
theorem mj_o_if_gt (X : mj_X p l e R s m args below meth c own cc ret D dA B nL mc ms Q) {off : Int} {tgt : Nat} (hd : decode cc pc = .ok (.ifCond .gt off, 3)) (ht : (pc : Int) + off = (tgt : Int)) {x : Int} (kt : 0 < x → mj_J X tgt L st G M cb sb) (kf : ¬ (0 < x) → mj_J X (pc + 3) L st G M cb sb) : mj_J X pc L (.inl x :: st) G M cb sb := by
  intro H locs ls cells slots hH hS hL hst hc hs
  have hy : mj_in 0 := ⟨by decide, by decide⟩
  have hx : mj_in x := mj_head hst
  exact lv_if_gt X.1.1 X.1.2.1 hd ht (fun q => kt ((mj_lt hy hx).mp q) H locs ls cells slots hH hS hL (mj_tl hst) hc hs) (fun q => kf (fun z => q ((mj_lt hy hx).mpr z)) H locs ls cells slots hH hS hL (mj_tl hst) hc hs)
theorem mj_o_icmp_le (X : mj_X p l e R s m args below meth c own cc ret D dA B nL mc ms Q) {off : Int} {tgt : Nat} (hd : decode cc pc = .ok (.if_icmp .le off, 3)) (ht : (pc : Int) + off = (tgt : Int)) {x y : Int} (kt : x ≤ y → mj_J X tgt L st G M cb sb) (kf : ¬ (x ≤ y) → mj_J X (pc + 3) L st G M cb sb) : mj_J X pc L (.inl y :: .inl x :: st) G M cb sb := by
  intro H locs ls cells slots hH hS hL hst hc hs
  have hy : mj_in y := mj_head hst
  have hx : mj_in x := mj_head (mj_tl hst)
  exact lv_icmp_le X.1.1 X.1.2.1 hd ht (fun q => kt ((mj_le hx hy).mp q) H locs ls cells slots hH hS hL (mj_tl (mj_tl hst)) hc hs) (fun q => kf (fun z => q ((mj_le hx hy).mpr z)) H locs ls cells slots hH hS hL (mj_tl (mj_tl hst)) hc hs)
theorem mj_o_if_le (X : mj_X p l e R s m args below meth c own cc ret D dA B nL mc ms Q) {off : Int} {tgt : Nat} (hd : decode cc pc = .ok (.ifCond .le off, 3)) (ht : (pc : Int) + off = (tgt : Int)) {x : Int} (kt : x ≤ 0 → mj_J X tgt L st G M cb sb) (kf : ¬ (x ≤ 0) → mj_J X (pc + 3) L st G M cb sb) : mj_J X pc L (.inl x :: st) G M cb sb := by
  intro H locs ls cells slots hH hS hL hst hc hs
  have hy : mj_in 0 := ⟨by decide, by decide⟩
  have hx : mj_in x := mj_head hst
  exact lv_if_le X.1.1 X.1.2.1 hd ht (fun q => kt ((mj_le hx hy).mp q) H locs ls cells slots hH hS hL (mj_tl hst) hc hs) (fun q => kf (fun z => q ((mj_le hx hy).mpr z)) H locs ls cells slots hH hS hL (mj_tl hst) hc hs)
theorem mj_o_goto (X : mj_X p l e R s m args below meth c own cc ret D dA B nL mc ms Q) {off : Int} {tgt : Nat} (hd : decode cc pc = .ok (.goto off, 3)) (ht : (pc : Int) + off = (tgt : Int)) (kk : mj_J X tgt L st G M cb sb) : mj_J X pc L st G M cb sb := by
  intro H locs ls cells slots hH hS hL hst hc hs
  exact lv_goto X.1.1 X.1.2.1 hd ht (kk H locs ls cells slots hH hS hL hst hc hs)
theorem mj_o_ifnull (X : mj_X p l e R s m args below meth c own cc ret D dA B nL mc ms Q) {off : Int} {tgt : Nat} (hd : decode cc pc = .ok (.ifnull off, 3)) (ht : (pc : Int) + off = (tgt : Int)) {z : Option Nat} (kt : z = none → mj_J X tgt L st G M cb sb) (kf : ¬ (z = none) → mj_J X (pc + 3) L st G M cb sb) : mj_J X pc L (.inr (.inr z) :: st) G M cb sb := by
  intro H locs ls cells slots hH hS hL hst hc hs
  cases z with
  | none => exact lv_ifnullN X.1.1 X.1.2.1 hd ht (kt rfl H locs ls cells slots hH hS hL (mj_tl hst) hc hs)
  | some a => exact lv_ifnull X.1.1 X.1.2.1 hd (kf (fun q => by cases q) H locs ls cells slots hH hS hL (mj_tl hst) hc hs)
theorem mj_o_ifnonnull (X : mj_X p l e R s m args below meth c own cc ret D dA B nL mc ms Q) {off : Int} {tgt : Nat} (hd : decode cc pc = .ok (.ifnonnull off, 3)) (ht : (pc : Int) + off = (tgt : Int)) {z : Option Nat} (kt : z ≠ none → mj_J X tgt L st G M cb sb) (kf : ¬ (z ≠ none) → mj_J X (pc + 3) L st G M cb sb) : mj_J X pc L (.inr (.inr z) :: st) G M cb sb := by
  intro H locs ls cells slots hH hS hL hst hc hs
  cases z with
  | none => exact lv_ifnonnullN X.1.1 X.1.2.1 hd (kf (fun q => q rfl) H locs ls cells slots hH hS hL (mj_tl hst) hc hs)
  | some a => exact lv_ifnonnull X.1.1 X.1.2.1 hd ht (kt (fun q => by cases q) H locs ls cells slots hH hS hL (mj_tl hst) hc hs)
end MJO
end
section
/-! ===== fields and arrays ===== -/
/-- M' is M but for one slot, which holds v -/
def mj_u (so : Nat) (M : mj_M) (a k : Nat) (v : mj_V) (M' : mj_M) : Prop :=
  (∀ so' x j, ¬ (x = a ∧ j = k) → mj_sv so' M' x j = mj_sv so' M x j) ∧ mj_sv so M' a k = mj_val v ∧ ∀ x j, mj_in (M'.1 x j)
theorem mj_u0 {M : mj_M} {a k : Nat} {z : Int} (hM : ∀ x j, mj_in (M.1 x j)) (hz : mj_in z) : mj_u 0 M a k (.inl z) (mj_p0 M a k z) := by
  refine ⟨fun so' x j h => ?_, ?_, fun x j => ?_⟩
  · unfold mj_sv mj_p0
    dsimp only
    rw [if_neg h]
  · simp [mj_sv, mj_p0, mj_val]
  · unfold mj_p0
    dsimp only
    split
    · exact hz
    · exact hM x j
theorem mj_u1 {M : mj_M} {a k : Nat} {z : Int64} (hM : ∀ x j, mj_in (M.1 x j)) : mj_u 1 M a k (.inr (.inl z)) (mj_p1 M a k z) := by
  refine ⟨fun so' x j h => ?_, ?_, hM⟩
  · unfold mj_sv mj_p1
    dsimp only
    rw [if_neg h]
  · simp [mj_sv, mj_p1, mj_val]
theorem mj_u2 {M : mj_M} {a k : Nat} {z : Option Nat} (hM : ∀ x j, mj_in (M.1 x j)) : mj_u 2 M a k (.inr (.inr z)) (mj_p2 M a k z) := by
  refine ⟨fun so' x j h => ?_, ?_, hM⟩
  · unfold mj_sv mj_p2
    dsimp only
    rw [if_neg h]
  · simp [mj_sv, mj_p2, mj_val]
theorem mj_H.set {D : va_G} {dA : Nat → ClassId} {B : Nat} {G : mj_G} {M M' : mj_M} {H H' : Heap} {a t n : Nat} (h : mj_H D dA B G M H) (hG : G a = (t, n)) (hz : H'.size = H.size) (ho : ∀ q : Nat, q ≠ a → H'[q]? = H[q]?) (hR : ∀ x j, mj_in (M'.1 x j))
    (hM : ∀ so x j, x ≠ a → mj_sv so M' x j = mj_sv so M x j)
    (h1 : ∀ (ci : Nat) (r : vw_C), t % 1000 = ci + 1 → vwCl[ci]? = some r → t_OB a (D.1 ci) r.2.2 (D.2 ci) H' (fun k => mj_sv (mj_so ci k) M' a k))
    (h2 : ∀ j : Nat, t % 1000 = 100 + j → H'[a]? = some (arrV (dA j) n (fun k => mj_sv (mj_as j) M' a k))) : mj_H D dA B G M' H' := by
  refine ⟨hR, fun x hx => h.2.1 x (by rw [← hz]; exact hx), fun x t' n' hx ht => ?_⟩
  obtain ⟨hB, g1, g2⟩ := h.2.2 x t' n' hx ht
  refine ⟨hB, ?_, ?_⟩
  · intro ci r e1 e2
    by_cases hxa : x = a
    · subst hxa
      obtain ⟨rfl, rfl⟩ := Prod.mk.inj (hG.symm.trans hx)
      exact h1 ci r e1 e2
    · exact ((g1 ci r e1 e2).kept (ho x hxa)).to (fun k _ => (hM _ x k hxa).symm)
  · intro j e1
    by_cases hxa : x = a
    · subst hxa
      obtain ⟨rfl, rfl⟩ := Prod.mk.inj (hG.symm.trans hx)
      exact h2 j e1
    · rw [ho x hxa, g2 j e1]
      congr 2
      funext k
      exact (hM _ x k hxa).symm
theorem mj_cl100 {t ci j : Nat} {r : vw_C} (h1 : t % 1000 = ci + 1) (h2 : t % 1000 = 100 + j) (hr : vwCl[ci]? = some r) : False := by
  have := (List.getElem?_eq_some_iff.mp hr).1
  have hl : vwCl.length = 12 := rfl
  omega
section MJH
variable {p : Program} {l : Launch} {e : Env} {R : Room} {s : State} {m : MethodId} {args : Array Value} {below : List Frame} {meth : Method} {c : Code} {own : String} {cc : ByteArray} {ret : Option FieldType} {D : va_G} {dA : Nat → ClassId} {B nL mc ms : Nat} {Q : mj_P}
variable {pc : Nat} {L : mj_L} {st : List mj_V} {G : mj_G} {M : mj_M} {cb sb : Nat}
theorem mj_ne {t k : Nat} (h : t % 1000 = k + 1) : t ≠ 0 := fun q => by rw [q] at h; simp at h
theorem mj_ne1 {t k : Nat} (h : t % 1000 = 100 + k) : t ≠ 0 := fun q => by rw [q] at h; simp at h; omega
theorem mj_o_get (X : mj_X p l e R s m args below meth c own cc ret D dA B nL mc ms Q) {i ci fk a t n : Nat} {r : vw_C} {v : mj_V} (hd : decode cc pc = .ok (.getfield i, 3)) (hr : vwCl[ci]? = some r) (hk : fk < r.2.2) (hlay : ∀ w ∈ u_ws r.1 r.2.1 r.2.2, w ∈ mj_tb) (hlink : Cond.fieldLink own i (r.2.1 fk).1 (r.2.1 fk).2.1 (r.2.1 fk).2.2.1 ∈ mj_tb)
    (hG : G a = (t, n)) (ht : t % 1000 = ci + 1) (hv : (∀ x j, mj_in (M.1 x j)) → mj_val v = mj_sv (mj_so ci fk) M a fk ∧ mj_ok v) (kk : mj_J X (pc + 3) L (v :: st) G M cb sb) : mj_J X pc L (.inr (.inr (some a)) :: st) G M cb sb := by
  intro H locs ls cells slots hH hS hL hst hc hs
  obtain ⟨-, g1, -⟩ := hH.2.2 a t n hG (mj_ne ht)
  obtain ⟨cell, q1, q2, q3, q4⟩ := g1 ci r ht hr
  obtain ⟨hSl, hfc, kC, hkC, hkind⟩ := X.2.2.2.1.1 ci r hr
  obtain ⟨cf, kf, fi, f, hi, hsl⟩ := hSl fk hk
  obtain ⟨e1, e2⟩ := hv hH.1
  refine W.getf X.1.1 X.1.2.1 X.1.2.2.2.2 (X.2.1 _ hlink) hi (u_facts hfc hkC (u_lays X.2.1 hlay hk) hi).1 q1 (by rw [q3]; exact fun h => by cases h) (v := mj_val v) (by rw [hsl, q4 fk hk, e1]) rfl rfl hd ?_
  exact kk H locs ls cells slots hH hS hL (mj_cons (mj_tl hst) e2) hc hs
theorem mj_vaK {U : State} (h : mj_K D dA U) : va_K D vwCl [] U := ⟨h.1, fun k q hq => by simp at hq⟩
theorem mj_o_put (X : mj_X p l e R s m args below meth c own cc ret D dA B nL mc ms Q) {i ci fk a t n : Nat} {r : vw_C} {v : mj_V} {M' : mj_M} {ty : Nat → FieldType} (hd : decode cc pc = .ok (.putfield i, 3)) (hr : vwCl[ci]? = some r) (hk : fk < r.2.2) (hlay : ∀ w ∈ u_ws r.1 r.2.1 r.2.2, w ∈ mj_tb) (hlink : Cond.fieldLink own i (r.2.1 fk).1 (r.2.1 fk).2.1 (r.2.1 fk).2.2.1 ∈ mj_tb)
    (hty : ∀ k, k < r.2.2 → parseFieldDescriptor (r.2.1 k).2.2.1 = some (ty k)) (hnm : ∀ x, x < r.2.2 → ∀ y, y < r.2.2 → x ≠ y → (r.2.1 x).2.1 ≠ (r.2.1 y).2.1) (hfin : (r.2.1 fk).2.2.2 = false ∨ (meth.name = "<init>" ∧ (r.2.1 fk).1 = own))
    (hG : G a = (t, n)) (ht : t % 1000 = ci + 1) (hw9 : t < 900000) (hn : narrow (ty fk) (mj_val v) = mj_val v) (hfit : fits (ty fk) (mj_val v) = true) (hu : (∀ x j, mj_in (M.1 x j)) → mj_ok v → mj_u (mj_so ci fk) M a fk v M') (kk : mj_J X (pc + 3) L st G M' cb sb) : mj_J X pc L (v :: .inr (.inr (some a)) :: st) G M cb sb := by
  intro H locs ls cells slots hH hS hL hst hc hs
  have hap := va_apart (own := own) X.2.1 hlay ty hty hnm (mj_vaK X.2.2.2.1) hr
  obtain ⟨hB, g1, -⟩ := hH.2.2 a t n hG (mj_ne ht)
  obtain ⟨cell, q1, q2, q3, q4⟩ := g1 ci r ht hr
  obtain ⟨hSl, hfc, kC, hkC, hkind⟩ := X.2.2.2.1.1 ci r hr
  obtain ⟨cf, kf, fi, f, hi, hsl⟩ := hSl fk hk
  obtain ⟨u1, u2, u3⟩ := hu hH.1 (mj_head hst)
  have hst' := (u_facts hfc hkC (u_lays X.2.1 hlay hk) hi).1
  have key : ∀ H' : Heap, H'[a]? = some (cell.setSlot f.slot (mj_val v)) → H'.size = H.size → (∀ q, q ≠ a → H'[q]? = H[q]?) → W p l e R s m args below meth c H' (locs ++ [⟨a, f.slot⟩]) cells slots (MQ below (mj_Q D dA B Q) args s mc ms (fun q => B ≤ q)) (F0 m (pc + 3) ls (st.map mj_val)) := by
    intro H' w1 w2 w3
    rw [hsl] at w1 ⊢
    refine kk H' _ ls cells slots (hH.set hG w2 w3 u3 (fun so x j hx => u1 so x j (fun q => hx q.1)) ?_ ?_) (hS.put w2 w3 (hB hw9)) hL (mj_tl (mj_tl hst)) hc hs
    · intro ci' r' e1 e2
      have e3 : ci' = ci := by omega
      subst e3
      obtain rfl : r' = r := Option.some.inj (e2.symm.trans hr)
      refine t_OB.to (V := updV (fun k => mj_sv (mj_so ci' k) M a k) fk (mj_val v)) ⟨_, w1, q2, q3, t_set q4 hap hk (mj_val v)⟩ (fun k _ => ?_)
      by_cases hkf : k = fk
      · subst hkf
        rw [u2]; simp [updV]
      · rw [u1 _ a k (fun q => hkf q.2)]; simp [updV, hkf]
    · intro j e1
      exact (mj_cl100 ht e1 hr).elim
  rcases hfin with hfin | ⟨hin2, hdecl⟩
  · have hlay1 := X.2.1 _ (hlay _ (u_in_lay hk))
    unfold u_lay at hlay1
    rw [if_neg (by rw [hfin]; decide)] at hlay1
    have h6 := u_store hfc hkC hkind hlay1 hi (hty fk hk) hn hfit
    exact W.putK X.1.1 X.1.2.1 (f := f) ⟨X.1.2.2.2.2, X.2.1 _ hlink, ⟨_, _, _, hi⟩, hst'⟩ (by rw [q2]; exact h6) q1 q3 (by rw [hsl]; exact k2_hasslot (q4 fk hk)) rfl rfl hd key
  · cases hb2 : (r.2.1 fk).2.2.2 with
    | false =>
      have hlay1 := X.2.1 _ (hlay _ (u_in_lay hk))
      unfold u_lay at hlay1
      rw [if_neg (by rw [hb2]; decide)] at hlay1
      have h6 := u_store hfc hkC hkind hlay1 hi (hty fk hk) hn hfit
      exact W.putK X.1.1 X.1.2.1 (f := f) ⟨X.1.2.2.2.2, X.2.1 _ hlink, ⟨_, _, _, hi⟩, hst'⟩ (by rw [q2]; exact h6) q1 q3 (by rw [hsl]; exact k2_hasslot (q4 fk hk)) rfl rfl hd key
    | true =>
      have hlay1 := X.2.1 _ (hlay _ (u_in_lay hk))
      unfold u_lay at hlay1
      rw [if_pos hb2] at hlay1
      have hcf : m.cls = cf := by
        obtain ⟨_, _, c', _, _, _, -, -, hf', -, -, -, hown2, -⟩ := Cond.laysFinal_spec hlay1
        have e1 : c' = cf := by have := hi.symm.trans hf'; simp at this; exact this.1.symm
        rw [hdecl] at hown2
        rw [← e1]; exact Option.some.inj (X.1.2.2.2.2.symm.trans hown2)
      have h6 := u_fits hfc hkC hkind (Or.inr hlay1) hi (hty fk hk) hn hfit
      exact W.putFinK X.1.1 X.1.2.1 X.1.2.2.2.2 (X.2.1 _ hlink) hi hst' hcf hin2 (by rw [q2]; exact h6) q1 q3 (by rw [hsl]; exact k2_hasslot (q4 fk hk)) rfl rfl hd key
theorem mj_idx {i : Int} {n : Nat} (hi : mj_in i) (h0 : 0 ≤ i) (h1 : i < n) : ¬ (Int32.ofInt i < 0 ∨ n ≤ (Int32.ofInt i).toNatClampNeg) := by
  rintro (q | q)
  · exact mj_nn hi h0 q
  · rw [mj_nat hi] at q; omega
theorem mj_arr (X : mj_X p l e R s m args below meth c own cc ret D dA B nL mc ms Q) {H : Heap} {a t n j : Nat} (hj : j < 7) (hH : mj_H D dA B G M H) (hG : G a = (t, n)) (ht : t % 1000 = 100 + j) : (t < 900000 → B ≤ a) ∧ H[a]? = some (arrV (dA j) n (fun k => mj_sv (mj_as j) M a k)) ∧ s.isArrayOf (arrV (dA j) n (fun k => mj_sv (mj_as j) M a k)) (mj_at j) := by
  obtain ⟨hB, -, g2⟩ := hH.2.2 a t n hG (mj_ne1 ht)
  exact ⟨hB, g2 j ht, (X.2.2.2.1.2.1 j hj).2 _ _⟩
theorem mj_H.ast {H H' : Heap} {a t n j k : Nat} {v : mj_V} {M' : mj_M} (hH : mj_H D dA B G M H) (hG : G a = (t, n)) (ht : t % 1000 = 100 + j) (hu : mj_u (mj_as j) M a k v M') (w1 : H'[a]? = some ((arrV (dA j) n (fun k => mj_sv (mj_as j) M a k)).setSlot k (mj_val v))) (w2 : H'.size = H.size) (w3 : ∀ q, q ≠ a → H'[q]? = H[q]?) : mj_H D dA B G M' H' := by
  obtain ⟨u1, u2, u3⟩ := hu
  refine hH.set hG w2 w3 u3 (fun so x j hx => u1 so x j (fun q => hx q.1)) ?_ ?_
  · intro ci r e1 e2
    exact (mj_cl100 e1 ht e2).elim
  · intro j' e1
    have e3 : j' = j := by omega
    subst e3
    rw [w1, arrV_store]
    congr 2
    funext q
    by_cases hq : q = k
    · subst hq
      rw [u2]; simp [updV]
    · rw [u1 _ a q (fun z => hq z.2)]; simp [updV, hq]
theorem mj_o_iaload (X : mj_X p l e R s m args below meth c own cc ret D dA B nL mc ms Q) {a t n : Nat} {i : Int} (hd : decode cc pc = .ok (.iaload, 1)) (hG : G a = (t, n)) (ht : t % 1000 = 100 + 0) (h0 : 0 ≤ i) (h1 : i < n) (kk : mj_J X (pc + 1) L (.inl (M.1 a i.toNat) :: st) G M cb sb) : mj_J X pc L (.inl i :: .inr (.inr (some a)) :: st) G M cb sb := by
  intro H locs ls cells slots hH hS hL hst hc hs
  have hi : mj_in i := mj_head hst
  obtain ⟨-, q1, q2⟩ := mj_arr X (by decide) hH hG ht
  refine W.iald X.1.1 X.1.2.1 (v := mj_val (.inl (M.1 a i.toNat))) q1 q2 (fun q => by cases q) (by rw [arrV_size]; exact mj_idx hi h0 h1) (by rw [mj_nat hi, arrV_read _ _ (by omega)]; rfl) rfl rfl hd ?_
  exact kk H locs ls cells slots hH hS hL (mj_cons (mj_tl (mj_tl hst)) (hH.1 a i.toNat)) hc hs
theorem mj_o_baload (X : mj_X p l e R s m args below meth c own cc ret D dA B nL mc ms Q) {a t n : Nat} {i : Int} (hd : decode cc pc = .ok (.baload, 1)) (hG : G a = (t, n)) (ht : t % 1000 = 100 + 1) (h0 : 0 ≤ i) (h1 : i < n) (kk : mj_J X (pc + 1) L (.inl (M.1 a i.toNat) :: st) G M cb sb) : mj_J X pc L (.inl i :: .inr (.inr (some a)) :: st) G M cb sb := by
  intro H locs ls cells slots hH hS hL hst hc hs
  have hi : mj_in i := mj_head hst
  obtain ⟨-, q1, q2⟩ := mj_arr X (by decide) hH hG ht
  refine W.bald X.1.1 X.1.2.1 (v := mj_val (.inl (M.1 a i.toNat))) q1 q2 (fun q => by cases q) (by rw [arrV_size]; exact mj_idx hi h0 h1) (by rw [mj_nat hi, arrV_read _ _ (by omega)]; rfl) rfl rfl hd ?_
  exact kk H locs ls cells slots hH hS hL (mj_cons (mj_tl (mj_tl hst)) (hH.1 a i.toNat)) hc hs
theorem mj_o_zaload (X : mj_X p l e R s m args below meth c own cc ret D dA B nL mc ms Q) {a t n : Nat} {i : Int} (hd : decode cc pc = .ok (.baload, 1)) (hG : G a = (t, n)) (ht : t % 1000 = 100 + 2) (h0 : 0 ≤ i) (h1 : i < n) (kk : mj_J X (pc + 1) L (.inl (M.1 a i.toNat) :: st) G M cb sb) : mj_J X pc L (.inl i :: .inr (.inr (some a)) :: st) G M cb sb := by
  intro H locs ls cells slots hH hS hL hst hc hs
  have hi : mj_in i := mj_head hst
  obtain ⟨-, q1, q2⟩ := mj_arr X (by decide) hH hG ht
  refine W.zald X.1.1 X.1.2.1 (v := mj_val (.inl (M.1 a i.toNat))) q1 q2 (fun q => by cases q) (by rw [arrV_size]; exact mj_idx hi h0 h1) (by rw [mj_nat hi, arrV_read _ _ (by omega)]; rfl) rfl rfl hd ?_
  exact kk H locs ls cells slots hH hS hL (mj_cons (mj_tl (mj_tl hst)) (hH.1 a i.toNat)) hc hs
theorem mj_o_laload (X : mj_X p l e R s m args below meth c own cc ret D dA B nL mc ms Q) {a t n : Nat} {i : Int} (hd : decode cc pc = .ok (.laload, 1)) (hG : G a = (t, n)) (ht : t % 1000 = 100 + 3) (h0 : 0 ≤ i) (h1 : i < n) (kk : mj_J X (pc + 1) L (.inr (.inl (M.2.1 a i.toNat)) :: st) G M cb sb) : mj_J X pc L (.inl i :: .inr (.inr (some a)) :: st) G M cb sb := by
  intro H locs ls cells slots hH hS hL hst hc hs
  have hi : mj_in i := mj_head hst
  obtain ⟨-, q1, q2⟩ := mj_arr X (by decide) hH hG ht
  refine W.lald X.1.1 X.1.2.1 (v := mj_val (.inr (.inl (M.2.1 a i.toNat)))) q1 q2 (fun q => by cases q) (by rw [arrV_size]; exact mj_idx hi h0 h1) (by rw [mj_nat hi, arrV_read _ _ (by omega)]; rfl) rfl rfl hd ?_
  exact kk H locs ls cells slots hH hS hL (mj_cons (mj_tl (mj_tl hst)) trivial) hc hs
theorem mj_o_aaload (X : mj_X p l e R s m args below meth c own cc ret D dA B nL mc ms Q) {a t n j : Nat} {i : Int} (hd : decode cc pc = .ok (.aaload, 1)) (hG : G a = (t, n)) (ht : t % 1000 = 100 + j) (hj : j < 7) (hr : (mj_at j).isReference = true) (hso : mj_as j = 2) (h0 : 0 ≤ i) (h1 : i < n) (kk : mj_rf (M.2.2 a i.toNat) fun v => mj_J X (pc + 1) L (v :: st) G M cb sb) : mj_J X pc L (.inl i :: .inr (.inr (some a)) :: st) G M cb sb := by
  intro H locs ls cells slots hH hS hL hst hc hs
  have hi : mj_in i := mj_head hst
  obtain ⟨-, q1, q2⟩ := mj_arr X hj hH hG ht
  refine W.aald X.1.1 X.1.2.1 (v := mj_val (.inr (.inr (M.2.2 a i.toNat)))) q1 q2 hr (fun q => by cases q) (by rw [arrV_size]; exact mj_idx hi h0 h1) (by rw [mj_nat hi, arrV_read _ _ (by omega), hso]; rfl) rfl rfl hd ?_
  cases hm : M.2.2 a i.toNat with
  | none => exact kk.2 hm H locs ls cells slots hH hS hL (mj_cons (mj_tl (mj_tl hst)) trivial) hc hs
  | some b => exact kk.1 b hm H locs ls cells slots hH hS hL (mj_cons (mj_tl (mj_tl hst)) trivial) hc hs
theorem mj_o_iastore (X : mj_X p l e R s m args below meth c own cc ret D dA B nL mc ms Q) {a t n : Nat} {i : Int} {z : Int} (hd : decode cc pc = .ok (.iastore, 1)) (hG : G a = (t, n)) (ht : t % 1000 = 100 + 0) (hw9 : t < 900000) (h0 : 0 ≤ i) (h1 : i < n) (kk : mj_J X (pc + 1) L st G (mj_p0 M a i.toNat z) cb sb) : mj_J X pc L (.inl z :: .inl i :: .inr (.inr (some a)) :: st) G M cb sb := by
  intro H locs ls cells slots hH hS hL hst hc hs
  have hi : mj_in i := mj_head (mj_tl hst)
  obtain ⟨hB, q1, q2⟩ := mj_arr X (by decide) hH hG ht
  refine W.iast X.1.1 X.1.2.1 q1 q2 (fun q => by cases q) (by rw [arrV_size]; exact mj_idx hi h0 h1) rfl rfl hd (fun H' w1 w2 w3 => ?_)
  · rw [mj_nat hi] at w1 ⊢
    exact kk H' _ ls cells slots (hH.ast (v := .inl z) hG ht (mj_u0 hH.1 (mj_head hst)) w1 w2 w3) (hS.put w2 w3 (hB hw9)) hL (mj_tl (mj_tl (mj_tl hst))) hc hs
theorem mj_o_bastore (X : mj_X p l e R s m args below meth c own cc ret D dA B nL mc ms Q) {a t n : Nat} {i : Int} {z : Int} (hd : decode cc pc = .ok (.bastore, 1)) (hG : G a = (t, n)) (ht : t % 1000 = 100 + 1) (hw9 : t < 900000) (h0 : 0 ≤ i) (h1 : i < n) (kk : mj_J X (pc + 1) L st G (mj_p0 M a i.toNat (mj_nb z)) cb sb) : mj_J X pc L (.inl z :: .inl i :: .inr (.inr (some a)) :: st) G M cb sb := by
  intro H locs ls cells slots hH hS hL hst hc hs
  have hi : mj_in i := mj_head (mj_tl hst)
  obtain ⟨hB, q1, q2⟩ := mj_arr X (by decide) hH hG ht
  refine W.bast X.1.1 X.1.2.1 q1 q2 (fun q => by cases q) (by rw [arrV_size]; exact mj_idx hi h0 h1) rfl rfl hd (fun H' w1 w2 w3 => ?_)
  · rw [mj_nat hi] at w1 ⊢
    have e : narrow .byte (.int (Int32.ofInt z)) = mj_val (.inl (mj_nb z)) := by
      show Value.int (Int32.ofInt z).toInt8.toInt32 = Value.int (Int32.ofInt (Int32.ofInt z).toInt8.toInt32.toInt)
      rw [mj_it]
    rw [e] at w1
    exact kk H' _ ls cells slots (hH.ast (v := .inl (mj_nb z)) hG ht (mj_u0 hH.1 (mj_rng _)) w1 w2 w3) (hS.put w2 w3 (hB hw9)) hL (mj_tl (mj_tl (mj_tl hst))) hc hs
theorem mj_o_zastore (X : mj_X p l e R s m args below meth c own cc ret D dA B nL mc ms Q) {a t n : Nat} {i : Int} {z : Int} (hd : decode cc pc = .ok (.bastore, 1)) (hG : G a = (t, n)) (ht : t % 1000 = 100 + 2) (hz : z = 0 ∨ z = 1) (hw9 : t < 900000) (h0 : 0 ≤ i) (h1 : i < n) (kk : mj_J X (pc + 1) L st G (mj_p0 M a i.toNat z) cb sb) : mj_J X pc L (.inl z :: .inl i :: .inr (.inr (some a)) :: st) G M cb sb := by
  intro H locs ls cells slots hH hS hL hst hc hs
  have hi : mj_in i := mj_head (mj_tl hst)
  obtain ⟨hB, q1, q2⟩ := mj_arr X (by decide) hH hG ht
  refine W.zast X.1.1 X.1.2.1 q1 q2 (fun q => by cases q) (by rw [arrV_size]; exact mj_idx hi h0 h1) rfl rfl hd (fun H' w1 w2 w3 => ?_)
  · rw [mj_nat hi] at w1 ⊢
    have e : narrow .boolean (.int (Int32.ofInt z)) = mj_val (.inl z) := by rcases hz with rfl | rfl <;> rfl
    rw [e] at w1
    exact kk H' _ ls cells slots (hH.ast (v := .inl z) hG ht (mj_u0 hH.1 (mj_head hst)) w1 w2 w3) (hS.put w2 w3 (hB hw9)) hL (mj_tl (mj_tl (mj_tl hst))) hc hs
theorem mj_o_lastore (X : mj_X p l e R s m args below meth c own cc ret D dA B nL mc ms Q) {a t n : Nat} {i : Int} {z : Int64} (hd : decode cc pc = .ok (.lastore, 1)) (hG : G a = (t, n)) (ht : t % 1000 = 100 + 3) (hw9 : t < 900000) (h0 : 0 ≤ i) (h1 : i < n) (kk : mj_J X (pc + 1) L st G (mj_p1 M a i.toNat z) cb sb) : mj_J X pc L (.inr (.inl z) :: .inl i :: .inr (.inr (some a)) :: st) G M cb sb := by
  intro H locs ls cells slots hH hS hL hst hc hs
  have hi : mj_in i := mj_head (mj_tl hst)
  obtain ⟨hB, q1, q2⟩ := mj_arr X (by decide) hH hG ht
  refine W.last X.1.1 X.1.2.1 q1 q2 (fun q => by cases q) (by rw [arrV_size]; exact mj_idx hi h0 h1) rfl rfl hd (fun H' w1 w2 w3 => ?_)
  · rw [mj_nat hi] at w1 ⊢
    exact kk H' _ ls cells slots (hH.ast (v := .inr (.inl z)) hG ht (mj_u1 hH.1) w1 w2 w3) (hS.put w2 w3 (hB hw9)) hL (mj_tl (mj_tl (mj_tl hst))) hc hs
theorem mj_o_alen (X : mj_X p l e R s m args below meth c own cc ret D dA B nL mc ms Q) {a t n j : Nat} (hd : decode cc pc = .ok (.arraylength, 1)) (hG : G a = (t, n)) (ht : t % 1000 = 100 + j) (hj : j < 7) (hn : mj_in n) (kk : mj_J X (pc + 1) L (.inl (n : Int) :: st) G M cb sb) : mj_J X pc L (.inr (.inr (some a)) :: st) G M cb sb := by
  intro H locs ls cells slots hH hS hL hst hc hs
  obtain ⟨-, q1, q2⟩ := mj_arr X hj hH hG ht
  refine W.alen (n := Int32.ofInt n) X.1.1 X.1.2.1 q1 q2 (by rw [arrV_size]; rfl) rfl rfl hd ?_
  exact kk H locs ls cells slots hH hS hL (mj_cons (mj_tl hst) hn) hc hs
theorem mj_fin (X : mj_X p l e R s m args below meth c own cc ret D dA B nL mc ms Q) {H : Heap} {locs : List Loc} {r : Option mj_V} (hH : mj_H D dA B G M H) (hS : va_S (fun q => B ≤ q) s.heap H locs) (hr : ∀ v, r = some v → mj_ok v) (kk : Q r G M) : ∀ t : State, t.heap = H → s.WarmedH t.vm → mj_Q D dA B Q args s (.returned (r.map mj_val)) t := by
  intro t ht hW
  exact ⟨r, G, M, rfl, kk, hr, by rw [ht]; exact hH, mj_K.moved hW.alike X.2.2.2.1, hS.F ht⟩
theorem mj_o_return (X : mj_X p l e R s m args below meth c own cc ret D dA B nL mc ms Q) (hd : decode cc pc = .ok (.return_, 1)) (hr : ret = none) (kk : Q none G M) : mj_J X pc L [] G M cb sb := by
  intro H locs ls cells slots hH hS hL hst hc hs
  refine W.widen (k := mc) (n := ms) (by omega) (by omega) ?_
  exact W.vret X.1.1 X.1.2.1 (X.1.2.2.2.1.trans hr) (mj_fin X hH hS (fun v q => by cases q) kk) hS.2.2 hd X.2.2.1
theorem mj_o_ireturn (X : mj_X p l e R s m args below meth c own cc ret D dA B nL mc ms Q) {z : Int} (hd : decode cc pc = .ok (.ireturn, 1)) (hr : ret = some .int ∨ (ret = some .boolean ∧ (z = 0 ∨ z = 1))) (kk : Q (some (.inl z)) G M) : mj_J X pc L [.inl z] G M cb sb := by
  intro H locs ls cells slots hH hS hL hst hc hs
  refine W.widen (k := mc) (n := ms) (by omega) (by omega) ?_
  have hz : mj_in z := mj_head hst
  have hq := mj_fin X hH hS (r := some (.inl z)) (fun v q => by cases q; exact hz) kk
  rcases hr with hr | ⟨hr, h2⟩
  · exact W.iret X.1.1 X.1.2.1 (X.1.2.2.2.1.trans hr) hq hS.2.2 hd X.2.2.1
  · exact W.zret X.1.1 X.1.2.1 (X.1.2.2.2.1.trans hr) (by rcases h2 with rfl | rfl <;> rfl) hq hS.2.2 hd X.2.2.1
end MJH
end
section
/-! ===== new cells, calls ===== -/
theorem mj_good {ws : List Cond} (h : ∀ w ∈ ws, w ∈ mj_tb) : GoodIn mj_tb ws := fun w hw => ⟨h w hw, (mj_tb_good w (h w hw)).2⟩
theorem mj_sv_z {so : Nat} {M : mj_M} {a x j : Nat} (h : x ≠ a) : mj_sv so (mj_z M a) x j = mj_sv so M x j := by
  unfold mj_sv mj_z
  dsimp only
  rw [if_neg h, if_neg h, if_neg h]
theorem mj_sv_z0 {M : mj_M} {a j : Nat} (ty : FieldType) (h : ty ≠ .float ∧ ty ≠ .double) : mj_sv (mj_fs ty) (mj_z M a) a j = defaultValue ty := by
  unfold mj_sv mj_z
  cases ty <;> simp [mj_fs, defaultValue, va_rf] at h ⊢
theorem mj_H.push1 {D : va_G} {dA : Nat → ClassId} {B : Nat} {G : mj_G} {M : mj_M} {H H' : Heap} {t n : Nat} (h : mj_H D dA B G M H) (hB : B ≤ H.size) (w2 : H'.size = H.size + 1) (w3 : ∀ q : Nat, q < H.size → H'[q]? = H[q]?)
    (h1 : ∀ (ci : Nat) (r : vw_C), t % 1000 = ci + 1 → vwCl[ci]? = some r → t_OB H.size (D.1 ci) r.2.2 (D.2 ci) H' (fun k => mj_sv (mj_so ci k) (mj_z M H.size) H.size k))
    (h2 : ∀ j : Nat, t % 1000 = 100 + j → H'[H.size]? = some (arrV (dA j) n (fun k => mj_sv (mj_as j) (mj_z M H.size) H.size k))) : mj_H D dA B (mj_g G H.size t n) (mj_z M H.size) H' := by
  refine ⟨fun a k => ?_, fun x hx => ?_, fun x t' n' hx ht => ?_⟩
  · unfold mj_z
    dsimp only
    split
    · exact ⟨by decide, by decide⟩
    · exact h.1 a k
  · unfold mj_g
    rw [if_neg (by omega)]
    exact h.2.1 x (by omega)
  · unfold mj_g at hx
    split at hx
    · rename_i hxa
      subst hxa
      obtain ⟨rfl, rfl⟩ := Prod.mk.inj hx
      exact ⟨fun _ => hB, h1, h2⟩
    · rename_i hxa
      have hlt : x < H.size := by
        rcases Nat.lt_or_ge x H.size with q | q
        · exact q
        · have := h.2.1 x q
          rw [hx] at this
          exact absurd (Prod.mk.inj this).1 ht
      obtain ⟨hB', g1, g2⟩ := h.2.2 x t' n' hx ht
      refine ⟨hB', fun ci r e1 e2 => ((g1 ci r e1 e2).kept (w3 x hlt)).to (fun k _ => (mj_sv_z hxa).symm), fun j e1 => ?_⟩
      rw [w3 x hlt, g2 j e1]
      congr 2
      funext k
      exact (mj_sv_z hxa).symm
theorem mj_S_up {A : Nat → Prop} {H0 H H' : Heap} {locs : List Loc} (hS : va_S A H0 H locs) (w2 : H.size ≤ H'.size) (w3 : ∀ q : Nat, q < H.size → H'[q]? = H[q]?) : va_S A H0 H' locs :=
  ⟨Nat.le_trans hS.1 w2, fun q h1 h2 => by rw [w3 q (Nat.lt_of_lt_of_le h1 hS.1)]; exact hS.2.1 q h1 h2, hS.2.2⟩
def mj_Pc (D : va_G) (dA : Nat → ClassId) (B : Nat) (av : List mj_V) (G : mj_G) (M : mj_M) : Array Value → State → Prop := va_Pc (av.map mj_val) (fun U => mj_H D dA B G M U.heap ∧ mj_K D dA U ∧ (∀ v ∈ av, mj_ok v) ∧ B ≤ U.heap.size)
def mj_rm (d : Nat) (q : Nat × Nat) : Room := { frames := d, cells := q.1, slots := q.2, locals := 100 * d + 100 }
theorem mj_blind {D : va_G} {dA : Nat → ClassId} {B : Nat} {av : List mj_V} {G : mj_G} {M : mj_M} : FrameBlind (mj_Pc D dA B av G M) := by
  intro a U g mk q
  obtain ⟨q0, q1, q2, q3, q4⟩ := q
  exact ⟨q0, q1, mj_K.moved (u := U) (U := U.calling g mk a) (Vm.Alike.refl U.vm) q2, q3, q4⟩
theorem mj_map_ret (r : Option mj_V) (st : List mj_V) : (r.map mj_val).toList ++ st.map mj_val = (mj_ret r st).map mj_val := by
  cases r <;> rfl
theorem mj_cat_eq : ∀ st : List mj_V, ((st.map mj_val).map fun v => v.category).sum = mj_cat st
  | [] => rfl
  | v :: t => by
    have ih := mj_cat_eq t
    rcases v with z | w | r
    · simp only [List.map_cons, List.sum_cons, ih]; rfl
    · simp only [List.map_cons, List.sum_cons, ih]; rfl
    · cases r <;> (simp only [List.map_cons, List.sum_cons, ih]; rfl)
section MJC
variable {p : Program} {l : Launch} {e : Env} {R : Room} {s : State} {m : MethodId} {args : Array Value} {below : List Frame} {meth : Method} {c : Code} {own : String} {cc : ByteArray} {ret : Option FieldType} {D : va_G} {dA : Nat → ClassId} {B nL mc ms : Nat} {Q : mj_P}
variable {pc : Nat} {L : mj_L} {st : List mj_V} {G : mj_G} {M : mj_M} {cb sb : Nat}
theorem mj_o_new (X : mj_X p l e R s m args below meth c own cc ret D dA B nL mc ms Q) {i ci N t : Nat} {r : vw_C} (hd : decode cc pc = .ok (.new i, 3)) (hr : vwCl[ci]? = some r) (hlay : ∀ w ∈ u_ws r.1 r.2.1 r.2.2, w ∈ mj_tb) (hty : ∀ k, k < r.2.2 → parseFieldDescriptor (r.2.1 k).2.2.1 = some (mj_ty ci k)) (hnf : ∀ k, k < r.2.2 → mj_ty ci k ≠ .float ∧ mj_ty ci k ≠ .double)
    (hw1 : Cond.classLink own i r.1 ∈ mj_tb) (hw2 : Cond.instantiable r.1 N ∈ mj_tb) (hw3 : Cond.initialized r.1 ∈ mj_tb) (ht : t % 1000 = ci + 1) (h1 : 1 ≤ cb) (h2 : N ≤ sb)
    (kk : ∀ a, (∀ x, a ≤ x → G x = (0, 0)) → mj_J X (pc + 3) L (.inr (.inr (some a)) :: st) (mj_g G a t 0) (mj_z M a) (cb - 1) (sb - N)) : mj_J X pc L st G M cb sb := by
  intro H locs ls cells slots hH hS hL hst hc hs
  obtain ⟨hSl, hfc, -⟩ := id (X.2.2.2.1.1 ci r hr)
  have hm1 : mc ≤ R.cells := X.2.2.2.2.2.2.2.1
  have hm2 : ms ≤ R.slots := X.2.2.2.2.2.2.2.2
  refine W.newcK X.1.1 X.1.2.1 X.1.2.2.2.2 (X.2.1 _ hw1) (X.2.1 _ hw2) (X.2.1 _ hw3) rfl hd (by omega) (by omega) hfc rfl (fun H' kC hkC w1 w2 w3 => ?_)
  refine kk H.size hH.2.1 H' locs ls (cells + 1) (slots + N) (hH.push1 (Nat.le_trans X.2.2.2.2.1 hS.1) w2 w3 ?_ ?_) (mj_S_up hS (by omega) w3) hL (mj_cons hst trivial) (by omega) (by omega)
  · intro ci' r' e1 e2
    have e3 : ci' = ci := by omega
    subst e3
    obtain rfl : r' = r := Option.some.inj (e2.symm.trans hr)
    exact (u_born (mj_ty ci') X.2.1 hlay (X.2.2.2.1.1 ci' r' hr) hkC w1 hty).to (fun k hk => (mj_sv_z0 _ (hnf k hk)).symm)
  · intro j e1
    exact (mj_cl100 ht e1 hr).elim
theorem mj_o_newarray (X : mj_X p l e R s m args below meth c own cc ret D dA B nL mc ms Q) {aty : ArrayType} {j t : Nat} {z : Int} (hd : decode cc pc = .ok (.newarray aty, 2)) (hj : j < 4) (hja : newarray.typeOf aty = mj_at j) (hw : Cond.arrayClass (mj_at j) ∈ mj_tb) (ht : t % 1000 = 100 + j) (h0 : 0 ≤ z) (h9 : z ≤ 100000) (h1 : 1 ≤ cb) (h2 : z.toNat ≤ sb)
    (kk : ∀ a, (∀ x, a ≤ x → G x = (0, 0)) → mj_J X (pc + 2) L (.inr (.inr (some a)) :: st) (mj_g G a t z.toNat) (mj_z M a) (cb - 1) (sb - z.toNat)) : mj_J X pc L (.inl z :: st) G M cb sb := by
  intro H locs ls cells slots hH hS hL hst hc hs
  have hz : mj_in z := mj_head hst
  have hm1 : mc ≤ R.cells := X.2.2.2.2.2.2.2.1
  have hm2 : ms ≤ R.slots := X.2.2.2.2.2.2.2.2
  refine W.newa X.1.1 X.1.2.1 (by rw [hja]; exact X.2.1 _ hw) rfl hd rfl (mj_nn hz h0) (by rw [mj_nat hz, hja]; rcases (show j = 0 ∨ j = 1 ∨ j = 2 ∨ j = 3 by omega) with rfl | rfl | rfl | rfl <;> (simp only [mj_at, componentBytes]; omega)) (by omega) (by rw [mj_nat hz]; omega) (fun cA kA comp f1 f2 f3 => ?_)
  rw [hja] at f1
  have hcA : cA = dA j := Option.some.inj (f1.symm.trans (X.2.2.2.1.2.1 j (by omega)).1)
  subst hcA
  rw [mj_nat hz, hja, arrV_new]
  refine kk H.size hH.2.1 _ locs ls (cells + 1) (slots + z.toNat) (hH.push1 (Nat.le_trans X.2.2.2.2.1 hS.1) (by simp) (fun q hq => by simp [Array.getElem?_push, Nat.ne_of_lt hq]) ?_ ?_) (mj_S_up hS (by simp) (fun q hq => by simp [Array.getElem?_push, Nat.ne_of_lt hq])) hL (mj_cons (mj_tl hst) trivial) (by omega) (by omega)
  · intro ci r e1 e2
    exact (mj_cl100 e1 ht e2).elim
  · intro j' e1
    have e3 : j' = j := by omega
    subst e3
    rw [Array.getElem?_push, if_pos rfl]
    congr 2
    funext k
    exact (mj_sv_z0 _ (by rcases (show j' = 0 ∨ j' = 1 ∨ j' = 2 ∨ j' = 3 by omega) with rfl | rfl | rfl | rfl <;> (constructor <;> decide))).symm
/-- behind a call -/
theorem mj_after (X : mj_X p l e R s m args below meth c own cc ret D dA B nL mc ms Q) {H : Heap} {locs : List Loc} {ls : Array Slot} {cells slots mc' ms' : Nat} {st0 : List Value} {a : Array Value} {Q2 : mj_P} (hr : va_Run p l e R s m args below meth c H locs cells slots mc' ms' (F0 m pc ls st0) (st.map mj_val) (mj_Q D dA B Q2 a) (fun q => B ≤ q))
    (hS : va_S (fun q => B ≤ q) s.heap H locs) (hL : mj_LO ls nL L) (hst : ∀ v ∈ st, mj_ok v) (hc : cells + cb ≤ mc) (hs : slots + sb ≤ ms) (h1 : mc' ≤ cb) (h2 : ms' ≤ sb) (kk : ∀ r G M, Q2 r G M → mj_J X (pc + 3) L (mj_ret r st) G M (cb - mc') (sb - ms')) :
    W p l e R s m args below meth c H locs cells slots (MQ below (mj_Q D dA B Q) args s mc ms (fun q => B ≤ q)) (F0 m pc ls st0) := by
  intro T hT XS
  obtain ⟨v, st₀, t, T', L', h0, X', hL', e1, e2, ⟨r, G', M', hv, hq, hok, hH', hK', hz, hk⟩, stp⟩ := hr T hT XS
  obtain rfl : v = r.map mj_val := Outcome.returned.inj hv
  rw [h0] at hz hk
  have hS' : va_S (fun q => B ≤ q) s.heap T'.heap (locs ++ L') := ⟨Nat.le_trans hS.1 (by rw [e1]; exact hz), fun q h1 h2 => by rw [e1, hk q (Nat.lt_of_lt_of_le h1 hS.1) h2]; exact hS.2.1 q h1 h2, fun q hq => by
      rcases List.mem_append.mp hq with h | h
      · exact hS.2.2 q h
      · exact hL' q h⟩
  have hok' : ∀ v ∈ mj_ret r st, mj_ok v := by
    cases r with
    | none => exact hst
    | some v => exact mj_cons hst (hok v rfl)
  obtain ⟨t2, a1, b1⟩ := kk r G' M' hq T'.heap (locs ++ L') ls (cells + mc') (slots + ms') (by rw [e1]; exact hH') hS' hL hok' (by omega) (by omega) T' rfl X'
  refine ⟨t2, stp t2 ?_, b1⟩
  rw [← mj_map_ret] at a1
  exact a1
theorem mj_o_callV (X : mj_X p l e R s m args below meth c own cc ret D dA B nL mc ms Q) {i a t n N ci d maxL mc' ms' : Nat} {y : MethodName} {bytes : ByteArray} {rt : Option FieldType} {As : List mj_V} {Q2 : mj_P} {r : vw_C} (hd : decode cc pc = .ok (.invokevirtual i, 3))
    (hM : Met l y (.code y bytes maxL rt :: mj_tb) (mj_rm d (mc', ms')) (mj_Pc D dA B (.inr (.inr (some a)) :: As) G M) (mj_Q D dA B Q2) mc' ms' (fun q => B ≤ q)) (hR : d + 1 ≤ R.frames ∧ 8 + (maxL + 11) + (100 * d + 100) ≤ R.locals)
    (hr : vwCl[ci]? = some r) (hy : y.cls = r.1) (hy2 : y.cls ≠ "java/lang/invoke/MethodHandle" ∧ y.cls ≠ "java/lang/invoke/VarHandle" ∧ (parseMethodDescriptor y.desc).map (fun d => d.parameters.length) = some N) (hN : As.length = N)
    (hw1 : Cond.methodLink own i y ∈ mj_tb) (hw2 : Cond.instanceMethod y ∈ mj_tb) (hw3 : Cond.selects r.1 y y ∈ mj_tb) (hw4 : Cond.initialized r.1 ∈ mj_tb) (hw5 : Cond.code y bytes maxL rt ∈ mj_tb)
    (hG : G a = (t, n)) (ht : t % 1000 = ci + 1) (h8 : mj_cat st ≤ 8) (h1 : mc' ≤ cb) (h2 : ms' ≤ sb) (kk : ∀ r G M, Q2 r G M → mj_J X (pc + 3) L (mj_ret r st) G M (cb - mc') (sb - ms')) : mj_J X pc L (As.reverse ++ .inr (.inr (some a)) :: st) G M cb sb := by
  intro H locs ls cells slots hH hS hL hst hc hs
  have hm1 : mc ≤ R.cells := X.2.2.2.2.2.2.2.1
  have hm2 : ms ≤ R.slots := X.2.2.2.2.2.2.2.2
  obtain ⟨-, g1, -⟩ := hH.2.2 a t n hG (mj_ne ht)
  obtain ⟨cell, q1, q2, q3, q4⟩ := g1 ci r ht hr
  obtain ⟨hSl, hfc, -⟩ := id (X.2.2.2.1.1 ci r hr)
  have hstA : ∀ v ∈ As, mj_ok v := fun v hv => hst v (List.mem_append_left _ (List.mem_reverse.mpr hv))
  have hst' : ∀ v ∈ st, mj_ok v := fun v hv => hst v (List.mem_append_right _ (List.mem_cons_of_mem _ hv))
  have hgood : GoodIn mj_tb (wsV own i r.1 y (.code y bytes maxL rt :: mj_tb)) := mj_good fun w hw => by
    simp only [wsV, List.cons_append, List.nil_append, List.mem_cons] at hw
    rcases hw with rfl | rfl | rfl | rfl | rfl | hw
    · exact hw1
    · exact hw2
    · exact hw3
    · exact hw4
    · exact hw5
    · exact hw
  refine mj_after X (va_runV (As := As.map mj_val) (rest := st.map mj_val) (b := a) ⟨X.1.1, X.1.2.1, X.1.2.2.1, X.1.2.2.2.2, X.2.1⟩ hM (cwV N X.2.1 hgood rfl rfl rfl ⟨hy, hy2⟩ hR) ⟨mj_blind, ⟨cell, q1, by rw [q3]; rfl, by rw [q2]; exact hfc⟩, fun U hU hW => ⟨rfl, by rw [hU]; exact hH, mj_K.moved hW.alike X.2.2.2.1, mj_cons hstA trivial, by rw [hU]; exact Nat.le_trans X.2.2.2.2.1 hS.1⟩⟩ rfl (by rw [List.length_map]; exact hN) hL.1.1 (by simp [List.map_append, List.map_reverse, mj_val, va_rf]) (by rw [mj_cat_eq]; show 2 * 0 + mj_cat st ≤ 8; omega) hd ⟨by omega, by omega⟩) hS hL hst' hc hs h1 h2 kk
theorem mj_o_callS (X : mj_X p l e R s m args below meth c own cc ret D dA B nL mc ms Q) {i N d maxL mc' ms' : Nat} {y : MethodName} {bytes : ByteArray} {rt : Option FieldType} {As : List mj_V} {Q2 : mj_P} (hd : decode cc pc = .ok (.invokestatic i, 3))
    (hM : Met l y (.code y bytes maxL rt :: mj_tb) (mj_rm d (mc', ms')) (mj_Pc D dA B As G M) (mj_Q D dA B Q2) mc' ms' (fun q => B ≤ q)) (hR : d + 1 ≤ R.frames ∧ 8 + (maxL + 11) + (100 * d + 100) ≤ R.locals)
    (hy2 : y.cls ≠ "java/lang/invoke/MethodHandle" ∧ y.cls ≠ "java/lang/invoke/VarHandle" ∧ (parseMethodDescriptor y.desc).map (fun d => d.parameters.length) = some N) (hN : As.length = N)
    (hw1 : Cond.methodLink own i y ∈ mj_tb) (hw2 : Cond.static y ∈ mj_tb) (hw4 : Cond.initialized y.cls ∈ mj_tb) (hw5 : Cond.code y bytes maxL rt ∈ mj_tb)
    (h8 : mj_cat st ≤ 8) (h1 : mc' ≤ cb) (h2 : ms' ≤ sb) (kk : ∀ r G M, Q2 r G M → mj_J X (pc + 3) L (mj_ret r st) G M (cb - mc') (sb - ms')) : mj_J X pc L (As.reverse ++ st) G M cb sb := by
  intro H locs ls cells slots hH hS hL hst hc hs
  have hm1 : mc ≤ R.cells := X.2.2.2.2.2.2.2.1
  have hm2 : ms ≤ R.slots := X.2.2.2.2.2.2.2.2
  have hstA : ∀ v ∈ As, mj_ok v := fun v hv => hst v (List.mem_append_left _ (List.mem_reverse.mpr hv))
  have hst' : ∀ v ∈ st, mj_ok v := fun v hv => hst v (List.mem_append_right _ hv)
  have hgood : GoodIn mj_tb (va_wsS own i y (.code y bytes maxL rt :: mj_tb)) := mj_good fun w hw => by
    simp only [va_wsS, List.cons_append, List.nil_append, List.mem_cons] at hw
    rcases hw with rfl | rfl | rfl | rfl | hw
    · exact hw1
    · exact hw2
    · exact hw4
    · exact hw5
    · exact hw
  refine mj_after X (va_runS (As := As.map mj_val) (rest := st.map mj_val) ⟨X.1.1, X.1.2.1, X.1.2.2.1, X.1.2.2.2.2, X.2.1⟩ hM (va_cwS N X.2.1 hgood rfl rfl rfl hy2 hR) ⟨mj_blind, fun U hU hW => ⟨rfl, by rw [hU]; exact hH, mj_K.moved hW.alike X.2.2.2.1, hstA, by rw [hU]; exact Nat.le_trans X.2.2.2.2.1 hS.1⟩⟩ rfl (by rw [List.length_map]; exact hN) hL.1.1 (by simp [List.map_append, List.map_reverse]) (by rw [mj_cat_eq]; show 2 * 0 + mj_cat st ≤ 8; omega) hd ⟨by omega, by omega⟩) hS hL hst' hc hs h1 h2 kk
theorem mj_o_callI (X : mj_X p l e R s m args below meth c own cc ret D dA B nL mc ms Q) {i a N d maxL mc' ms' : Nat} {y : MethodName} {bytes : ByteArray} {As : List mj_V} {Q2 : mj_P} (hd : decode cc pc = .ok (.invokespecial i, 3))
    (hM : Met l y (.code y bytes maxL none :: mj_tb) (mj_rm d (mc', ms')) (mj_Pc D dA B (.inr (.inr (some a)) :: As) G M) (mj_Q D dA B Q2) mc' ms' (fun q => B ≤ q)) (hR : d + 1 ≤ R.frames ∧ 8 + (maxL + 11) + (100 * d + 100) ≤ R.locals) (hn : y.name = "<init>")
    (hy2 : y.cls ≠ "java/lang/invoke/MethodHandle" ∧ y.cls ≠ "java/lang/invoke/VarHandle" ∧ (parseMethodDescriptor y.desc).map (fun d => d.parameters.length) = some N) (hN : As.length = N)
    (hw1 : Cond.methodLink own i y ∈ mj_tb) (hw2 : Cond.instanceMethod y ∈ mj_tb) (hw4 : Cond.initialized y.cls ∈ mj_tb) (hw5 : Cond.code y bytes maxL none ∈ mj_tb)
    (h8 : mj_cat st ≤ 8) (h1 : mc' ≤ cb) (h2 : ms' ≤ sb) (kk : ∀ r G M, Q2 r G M → mj_J X (pc + 3) L (mj_ret r st) G M (cb - mc') (sb - ms')) : mj_J X pc L (As.reverse ++ .inr (.inr (some a)) :: st) G M cb sb := by
  intro H locs ls cells slots hH hS hL hst hc hs
  have hm1 : mc ≤ R.cells := X.2.2.2.2.2.2.2.1
  have hm2 : ms ≤ R.slots := X.2.2.2.2.2.2.2.2
  have hstA : ∀ v ∈ As, mj_ok v := fun v hv => hst v (List.mem_append_left _ (List.mem_reverse.mpr hv))
  have hst' : ∀ v ∈ st, mj_ok v := fun v hv => hst v (List.mem_append_right _ (List.mem_cons_of_mem _ hv))
  have hgood : GoodIn mj_tb (.code y bytes maxL none :: mj_tb) := mj_good fun w hw => by
    rcases List.mem_cons.mp hw with rfl | hw
    · exact hw5
    · exact hw
  refine mj_after X (va_runI (As := As.map mj_val) (rest := st.map mj_val) (b := a) ⟨X.1.1, X.1.2.1, X.1.2.2.1, X.1.2.2.2.2, X.2.1⟩ hM (cwI N X.2.1 hgood rfl rfl rfl (X.2.1 _ hw4) (X.2.1 _ hw1) (X.2.1 _ hw2) hn hy2 hR) ⟨mj_blind, fun U hU hW => ⟨rfl, by rw [hU]; exact hH, mj_K.moved hW.alike X.2.2.2.1, mj_cons hstA trivial, by rw [hU]; exact Nat.le_trans X.2.2.2.2.1 hS.1⟩⟩ rfl (by rw [List.length_map]; exact hN) hL.1.1 (by simp [List.map_append, List.map_reverse, mj_val, va_rf]) (by rw [mj_cat_eq]; show 2 * 0 + mj_cat st ≤ 8; omega) hd ⟨by omega, by omega⟩) hS hL hst' hc hs h1 h2 kk
theorem mj_o_objInit (X : mj_X p l e R s m args below meth c own cc ret D dA B nL mc ms Q) {i a : Nat} (hd : decode cc pc = .ok (.invokespecial i, 3)) (hw1 : Cond.methodLink own i objectInit ∈ mj_tb) (hw2 : Cond.instanceMethod objectInit ∈ mj_tb) (hw3 : Cond.code objectInit ⟨#[0xb1]⟩ 1 none ∈ mj_tb) (h8 : mj_cat st ≤ 8)
    (kk : mj_J X (pc + 3) L st G M cb sb) : mj_J X pc L (.inr (.inr (some a)) :: st) G M cb sb := by
  intro H locs ls cells slots hH hS hL hst hc hs
  have hm1 : 1 ≤ R.frames := X.2.2.2.2.2.1
  have hm2 : 100 ≤ R.locals := X.2.2.2.2.2.2.1
  exact W.objInit X.1.1 X.1.2.1 X.1.2.2.2.2 (X.2.1 _ hw1) (X.2.1 _ hw2) (X.2.1 _ hw3) rfl (hL.1.1.trans X.1.2.2.1.symm) rfl hd hm1 (by rw [mj_cat_eq]; show 2 * 0 + mj_cat st + 12 ≤ _; omega) (kk H locs ls cells slots hH hS hL (mj_tl hst) hc hs)
end MJC
end
section
/-! ===== new int[n][k] ===== -/
theorem mj_outer (c : ClassId) (N h0 : Nat) : ∀ i : Nat, Jvm.Free.Multi.outerC c N h0 i = arrV c N (fun j => va_rf (if j < i then some (h0 + 1 + j) else none))
  | 0 => by
    show ({ cls := c, slots := Array.replicate N .null, vm := .none } : Cell) = _
    rw [arrV_new]
    refine congrArg (arrV c N) (funext fun j => ?_)
    simp [va_rf]
  | i + 1 => by
    show (Jvm.Free.Multi.outerC c N h0 i).setSlot i (.ref (h0 + 1 + i)) = _
    rw [mj_outer c N h0 i, arrV_store]
    refine congrArg (arrV c N) (funext fun j => ?_)
    by_cases e : j = i
    · subst e
      simp [updV, va_rf]
    · by_cases h : j < i
      · simp [updV, e, h, Nat.lt_succ_of_lt h]
      · simp [updV, e, h, show ¬ j < i + 1 by omega]
theorem mj_sv_zz {so : Nat} {M : mj_M} {a n x j : Nat} (h : ¬ (a ≤ x ∧ x ≤ a + n)) : mj_sv so (mj_zz M a n) x j = mj_sv so M x j := by
  unfold mj_sv mj_zz
  dsimp only
  rw [if_neg h, if_neg h, if_neg (fun q => h ⟨by omega, by omega⟩), if_neg h]
theorem mj_o_mna {p : Program} {l : Launch} {e : Env} {R : Room} {s : State} {m : MethodId} {args : Array Value} {below : List Frame} {meth : Method} {c : Code} {own : String} {cc : ByteArray} {ret : Option FieldType} {D : va_G} {dA : Nat → ClassId} {B nL mc ms : Nat} {Q : mj_P}
    {pc : Nat} {L : mj_L} {st : List mj_V} {G : mj_G} {M : mj_M} {cb sb : Nat} (X : mj_X p l e R s m args below meth c own cc ret D dA B nL mc ms Q) {i t t2 : Nat} {z y : Int} (hd : decode cc pc = .ok (.multianewarray i 2, 4))
    (hw1 : Cond.classLink own i ("[" ++ (FieldType.array .int).toString) ∈ mj_tb) (hw3 : Cond.arrayClass .int ∈ mj_tb) (ht : t % 1000 = 104) (ht2 : t2 % 1000 = 100) (h0 : 0 ≤ z) (h9 : z ≤ 1000) (y0 : 0 ≤ y) (y9 : y ≤ 1000) (h1 : 1 + y.toNat ≤ cb) (h2 : y.toNat + y.toNat * z.toNat ≤ sb)
    (kk : ∀ a, (∀ x, a ≤ x → G x = (0, 0)) → mj_J X (pc + 4) L (.inr (.inr (some a)) :: st) (mj_gg G a t y.toNat t2 z.toNat) (mj_zz M a y.toNat) (cb - (1 + y.toNat)) (sb - (y.toNat + y.toNat * z.toNat))) : mj_J X pc L (.inl z :: .inl y :: st) G M cb sb := by
  intro H locs ls cells slots hH hS hL hst hc hs
  have hz : mj_in z := mj_head hst
  have hy : mj_in y := mj_head (mj_tl hst)
  have hm1 : mc ≤ R.cells := X.2.2.2.2.2.2.2.1
  have hm2 : ms ≤ R.slots := X.2.2.2.2.2.2.2.2
  intro T hT Xs
  have ez := mj_nat hz
  have ey := mj_nat hy
  obtain ⟨vm₁, cA, comp, -, fA, fC, -, -, X', step⟩ := Xs.multianewarray2F (ty := .int) X.1.1 X.1.2.2.2.2 (X.2.1 _ hw1) X.2.2.2.1.2.2.1 (X.2.1 _ hw3) (g := F0 m pc ls (.int (Int32.ofInt z) :: .int (Int32.ofInt y) :: st.map mj_val)) rfl (by rw [X.1.2.1]; exact hd) rfl (mj_nn hy y0) (mj_nn hz h0)
    (by rw [ey]; omega) (by rw [ez]; simp only [componentBytes]; omega) (by rw [ez]; omega) rfl rfl (by rw [ey]; omega) (by rw [ey, ez]; omega)
  rw [ey, ez] at X' step
  obtain rfl : cA = dA 4 := Option.some.inj (fA.symm.trans (X.2.2.2.1.2.1 4 (by decide)).1)
  obtain rfl : comp = dA 0 := Option.some.inj (fC.symm.trans (X.2.2.2.1.2.1 0 (by decide)).1)
  have hTh : (T.setVm vm₁).heap = H := hT
  obtain ⟨f1, f2, -, -⟩ := Jvm.Free.Multi.fill_facts (T.setVm vm₁) (dA 4) (dA 0) y.toNat z.toNat (defaultValue .int) y.toNat
  have hold : ∀ x : Nat, x < H.size → (Jvm.Free.Multi.fill (T.setVm vm₁) (dA 4) (dA 0) y.toNat z.toNat (defaultValue .int) y.toNat).heap[x]? = H[x]? := fun x hx => by
    have := Jvm.Free.Multi.fill_old (T.setVm vm₁) (dA 4) (dA 0) y.toNat z.toNat (defaultValue .int) (a := x) (by rw [hTh]; exact hx) y.toNat
    rw [hTh] at this
    exact this
  have hrow : ∀ j : Nat, j < y.toNat → (Jvm.Free.Multi.fill (T.setVm vm₁) (dA 4) (dA 0) y.toNat z.toNat (defaultValue .int) y.toNat).heap[H.size + 1 + j]? = some (arrV (dA 0) z.toNat (fun _ => .int 0)) := fun j hj => by
    have := Jvm.Free.Multi.fill_inner (T.setVm vm₁) (dA 4) (dA 0) y.toNat z.toNat (defaultValue .int) y.toNat j hj
    rw [hTh] at this
    rw [this]
    exact congrArg some (arrV_new _ _ _)
  rw [hTh] at f1 f2
  rw [mj_outer] at f2
  generalize Jvm.Free.Multi.fill (T.setVm vm₁) (dA 4) (dA 0) y.toNat z.toNat (defaultValue .int) y.toNat = F at X' step f1 f2 hold hrow
  have hB : B ≤ H.size := Nat.le_trans X.2.2.2.2.1 hS.1
  have hH' : mj_H D dA B (mj_gg G H.size t y.toNat t2 z.toNat) (mj_zz M H.size y.toNat) F.heap := by
    refine ⟨fun a k => ?_, fun x hx => ?_, fun x t' n' hx ht' => ?_⟩
    · unfold mj_zz
      dsimp only
      split
      · exact ⟨by decide, by decide⟩
      · exact hH.1 a k
    · unfold mj_gg
      rw [if_neg (by omega), if_neg (by omega)]
      exact hH.2.1 x (by omega)
    · unfold mj_gg at hx
      split at hx
      · rename_i hxa
        subst hxa
        obtain ⟨rfl, rfl⟩ := Prod.mk.inj hx
        refine ⟨fun _ => hB, fun ci r e1 e2 => (mj_cl100 e1 (show t % 1000 = 100 + 4 from ht) e2).elim, fun j e1 => ?_⟩
        have e3 : j = 4 := by omega
        subst e3
        rw [f2]
        refine congrArg (fun f => some (arrV (dA 4) y.toNat f)) (funext fun k => ?_)
        simp [mj_sv, mj_as, mj_at, mj_fs, mj_zz]
      · split at hx
        · rename_i hxa hxb
          obtain ⟨rfl, rfl⟩ := Prod.mk.inj hx
          refine ⟨fun _ => by omega, fun ci r e1 e2 => (mj_cl100 e1 (show t2 % 1000 = 100 + 0 from ht2) e2).elim, fun j e1 => ?_⟩
          have e3 : j = 0 := by omega
          subst e3
          have := hrow (x - (H.size + 1)) (by omega)
          rw [show H.size + 1 + (x - (H.size + 1)) = x by omega] at this
          rw [this]
          refine congrArg (fun f => some (arrV (dA 0) z.toNat f)) (funext fun k => ?_)
          have hc : H.size ≤ x ∧ x ≤ H.size + y.toNat := ⟨by omega, by omega⟩
          simp only [mj_sv, mj_as, mj_at, mj_fs, mj_zz, if_pos hc]
          rfl
        · rename_i hxa hxb
          have hlt : x < H.size := by
            rcases Nat.lt_or_ge x H.size with q | q
            · exact q
            · have := hH.2.1 x q
              rw [hx] at this
              exact absurd (Prod.mk.inj this).1 ht'
          obtain ⟨hB', g1, g2⟩ := hH.2.2 x t' n' hx ht'
          refine ⟨hB', fun ci r e1 e2 => ((g1 ci r e1 e2).kept (hold x hlt)).to (fun k _ => (mj_sv_zz (by omega)).symm), fun j e1 => ?_⟩
          rw [hold x hlt, g2 j e1]
          refine congrArg (fun f => some (arrV (dA j) n' f)) (funext fun k => ?_)
          exact (mj_sv_zz (by omega)).symm
  obtain ⟨tt, a1, b1⟩ := kk H.size hH.2.1 F.heap locs ls (cells + 1 + y.toNat) (slots + y.toNat + y.toNat * z.toNat) hH' (mj_S_up hS (by omega) hold) hL (mj_cons (mj_tl (mj_tl hst)) trivial) (by omega) (by omega) F rfl X'
  refine ⟨tt, step tt ?_, b1⟩
  have e9 : T.heap.size = H.size := by rw [hT]
  rw [e9]
  exact a1
end
section
/-! ===== arrays of references, switches, Math and the copying of arrays ===== -/
theorem mj_at_o {j : Nat} (h : j = 5 ∨ j = 6) : mj_at j = .object (mj_cn j) := by rcases h with rfl | rfl <;> rfl
theorem mj_as_o {j : Nat} (h : j = 5 ∨ j = 6) : mj_as j = 2 := by rcases h with rfl | rfl <;> rfl
section MJB
variable {p : Program} {l : Launch} {e : Env} {R : Room} {s : State} {m : MethodId} {args : Array Value} {below : List Frame} {meth : Method} {c : Code} {own : String} {cc : ByteArray} {ret : Option FieldType} {D : va_G} {dA : Nat → ClassId} {B nL mc ms : Nat} {Q : mj_P}
variable {pc : Nat} {L : mj_L} {st : List mj_V} {G : mj_G} {M : mj_M} {cb sb : Nat}
theorem mj_o_anew (X : mj_X p l e R s m args below meth c own cc ret D dA B nL mc ms Q) {i j t : Nat} {z : Int} (hd : decode cc pc = .ok (.anewarray i, 3)) (hj : j = 5 ∨ j = 6) (hw : Cond.classLink own i (mj_cn j) ∈ mj_tb) (ht : t % 1000 = 100 + j) (h0 : 0 ≤ z) (h9 : z ≤ 100000) (h1 : 1 ≤ cb) (h2 : z.toNat ≤ sb)
    (kk : ∀ a, (∀ x, a ≤ x → G x = (0, 0)) → mj_J X (pc + 3) L (.inr (.inr (some a)) :: st) (mj_g G a t z.toNat) (mj_z M a) (cb - 1) (sb - z.toNat)) : mj_J X pc L (.inl z :: st) G M cb sb := by
  intro H locs ls cells slots hH hS hL hst hc hs
  have hz : mj_in z := mj_head hst
  have hm1 : mc ≤ R.cells := X.2.2.2.2.2.2.2.1
  have hm2 : ms ≤ R.slots := X.2.2.2.2.2.2.2.2
  refine W.anew X.1.1 X.1.2.1 X.1.2.2.2.2 (X.2.1 _ hw) ((X.2.2.2.1.2.2.2 j hj).1.use) rfl hd rfl (mj_nn hz h0) (by rw [mj_nat hz]; omega) (by omega) (by rw [mj_nat hz]; omega) (fun cA kA comp f1 f2 f3 f4 => ?_)
  have f1 : s.vm.findClass ("[" ++ (mj_at j).toString) = some cA := by rw [mj_at_o hj]; exact f1
  have hcA : cA = dA j := Option.some.inj (f1.symm.trans (X.2.2.2.1.2.1 j (by omega)).1)
  subst hcA
  rw [mj_nat hz, arrV_new]
  refine kk H.size hH.2.1 _ locs ls (cells + 1) (slots + z.toNat) (hH.push1 (Nat.le_trans X.2.2.2.2.1 hS.1) (by simp) (fun q hq => by simp [Array.getElem?_push, Nat.ne_of_lt hq]) ?_ ?_) (mj_S_up hS (by simp) (fun q hq => by simp [Array.getElem?_push, Nat.ne_of_lt hq])) hL (mj_cons (mj_tl hst) trivial) (by omega) (by omega)
  · intro ci r e1 e2
    exact (mj_cl100 e1 ht e2).elim
  · intro j' e1
    have e3 : j' = j := by omega
    subst e3
    rw [Array.getElem?_push, if_pos rfl]
    congr 2
    funext k
    have := mj_sv_z0 (M := M) (a := H.size) (j := k) (mj_at j') (by rw [mj_at_o hj]; constructor <;> (intro q; cases q))
    rw [show mj_as j' = mj_fs (mj_at j') from rfl, this, mj_at_o hj]
    rfl
theorem mj_o_aastore (X : mj_X p l e R s m args below meth c own cc ret D dA B nL mc ms Q) {a t n j : Nat} {i : Int} {z : Option Nat} (hd : decode cc pc = .ok (.aastore, 1)) (hj : j = 5 ∨ j = 6) (hG : G a = (t, n)) (ht : t % 1000 = 100 + j) (hw9 : t < 900000) (h0 : 0 ≤ i) (h1 : i < n) (hb : ∀ b, z = some b → j = 6 ∧ ∃ t' n', G b = (t', n') ∧ t' % 1000 = 7)
    (kk : mj_J X (pc + 1) L st G (mj_p2 M a i.toNat z) cb sb) : mj_J X pc L (.inr (.inr z) :: .inl i :: .inr (.inr (some a)) :: st) G M cb sb := by
  intro H locs ls cells slots hH hS hL hst hc hs
  have hi : mj_in i := mj_head (mj_tl hst)
  obtain ⟨hB, q1, q2⟩ := mj_arr X (by omega) hH hG ht
  have go : ∀ H' : Heap, H'[a]? = some ((arrV (dA j) n (fun k => mj_sv (mj_as j) M a k)).setSlot i.toNat (mj_val (.inr (.inr z)))) → H'.size = H.size → (∀ q, q ≠ a → H'[q]? = H[q]?) → W p l e R s m args below meth c H' (locs ++ [⟨a, i.toNat⟩]) cells slots (MQ below (mj_Q D dA B Q) args s mc ms (fun q => B ≤ q)) (F0 m (pc + 1) ls (st.map mj_val)) := by
    intro H' w1 w2 w3
    exact kk H' _ ls cells slots (hH.ast (v := .inr (.inr z)) hG ht (by rw [mj_as_o hj]; exact mj_u2 hH.1) w1 w2 w3) (hS.put w2 w3 (hB hw9)) hL (mj_tl (mj_tl (mj_tl hst))) hc hs
  cases z with
  | none =>
    rw [mj_at_o hj] at q2
    refine va_WaastN X.1.1 X.1.2.1 q1 q2 (fun q => by cases q) (by rw [arrV_size]; exact mj_idx hi h0 h1) rfl rfl hd (fun H' w1 w2 w3 => ?_)
    rw [mj_nat hi] at w1 ⊢
    exact go H' w1 w2 w3
  | some b =>
    obtain ⟨rfl, t', n', hGb, htb⟩ := hb b rfl
    obtain ⟨-, g1, -⟩ := hH.2.2 b t' n' hGb (mj_ne (k := 6) htb)
    obtain ⟨cellV, c1, c2, c3, -⟩ := g1 6 (RX6, TX6, 4) htb rfl
    have hcls := (X.2.2.2.1.1 6 (RX6, TX6, 4) rfl).2
    obtain ⟨kA, comp, k1, k2, k3, -⟩ := (X.2.2.2.1.2.2.2 6 (Or.inr rfl)).2
    have hcomp : comp = D.1 6 := Option.some.inj (k3.symm.trans hcls.1)
    subst hcomp
    obtain ⟨kC, hkC, -⟩ := hcls.2
    refine W.aast X.1.1 X.1.2.1 q1 (fun q h => by cases h) (fun h => by cases h) k1 k2 rfl hkC ⟨mj_nn hi h0, by rw [arrV_size, mj_nat hi]; omega⟩ c1 (fun q h => by rw [c3] at h; cases h) (by rw [c2]; exact hkC) (by rw [c2]; exact va_assign hcls) rfl rfl hd (fun H' w1 w2 w3 => ?_)
    rw [mj_nat hi] at w1 ⊢
    exact go H' w1 w2 w3
theorem mj_o_switch (X : mj_X p l e R s m args below meth c own cc ret D dA B nL mc ms Q) {df lo hi : Int} {offs : Array Int} {len tg : Nat} {tgs : List Nat} {z : Int} {pcs : Nat → Nat} (hd : decode cc pc = .ok (.tableswitch df lo hi offs, len)) (h0 : (pc : Int) + df = (pcs tg : Int)) (hn : (tgs.length : Int) = hi - lo + 1) (ho : ∀ (k t : Nat), tgs[k]? = some t → ∃ o, offs[k]? = some o ∧ (pc : Int) + o = (pcs t : Int))
    (kd : z < lo ∨ hi < z → mj_J X (pcs tg) L st G M cb sb) (ks : ∀ (k t : Nat), tgs[k]? = some t → z = lo + k → mj_J X (pcs t) L st G M cb sb) : mj_J X pc L (.inl z :: st) G M cb sb := by
  intro H locs ls cells slots hH hS hL hst hc hs
  have hz : mj_in z := mj_head hst
  have ez := mj_ti hz
  by_cases hq : z < lo ∨ hi < z
  · exact lv_tableOut X.1.1 X.1.2.1 hd (by rw [ez]; exact hq) h0 (kd hq H locs ls cells slots hH hS hL (mj_tl hst) hc hs)
  · have hlt : (z - lo).toNat < tgs.length := by omega
    obtain ⟨o, o1, o2⟩ := ho (z - lo).toNat tgs[(z - lo).toNat] (List.getElem?_eq_getElem hlt)
    exact lv_tableIn X.1.1 X.1.2.1 hd (by rw [ez]; omega) (by rw [ez]; omega) (by rw [ez]; exact o1) o2 (ks _ _ (List.getElem?_eq_getElem hlt) (by omega) H locs ls cells slots hH hS hL (mj_tl hst) hc hs)
theorem mj_o_max (X : mj_X p l e R s m args below meth c own cc ret D dA B nL mc ms Q) {i : Nat} {x y : Int} (hd : decode cc pc = .ok (.invokestatic i, 3)) (hw1 : Cond.methodLink own i Lib.Math.max.name ∈ mj_tb) (hw2 : Cond.static Lib.Math.max.name ∈ mj_tb) (hw3 : Cond.initialized "java/lang/Math" ∈ mj_tb) (hw4 : Cond.code Lib.Math.max.name Lib.Math.max.code 2 (some .int) ∈ mj_tb) (h8 : mj_cat st ≤ 8)
    (kk : ∀ z, (x < y → z = y) → (¬ x < y → z = x) → mj_J X (pc + 3) L (.inl z :: st) G M cb sb) : mj_J X pc L (.inl y :: .inl x :: st) G M cb sb := by
  intro H locs ls cells slots hH hS hL hst hc hs
  have hy : mj_in y := mj_head hst
  have hx : mj_in x := mj_head (mj_tl hst)
  have hm : 1 ≤ R.frames ∧ 100 ≤ R.locals ∧ mc ≤ R.cells ∧ ms ≤ R.slots := X.2.2.2.2.2
  refine va_mmax X.1.1 X.1.2.1 (X.1.2.2.1.trans hL.1.1.symm) X.1.2.2.2.2 (X.2.1 _ hw1) (X.2.1 _ hw2) (X.2.1 _ hw3) (X.2.1 _ hw4) hm.1 (by rw [mj_cat_eq]; omega) (by omega) (by omega) hd ?_
  by_cases q : x < y
  · rw [if_pos ((mj_lt hx hy).mpr q)]
    exact kk y (fun _ => rfl) (fun z => absurd q z) H locs ls cells slots hH hS hL (mj_cons (mj_tl (mj_tl hst)) hy) hc hs
  · rw [if_neg (fun z => q ((mj_lt hx hy).mp z))]
    exact kk x (fun z => absurd z q) (fun _ => rfl) H locs ls cells slots hH hS hL (mj_cons (mj_tl (mj_tl hst)) hx) hc hs
theorem mj_o_min (X : mj_X p l e R s m args below meth c own cc ret D dA B nL mc ms Q) {i : Nat} {x y : Int} (hd : decode cc pc = .ok (.invokestatic i, 3)) (hw1 : Cond.methodLink own i Lib.Math.min.name ∈ mj_tb) (hw2 : Cond.static Lib.Math.min.name ∈ mj_tb) (hw3 : Cond.initialized "java/lang/Math" ∈ mj_tb) (hw4 : Cond.code Lib.Math.min.name Lib.Math.min.code 2 (some .int) ∈ mj_tb) (h8 : mj_cat st ≤ 8)
    (kk : ∀ z, (y < x → z = y) → (¬ y < x → z = x) → mj_J X (pc + 3) L (.inl z :: st) G M cb sb) : mj_J X pc L (.inl y :: .inl x :: st) G M cb sb := by
  intro H locs ls cells slots hH hS hL hst hc hs
  have hy : mj_in y := mj_head hst
  have hx : mj_in x := mj_head (mj_tl hst)
  have hm : 1 ≤ R.frames ∧ 100 ≤ R.locals ∧ mc ≤ R.cells ∧ ms ≤ R.slots := X.2.2.2.2.2
  refine va_mmin X.1.1 X.1.2.1 (X.1.2.2.1.trans hL.1.1.symm) X.1.2.2.2.2 (X.2.1 _ hw1) (X.2.1 _ hw2) (X.2.1 _ hw3) (X.2.1 _ hw4) hm.1 (by rw [mj_cat_eq]; omega) (by omega) (by omega) hd ?_
  by_cases q : y < x
  · rw [if_pos ((mj_lt hy hx).mpr q)]
    exact kk y (fun _ => rfl) (fun z => absurd q z) H locs ls cells slots hH hS hL (mj_cons (mj_tl (mj_tl hst)) hy) hc hs
  · rw [if_neg (fun z => q ((mj_lt hy hx).mp z))]
    exact kk x (fun z => absurd z q) (fun _ => rfl) H locs ls cells slots hH hS hL (mj_cons (mj_tl (mj_tl hst)) hx) hc hs
theorem mj_o_abs (X : mj_X p l e R s m args below meth c own cc ret D dA B nL mc ms Q) {i : Nat} {x : Int} (hd : decode cc pc = .ok (.invokestatic i, 3)) (hw1 : Cond.methodLink own i Lib.Math.abs.name ∈ mj_tb) (hw2 : Cond.static Lib.Math.abs.name ∈ mj_tb) (hw3 : Cond.initialized "java/lang/Math" ∈ mj_tb) (hw4 : Cond.code Lib.Math.abs.name Lib.Math.abs.code 1 (some .int) ∈ mj_tb) (h8 : mj_cat st ≤ 8)
    (kk : ∀ z, mj_in z → (0 ≤ x → z = x) → (x < 0 → x ≠ -2147483648 → z = -x) → mj_J X (pc + 3) L (.inl z :: st) G M cb sb) : mj_J X pc L (.inl x :: st) G M cb sb := by
  intro H locs ls cells slots hH hS hL hst hc hs
  have hx : mj_in x := mj_head hst
  have hm : 1 ≤ R.frames ∧ 100 ≤ R.locals ∧ mc ≤ R.cells ∧ ms ≤ R.slots := X.2.2.2.2.2
  have h0 : mj_in 0 := ⟨by decide, by decide⟩
  refine va_mabs X.1.1 X.1.2.1 (X.1.2.2.1.trans hL.1.1.symm) X.1.2.2.2.2 (X.2.1 _ hw1) (X.2.1 _ hw2) (X.2.1 _ hw3) (X.2.1 _ hw4) hm.1 (by rw [mj_cat_eq]; omega) (by omega) (by omega) hd ?_
  by_cases q : 0 ≤ x
  · rw [if_pos (show (0 : Int32) ≤ Int32.ofInt x from (mj_le h0 hx).mpr q)]
    exact kk x hx (fun _ => rfl) (fun z => absurd z (by omega)) H locs ls cells slots hH hS hL (mj_cons (mj_tl hst) hx) hc hs
  · rw [if_neg (show ¬ (0 : Int32) ≤ Int32.ofInt x from fun z => q ((mj_le h0 hx).mp z))]
    have e1 : (0 : Int32) - Int32.ofInt x = Int32.ofInt (0 - x) := (Int32.ofInt_sub 0 x).symm
    have g := kk _ (mj_rng ((0 : Int32) - Int32.ofInt x)) (fun z => absurd z q) (fun h1 h2 => by
      rw [e1, mj_ti (show mj_in (0 - x) from ⟨by have := hx.2; omega, by have := hx.1; omega⟩)]; omega) H locs ls cells slots hH hS hL (mj_cons (mj_tl hst) (mj_rng _)) hc hs
    simp only [List.map_cons, mj_val, mj_it] at g
    exact g
theorem mj_sv_cp0 {so : Nat} {M : mj_M} {a b sp dp n x j : Nat} (h : x ≠ b) : mj_sv so (mj_cp0 M a b sp dp n) x j = mj_sv so M x j := by
  unfold mj_sv mj_cp0
  dsimp only
  rw [if_neg (fun q => h q.1)]
theorem mj_sv_cp1 {so : Nat} {M : mj_M} {a b sp dp n x j : Nat} (h : x ≠ b) : mj_sv so (mj_cp1 M a b sp dp n) x j = mj_sv so M x j := by
  unfold mj_sv mj_cp1
  dsimp only
  rw [if_neg (fun q => h q.1)]
theorem mj_cp0_at {M : mj_M} {a b sp dp n k : Nat} : mj_sv 0 (mj_cp0 M a b sp dp n) b k = if dp ≤ k ∧ k < dp + n then mj_sv 0 M a (sp + (k - dp)) else mj_sv 0 M b k := by
  unfold mj_sv mj_cp0
  dsimp only
  by_cases h : dp ≤ k ∧ k < dp + n
  · rw [if_pos ⟨rfl, h⟩, if_pos h]; rfl
  · rw [if_neg (fun q => h q.2), if_neg h]
theorem mj_o_copy0 (X : mj_X p l e R s m args below meth c own cc ret D dA B nL mc ms Q) {i a b ta na tb nb : Nat} {sp dp n : Int} (hd : decode cc pc = .ok (.invokestatic i, 3)) (hw1 : Cond.methodLink own i arraycopyName ∈ mj_tb) (hw2 : Cond.native arraycopyName ∈ mj_tb) (hw3 : Cond.static arraycopyName ∈ mj_tb) (hw4 : Cond.initialized "java/lang/System" ∈ mj_tb) (h8 : mj_cat st ≤ 8)
    (hGa : G a = (ta, na)) (hta : ta % 1000 = 100 + 0) (hGb : G b = (tb, nb)) (htb : tb % 1000 = 100 + 0) (hw9 : tb < 900000) (h1 : 0 ≤ sp) (h2 : 0 ≤ dp) (h3 : 0 ≤ n) (h4 : sp + n ≤ na) (h5 : dp + n ≤ nb)
    (kk : mj_J X (pc + 3) L st G (mj_cp0 M a b sp.toNat dp.toNat n.toNat) cb sb) : mj_J X pc L (.inl n :: .inl dp :: .inr (.inr (some b)) :: .inl sp :: .inr (.inr (some a)) :: st) G M cb sb := by
  intro H locs ls cells slots hH hS hL hst hc hs
  have hn : mj_in n := mj_head hst
  have hdp : mj_in dp := mj_head (mj_tl hst)
  have hsp : mj_in sp := mj_head (mj_tl (mj_tl (mj_tl hst)))
  have hm : 1 ≤ R.frames ∧ 100 ≤ R.locals ∧ mc ≤ R.cells ∧ ms ≤ R.slots := X.2.2.2.2.2
  obtain ⟨-, qa1, qa2⟩ := mj_arr X (by decide) hH hGa hta
  obtain ⟨hB, qb1, qb2⟩ := mj_arr X (by decide) hH hGb htb
  obtain ⟨-, k0, hk0, cm0, hkk0⟩ := qa2
  obtain ⟨-, k1, hk1, cm1, hkk1⟩ := qb2
  have en := mj_nat hn
  have ed := mj_nat hdp
  have es := mj_nat hsp
  have e5 : nativeFrameWords "java/lang/System" "arraycopy" 5 ≤ 50 := by decide
  intro T hT XS
  obtain ⟨vm', X', step⟩ := XS.arraycopy X.1.1 X.1.2.2.2.2 (X.2.1 _ hw1) (X.2.1 _ hw2) (X.2.1 _ hw3) (X.2.1 _ hw4) (src := a) (dst := b) (cs := arrV (dA 0) na (fun k => mj_sv (mj_as 0) M a k)) (cd := arrV (dA 0) nb (fun k => mj_sv (mj_as 0) M b k)) (srcPos := Int32.ofInt sp) (destPos := Int32.ofInt dp) (n := Int32.ofInt n) (by rw [hT]; exact qa1) (by rw [hT]; exact qb1)
    (fun _ h => by cases h) (fun _ h => by cases h) (fun h => by cases h) (fun h => by cases h) hk0 hk1 hkk0 hkk1 (by simp [mj_at, refKind]) (mj_nn hsp h1) (mj_nn hdp h2) (mj_nn hn h3)
    (by rw [mj_ti hsp, mj_ti hn, arrV_size]; omega) (by rw [mj_ti hdp, mj_ti hn, arrV_size]; omega)
    (fun vm₁ _ i hi => by
      have e : (arrV (dA 0) na (fun k => mj_sv (mj_as 0) M a k)).slots.getD ((Int32.ofInt sp).toNatClampNeg + i) .null = mj_sv (mj_as 0) M a ((Int32.ofInt sp).toNatClampNeg + i) := by
        rw [Array.getD_eq_getD_getElem?, arrV_read _ _ (by rw [es]; rw [en] at hi; omega)]
        rfl
      refine ⟨?_, ?_⟩
      · rw [e]; rfl
      · rw [e]; exact trivial)
    (g := F0 m pc ls (.int (Int32.ofInt n) :: .int (Int32.ofInt dp) :: .ref b :: .int (Int32.ofInt sp) :: .ref a :: st.map mj_val)) rfl (hL.1.1.trans X.1.2.2.1.symm) (rest := st.map mj_val) rfl (by rw [X.1.2.1]; exact hd) hm.1 (by rw [mj_cat_eq]; show 2 * 0 + _ + _ ≤ _; omega)
  have ec : copied (arrV (dA 0) na (fun k => mj_sv (mj_as 0) M a k)) (arrV (dA 0) nb (fun k => mj_sv (mj_as 0) M b k)) (Int32.ofInt sp) (Int32.ofInt dp) (Int32.ofInt n) = arrV (dA 0) nb (fun k => mj_sv (mj_as 0) (mj_cp0 M a b sp.toNat dp.toNat n.toNat) b k) := by
    refine (va_copied (fun z : Value => z) (dA 0) (dA 0) (fun k => mj_sv (mj_as 0) M a k) (fun k => mj_sv (mj_as 0) M b k) (by rw [es, en]; omega)).trans ?_
    congr 1
    funext k
    rw [es, ed, en]
    exact mj_cp0_at.symm
  rw [ec] at X' step
  have hlt : b < H.size := (Array.getElem?_eq_some_iff.mp qb1).1
  generalize hcell : arrV (dA 0) nb (fun k => mj_sv (mj_as 0) (mj_cp0 M a b sp.toNat dp.toNat n.toNat) b k) = cell at X' step
  have hheap : ((T.setVm vm').setCell b cell).heap = H.setIfInBounds b cell := by rw [← hT]; rfl
  have oq : ∀ q : Nat, q ≠ b → (H.setIfInBounds b cell)[q]? = H[q]? := fun q hq => by simp [Array.getElem?_setIfInBounds, Ne.symm hq]
  have hH' : mj_H D dA B G (mj_cp0 M a b sp.toNat dp.toNat n.toNat) (H.setIfInBounds b cell) := by
    refine hH.set hGb (by simp) oq (fun x j => ?_) (fun so x j hx => mj_sv_cp0 hx) (fun ci r e1 e2 => (mj_cl100 e1 htb e2).elim) (fun j e1 => ?_)
    · unfold mj_cp0
      dsimp only
      split
      · exact hH.1 _ _
      · exact hH.1 _ _
    · have e3 : j = 0 := by omega
      subst e3
      rw [hcell]
      simp [Array.getElem?_setIfInBounds, hlt]
  obtain ⟨t, a1, b1⟩ := kk _ _ ls cells slots hH' ⟨by simp; exact hS.1, fun q g1 g2 => by
      rw [oq q (fun e => g2 (by rw [e]; exact hB hw9))]
      exact hS.2.1 q g1 g2, fun q hq => by
      rcases List.mem_append.mp hq with h | h
      · exact hS.2.2 q h
      · obtain ⟨z, -, hz⟩ := List.mem_map.mp h
        rw [← hz]
        exact hB hw9⟩ hL (mj_tl (mj_tl (mj_tl (mj_tl (mj_tl hst))))) hc hs _ hheap X'
  exact ⟨t, step t a1, b1⟩
theorem mj_cp1_at {M : mj_M} {a b sp dp n k : Nat} : mj_sv 1 (mj_cp1 M a b sp dp n) b k = if dp ≤ k ∧ k < dp + n then mj_sv 1 M a (sp + (k - dp)) else mj_sv 1 M b k := by
  unfold mj_sv mj_cp1
  dsimp only
  by_cases h : dp ≤ k ∧ k < dp + n
  · rw [if_pos ⟨rfl, h⟩, if_pos h]; rfl
  · rw [if_neg (fun q => h q.2), if_neg h]
theorem mj_o_copy1 (X : mj_X p l e R s m args below meth c own cc ret D dA B nL mc ms Q) {i a b ta na tb nb : Nat} {sp dp n : Int} (hd : decode cc pc = .ok (.invokestatic i, 3)) (hw1 : Cond.methodLink own i arraycopyName ∈ mj_tb) (hw2 : Cond.native arraycopyName ∈ mj_tb) (hw3 : Cond.static arraycopyName ∈ mj_tb) (hw4 : Cond.initialized "java/lang/System" ∈ mj_tb) (h8 : mj_cat st ≤ 8)
    (hGa : G a = (ta, na)) (hta : ta % 1000 = 100 + 3) (hGb : G b = (tb, nb)) (htb : tb % 1000 = 100 + 3) (hw9 : tb < 900000) (h1 : 0 ≤ sp) (h2 : 0 ≤ dp) (h3 : 0 ≤ n) (h4 : sp + n ≤ na) (h5 : dp + n ≤ nb)
    (kk : mj_J X (pc + 3) L st G (mj_cp1 M a b sp.toNat dp.toNat n.toNat) cb sb) : mj_J X pc L (.inl n :: .inl dp :: .inr (.inr (some b)) :: .inl sp :: .inr (.inr (some a)) :: st) G M cb sb := by
  intro H locs ls cells slots hH hS hL hst hc hs
  have hn : mj_in n := mj_head hst
  have hdp : mj_in dp := mj_head (mj_tl hst)
  have hsp : mj_in sp := mj_head (mj_tl (mj_tl (mj_tl hst)))
  have hm : 1 ≤ R.frames ∧ 100 ≤ R.locals ∧ mc ≤ R.cells ∧ ms ≤ R.slots := X.2.2.2.2.2
  obtain ⟨-, qa1, qa2⟩ := mj_arr X (by decide) hH hGa hta
  obtain ⟨hB, qb1, qb2⟩ := mj_arr X (by decide) hH hGb htb
  obtain ⟨-, k0, hk0, cm0, hkk0⟩ := qa2
  obtain ⟨-, k1, hk1, cm1, hkk1⟩ := qb2
  have en := mj_nat hn
  have ed := mj_nat hdp
  have es := mj_nat hsp
  have e5 : nativeFrameWords "java/lang/System" "arraycopy" 5 ≤ 50 := by decide
  intro T hT XS
  obtain ⟨vm', X', step⟩ := XS.arraycopy X.1.1 X.1.2.2.2.2 (X.2.1 _ hw1) (X.2.1 _ hw2) (X.2.1 _ hw3) (X.2.1 _ hw4) (src := a) (dst := b) (cs := arrV (dA 3) na (fun k => mj_sv (mj_as 3) M a k)) (cd := arrV (dA 3) nb (fun k => mj_sv (mj_as 3) M b k)) (srcPos := Int32.ofInt sp) (destPos := Int32.ofInt dp) (n := Int32.ofInt n) (by rw [hT]; exact qa1) (by rw [hT]; exact qb1)
    (fun _ h => by cases h) (fun _ h => by cases h) (fun h => by cases h) (fun h => by cases h) hk0 hk1 hkk0 hkk1 (by simp [mj_at, refKind]) (mj_nn hsp h1) (mj_nn hdp h2) (mj_nn hn h3)
    (by rw [mj_ti hsp, mj_ti hn, arrV_size]; omega) (by rw [mj_ti hdp, mj_ti hn, arrV_size]; omega)
    (fun vm₁ _ i hi => by
      have e : (arrV (dA 3) na (fun k => mj_sv (mj_as 3) M a k)).slots.getD ((Int32.ofInt sp).toNatClampNeg + i) .null = mj_sv (mj_as 3) M a ((Int32.ofInt sp).toNatClampNeg + i) := by
        rw [Array.getD_eq_getD_getElem?, arrV_read _ _ (by rw [es]; rw [en] at hi; omega)]
        rfl
      refine ⟨?_, ?_⟩
      · rw [e]; rfl
      · rw [e]; exact trivial)
    (g := F0 m pc ls (.int (Int32.ofInt n) :: .int (Int32.ofInt dp) :: .ref b :: .int (Int32.ofInt sp) :: .ref a :: st.map mj_val)) rfl (hL.1.1.trans X.1.2.2.1.symm) (rest := st.map mj_val) rfl (by rw [X.1.2.1]; exact hd) hm.1 (by rw [mj_cat_eq]; show 2 * 0 + _ + _ ≤ _; omega)
  have ec : copied (arrV (dA 3) na (fun k => mj_sv (mj_as 3) M a k)) (arrV (dA 3) nb (fun k => mj_sv (mj_as 3) M b k)) (Int32.ofInt sp) (Int32.ofInt dp) (Int32.ofInt n) = arrV (dA 3) nb (fun k => mj_sv (mj_as 3) (mj_cp1 M a b sp.toNat dp.toNat n.toNat) b k) := by
    refine (va_copied (fun z : Value => z) (dA 3) (dA 3) (fun k => mj_sv (mj_as 3) M a k) (fun k => mj_sv (mj_as 3) M b k) (by rw [es, en]; omega)).trans ?_
    congr 1
    funext k
    rw [es, ed, en]
    exact mj_cp1_at.symm
  rw [ec] at X' step
  have hlt : b < H.size := (Array.getElem?_eq_some_iff.mp qb1).1
  generalize hcell : arrV (dA 3) nb (fun k => mj_sv (mj_as 3) (mj_cp1 M a b sp.toNat dp.toNat n.toNat) b k) = cell at X' step
  have hheap : ((T.setVm vm').setCell b cell).heap = H.setIfInBounds b cell := by rw [← hT]; rfl
  have oq : ∀ q : Nat, q ≠ b → (H.setIfInBounds b cell)[q]? = H[q]? := fun q hq => by simp [Array.getElem?_setIfInBounds, Ne.symm hq]
  have hH' : mj_H D dA B G (mj_cp1 M a b sp.toNat dp.toNat n.toNat) (H.setIfInBounds b cell) := by
    refine hH.set hGb (by simp) oq (fun x j => ?_) (fun so x j hx => mj_sv_cp1 hx) (fun ci r e1 e2 => (mj_cl100 e1 htb e2).elim) (fun j e1 => ?_)
    · exact hH.1 x j
    · have e3 : j = 3 := by omega
      subst e3
      rw [hcell]
      simp [Array.getElem?_setIfInBounds, hlt]
  obtain ⟨t, a1, b1⟩ := kk _ _ ls cells slots hH' ⟨by simp; exact hS.1, fun q g1 g2 => by
      rw [oq q (fun e => g2 (by rw [e]; exact hB hw9))]
      exact hS.2.1 q g1 g2, fun q hq => by
      rcases List.mem_append.mp hq with h | h
      · exact hS.2.2 q h
      · obtain ⟨z, -, hz⟩ := List.mem_map.mp h
        rw [← hz]
        exact hB hw9⟩ hL (mj_tl (mj_tl (mj_tl (mj_tl (mj_tl hst))))) hc hs _ hheap X'
  exact ⟨t, step t a1, b1⟩
end MJB
end
section
/-! ===== methods by their numbers; what a program checks of a method's list ===== -/
/-- name, code, places, what it returns, its list, (sort: 0 an object's, 1 static, 2 a maker; class; arguments), (cells, slots) -/
abbrev mj_T : Type := MethodName × ByteArray × Nat × Option FieldType × List mj_E × (Nat × Nat × Nat) × (Nat × Nat)
def mj_pc (full : List mj_E) (i : Nat) : Nat := match full[i]? with
  | some x => x.2.1
  | none => 0
def mj_len (i : Instr) : Nat := match i with
  | .iload _ => 2
  | .lload _ => 2
  | .aload _ => 2
  | .istore _ => 2
  | .lstore _ => 2
  | .astore _ => 2
  | .iinc _ _ => 3
  | .bipush _ => 2
  | .sipush _ => 3
  | .ldc _ => 2
  | .ldc2_w _ => 3
  | .ifCond _ _ => 3
  | .if_acmp _ _ => 3
  | .getstatic _ => 3
  | .putstatic _ => 3
  | .ldc_w _ => 3
  | .checkcast _ => 3
  | .if_icmp _ _ => 3
  | .ifnull _ => 3
  | .ifnonnull _ => 3
  | .goto _ => 3
  | .getfield _ => 3
  | .putfield _ => 3
  | .newarray _ => 2
  | .multianewarray _ _ => 4
  | .new _ => 3
  | .anewarray _ => 3
  | .invokevirtual _ => 3
  | .invokestatic _ => 3
  | .invokespecial _ => 3
  | _ => 1
/-- a switch says its length itself -/
def mj_lx (x : mj_E) : Nat := match x.1 with
  | .tableswitch _ _ _ _ => x.2.2.2.toNat
  | i => mj_len i
/-- a switch's targets, place by place -/
def mj_ct (full : List mj_E) (pc : Int) : List Int → List Nat → Bool
  | [], [] => true
  | o :: os, t :: ts => decide (pc + o = (mj_pc full t : Int)) && mj_ct full pc os ts
  | _, _ => false
def mj_cls (ci : Nat) : String := (vwCl.getD ci (RX0, TX0, 0)).1
def mj_fld (ci k : Nat) : String × String × String × Bool := (vwCl.getD ci (RX0, TX0, 0)).2.1 k
def mj_num (ci : Nat) : Nat := (vwCl.getD ci (RX0, TX0, 0)).2.2
/-- what is checked of one row -/
def mj_cx (T : Nat → mj_T) (own : String) (ret : Option FieldType) (nL : Nat) (ini : Bool) (full : List mj_E) (x : mj_E) : Bool := match x.1 with
  | .istore_n k => decide (k.val < nL)
  | .istore k => decide (k < nL)
  | .astore_n k => decide (k.val < nL)
  | .astore k => decide (k < nL)
  | .lstore_n k => decide (k.val + 1 < nL)
  | .lstore k => decide (k + 1 < nL)
  | .iinc k _ => decide (k < nL)
  | .iconst z => decide (-2147483648 ≤ z ∧ z < 2147483648)
  | .bipush z => decide (-2147483648 ≤ z ∧ z < 2147483648) && decide ((Int8.ofInt z).toInt32 = Int32.ofInt z)
  | .sipush z => decide (-2147483648 ≤ z ∧ z < 2147483648) && decide ((Int16.ofInt z).toInt32 = Int32.ofInt z)
  | .ldc i => decide (-2147483648 ≤ x.2.2.2 ∧ x.2.2.2 < 2147483648) && decide (Cond.constant own i (Int32.ofInt x.2.2.2) ∈ mj_tb)
  | .ldc2_w i => decide (Cond.constantLong own i (Int64.ofInt x.2.2.2) ∈ mj_tb)
  | .ifCond _ off => decide ((x.2.1 : Int) + off = (mj_pc full (mj_hd x.2.2.1) : Int))
  | .if_icmp _ off => decide ((x.2.1 : Int) + off = (mj_pc full (mj_hd x.2.2.1) : Int))
  | .ifnull off => decide ((x.2.1 : Int) + off = (mj_pc full (mj_hd x.2.2.1) : Int))
  | .ifnonnull off => decide ((x.2.1 : Int) + off = (mj_pc full (mj_hd x.2.2.1) : Int))
  | .goto off => decide ((x.2.1 : Int) + off = (mj_pc full (mj_hd x.2.2.1) : Int))
  | .getfield i => x.2.2.1.isEmpty || decide (mj_hd x.2.2.1 < 12) && decide (mj_h1 x.2.2.1 < mj_num (mj_hd x.2.2.1)) && decide (Cond.fieldLink own i (mj_fld (mj_hd x.2.2.1) (mj_h1 x.2.2.1)).1 (mj_fld (mj_hd x.2.2.1) (mj_h1 x.2.2.1)).2.1 (mj_fld (mj_hd x.2.2.1) (mj_h1 x.2.2.1)).2.2.1 ∈ mj_tb)
  | .putfield i => x.2.2.1.isEmpty || decide (mj_hd x.2.2.1 < 12) && decide (mj_h1 x.2.2.1 < mj_num (mj_hd x.2.2.1)) && decide (Cond.fieldLink own i (mj_fld (mj_hd x.2.2.1) (mj_h1 x.2.2.1)).1 (mj_fld (mj_hd x.2.2.1) (mj_h1 x.2.2.1)).2.1 (mj_fld (mj_hd x.2.2.1) (mj_h1 x.2.2.1)).2.2.1 ∈ mj_tb) && (!(mj_fld (mj_hd x.2.2.1) (mj_h1 x.2.2.1)).2.2.2 || (ini && decide ((mj_fld (mj_hd x.2.2.1) (mj_h1 x.2.2.1)).1 = own)))
  | .aaload => decide (mj_hd x.2.2.1 < 7) && decide ((mj_at (mj_hd x.2.2.1)).isReference = true) && decide (mj_as (mj_hd x.2.2.1) = 2)
  | .newarray a => decide (mj_hd x.2.2.1 < 4) && decide (newarray.typeOf a = mj_at (mj_hd x.2.2.1)) && decide (Cond.arrayClass (mj_at (mj_hd x.2.2.1)) ∈ mj_tb)
  | .multianewarray i d => decide (d = 2) && decide (Cond.classLink own i ("[" ++ (FieldType.array .int).toString) ∈ mj_tb)
  | .anewarray i => decide (mj_hd x.2.2.1 = 5 ∨ mj_hd x.2.2.1 = 6) && decide (Cond.classLink own i (mj_cn (mj_hd x.2.2.1)) ∈ mj_tb)
  | .aastore => decide (mj_hd x.2.2.1 = 5 ∨ mj_hd x.2.2.1 = 6)
  | .tableswitch df lo hi offs => decide ((x.2.1 : Int) + df = (mj_pc full (mj_hd x.2.2.1) : Int)) && decide (((x.2.2.1.drop 1).length : Int) = hi - lo + 1) && mj_ct full x.2.1 offs.toList (x.2.2.1.drop 1)
  | .new i => x.2.2.1.isEmpty || decide (mj_hd x.2.2.1 < 12) && decide (Cond.classLink own i (mj_cls (mj_hd x.2.2.1)) ∈ mj_tb) && decide (Cond.instantiable (mj_cls (mj_hd x.2.2.1)) (mj_h1 x.2.2.1) ∈ mj_tb) && decide (Cond.initialized (mj_cls (mj_hd x.2.2.1)) ∈ mj_tb)
  | .invokevirtual i => x.2.2.1.isEmpty || decide ((T (mj_hd x.2.2.1)).2.2.2.2.2.1 = (0, mj_h2 x.2.2.1, mj_h1 x.2.2.1)) && decide (mj_h2 x.2.2.1 < 12) && decide (Cond.methodLink own i (T (mj_hd x.2.2.1)).1 ∈ mj_tb)
  | .invokestatic i => match x.2.2.1 with
    | [0] => decide (Cond.methodLink own i Lib.Math.max.name ∈ mj_tb)
    | [1] => decide (Cond.methodLink own i Lib.Math.min.name ∈ mj_tb)
    | [2] => decide (Cond.methodLink own i Lib.Math.abs.name ∈ mj_tb)
    | [_] => decide (Cond.methodLink own i arraycopyName ∈ mj_tb)
    | [] => true
    | _ => decide ((T (mj_hd x.2.2.1)).2.2.2.2.2.1.1 = 1) && decide ((T (mj_hd x.2.2.1)).2.2.2.2.2.1.2.2 = mj_h1 x.2.2.1) && decide (Cond.methodLink own i (T (mj_hd x.2.2.1)).1 ∈ mj_tb)
  | .invokespecial i => match x.2.2.1 with
    | [] => decide (Cond.methodLink own i objectInit ∈ mj_tb)
    | y :: _ => decide ((T y).2.2.2.2.2.1 = (2, mj_h2 x.2.2.1, mj_h1 x.2.2.1)) && decide (Cond.methodLink own i (T y).1 ∈ mj_tb)
  | .ireturn => decide ((x.2.2.2 = 0 ∧ ret = some .int) ∨ (x.2.2.2 = 1 ∧ ret = some .boolean))
  | .return_ => decide (ret = none)
  | _ => true
def mj_ends (i : Instr) : Bool := match i with
  | .goto _ => true
  | .tableswitch _ _ _ _ => true
  | .ireturn => true
  | .areturn => true
  | .lreturn => true
  | .athrow => true
  | .return_ => true
  | _ => false
def mj_cb (T : Nat → mj_T) (own : String) (ret : Option FieldType) (nL : Nat) (ini : Bool) (cc : ByteArray) (full : List mj_E) (i : Nat) (x : mj_E) : Bool :=
  decide (decode cc x.2.1 = .ok (x.1, mj_lx x)) && (mj_ends x.1 || decide (mj_pc full (i + 1) = x.2.1 + mj_lx x)) && mj_cx T own ret nL ini full x
def mj_ca (T : Nat → mj_T) (own : String) (ret : Option FieldType) (nL : Nat) (ini : Bool) (cc : ByteArray) (full : List mj_E) : Nat → List mj_E → Bool
  | _, [] => true
  | i, x :: t => mj_cb T own ret nL ini cc full i x && mj_ca T own ret nL ini cc full (i + 1) t
theorem mj_ct_at {full : List mj_E} {pc : Int} : ∀ (os : List Int) (ts : List Nat), mj_ct full pc os ts = true → ∀ (k t : Nat), ts[k]? = some t → ∃ o, os[k]? = some o ∧ pc + o = (mj_pc full t : Int)
  | [], [], _, k, t, h => by simp at h
  | [], _ :: _, h, _, _, _ => by cases h
  | _ :: _, [], h, _, _, _ => by cases h
  | o :: os, t' :: ts, h, 0, t, hk => by
    obtain rfl : t' = t := by simpa using hk
    unfold mj_ct at h
    rw [Bool.and_eq_true] at h
    exact ⟨o, rfl, of_decide_eq_true h.1⟩
  | o :: os, t' :: ts, h, k + 1, t, hk => by
    unfold mj_ct at h
    rw [Bool.and_eq_true] at h
    obtain ⟨o', h1, h2⟩ := mj_ct_at os ts h.2 k t (by simpa using hk)
    exact ⟨o', by simpa using h1, h2⟩
theorem mj_ca_at {T : Nat → mj_T} {own : String} {ret : Option FieldType} {nL : Nat} {ini : Bool} {cc : ByteArray} {full : List mj_E} : ∀ (l : List mj_E) (i j : Nat) (x : mj_E), mj_ca T own ret nL ini cc full i l = true → l[j]? = some x → mj_cb T own ret nL ini cc full (i + j) x = true
  | [], _, _, _, _, h => by simp at h
  | y :: t, i, 0, x, h, hx => by
    obtain rfl : y = x := by simpa using hx
    exact (Bool.and_eq_true _ _ ▸ h : _ ∧ _).1
  | y :: t, i, j + 1, x, h, hx => by
    have := mj_ca_at t (i + 1) j x (Bool.and_eq_true _ _ ▸ h : _ ∧ _).2 (by simpa using hx)
    rw [show i + 1 + j = i + (j + 1) by omega] at this
    exact this
/-- what is checked of a method's words -/
def mj_cm (q : mj_T) : Bool := decide (Cond.code q.1 q.2.1 q.2.2.1 q.2.2.2.1 ∈ mj_tb) && decide (Cond.initialized q.1.cls ∈ mj_tb) && decide (q.1.cls ≠ "java/lang/invoke/MethodHandle") && decide (q.1.cls ≠ "java/lang/invoke/VarHandle") && decide ((parseMethodDescriptor q.1.desc).map (fun d => d.parameters.length) = some q.2.2.2.2.2.1.2.2) && decide (plainName q.1.cls = true) && decide (q.2.2.1 ≤ 80) &&
  (match q.2.2.2.2.2.1.1 with
  | 0 => decide (q.1.cls = mj_cls q.2.2.2.2.2.1.2.1) && decide (Cond.instanceMethod q.1 ∈ mj_tb) && decide (Cond.selects q.1.cls q.1 q.1 ∈ mj_tb)
  | 1 => decide (Cond.static q.1 ∈ mj_tb)
  | _ => decide (q.1.cls = mj_cls q.2.2.2.2.2.1.2.1) && decide (Cond.instanceMethod q.1 ∈ mj_tb) && decide (q.1.name = "<init>") && decide (q.2.2.2.1 = none))
def mj_ok1 (T : Nat → mj_T) (q : mj_T) : Bool := mj_cm q && mj_ca T q.1.cls q.2.2.2.1 q.2.2.1 (decide (q.1.name = "<init>")) q.2.1 q.2.2.2.2.1 0 q.2.2.2.2.1 && decide (mj_pc q.2.2.2.2.1 0 = 0)
def mj_wd : List mj_V → Nat
  | [] => 0
  | .inr (.inl _) :: t => 2 + mj_wd t
  | _ :: t => 1 + mj_wd t
/-- the places at a method's start -/
def mj_en : List mj_V → Nat → mj_L
  | [], n => List.replicate n none
  | .inr (.inl w) :: t, n => some (.inr (.inl w)) :: none :: mj_en t (n - 2)
  | .inl z :: t, n => some (.inl z) :: mj_en t (n - 1)
  | .inr (.inr r) :: t, n => some (.inr (.inr r)) :: mj_en t (n - 1)
/-- a method, called no deeper than d, comes to an end with Q -/
def mj_R (T : Nat → mj_T) : Nat → mj_C
  | 0 => fun _ _ _ _ _ => False
  | d + 1 => fun y av G M Q => mj_wd av ≤ (T y).2.2.1 ∧ ∃ n, mj_x (fun y => (T y).2.2.2.2.2.2) (mj_R T d) (T y).2.2.2.2.1 Q n (T y).2.2.2.2.1 (mj_en av (T y).2.2.1) [] G M (T y).2.2.2.2.2.2.1 (T y).2.2.2.2.2.2.2
theorem mj_en_asc : ∀ (av : List mj_V) (n i : Nat), mj_asc i (mj_en av n) = lv_args i (av.map mj_val)
  | [], n, i => by
    show mj_asc i (List.replicate n none) = []
    induction n generalizing i with
    | zero => rfl
    | succ n ih => exact ih (i + 1)
  | .inr (.inl w) :: t, n, i => by
    show (i, Value.long w) :: mj_asc (i + 1 + 1) (mj_en t (n - 2)) = (i, Value.long w) :: lv_args (i + 2) (t.map mj_val)
    rw [mj_en_asc t]
  | .inl z :: t, n, i => by
    show (i, Value.int (Int32.ofInt z)) :: mj_asc (i + 1) (mj_en t (n - 1)) = (i, Value.int (Int32.ofInt z)) :: lv_args (i + 1) (t.map mj_val)
    rw [mj_en_asc t]
  | .inr (.inr none) :: t, n, i => by
    show (i, Value.null) :: mj_asc (i + 1) (mj_en t (n - 1)) = (i, Value.null) :: lv_args (i + 1) (t.map mj_val)
    rw [mj_en_asc t]
  | .inr (.inr (some a)) :: t, n, i => by
    show (i, Value.ref a) :: mj_asc (i + 1) (mj_en t (n - 1)) = (i, Value.ref a) :: lv_args (i + 1) (t.map mj_val)
    rw [mj_en_asc t]
theorem mj_en_len : ∀ (av : List mj_V) (n : Nat), mj_wd av ≤ n → (mj_en av n).length = n
  | [], n, _ => by simp [mj_en]
  | .inr (.inl w) :: t, n, h => by
    have h : 2 + mj_wd t ≤ n := h
    show (mj_en t (n - 2)).length + 1 + 1 = n
    rw [mj_en_len t (n - 2) (by omega)]; omega
  | .inl z :: t, n, h => by
    have h : 1 + mj_wd t ≤ n := h
    show (mj_en t (n - 1)).length + 1 = n
    rw [mj_en_len t (n - 1) (by omega)]; omega
  | .inr (.inr r) :: t, n, h => by
    have h : 1 + mj_wd t ≤ n := h
    show (mj_en t (n - 1)).length + 1 = n
    rw [mj_en_len t (n - 1) (by omega)]; omega
theorem mj_wd_eq : ∀ av : List mj_V, (lg_sl (av.map mj_val)).length = mj_wd av
  | [] => rfl
  | .inr (.inl w) :: t => by
    have := mj_wd_eq t
    show (([Slot.val (Value.long w), Slot.second] : List Slot) ++ lg_sl (t.map mj_val)).length = 2 + mj_wd t
    rw [List.length_append, this]; rfl
  | .inl z :: t => by
    have := mj_wd_eq t
    show (([Slot.val (Value.int (Int32.ofInt z))] : List Slot) ++ lg_sl (t.map mj_val)).length = 1 + mj_wd t
    rw [List.length_append, this]; rfl
  | .inr (.inr none) :: t => by
    have := mj_wd_eq t
    show (([Slot.val Value.null] : List Slot) ++ lg_sl (t.map mj_val)).length = 1 + mj_wd t
    rw [List.length_append, this]; rfl
  | .inr (.inr (some a)) :: t => by
    have := mj_wd_eq t
    show (([Slot.val (Value.ref a)] : List Slot) ++ lg_sl (t.map mj_val)).length = 1 + mj_wd t
    rw [List.length_append, this]; rfl
theorem mj_en_ok : ∀ (av : List mj_V) (n : Nat) (j : Nat) (v : mj_V), (∀ w ∈ av, mj_ok w) → mj_nt (mj_en av n) j = some v → mj_ok v
  | [], n, j, v, _, h => by
    have : ∀ (n j : Nat), mj_nt (List.replicate n none) j = none := by
      intro n
      induction n with
      | zero => intro j; rfl
      | succ n ih =>
        intro j
        cases j with
        | zero => rfl
        | succ j => exact ih j
    rw [show mj_en [] n = List.replicate n none from rfl, this] at h
    cases h
  | .inr (.inl w) :: t, n, 0, v, _, h => by cases h; trivial
  | .inr (.inl w) :: t, n, 1, v, _, h => by cases h
  | .inr (.inl w) :: t, n, j + 2, v, ha, h => mj_en_ok t (n - 2) j v (mj_tl ha) h
  | .inl z :: t, n, 0, v, ha, h => by cases h; exact mj_head ha
  | .inl z :: t, n, j + 1, v, ha, h => mj_en_ok t (n - 1) j v (mj_tl ha) h
  | .inr (.inr r) :: t, n, 0, v, _, h => by cases h; trivial
  | .inr (.inr r) :: t, n, j + 1, v, ha, h => mj_en_ok t (n - 1) j v (mj_tl ha) h
end
section
/-! ===== what the small machine does, the machine does ===== -/
theorem mj_ldi_e {L : mj_L} {i : Nat} {k : mj_V → Prop} (h : mj_ldi L i k) : ∃ z, mj_nt L i = some (.inl z) ∧ k (.inl z) := by
  unfold mj_ldi at h
  split at h
  · rename_i z hz; exact ⟨z, hz, h⟩
  · exact h.elim
theorem mj_ldl_e {L : mj_L} {i : Nat} {k : mj_V → Prop} (h : mj_ldl L i k) : ∃ z, mj_nt L i = some (.inr (.inl z)) ∧ k (.inr (.inl z)) := by
  unfold mj_ldl at h
  split at h
  · rename_i z hz; exact ⟨z, hz, h⟩
  · exact h.elim
theorem mj_lda_e {L : mj_L} {i : Nat} {k : mj_V → Prop} (h : mj_lda L i k) : ∃ z, mj_nt L i = some (.inr (.inr z)) ∧ k (.inr (.inr z)) := by
  unfold mj_lda at h
  split at h
  · rename_i z hz; exact ⟨z, hz, h⟩
  · exact h.elim
theorem mj_i1_e {st : List mj_V} {k : Int → List mj_V → Prop} (h : mj_i1 st k) : ∃ z t, st = .inl z :: t ∧ k z t := by
  unfold mj_i1 at h
  split at h
  · exact ⟨_, _, rfl, h⟩
  · exact h.elim
theorem mj_l1_e {st : List mj_V} {k : Int64 → List mj_V → Prop} (h : mj_l1 st k) : ∃ z t, st = .inr (.inl z) :: t ∧ k z t := by
  unfold mj_l1 at h
  split at h
  · exact ⟨_, _, rfl, h⟩
  · exact h.elim
theorem mj_r1_e {st : List mj_V} {k : Option Nat → List mj_V → Prop} (h : mj_r1 st k) : ∃ z t, st = .inr (.inr z) :: t ∧ k z t := by
  unfold mj_r1 at h
  split at h
  · exact ⟨_, _, rfl, h⟩
  · exact h.elim
theorem mj_a1_e {st : List mj_V} {k : Nat → List mj_V → Prop} (h : mj_a1 st k) : ∃ z t, st = .inr (.inr (some z)) :: t ∧ k z t := by
  unfold mj_a1 at h
  split at h
  · exact ⟨_, _, rfl, h⟩
  · exact h.elim
theorem mj_c1_e {st : List mj_V} {k : mj_V → List mj_V → Prop} (h : mj_c1 st k) : ∃ v t, st = v :: t ∧ (∀ w, v ≠ .inr (.inl w)) ∧ k v t := by
  unfold mj_c1 at h
  split at h
  · exact ⟨_, _, rfl, (fun w q => by cases q), h⟩
  · exact ⟨_, _, rfl, (fun w q => by cases q), h⟩
  · exact h.elim
theorem mj_pop_e : ∀ (n : Nat) (acc st : List mj_V) (k : List mj_V → List mj_V → Prop), mj_pop n acc st k → ∃ As st', st = As.reverse ++ st' ∧ As.length = n ∧ k (As ++ acc) st'
  | 0, acc, st, k, h => ⟨[], st, rfl, rfl, h⟩
  | n + 1, acc, [], k, h => h.elim
  | n + 1, acc, v :: st, k, h => by
    obtain ⟨As, st', h1, h2, h3⟩ := mj_pop_e n (v :: acc) st k h
    refine ⟨As ++ [v], st', ?_, by simp [h2], ?_⟩
    · simp [h1]
    · rw [List.append_assoc]; exact h3
theorem mj_ald_e {j : Nat} {st : List mj_V} {G : mj_G} {k : Nat → Nat → List mj_V → Prop} (h : mj_ald j st G k) : ∃ i a st' t n, st = .inl i :: .inr (.inr (some a)) :: st' ∧ G a = (t, n) ∧ t % 1000 = 100 + j ∧ 0 ≤ i ∧ i < (n : Int) ∧ k a i.toNat st' := by
  obtain ⟨i, st1, rfl, h⟩ := mj_i1_e h
  obtain ⟨a, st2, rfl, h⟩ := mj_a1_e h
  obtain ⟨t, n, h1, h2, h3, h4, h5⟩ := h
  exact ⟨i, a, st2, t, n, rfl, h1, h2, h3, h4, h5⟩
theorem mj_aldw_e {j : Nat} {st : List mj_V} {G : mj_G} {k : Nat → Nat → List mj_V → Prop} (h : mj_aldw j st G k) : ∃ i a st' t n, st = .inl i :: .inr (.inr (some a)) :: st' ∧ G a = (t, n) ∧ t % 1000 = 100 + j ∧ t < 900000 ∧ 0 ≤ i ∧ i < (n : Int) ∧ k a i.toNat st' := by
  obtain ⟨i, st1, rfl, h⟩ := mj_i1_e h
  obtain ⟨a, st2, rfl, h⟩ := mj_a1_e h
  obtain ⟨t, n, h1, h2, h9, h3, h4, h5⟩ := h
  exact ⟨i, a, st2, t, n, rfl, h1, h2, h9, h3, h4, h5⟩
theorem mj_em {α : Type} {l : List α} (h : l ≠ []) {b : Bool} (hb : (l.isEmpty || b) = true) : b = true := by
  cases l with
  | nil => exact absurd rfl h
  | cons x t => exact hb
theorem mj_sw_e {z : Int} {k : Nat → Prop} : ∀ (ts : List Nat) (v : Int), mj_sw z k v ts → ∀ (i t : Nat), ts[i]? = some t → z = v + i → k t
  | [], _, _, i, t, h, _ => by simp at h
  | t' :: ts, v, h, 0, t, hi, hz => by
    obtain rfl : t' = t := by simpa using hi
    exact h.1 (by rw [hz]; simp)
  | t' :: ts, v, h, i + 1, t, hi, hz => mj_sw_e ts (v + 1) h.2 i t (by simpa using hi) (by rw [hz]; push_cast; omega)
theorem mj_vw {ci : Nat} (h : ci < 12) : vwCl[ci]? = some (vwCl.getD ci (RX0, TX0, 0)) := by
  rw [List.getD_eq_getElem?_getD]
  cases hc : vwCl[ci]? with
  | none => exact absurd (List.getElem?_eq_none_iff.mp hc) (by show ¬ 12 ≤ ci; omega)
  | some x => rfl
def mj_tc (ty : FieldType) : Bool := match ty with
  | .int => true
  | .boolean => true
  | .long => true
  | .object _ => true
  | .array _ => true
  | _ => false
theorem mj_tc_nf {ty : FieldType} (h : mj_tc ty = true) : ty ≠ .float ∧ ty ≠ .double := by
  constructor <;> (intro q; rw [q] at h; cases h)
theorem mj_tc0 : ∀ k, k < 19 → mj_tc (mj_ty 0 k) = true := by decide +kernel
theorem mj_tc1 : ∀ k, k < 4 → mj_tc (mj_ty 1 k) = true := by decide +kernel
theorem mj_tc2 : ∀ k, k < 8 → mj_tc (mj_ty 2 k) = true := by decide +kernel
theorem mj_tc3 : ∀ k, k < 15 → mj_tc (mj_ty 3 k) = true := by decide +kernel
theorem mj_tc4 : ∀ k, k < 4 → mj_tc (mj_ty 4 k) = true := by decide +kernel
theorem mj_tc5 : ∀ k, k < 6 → mj_tc (mj_ty 5 k) = true := by decide +kernel
theorem mj_tc6 : ∀ k, k < 4 → mj_tc (mj_ty 6 k) = true := by decide +kernel
theorem mj_tc7 : ∀ k, k < 12 → mj_tc (mj_ty 7 k) = true := by decide +kernel
theorem mj_tc8 : ∀ k, k < 4 → mj_tc (mj_ty 8 k) = true := by decide +kernel
theorem mj_tc9 : ∀ k, k < 15 → mj_tc (mj_ty 9 k) = true := by decide +kernel
theorem mj_tc10 : ∀ k, k < 14 → mj_tc (mj_ty 10 k) = true := by decide +kernel
theorem mj_tc11 : ∀ k, k < 62 → mj_tc (mj_ty 11 k) = true := by decide +kernel
theorem mj_layA : ∀ (ci : Nat) (r : vw_C), vwCl[ci]? = some r → ∀ w ∈ u_ws r.1 r.2.1 r.2.2, w ∈ mj_tb
  | 0, r, hr => by cases hr; exact mj_lay0
  | 1, r, hr => by cases hr; exact mj_lay1
  | 2, r, hr => by cases hr; exact mj_lay2
  | 3, r, hr => by cases hr; exact mj_lay3
  | 4, r, hr => by cases hr; exact mj_lay4
  | 5, r, hr => by cases hr; exact mj_lay5
  | 6, r, hr => by cases hr; exact mj_lay6
  | 7, r, hr => by cases hr; exact mj_lay7
  | 8, r, hr => by cases hr; exact mj_lay8
  | 9, r, hr => by cases hr; exact mj_lay9
  | 10, r, hr => by cases hr; exact mj_lay10
  | 11, r, hr => by cases hr; exact mj_lay11
  | n + 12, r, hr => by simp [vwCl] at hr
theorem mj_tyA : ∀ (ci : Nat) (r : vw_C), vwCl[ci]? = some r → ∀ k, k < r.2.2 → parseFieldDescriptor (r.2.1 k).2.2.1 = some (mj_ty ci k)
  | 0, r, hr => by cases hr; exact tyX0_ok
  | 1, r, hr => by cases hr; exact tyX1_ok
  | 2, r, hr => by cases hr; exact tyX2_ok
  | 3, r, hr => by cases hr; exact tyX3_ok
  | 4, r, hr => by cases hr; exact tyX4_ok
  | 5, r, hr => by cases hr; exact tyX5_ok
  | 6, r, hr => by cases hr; exact tyX6_ok
  | 7, r, hr => by cases hr; exact tyX7_ok
  | 8, r, hr => by cases hr; exact tyX8_ok
  | 9, r, hr => by cases hr; exact tyX10_ok
  | 10, r, hr => by cases hr; exact tyX11_ok
  | 11, r, hr => by cases hr; exact tyX12_ok
  | n + 12, r, hr => by simp [vwCl] at hr
theorem mj_nmA : ∀ (ci : Nat) (r : vw_C), vwCl[ci]? = some r → ∀ x, x < r.2.2 → ∀ y, y < r.2.2 → x ≠ y → (r.2.1 x).2.1 ≠ (r.2.1 y).2.1
  | 0, r, hr => by cases hr; exact nmX0
  | 1, r, hr => by cases hr; exact nmX1
  | 2, r, hr => by cases hr; exact nmX2
  | 3, r, hr => by cases hr; exact nmX3
  | 4, r, hr => by cases hr; exact nmX4
  | 5, r, hr => by cases hr; exact nmX5
  | 6, r, hr => by cases hr; exact nmX6
  | 7, r, hr => by cases hr; exact nmX7
  | 8, r, hr => by cases hr; exact nmX8
  | 9, r, hr => by cases hr; exact nmX10
  | 10, r, hr => by cases hr; exact nmX11
  | 11, r, hr => by cases hr; exact nmX12
  | n + 12, r, hr => by simp [vwCl] at hr
theorem mj_tcA : ∀ (ci : Nat) (r : vw_C), vwCl[ci]? = some r → ∀ k, k < r.2.2 → mj_tc (mj_ty ci k) = true
  | 0, r, hr => by cases hr; exact mj_tc0
  | 1, r, hr => by cases hr; exact mj_tc1
  | 2, r, hr => by cases hr; exact mj_tc2
  | 3, r, hr => by cases hr; exact mj_tc3
  | 4, r, hr => by cases hr; exact mj_tc4
  | 5, r, hr => by cases hr; exact mj_tc5
  | 6, r, hr => by cases hr; exact mj_tc6
  | 7, r, hr => by cases hr; exact mj_tc7
  | 8, r, hr => by cases hr; exact mj_tc8
  | 9, r, hr => by cases hr; exact mj_tc9
  | 10, r, hr => by cases hr; exact mj_tc10
  | 11, r, hr => by cases hr; exact mj_tc11
  | n + 12, r, hr => by simp [vwCl] at hr
theorem mj_nar0 {ty : FieldType} (h : mj_tc ty = true) (hs : mj_fs ty = 0) {z : Int} (hz : ty = .boolean → z = 0 ∨ z = 1) : narrow ty (mj_val (.inl z)) = mj_val (.inl z) ∧ fits ty (mj_val (.inl z)) = true := by
  cases ty with
  | int => exact ⟨rfl, rfl⟩
  | boolean => rcases hz rfl with rfl | rfl <;> exact ⟨rfl, rfl⟩
  | long => cases hs
  | object _ => cases hs
  | array _ => cases hs
  | _ => cases h
theorem mj_nar1 {ty : FieldType} (h : mj_tc ty = true) (hs : mj_fs ty = 1) {z : Int64} : narrow ty (mj_val (.inr (.inl z))) = mj_val (.inr (.inl z)) ∧ fits ty (mj_val (.inr (.inl z))) = true := by
  cases ty with
  | long => exact ⟨rfl, rfl⟩
  | int => cases hs
  | boolean => cases hs
  | object _ => cases hs
  | array _ => cases hs
  | _ => cases h
theorem mj_nar2 {ty : FieldType} (h : mj_tc ty = true) (hs : mj_fs ty ≠ 0) (hs1 : mj_fs ty ≠ 1) {z : Option Nat} : narrow ty (mj_val (.inr (.inr z))) = mj_val (.inr (.inr z)) ∧ fits ty (mj_val (.inr (.inr z))) = true := by
  cases ty with
  | object _ => cases z <;> exact ⟨rfl, rfl⟩
  | array _ => cases z <;> exact ⟨rfl, rfl⟩
  | long => exact absurd rfl hs1
  | int => exact absurd rfl hs
  | boolean => exact absurd rfl hs
  | _ => cases h
theorem mj_fs_le (ty : FieldType) : mj_fs ty = 0 ∨ mj_fs ty = 1 ∨ mj_fs ty = 2 := by
  cases ty <;> simp [mj_fs]
/-- the contract that a method's run gives -/
def mj_Mt (l : Launch) (D : va_G) (dA : Nat → ClassId) (B : Nat) (q : mj_T) (d : Nat) (av : List mj_V) (G : mj_G) (M : mj_M) (Q : mj_P) : Prop :=
  Met l q.1 (.code q.1 q.2.1 q.2.2.1 q.2.2.2.1 :: mj_tb) (mj_rm d q.2.2.2.2.2.2) (mj_Pc D dA B av G M) (mj_Q D dA B Q) q.2.2.2.2.2.2.1 q.2.2.2.2.2.2.2 (fun q => B ≤ q)
section MJS
variable {p : Program} {l : Launch} {e : Env} {R : Room} {s : State} {m : MethodId} {args : Array Value} {below : List Frame} {meth : Method} {c : Code} {own : String} {cc : ByteArray} {ret : Option FieldType} {D : va_G} {dA : Nat → ClassId} {B nL mc ms : Nat} {Q : mj_P}
set_option maxHeartbeats 4000000 in
set_option maxRecDepth 100000 in
theorem mj_snd (X : mj_X p l e R s m args below meth c own cc ret D dA B nL mc ms Q) {T : Nat → mj_T} {C : mj_C} {full : List mj_E} {ini : Bool} {d : Nat} (hini : ini = true → meth.name = "<init>") (hR : d + 1 ≤ R.frames ∧ 100 * (d + 1) + 100 ≤ R.locals)
    (hw3 : Cond.arrayClass .int ∈ mj_tb) (ho2 : Cond.instanceMethod objectInit ∈ mj_tb) (ho3 : Cond.code objectInit ⟨#[0xb1]⟩ 1 none ∈ mj_tb)
    (hlw : (Cond.static Lib.Math.max.name ∈ mj_tb ∧ Cond.code Lib.Math.max.name Lib.Math.max.code 2 (some .int) ∈ mj_tb) ∧ (Cond.static Lib.Math.min.name ∈ mj_tb ∧ Cond.code Lib.Math.min.name Lib.Math.min.code 2 (some .int) ∈ mj_tb) ∧ (Cond.static Lib.Math.abs.name ∈ mj_tb ∧ Cond.code Lib.Math.abs.name Lib.Math.abs.code 1 (some .int) ∈ mj_tb) ∧ Cond.initialized "java/lang/Math" ∈ mj_tb ∧ Cond.native arraycopyName ∈ mj_tb ∧ Cond.static arraycopyName ∈ mj_tb ∧ Cond.initialized "java/lang/System" ∈ mj_tb)
    (hT : ∀ y, mj_cm (T y) = true) (hC : ∀ y av G M Q, C y av G M Q → mj_Mt l D dA B (T y) d av G M Q) (hck : ∀ i x, full[i]? = some x → mj_cb T own ret nL ini cc full i x = true) :
    ∀ (n i : Nat) (L : mj_L) (st : List mj_V) (G : mj_G) (M : mj_M) (cb sb : Nat), mj_x (fun y => (T y).2.2.2.2.2.2) C full Q n (full.drop i) L st G M cb sb → mj_J X (mj_pc full i) L st G M cb sb := by
  intro n
  induction n with
  | zero => intro i L st G M cb sb h; exact h.elim
  | succ n ih =>
    intro i L st G M cb sb h
    cases hd : full.drop i with
    | nil => rw [hd] at h; exact h.elim
    | cons x rest =>
      rw [hd] at h
      have hx : full[i]? = some x := by
        have h1 : (full.drop i)[0]? = some x := by rw [hd]; rfl
        rw [List.getElem?_drop] at h1
        exact h1
      have hrest : rest = full.drop (i + 1) := by
        have h1 : (full.drop i).drop 1 = rest := by rw [hd]; rfl
        rw [List.drop_drop] at h1
        rw [← h1, Nat.add_comm]
      subst hrest
      have hpc : mj_pc full i = x.2.1 := by unfold mj_pc; rw [hx]
      rw [hpc]
      have hc0 := hck i x hx
      obtain ⟨ins, pc, aux, imm⟩ := x
      simp only [mj_cb, Bool.and_eq_true, Bool.or_eq_true, decide_eq_true_eq] at hc0
      obtain ⟨⟨hdec, hnx⟩, hcx⟩ := hc0
      dsimp only at hdec hnx hcx h ⊢
      cases ins
      case iload_n k =>
        have h : mj_ldi L k.val (fun v => mj_x (fun y => (T y).2.2.2.2.2.2) C full Q n (full.drop (i + 1)) L (v :: st) G M cb sb) := h
        obtain ⟨z, h1, h2⟩ := mj_ldi_e h
        have hn := hnx.resolve_left Bool.false_ne_true
        have g := ih (i + 1) _ _ _ _ _ _ h2
        rw [hn] at g
        exact mj_o_iload_n X hdec h1 g
      case iload k =>
        have h : mj_ldi L k (fun v => mj_x (fun y => (T y).2.2.2.2.2.2) C full Q n (full.drop (i + 1)) L (v :: st) G M cb sb) := h
        obtain ⟨z, h1, h2⟩ := mj_ldi_e h
        have hn := hnx.resolve_left Bool.false_ne_true
        have g := ih (i + 1) _ _ _ _ _ _ h2
        rw [hn] at g
        exact mj_o_iload X hdec h1 g
      case lload_n k =>
        have h : mj_ldl L k.val (fun v => mj_x (fun y => (T y).2.2.2.2.2.2) C full Q n (full.drop (i + 1)) L (v :: st) G M cb sb) := h
        obtain ⟨z, h1, h2⟩ := mj_ldl_e h
        have hn := hnx.resolve_left Bool.false_ne_true
        have g := ih (i + 1) _ _ _ _ _ _ h2
        rw [hn] at g
        exact mj_o_lload_n X hdec h1 g
      case lload k =>
        have h : mj_ldl L k (fun v => mj_x (fun y => (T y).2.2.2.2.2.2) C full Q n (full.drop (i + 1)) L (v :: st) G M cb sb) := h
        obtain ⟨z, h1, h2⟩ := mj_ldl_e h
        have hn := hnx.resolve_left Bool.false_ne_true
        have g := ih (i + 1) _ _ _ _ _ _ h2
        rw [hn] at g
        exact mj_o_lload X hdec h1 g
      case aload_n k =>
        have h : mj_lda L k.val (fun v => mj_x (fun y => (T y).2.2.2.2.2.2) C full Q n (full.drop (i + 1)) L (v :: st) G M cb sb) := h
        obtain ⟨z, h1, h2⟩ := mj_lda_e h
        have hn := hnx.resolve_left Bool.false_ne_true
        have g := ih (i + 1) _ _ _ _ _ _ h2
        rw [hn] at g
        exact mj_o_aload_n X hdec h1 g
      case aload k =>
        have h : mj_lda L k (fun v => mj_x (fun y => (T y).2.2.2.2.2.2) C full Q n (full.drop (i + 1)) L (v :: st) G M cb sb) := h
        obtain ⟨z, h1, h2⟩ := mj_lda_e h
        have hn := hnx.resolve_left Bool.false_ne_true
        have g := ih (i + 1) _ _ _ _ _ _ h2
        rw [hn] at g
        exact mj_o_aload X hdec h1 g
      case istore_n k =>
        have h : mj_i1 st (fun z st => mj_x (fun y => (T y).2.2.2.2.2.2) C full Q n (full.drop (i + 1)) (mj_s1 L k.val (.inl z)) st G M cb sb) := h
        obtain ⟨z, st, rfl, h2⟩ := mj_i1_e h
        have hn := hnx.resolve_left Bool.false_ne_true
        have g := ih (i + 1) _ _ _ _ _ _ h2
        rw [hn] at g
        exact mj_o_istore_n X hdec (of_decide_eq_true hcx) g
      case istore k =>
        have h : mj_i1 st (fun z st => mj_x (fun y => (T y).2.2.2.2.2.2) C full Q n (full.drop (i + 1)) (mj_s1 L k (.inl z)) st G M cb sb) := h
        obtain ⟨z, st, rfl, h2⟩ := mj_i1_e h
        have hn := hnx.resolve_left Bool.false_ne_true
        have g := ih (i + 1) _ _ _ _ _ _ h2
        rw [hn] at g
        exact mj_o_istore X hdec (of_decide_eq_true hcx) g
      case lstore_n k =>
        have h : mj_l1 st (fun z st => mj_x (fun y => (T y).2.2.2.2.2.2) C full Q n (full.drop (i + 1)) (mj_s2 L k.val (.inr (.inl z))) st G M cb sb) := h
        obtain ⟨z, st, rfl, h2⟩ := mj_l1_e h
        have hn := hnx.resolve_left Bool.false_ne_true
        have g := ih (i + 1) _ _ _ _ _ _ h2
        rw [hn] at g
        exact mj_o_lstore_n X hdec (of_decide_eq_true hcx) g
      case lstore k =>
        have h : mj_l1 st (fun z st => mj_x (fun y => (T y).2.2.2.2.2.2) C full Q n (full.drop (i + 1)) (mj_s2 L k (.inr (.inl z))) st G M cb sb) := h
        obtain ⟨z, st, rfl, h2⟩ := mj_l1_e h
        have hn := hnx.resolve_left Bool.false_ne_true
        have g := ih (i + 1) _ _ _ _ _ _ h2
        rw [hn] at g
        exact mj_o_lstore X hdec (of_decide_eq_true hcx) g
      case astore_n k =>
        have h : mj_r1 st (fun z st => mj_x (fun y => (T y).2.2.2.2.2.2) C full Q n (full.drop (i + 1)) (mj_s1 L k.val (.inr (.inr z))) st G M cb sb) := h
        obtain ⟨z, st, rfl, h2⟩ := mj_r1_e h
        have hn := hnx.resolve_left Bool.false_ne_true
        have g := ih (i + 1) _ _ _ _ _ _ h2
        rw [hn] at g
        exact mj_o_astore_n X hdec (of_decide_eq_true hcx) g
      case astore k =>
        have h : mj_r1 st (fun z st => mj_x (fun y => (T y).2.2.2.2.2.2) C full Q n (full.drop (i + 1)) (mj_s1 L k (.inr (.inr z))) st G M cb sb) := h
        obtain ⟨z, st, rfl, h2⟩ := mj_r1_e h
        have hn := hnx.resolve_left Bool.false_ne_true
        have g := ih (i + 1) _ _ _ _ _ _ h2
        rw [hn] at g
        exact mj_o_astore X hdec (of_decide_eq_true hcx) g
      case iinc k c =>
        have h : mj_ldi L k (fun v => mj_i1 [v] fun z _ => mj_in (z + c) ∧ mj_x (fun y => (T y).2.2.2.2.2.2) C full Q n (full.drop (i + 1)) (mj_s1 L k (.inl (z + c))) st G M cb sb) := h
        obtain ⟨z, h1, h2⟩ := mj_ldi_e h
        obtain ⟨h3, h4⟩ : mj_in (z + c) ∧ _ := h2
        have hn := hnx.resolve_left Bool.false_ne_true
        have g := ih (i + 1) _ _ _ _ _ _ h4
        rw [hn] at g
        exact mj_o_iinc X hdec h1 (of_decide_eq_true hcx) h3 g
      case iconst z =>
        have h : mj_x (fun y => (T y).2.2.2.2.2.2) C full Q n (full.drop (i + 1)) L (.inl z :: st) G M cb sb := h
        have hn := hnx.resolve_left Bool.false_ne_true
        have g := ih (i + 1) _ _ _ _ _ _ h
        rw [hn] at g
        exact mj_o_iconst X hdec (show -2147483648 ≤ z ∧ z < 2147483648 from of_decide_eq_true hcx) g
      case bipush z =>
        have h : mj_x (fun y => (T y).2.2.2.2.2.2) C full Q n (full.drop (i + 1)) L (.inl z :: st) G M cb sb := h
        have hn := hnx.resolve_left Bool.false_ne_true
        have g := ih (i + 1) _ _ _ _ _ _ h
        rw [hn] at g
        simp only [mj_cx, Bool.and_eq_true, decide_eq_true_eq] at hcx
        exact mj_o_bipush X hdec hcx.1 hcx.2 g
      case sipush z =>
        have h : mj_x (fun y => (T y).2.2.2.2.2.2) C full Q n (full.drop (i + 1)) L (.inl z :: st) G M cb sb := h
        have hn := hnx.resolve_left Bool.false_ne_true
        have g := ih (i + 1) _ _ _ _ _ _ h
        rw [hn] at g
        simp only [mj_cx, Bool.and_eq_true, decide_eq_true_eq] at hcx
        exact mj_o_sipush X hdec hcx.1 hcx.2 g
      case ldc k =>
        have h : mj_x (fun y => (T y).2.2.2.2.2.2) C full Q n (full.drop (i + 1)) L (.inl imm :: st) G M cb sb := h
        have hn := hnx.resolve_left Bool.false_ne_true
        have g := ih (i + 1) _ _ _ _ _ _ h
        rw [hn] at g
        simp only [mj_cx, Bool.and_eq_true, decide_eq_true_eq] at hcx
        exact mj_o_ldc X hdec hcx.1 hcx.2 g
      case ldc2_w k =>
        have h : mj_x (fun y => (T y).2.2.2.2.2.2) C full Q n (full.drop (i + 1)) L (.inr (.inl (Int64.ofInt imm)) :: st) G M cb sb := h
        have hn := hnx.resolve_left Bool.false_ne_true
        have g := ih (i + 1) _ _ _ _ _ _ h
        rw [hn] at g
        exact mj_o_ldc2 X hdec (of_decide_eq_true hcx) g
      case lconst k =>
        have h : mj_x (fun y => (T y).2.2.2.2.2.2) C full Q n (full.drop (i + 1)) L (.inr (.inl (Int64.ofNat k.val)) :: st) G M cb sb := h
        have hn := hnx.resolve_left Bool.false_ne_true
        have g := ih (i + 1) _ _ _ _ _ _ h
        rw [hn] at g
        exact mj_o_lconst X hdec g
      case aconst_null =>
        have h : mj_x (fun y => (T y).2.2.2.2.2.2) C full Q n (full.drop (i + 1)) L (.inr (.inr none) :: st) G M cb sb := h
        have hn := hnx.resolve_left Bool.false_ne_true
        have g := ih (i + 1) _ _ _ _ _ _ h
        rw [hn] at g
        exact mj_o_null X hdec g
      case iadd =>
        have h : mj_bin (fun x y => x + y) st (fun x y => x + y) (fun st => mj_x (fun y => (T y).2.2.2.2.2.2) C full Q n (full.drop (i + 1)) L st G M cb sb) := h
        obtain ⟨y, st, rfl, u1⟩ := mj_i1_e h
        obtain ⟨x, st, rfl, u2⟩ := mj_i1_e u1
        have hn := hnx.resolve_left Bool.false_ne_true
        refine mj_o_iadd X hdec ?_
        rcases u2 with ⟨h1, h2⟩ | h2
        · have g := ih (i + 1) _ _ _ _ _ _ h2
          rw [hn] at g
          exact Or.inl ⟨h1, g⟩
        · refine Or.inr (fun z hz hz2 => ?_)
          have g := ih (i + 1) _ _ _ _ _ _ (h2 z hz hz2)
          rw [hn] at g
          exact g
      case isub =>
        have h : mj_bin (fun x y => x - y) st (fun x y => x - y) (fun st => mj_x (fun y => (T y).2.2.2.2.2.2) C full Q n (full.drop (i + 1)) L st G M cb sb) := h
        obtain ⟨y, st, rfl, u1⟩ := mj_i1_e h
        obtain ⟨x, st, rfl, u2⟩ := mj_i1_e u1
        have hn := hnx.resolve_left Bool.false_ne_true
        refine mj_o_isub X hdec ?_
        rcases u2 with ⟨h1, h2⟩ | h2
        · have g := ih (i + 1) _ _ _ _ _ _ h2
          rw [hn] at g
          exact Or.inl ⟨h1, g⟩
        · refine Or.inr (fun z hz hz2 => ?_)
          have g := ih (i + 1) _ _ _ _ _ _ (h2 z hz hz2)
          rw [hn] at g
          exact g
      case imul =>
        have h : mj_bin (fun x y => x * y) st (fun x y => x * y) (fun st => mj_x (fun y => (T y).2.2.2.2.2.2) C full Q n (full.drop (i + 1)) L st G M cb sb) := h
        obtain ⟨y, st, rfl, u1⟩ := mj_i1_e h
        obtain ⟨x, st, rfl, u2⟩ := mj_i1_e u1
        have hn := hnx.resolve_left Bool.false_ne_true
        refine mj_o_imul X hdec ?_
        rcases u2 with ⟨h1, h2⟩ | h2
        · have g := ih (i + 1) _ _ _ _ _ _ h2
          rw [hn] at g
          exact Or.inl ⟨h1, g⟩
        · refine Or.inr (fun z hz hz2 => ?_)
          have g := ih (i + 1) _ _ _ _ _ _ (h2 z hz hz2)
          rw [hn] at g
          exact g
      case iand =>
        have h : mj_op st (fun x y => x &&& y) (fun st => mj_x (fun y => (T y).2.2.2.2.2.2) C full Q n (full.drop (i + 1)) L st G M cb sb) := h
        obtain ⟨y, st, rfl, u1⟩ := mj_i1_e h
        obtain ⟨x, st, rfl, u2⟩ := mj_i1_e u1
        have hn := hnx.resolve_left Bool.false_ne_true
        refine mj_o_iand X hdec (fun z hz hz2 => ?_)
        have g := ih (i + 1) _ _ _ _ _ _ (u2 z hz hz2)
        rw [hn] at g
        exact g
      case ior =>
        have h : mj_op st (fun x y => x ||| y) (fun st => mj_x (fun y => (T y).2.2.2.2.2.2) C full Q n (full.drop (i + 1)) L st G M cb sb) := h
        obtain ⟨y, st, rfl, u1⟩ := mj_i1_e h
        obtain ⟨x, st, rfl, u2⟩ := mj_i1_e u1
        have hn := hnx.resolve_left Bool.false_ne_true
        refine mj_o_ior X hdec (fun z hz hz2 => ?_)
        have g := ih (i + 1) _ _ _ _ _ _ (u2 z hz hz2)
        rw [hn] at g
        exact g
      case ishl =>
        have h : mj_op st (fun x y => x <<< (y &&& 31)) (fun st => mj_x (fun y => (T y).2.2.2.2.2.2) C full Q n (full.drop (i + 1)) L st G M cb sb) := h
        obtain ⟨y, st, rfl, u1⟩ := mj_i1_e h
        obtain ⟨x, st, rfl, u2⟩ := mj_i1_e u1
        have hn := hnx.resolve_left Bool.false_ne_true
        refine mj_o_ishl X hdec (fun z hz hz2 => ?_)
        have g := ih (i + 1) _ _ _ _ _ _ (u2 z hz hz2)
        rw [hn] at g
        exact g
      case ishr =>
        have h : mj_op st (fun x y => x >>> (y &&& 31)) (fun st => mj_x (fun y => (T y).2.2.2.2.2.2) C full Q n (full.drop (i + 1)) L st G M cb sb) := h
        obtain ⟨y, st, rfl, u1⟩ := mj_i1_e h
        obtain ⟨x, st, rfl, u2⟩ := mj_i1_e u1
        have hn := hnx.resolve_left Bool.false_ne_true
        refine mj_o_ishr X hdec (fun z hz hz2 => ?_)
        have g := ih (i + 1) _ _ _ _ _ _ (u2 z hz hz2)
        rw [hn] at g
        exact g
      case iushr =>
        have h : mj_op st (fun x y => (x.toUInt32 >>> (y.toUInt32 &&& Int32.toUInt32 31)).toInt32) (fun st => mj_x (fun y => (T y).2.2.2.2.2.2) C full Q n (full.drop (i + 1)) L st G M cb sb) := h
        obtain ⟨y, st, rfl, u1⟩ := mj_i1_e h
        obtain ⟨x, st, rfl, u2⟩ := mj_i1_e u1
        have hn := hnx.resolve_left Bool.false_ne_true
        refine mj_o_iushr X hdec (fun z hz hz2 => ?_)
        have g := ih (i + 1) _ _ _ _ _ _ (u2 z hz hz2)
        rw [hn] at g
        exact g
      case ineg =>
        have h : mj_un st (fun x => -x) (fun st => mj_x (fun y => (T y).2.2.2.2.2.2) C full Q n (full.drop (i + 1)) L st G M cb sb) := h
        obtain ⟨x, st, rfl, u1⟩ := mj_i1_e h
        have hn := hnx.resolve_left Bool.false_ne_true
        refine mj_o_ineg X hdec (fun z hz hz2 => ?_)
        have g := ih (i + 1) _ _ _ _ _ _ (u1 z hz hz2)
        rw [hn] at g
        exact g
      case i2b =>
        have h : mj_un st (fun x => x.toInt8.toInt32) (fun st => mj_x (fun y => (T y).2.2.2.2.2.2) C full Q n (full.drop (i + 1)) L st G M cb sb) := h
        obtain ⟨x, st, rfl, u1⟩ := mj_i1_e h
        have hn := hnx.resolve_left Bool.false_ne_true
        refine mj_o_i2b X hdec (fun z hz hz2 => ?_)
        have g := ih (i + 1) _ _ _ _ _ _ (u1 z hz hz2)
        rw [hn] at g
        exact g
      case dup =>
        have h : mj_c1 st (fun v st => mj_x (fun y => (T y).2.2.2.2.2.2) C full Q n (full.drop (i + 1)) L (v :: v :: st) G M cb sb) := h
        obtain ⟨v, st, rfl, h1, h2⟩ := mj_c1_e h
        have hn := hnx.resolve_left Bool.false_ne_true
        have g := ih (i + 1) _ _ _ _ _ _ h2
        rw [hn] at g
        exact mj_o_dup X hdec h1 g
      case dup2 =>
        have h : mj_c1 st (fun v st => mj_c1 st fun w st => mj_x (fun y => (T y).2.2.2.2.2.2) C full Q n (full.drop (i + 1)) L (v :: w :: v :: w :: st) G M cb sb) := h
        obtain ⟨v, st, rfl, h1, u1⟩ := mj_c1_e h
        obtain ⟨w, st, rfl, h2, h3⟩ := mj_c1_e u1
        have hn := hnx.resolve_left Bool.false_ne_true
        have g := ih (i + 1) _ _ _ _ _ _ h3
        rw [hn] at g
        exact mj_o_dup2 X hdec h1 h2 g
      case pop =>
        have h : mj_c1 st (fun _ st => mj_x (fun y => (T y).2.2.2.2.2.2) C full Q n (full.drop (i + 1)) L st G M cb sb) := h
        obtain ⟨v, st, rfl, h1, h2⟩ := mj_c1_e h
        have hn := hnx.resolve_left Bool.false_ne_true
        have g := ih (i + 1) _ _ _ _ _ _ h2
        rw [hn] at g
        exact mj_o_pop X hdec h1 g
      case ifCond cd off =>
        have h : mj_i1 st (fun z st => mj_br (mj_cc cd z 0) (mj_x (fun y => (T y).2.2.2.2.2.2) C full Q n (full.drop (mj_hd aux)) L st G M cb sb) (mj_x (fun y => (T y).2.2.2.2.2.2) C full Q n (full.drop (i + 1)) L st G M cb sb)) := h
        obtain ⟨z, st, rfl, h1, h2⟩ := mj_i1_e h
        have hn := hnx.resolve_left Bool.false_ne_true
        have ht := of_decide_eq_true hcx
        have g1 := fun q => ih (mj_hd aux) _ _ _ _ _ _ (h1 q)
        have g2 := fun q => ih (i + 1) _ _ _ _ _ _ (h2 q)
        rw [hn] at g2
        cases cd
        · exact mj_o_if_eq X hdec ht g1 g2
        · exact mj_o_if_ne X hdec ht g1 g2
        · exact mj_o_if_lt X hdec ht g1 g2
        · exact mj_o_if_ge X hdec ht g1 g2
        · exact mj_o_if_gt X hdec ht g1 g2
        · exact mj_o_if_le X hdec ht g1 g2
      case if_icmp cd off =>
        have h : mj_i1 st (fun y st => mj_i1 st fun z st => mj_br (mj_cc cd z y) (mj_x (fun y => (T y).2.2.2.2.2.2) C full Q n (full.drop (mj_hd aux)) L st G M cb sb) (mj_x (fun y => (T y).2.2.2.2.2.2) C full Q n (full.drop (i + 1)) L st G M cb sb)) := h
        obtain ⟨y, st, rfl, u1⟩ := mj_i1_e h
        obtain ⟨z, st, rfl, h1, h2⟩ := mj_i1_e u1
        have hn := hnx.resolve_left Bool.false_ne_true
        have ht := of_decide_eq_true hcx
        have g1 := fun q => ih (mj_hd aux) _ _ _ _ _ _ (h1 q)
        have g2 := fun q => ih (i + 1) _ _ _ _ _ _ (h2 q)
        rw [hn] at g2
        cases cd
        · exact mj_o_icmp_eq X hdec ht g1 g2
        · exact mj_o_icmp_ne X hdec ht g1 g2
        · exact mj_o_icmp_lt X hdec ht g1 g2
        · exact mj_o_icmp_ge X hdec ht g1 g2
        · exact mj_o_icmp_gt X hdec ht g1 g2
        · exact mj_o_icmp_le X hdec ht g1 g2
      case ifnull off =>
        have h : mj_r1 st (fun z st => mj_br (z = none) (mj_x (fun y => (T y).2.2.2.2.2.2) C full Q n (full.drop (mj_hd aux)) L st G M cb sb) (mj_x (fun y => (T y).2.2.2.2.2.2) C full Q n (full.drop (i + 1)) L st G M cb sb)) := h
        obtain ⟨z, st, rfl, h1, h2⟩ := mj_r1_e h
        have hn := hnx.resolve_left Bool.false_ne_true
        have ht := of_decide_eq_true hcx
        have g1 := fun q => ih (mj_hd aux) _ _ _ _ _ _ (h1 q)
        have g2 := fun q => ih (i + 1) _ _ _ _ _ _ (h2 q)
        rw [hn] at g2
        exact mj_o_ifnull X hdec ht g1 g2
      case ifnonnull off =>
        have h : mj_r1 st (fun z st => mj_br (z ≠ none) (mj_x (fun y => (T y).2.2.2.2.2.2) C full Q n (full.drop (mj_hd aux)) L st G M cb sb) (mj_x (fun y => (T y).2.2.2.2.2.2) C full Q n (full.drop (i + 1)) L st G M cb sb)) := h
        obtain ⟨z, st, rfl, h1, h2⟩ := mj_r1_e h
        have hn := hnx.resolve_left Bool.false_ne_true
        have ht := of_decide_eq_true hcx
        have g1 := fun q => ih (mj_hd aux) _ _ _ _ _ _ (h1 q)
        have g2 := fun q => ih (i + 1) _ _ _ _ _ _ (h2 q)
        rw [hn] at g2
        exact mj_o_ifnonnull X hdec ht g1 g2
      case goto off =>
        have h : mj_x (fun y => (T y).2.2.2.2.2.2) C full Q n (full.drop (mj_hd aux)) L st G M cb sb := h
        exact mj_o_goto X hdec (of_decide_eq_true hcx) (ih (mj_hd aux) _ _ _ _ _ _ h)
      case getfield k =>
        have h0 : aux ≠ [] ∧ mj_get (mj_hd aux) (mj_h1 aux) st G M (fun st => mj_x (fun y => (T y).2.2.2.2.2.2) C full Q n (full.drop (i + 1)) L st G M cb sb) := h
        have h := h0.2
        obtain ⟨a, st, rfl, t, nn, hG, ht, u1⟩ := mj_a1_e h
        have hn := hnx.resolve_left Bool.false_ne_true
        have hcx := mj_em h0.1 hcx
        simp only [Bool.and_eq_true, decide_eq_true_eq] at hcx
        obtain ⟨⟨c1, c2⟩, c3⟩ := hcx
        have hr := mj_vw c1
        have hs : mj_so (mj_hd aux) (mj_h1 aux) = mj_fs (mj_ty (mj_hd aux) (mj_h1 aux)) := rfl
        rcases mj_fs_le (mj_ty (mj_hd aux) (mj_h1 aux)) with q | q | q
        · rw [hs, q] at u1
          have g := ih (i + 1) _ _ _ _ _ _ u1
          rw [hn] at g
          exact mj_o_get X (v := .inl (M.1 a (mj_h1 aux))) hdec hr c2 (mj_layA _ _ hr) c3 hG ht (fun hM => ⟨by rw [hs, q]; rfl, hM _ _⟩) g
        · rw [hs, q] at u1
          have g := ih (i + 1) _ _ _ _ _ _ u1
          rw [hn] at g
          exact mj_o_get X (v := .inr (.inl (M.2.1 a (mj_h1 aux)))) hdec hr c2 (mj_layA _ _ hr) c3 hG ht (fun hM => ⟨by rw [hs, q]; rfl, trivial⟩) g
        · rw [hs, q] at u1
          obtain ⟨h1, h2⟩ := u1
          cases hm : M.2.2 a (mj_h1 aux) with
          | none =>
            have g := ih (i + 1) _ _ _ _ _ _ (h2 hm)
            rw [hn] at g
            exact mj_o_get X (v := .inr (.inr none)) hdec hr c2 (mj_layA _ _ hr) c3 hG ht (fun hM => ⟨by rw [hs, q]; show _ = va_rf (M.2.2 a (mj_h1 aux)); rw [hm]; rfl, trivial⟩) g
          | some b =>
            have g := ih (i + 1) _ _ _ _ _ _ (h1 b hm)
            rw [hn] at g
            exact mj_o_get X (v := .inr (.inr (some b))) hdec hr c2 (mj_layA _ _ hr) c3 hG ht (fun hM => ⟨by rw [hs, q]; show _ = va_rf (M.2.2 a (mj_h1 aux)); rw [hm]; rfl, trivial⟩) g
      case putfield k =>
        have h0 : aux ≠ [] ∧ mj_put (mj_hd aux) (mj_h1 aux) st G M (fun st M => mj_x (fun y => (T y).2.2.2.2.2.2) C full Q n (full.drop (i + 1)) L st G M cb sb) := h
        have h := h0.2
        have hcx := mj_em h0.1 hcx
        have hn := hnx.resolve_left Bool.false_ne_true
        simp only [Bool.and_eq_true, Bool.or_eq_true, Bool.not_eq_true', decide_eq_true_eq] at hcx
        obtain ⟨⟨⟨c1, c2⟩, c3⟩, c4⟩ := hcx
        have hr := mj_vw c1
        have hs : mj_so (mj_hd aux) (mj_h1 aux) = mj_fs (mj_ty (mj_hd aux) (mj_h1 aux)) := rfl
        have htc := mj_tcA _ _ hr _ c2
        have c5 := c4.imp id (fun q => (⟨hini q.1, q.2⟩ : meth.name = "<init>" ∧ _))
        unfold mj_put at h
        rcases mj_fs_le (mj_ty (mj_hd aux) (mj_h1 aux)) with q | q | q
        · rw [hs, q] at h
          obtain ⟨z, st, rfl, u1⟩ := mj_i1_e h
          obtain ⟨a, st, rfl, t, nn, hG, ht, h9, hb, u2⟩ := mj_a1_e u1
          have g := ih (i + 1) _ _ _ _ _ _ u2
          rw [hn] at g
          obtain ⟨n1, n2⟩ := mj_nar0 htc q hb
          exact mj_o_put X hdec hr c2 (mj_layA _ _ hr) c3 (mj_tyA _ _ hr) (mj_nmA _ _ hr) c5 hG ht h9 n1 n2 (fun hM hz => by rw [hs, q]; exact mj_u0 hM hz) g
        · rw [hs, q] at h
          obtain ⟨z, st, rfl, u3⟩ := mj_l1_e h
          obtain ⟨a, st, rfl, t, nn, hG, ht, h9, u4⟩ := mj_a1_e u3
          have g := ih (i + 1) _ _ _ _ _ _ u4
          rw [hn] at g
          obtain ⟨n1, n2⟩ := mj_nar1 htc q (z := z)
          exact mj_o_put X hdec hr c2 (mj_layA _ _ hr) c3 (mj_tyA _ _ hr) (mj_nmA _ _ hr) c5 hG ht h9 n1 n2 (fun hM hz => by rw [hs, q]; exact mj_u1 hM) g
        · rw [hs, q] at h
          obtain ⟨z, st, rfl, u5⟩ := mj_r1_e h
          obtain ⟨a, st, rfl, t, nn, hG, ht, h9, u6⟩ := mj_a1_e u5
          have g := ih (i + 1) _ _ _ _ _ _ u6
          rw [hn] at g
          obtain ⟨n1, n2⟩ := mj_nar2 htc (by rw [q]; decide) (by rw [q]; decide) (z := z)
          exact mj_o_put X hdec hr c2 (mj_layA _ _ hr) c3 (mj_tyA _ _ hr) (mj_nmA _ _ hr) c5 hG ht h9 n1 n2 (fun hM hz => by rw [hs, q]; exact mj_u2 hM) g
      case iaload =>
        have h : mj_ald 0 st G (fun a i2 st => mj_x (fun y => (T y).2.2.2.2.2.2) C full Q n (full.drop (i + 1)) L (.inl (M.1 a i2) :: st) G M cb sb) := h
        obtain ⟨k, a, st, t, nn, rfl, hG, ht, h0, h1, u1⟩ := mj_ald_e h
        have hn := hnx.resolve_left Bool.false_ne_true
        have g := ih (i + 1) _ _ _ _ _ _ u1
        rw [hn] at g
        exact mj_o_iaload X hdec hG ht h0 h1 g
      case laload =>
        have h : mj_ald 3 st G (fun a i2 st => mj_x (fun y => (T y).2.2.2.2.2.2) C full Q n (full.drop (i + 1)) L (.inr (.inl (M.2.1 a i2)) :: st) G M cb sb) := h
        obtain ⟨k, a, st, t, nn, rfl, hG, ht, h0, h1, u1⟩ := mj_ald_e h
        have hn := hnx.resolve_left Bool.false_ne_true
        have g := ih (i + 1) _ _ _ _ _ _ u1
        rw [hn] at g
        exact mj_o_laload X hdec hG ht h0 h1 g
      case baload =>
        have h : mj_bald st G (fun a i2 st => mj_x (fun y => (T y).2.2.2.2.2.2) C full Q n (full.drop (i + 1)) L (.inl (M.1 a i2) :: st) G M cb sb) := h
        have hn := hnx.resolve_left Bool.false_ne_true
        rcases h with h | h
        · obtain ⟨k, a, st, t, nn, rfl, hG, ht, h0, h1, u1⟩ := mj_ald_e h
          have g := ih (i + 1) _ _ _ _ _ _ u1
          rw [hn] at g
          exact mj_o_baload X hdec hG ht h0 h1 g
        · obtain ⟨k, a, st, t, nn, rfl, hG, ht, h0, h1, u2⟩ := mj_ald_e h
          have g := ih (i + 1) _ _ _ _ _ _ u2
          rw [hn] at g
          exact mj_o_zaload X hdec hG ht h0 h1 g
      case aaload =>
        have h : mj_ald (mj_hd aux) st G (fun a i2 st => mj_rf (M.2.2 a i2) fun v => mj_x (fun y => (T y).2.2.2.2.2.2) C full Q n (full.drop (i + 1)) L (v :: st) G M cb sb) := h
        obtain ⟨k, a, st, t, nn, rfl, hG, ht, h0, h1, u1⟩ := mj_ald_e h
        have hn := hnx.resolve_left Bool.false_ne_true
        simp only [mj_cx, Bool.and_eq_true, decide_eq_true_eq] at hcx
        refine mj_o_aaload X hdec hG ht hcx.1.1 hcx.1.2 hcx.2 h0 h1 ⟨fun b hb => ?_, fun hb => ?_⟩
        · have g := ih (i + 1) _ _ _ _ _ _ (u1.1 b hb)
          rw [hn] at g
          exact g
        · have g := ih (i + 1) _ _ _ _ _ _ (u1.2 hb)
          rw [hn] at g
          exact g
      case iastore =>
        have h : mj_i1 st (fun z st => mj_aldw 0 st G fun a i2 st => mj_x (fun y => (T y).2.2.2.2.2.2) C full Q n (full.drop (i + 1)) L st G (mj_p0 M a i2 z) cb sb) := h
        obtain ⟨z, st, rfl, u1⟩ := mj_i1_e h
        obtain ⟨k, a, st, t, nn, rfl, hG, ht, h9, h0, h1, u2⟩ := mj_aldw_e u1
        have hn := hnx.resolve_left Bool.false_ne_true
        have g := ih (i + 1) _ _ _ _ _ _ u2
        rw [hn] at g
        exact mj_o_iastore X hdec hG ht h9 h0 h1 g
      case lastore =>
        have h : mj_l1 st (fun z st => mj_aldw 3 st G fun a i2 st => mj_x (fun y => (T y).2.2.2.2.2.2) C full Q n (full.drop (i + 1)) L st G (mj_p1 M a i2 z) cb sb) := h
        obtain ⟨z, st, rfl, u1⟩ := mj_l1_e h
        obtain ⟨k, a, st, t, nn, rfl, hG, ht, h9, h0, h1, u2⟩ := mj_aldw_e u1
        have hn := hnx.resolve_left Bool.false_ne_true
        have g := ih (i + 1) _ _ _ _ _ _ u2
        rw [hn] at g
        exact mj_o_lastore X hdec hG ht h9 h0 h1 g
      case bastore =>
        have h : mj_i1 st (fun z st => (mj_aldw 1 st G fun a i2 st => mj_x (fun y => (T y).2.2.2.2.2.2) C full Q n (full.drop (i + 1)) L st G (mj_p0 M a i2 (mj_nb z)) cb sb) ∨ ((z = 0 ∨ z = 1) ∧ mj_aldw 2 st G fun a i2 st => mj_x (fun y => (T y).2.2.2.2.2.2) C full Q n (full.drop (i + 1)) L st G (mj_p0 M a i2 z) cb sb)) := h
        obtain ⟨z, st, rfl, u1⟩ := mj_i1_e h
        have hn := hnx.resolve_left Bool.false_ne_true
        rcases u1 with h | ⟨hz, h⟩
        · obtain ⟨k, a, st, t, nn, rfl, hG, ht, h9, h0, h1, u2⟩ := mj_aldw_e h
          have g := ih (i + 1) _ _ _ _ _ _ u2
          rw [hn] at g
          exact mj_o_bastore X hdec hG ht h9 h0 h1 g
        · obtain ⟨k, a, st, t, nn, rfl, hG, ht, h9, h0, h1, u3⟩ := mj_aldw_e h
          have g := ih (i + 1) _ _ _ _ _ _ u3
          rw [hn] at g
          exact mj_o_zastore X hdec hG ht hz h9 h0 h1 g
      case arraylength =>
        have h : mj_a1 st (fun a st => ∃ t k j, G a = (t, k) ∧ t % 1000 = 100 + j ∧ j < 7 ∧ mj_in k ∧ mj_x (fun y => (T y).2.2.2.2.2.2) C full Q n (full.drop (i + 1)) L (.inl (k : Int) :: st) G M cb sb) := h
        obtain ⟨a, st, rfl, t, k, j, hG, ht, hj, hk, u1⟩ := mj_a1_e h
        have hn := hnx.resolve_left Bool.false_ne_true
        have g := ih (i + 1) _ _ _ _ _ _ u1
        rw [hn] at g
        exact mj_o_alen X hdec hG ht hj hk g
      case newarray aty =>
        have h : mj_i1 st (fun z st => 0 ≤ z ∧ z ≤ 100000 ∧ 1 ≤ cb ∧ z.toNat ≤ sb ∧ ∃ t, t % 1000 = 100 + mj_hd aux ∧ mj_new G M t z.toNat fun a G M => mj_x (fun y => (T y).2.2.2.2.2.2) C full Q n (full.drop (i + 1)) L (.inr (.inr (some a)) :: st) G M (cb - 1) (sb - z.toNat)) := h
        obtain ⟨z, st, rfl, h0, h9, h1, h2, t, ht, u1⟩ := mj_i1_e h
        have hn := hnx.resolve_left Bool.false_ne_true
        simp only [mj_cx, Bool.and_eq_true, decide_eq_true_eq] at hcx
        refine mj_o_newarray X hdec hcx.1.1 hcx.1.2 hcx.2 ht h0 h9 h1 h2 (fun a ha => ?_)
        have g := ih (i + 1) _ _ _ _ _ _ (u1 a ha)
        rw [hn] at g
        exact g
      case multianewarray k dm =>
        have h : mj_i1 st (fun z st => mj_i1 st fun y st => 0 ≤ z ∧ z ≤ 1000 ∧ 0 ≤ y ∧ y ≤ 1000 ∧ 1 + y.toNat ≤ cb ∧ y.toNat + y.toNat * z.toNat ≤ sb ∧ ∃ t t2, t % 1000 = 104 ∧ t2 % 1000 = 100 ∧ ∀ a, (∀ x, a ≤ x → G x = (0, 0)) → mj_x (fun y => (T y).2.2.2.2.2.2) C full Q n (full.drop (i + 1)) L (.inr (.inr (some a)) :: st) (mj_gg G a t y.toNat t2 z.toNat) (mj_zz M a y.toNat) (cb - (1 + y.toNat)) (sb - (y.toNat + y.toNat * z.toNat))) := h
        obtain ⟨z, st, rfl, u1⟩ := mj_i1_e h
        obtain ⟨y, st, rfl, h0, h9, y0, y9, h1, h2, t, t2, ht, ht2, u2⟩ := mj_i1_e u1
        have hn := hnx.resolve_left Bool.false_ne_true
        simp only [mj_cx, Bool.and_eq_true, decide_eq_true_eq] at hcx
        obtain ⟨rfl, hcl⟩ := hcx
        refine mj_o_mna X hdec hcl hw3 ht ht2 h0 h9 y0 y9 h1 h2 (fun a ha => ?_)
        have g := ih (i + 1) _ _ _ _ _ _ (u2 a ha)
        rw [hn] at g
        exact g
      case new k =>
        have h0 : aux ≠ [] ∧ 1 ≤ cb ∧ mj_h1 aux ≤ sb ∧ ∃ t, t % 1000 = mj_hd aux + 1 ∧ mj_new G M t 0 fun a G M => mj_x (fun y => (T y).2.2.2.2.2.2) C full Q n (full.drop (i + 1)) L (.inr (.inr (some a)) :: st) G M (cb - 1) (sb - mj_h1 aux) := h
        obtain ⟨h1, h2, t, ht, u1⟩ := h0.2
        have hcx := mj_em h0.1 hcx
        have hn := hnx.resolve_left Bool.false_ne_true
        simp only [Bool.and_eq_true, decide_eq_true_eq] at hcx
        obtain ⟨⟨⟨c1, c2⟩, c3⟩, c4⟩ := hcx
        have hr := mj_vw c1
        refine mj_o_new X hdec hr (mj_layA _ _ hr) (mj_tyA _ _ hr) (fun k hk => mj_tc_nf (mj_tcA _ _ hr k hk)) c2 c3 c4 ht h1 h2 (fun a ha => ?_)
        have g := ih (i + 1) _ _ _ _ _ _ (u1 a ha)
        rw [hn] at g
        exact g
      case invokevirtual k =>
        have h0 : aux ≠ [] ∧ mj_pop (mj_h1 aux) [] st (fun As st => mj_a1 st fun a st => mj_is G a (mj_h2 aux + 1) fun _ _ => mj_cat st ≤ 8 ∧ (T (mj_hd aux)).2.2.2.2.2.2.1 ≤ cb ∧ (T (mj_hd aux)).2.2.2.2.2.2.2 ≤ sb ∧ C (mj_hd aux) (.inr (.inr (some a)) :: As) G M fun r G M => mj_x (fun y => (T y).2.2.2.2.2.2) C full Q n (full.drop (i + 1)) L (mj_ret r st) G M (cb - (T (mj_hd aux)).2.2.2.2.2.2.1) (sb - (T (mj_hd aux)).2.2.2.2.2.2.2)) := h
        have h := h0.2
        have hcx := mj_em h0.1 hcx
        obtain ⟨As, st, rfl, hAs, u1⟩ := mj_pop_e _ _ _ _ h
        rw [List.append_nil] at u1
        obtain ⟨a, st, rfl, t, nn, hG, ht, h8, h1, h2, u2⟩ := mj_a1_e u1
        have hn := hnx.resolve_left Bool.false_ne_true
        simp only [Bool.and_eq_true, decide_eq_true_eq] at hcx
        obtain ⟨⟨c1, c2⟩, c3⟩ := hcx
        have hr := mj_vw c2
        have hm := hT (mj_hd aux)
        unfold mj_cm at hm
        rw [c1] at hm
        simp only [Bool.and_eq_true, decide_eq_true_eq] at hm
        obtain ⟨⟨⟨⟨⟨⟨⟨m1, m2⟩, m3⟩, m4⟩, m5⟩, m6⟩, m7⟩, ⟨m8, m9⟩, m10⟩ := hm
        have hcl : (T (mj_hd aux)).1.cls = (vwCl.getD (mj_h2 aux) (RX0, TX0, 0)).1 := m8
        refine mj_o_callV (d := d) X hdec (hC _ _ _ _ _ u2) ⟨hR.1, by have := hR.2; omega⟩ hr hcl ⟨m3, m4, m5⟩ hAs c3 m9 (by rw [← hcl]; exact m10) (by rw [← hcl]; exact m2) m1 hG ht h8 h1 h2 (fun r G M hq => ?_)
        have g := ih (i + 1) _ _ _ _ _ _ hq
        rw [hn] at g
        exact g
      case invokestatic k =>
        cases aux with
        | nil => exact absurd rfl (show ([] : List Nat) ≠ [] from (show ([] : List Nat) ≠ [] ∧ _ from h).1)

        | cons y0 aux =>
          cases aux with
          | cons y1 aux =>
            have h0 : (y0 :: y1 :: aux) ≠ [] ∧ mj_pop (mj_h1 (y0 :: y1 :: aux)) [] st (fun As st => mj_cat st ≤ 8 ∧ (T (mj_hd (y0 :: y1 :: aux))).2.2.2.2.2.2.1 ≤ cb ∧ (T (mj_hd (y0 :: y1 :: aux))).2.2.2.2.2.2.2 ≤ sb ∧ C (mj_hd (y0 :: y1 :: aux)) As G M fun r G M => mj_x (fun y => (T y).2.2.2.2.2.2) C full Q n (full.drop (i + 1)) L (mj_ret r st) G M (cb - (T (mj_hd (y0 :: y1 :: aux))).2.2.2.2.2.2.1) (sb - (T (mj_hd (y0 :: y1 :: aux))).2.2.2.2.2.2.2)) := h
            have h := h0.2
            obtain ⟨As, st, rfl, hAs, u1⟩ := mj_pop_e _ _ _ _ h
            rw [List.append_nil] at u1
            obtain ⟨h8, h1, h2, u2⟩ := u1
            have hn := hnx.resolve_left Bool.false_ne_true
            simp only [mj_cx, Bool.and_eq_true, decide_eq_true_eq] at hcx
            obtain ⟨⟨c1, c2⟩, c3⟩ := hcx
            have hm := hT (mj_hd (y0 :: y1 :: aux))
            unfold mj_cm at hm
            rw [c1, c2] at hm
            simp only [Bool.and_eq_true, decide_eq_true_eq] at hm
            obtain ⟨⟨⟨⟨⟨⟨⟨m1, m2⟩, m3⟩, m4⟩, m5⟩, m6⟩, m7⟩, m8⟩ := hm
            refine mj_o_callS (d := d) X hdec (hC _ _ _ _ _ u2) ⟨hR.1, by have := hR.2; omega⟩ ⟨m3, m4, m5⟩ hAs c3 m8 m2 m1 h8 h1 h2 (fun r G M hq => ?_)
            have g := ih (i + 1) _ _ _ _ _ _ hq
            rw [hn] at g
            exact g
          | nil =>
            have hn := hnx.resolve_left Bool.false_ne_true
            match y0, h, hcx with
            | 0, h, hcx =>
              have h : mj_i1 st fun y st => mj_i1 st fun x st => mj_cat st ≤ 8 ∧ ∀ z, (x < y → z = y) → (¬ x < y → z = x) → mj_x (fun y => (T y).2.2.2.2.2.2) C full Q n (full.drop (i + 1)) L (.inl z :: st) G M cb sb := h
              obtain ⟨y, st, rfl, u1⟩ := mj_i1_e h
              obtain ⟨x, st, rfl, h8, u2⟩ := mj_i1_e u1
              refine mj_o_max X hdec (of_decide_eq_true hcx) hlw.1.1 hlw.2.2.2.1 hlw.1.2 h8 (fun z z1 z2 => ?_)
              have g := ih (i + 1) _ _ _ _ _ _ (u2 z z1 z2)
              rw [hn] at g
              exact g
            | 1, h, hcx =>
              have h : mj_i1 st fun y st => mj_i1 st fun x st => mj_cat st ≤ 8 ∧ ∀ z, (y < x → z = y) → (¬ y < x → z = x) → mj_x (fun y => (T y).2.2.2.2.2.2) C full Q n (full.drop (i + 1)) L (.inl z :: st) G M cb sb := h
              obtain ⟨y, st, rfl, u1⟩ := mj_i1_e h
              obtain ⟨x, st, rfl, h8, u2⟩ := mj_i1_e u1
              refine mj_o_min X hdec (of_decide_eq_true hcx) hlw.2.1.1 hlw.2.2.2.1 hlw.2.1.2 h8 (fun z z1 z2 => ?_)
              have g := ih (i + 1) _ _ _ _ _ _ (u2 z z1 z2)
              rw [hn] at g
              exact g
            | 2, h, hcx =>
              have h : mj_i1 st fun x st => mj_cat st ≤ 8 ∧ ∀ z, mj_in z → (0 ≤ x → z = x) → (x < 0 → x ≠ -2147483648 → z = -x) → mj_x (fun y => (T y).2.2.2.2.2.2) C full Q n (full.drop (i + 1)) L (.inl z :: st) G M cb sb := h
              obtain ⟨x, st, rfl, h8, u2⟩ := mj_i1_e h
              refine mj_o_abs X hdec (of_decide_eq_true hcx) hlw.2.2.1.1 hlw.2.2.2.1 hlw.2.2.1.2 h8 (fun z z0 z1 z2 => ?_)
              have g := ih (i + 1) _ _ _ _ _ _ (u2 z z0 z1 z2)
              rw [hn] at g
              exact g
            | 3, h, hcx =>
              have h : mj_cpy 0 st G (fun a b sp dp n2 st => mj_x (fun y => (T y).2.2.2.2.2.2) C full Q n (full.drop (i + 1)) L st G (mj_cp0 M a b sp dp n2) cb sb) := h
              obtain ⟨nn, st, rfl, u1⟩ := mj_i1_e h
              obtain ⟨dp, st, rfl, u2⟩ := mj_i1_e u1
              obtain ⟨b, st, rfl, u3⟩ := mj_a1_e u2
              obtain ⟨sp, st, rfl, u4⟩ := mj_i1_e u3
              obtain ⟨a, st, rfl, ta, na, hGa, hta, tb, nb, hGb, htb, h9, h1, h2, h3, h4, h5, h8, u5⟩ := mj_a1_e u4
              have g := ih (i + 1) _ _ _ _ _ _ u5
              rw [hn] at g
              exact mj_o_copy0 X hdec (of_decide_eq_true hcx) hlw.2.2.2.2.1 hlw.2.2.2.2.2.1 hlw.2.2.2.2.2.2 h8 hGa hta hGb htb h9 h1 h2 h3 h4 h5 g
            | 4, h, hcx =>
              have h : mj_cpy 3 st G (fun a b sp dp n2 st => mj_x (fun y => (T y).2.2.2.2.2.2) C full Q n (full.drop (i + 1)) L st G (mj_cp1 M a b sp dp n2) cb sb) := h
              obtain ⟨nn, st, rfl, u1⟩ := mj_i1_e h
              obtain ⟨dp, st, rfl, u2⟩ := mj_i1_e u1
              obtain ⟨b, st, rfl, u3⟩ := mj_a1_e u2
              obtain ⟨sp, st, rfl, u4⟩ := mj_i1_e u3
              obtain ⟨a, st, rfl, ta, na, hGa, hta, tb, nb, hGb, htb, h9, h1, h2, h3, h4, h5, h8, u5⟩ := mj_a1_e u4
              have g := ih (i + 1) _ _ _ _ _ _ u5
              rw [hn] at g
              exact mj_o_copy1 X hdec (of_decide_eq_true hcx) hlw.2.2.2.2.1 hlw.2.2.2.2.2.1 hlw.2.2.2.2.2.2 h8 hGa hta hGb htb h9 h1 h2 h3 h4 h5 g
            | f + 5, h, hcx => exact False.elim h
      case anewarray k =>
        have h : mj_i1 st (fun z st => 0 ≤ z ∧ z ≤ 100000 ∧ 1 ≤ cb ∧ z.toNat ≤ sb ∧ ∃ t, t % 1000 = 100 + mj_hd aux ∧ mj_new G M t z.toNat fun a G M => mj_x (fun y => (T y).2.2.2.2.2.2) C full Q n (full.drop (i + 1)) L (.inr (.inr (some a)) :: st) G M (cb - 1) (sb - z.toNat)) := h
        obtain ⟨z, st, rfl, h0, h9, h1, h2, t, ht, u1⟩ := mj_i1_e h
        have hn := hnx.resolve_left Bool.false_ne_true
        simp only [mj_cx, Bool.and_eq_true, decide_eq_true_eq] at hcx
        refine mj_o_anew X hdec hcx.1 hcx.2 ht h0 h9 h1 h2 (fun a ha => ?_)
        have g := ih (i + 1) _ _ _ _ _ _ (u1 a ha)
        rw [hn] at g
        exact g
      case aastore =>
        have h : mj_r1 st (fun z st => mj_aldw (mj_hd aux) st G fun a i2 st => (∀ b, z = some b → mj_hd aux = 6 ∧ mj_is G b 7 fun _ _ => True) ∧ mj_x (fun y => (T y).2.2.2.2.2.2) C full Q n (full.drop (i + 1)) L st G (mj_p2 M a i2 z) cb sb) := h
        obtain ⟨z, st, rfl, u1⟩ := mj_r1_e h
        obtain ⟨k, a, st, t, nn, rfl, hG, ht, h9, h0, h1, hb, u2⟩ := mj_aldw_e u1
        have hn := hnx.resolve_left Bool.false_ne_true
        have g := ih (i + 1) _ _ _ _ _ _ u2
        rw [hn] at g
        exact mj_o_aastore X hdec (of_decide_eq_true hcx) hG ht h9 h0 h1 (fun b q => ⟨(hb b q).1, by obtain ⟨t', n', w1, w2, -⟩ := (hb b q).2; exact ⟨t', n', w1, w2⟩⟩) g
      case tableswitch df lo hi offs =>
        have h : mj_i1 st (fun z st => (z < lo ∨ hi < z → mj_x (fun y => (T y).2.2.2.2.2.2) C full Q n (full.drop (mj_hd aux)) L st G M cb sb) ∧ mj_sw z (fun t => mj_x (fun y => (T y).2.2.2.2.2.2) C full Q n (full.drop t) L st G M cb sb) lo (aux.drop 1)) := h
        obtain ⟨z, st, rfl, h1, h2⟩ := mj_i1_e h
        simp only [mj_cx, Bool.and_eq_true, decide_eq_true_eq] at hcx
        obtain ⟨⟨c1, c2⟩, c3⟩ := hcx
        refine mj_o_switch X (pcs := mj_pc full) hdec c1 c2 (fun k t hk => ?_) (fun q => ih (mj_hd aux) _ _ _ _ _ _ (h1 q)) (fun k t hk hz => ih t _ _ _ _ _ _ (mj_sw_e _ _ h2 k t hk hz))
        obtain ⟨o, o1, o2⟩ := mj_ct_at _ _ c3 k t hk
        exact ⟨o, by rw [← Array.getElem?_toList]; exact o1, o2⟩
      case invokespecial k =>
        cases aux with
        | nil =>
          have h : mj_a1 st (fun _ st => mj_cat st ≤ 8 ∧ mj_x (fun y => (T y).2.2.2.2.2.2) C full Q n (full.drop (i + 1)) L st G M cb sb) := h
          obtain ⟨a, st, rfl, h8, u1⟩ := mj_a1_e h
          have hn := hnx.resolve_left Bool.false_ne_true
          have g := ih (i + 1) _ _ _ _ _ _ u1
          rw [hn] at g
          exact mj_o_objInit X hdec (of_decide_eq_true hcx) ho2 ho3 h8 g
        | cons y aux =>
          have h : mj_pop (mj_h1 (y :: aux)) [] st (fun As st => mj_a1 st fun a st => mj_is G a (mj_h2 (y :: aux) + 1) fun _ _ => mj_cat st ≤ 8 ∧ (T y).2.2.2.2.2.2.1 ≤ cb ∧ (T y).2.2.2.2.2.2.2 ≤ sb ∧ C y (.inr (.inr (some a)) :: As) G M fun r G M => mj_x (fun y => (T y).2.2.2.2.2.2) C full Q n (full.drop (i + 1)) L (mj_ret r st) G M (cb - (T y).2.2.2.2.2.2.1) (sb - (T y).2.2.2.2.2.2.2)) := h
          obtain ⟨As, st, rfl, hAs, u2⟩ := mj_pop_e _ _ _ _ h
          rw [List.append_nil] at u2
          obtain ⟨a, st, rfl, t, nn, hG, ht, h8, h1, h2, u3⟩ := mj_a1_e u2
          have hn := hnx.resolve_left Bool.false_ne_true
          simp only [mj_cx, Bool.and_eq_true, decide_eq_true_eq] at hcx
          obtain ⟨c1, c3⟩ := hcx
          have hm := hT y
          unfold mj_cm at hm
          rw [c1] at hm
          simp only [Bool.and_eq_true, decide_eq_true_eq] at hm
          obtain ⟨⟨⟨⟨⟨⟨⟨m1, m2⟩, m3⟩, m4⟩, m5⟩, m6⟩, m7⟩, ⟨⟨m8, m9⟩, m10⟩, m11⟩ := hm
          have hq0 := hC _ _ _ _ _ u3
          unfold mj_Mt at hq0
          rw [m11] at hq0 m1
          refine mj_o_callI (d := d) X hdec hq0 ⟨hR.1, by have := hR.2; omega⟩ m10 ⟨m3, m4, m5⟩ hAs c3 m9 m2 m1 h8 h1 h2 (fun r G M hq => ?_)
          have g := ih (i + 1) _ _ _ _ _ _ hq
          rw [hn] at g
          exact g
      case ireturn =>
        have h : mj_i1 st (fun z st => st = [] ∧ (imm = 1 → z = 0 ∨ z = 1) ∧ Q (some (.inl z)) G M) := h
        obtain ⟨z, st, rfl, rfl, h1, h2⟩ := mj_i1_e h
        have hc2 := of_decide_eq_true hcx
        exact mj_o_ireturn X hdec (hc2.imp (fun q => q.2) (fun q => ⟨q.2, h1 q.1⟩)) h2
      case return_ =>
        have h : st = [] ∧ Q none G M := h
        obtain ⟨rfl, h2⟩ := h
        exact mj_o_return X hdec (of_decide_eq_true hcx) h2
      all_goals exact h.elim
end MJS
end
section
/-! ===== a run of the small machine gives the method's contract ===== -/
theorem mj_w_lib : (Cond.static Lib.Math.max.name ∈ mj_tb ∧ Cond.code Lib.Math.max.name Lib.Math.max.code 2 (some .int) ∈ mj_tb) ∧ (Cond.static Lib.Math.min.name ∈ mj_tb ∧ Cond.code Lib.Math.min.name Lib.Math.min.code 2 (some .int) ∈ mj_tb) ∧ (Cond.static Lib.Math.abs.name ∈ mj_tb ∧ Cond.code Lib.Math.abs.name Lib.Math.abs.code 1 (some .int) ∈ mj_tb) ∧ Cond.initialized "java/lang/Math" ∈ mj_tb ∧ Cond.native arraycopyName ∈ mj_tb ∧ Cond.static arraycopyName ∈ mj_tb ∧ Cond.initialized "java/lang/System" ∈ mj_tb := by decide +kernel
theorem mj_w_arr : Cond.arrayClass .int ∈ mj_tb := by decide +kernel
theorem mj_w_oi : Cond.instanceMethod objectInit ∈ mj_tb := by decide +kernel
theorem mj_w_oc : Cond.code objectInit ⟨#[0xb1]⟩ 1 none ∈ mj_tb := by decide +kernel
theorem mj_cm_of {T : Nat → mj_T} {q : mj_T} (h : mj_ok1 T q = true) : mj_cm q = true := by
  unfold mj_ok1 at h
  rw [Bool.and_eq_true, Bool.and_eq_true] at h
  exact h.1.1
theorem mj_cm_pn {q : mj_T} (h : mj_cm q = true) : plainName q.1.cls = true ∧ q.2.2.1 ≤ 80 := by
  unfold mj_cm at h
  simp only [Bool.and_eq_true, decide_eq_true_eq] at h
  obtain ⟨⟨⟨⟨⟨⟨⟨m1, m2⟩, m3⟩, m4⟩, m5⟩, m6⟩, m7⟩, -⟩ := h
  exact ⟨m6, m7⟩
theorem mj_met {l : Launch} {D : va_G} {dA : Nat → ClassId} {B : Nat} {T : Nat → mj_T} (hT : ∀ y, mj_ok1 T (T y) = true) : ∀ (d y : Nat) (av : List mj_V) (G : mj_G) (M : mj_M) (Q : mj_P), mj_R T d y av G M Q → mj_Mt l D dA B (T y) d av G M Q
  | 0, _, _, _, _, _, h => h.elim
  | d + 1, y, av, G, M, Q, h => by
    obtain ⟨hwd, n, hrun⟩ := h
    have hq := hT y
    have hcm := mj_cm_of hq
    obtain ⟨hpn, h80⟩ := mj_cm_pn hcm
    unfold mj_ok1 at hq
    rw [Bool.and_eq_true, Bool.and_eq_true] at hq
    obtain ⟨⟨-, hca⟩, hp0⟩ := hq
    have hp0 := of_decide_eq_true hp0
    unfold mj_Mt
    refine Met.ofW (cc := (T y).2.1) (maxL := (T y).2.2.1) (ret := (T y).2.2.2.1) hpn rfl ?_
    intro p e s m args below meth c s₁ Bd hml hv
    obtain ⟨rfl, hH, hK, hok, hB⟩ := hv
    have hts := atoms_spec (ws := Cond.code (T y).1 (T y).2.1 (T y).2.2.1 (T y).2.2.2.1 :: mj_tb) Bd.pre
    have X : mj_X p l e (mj_rm (d + 1) (T y).2.2.2.2.2.2) s m (av.map mj_val).toArray below meth c (T y).1.cls (T y).2.1 (T y).2.2.2.1 D dA B (T y).2.2.1 (T y).2.2.2.2.2.2.1 (T y).2.2.2.2.2.2.2 Q :=
      ⟨⟨Bd.exec, Bd.bytes, hml, Bd.returns, findClass_of_methodNamed Bd.named⟩, fun w hw => hts w (List.mem_cons_of_mem _ hw), Bd.notSynchronized, hK, hB, ⟨by show 1 ≤ d + 1; omega, by show 100 ≤ 100 * (d + 1) + 100; omega, Nat.le_refl _, Nat.le_refl _⟩⟩
    have hini : decide ((T y).1.name = "<init>") = true → meth.name = "<init>" := fun q => by
      rw [(name_of_methodNamed Bd.named Bd.method).1]
      exact of_decide_eq_true q
    have g := mj_snd X (T := T) (C := mj_R T d) (full := (T y).2.2.2.2.1) (ini := decide ((T y).1.name = "<init>")) (d := d) hini ⟨Nat.le_refl _, Nat.le_refl _⟩ mj_w_arr mj_w_oi mj_w_oc mj_w_lib (fun y => mj_cm_of (hT y)) (fun y av G M Q h => mj_met hT d y av G M Q h)
      (fun i x hx => by have := mj_ca_at _ 0 i x hca hx; rw [Nat.zero_add] at this; exact this) n 0 (mj_en av (T y).2.2.1) [] G M (T y).2.2.2.2.2.2.1 (T y).2.2.2.2.2.2.2 hrun
    rw [hp0] at g
    rw [lg_entry_eq]
    have hl := lv_entry (av.map mj_val) (n := (T y).2.2.1) (by rw [mj_wd_eq]; exact hwd)
    exact g s.heap [] _ 0 0 hH va_S.rf ⟨by rw [mj_en_asc]; exact hl, mj_en_len av _ hwd, fun j v hj => mj_en_ok av _ j v hok hj⟩ (fun v hv => by cases hv) (by omega) (by omega)
end
section
/-! ===== the methods' lists, laid by a program ===== -/
set_option maxRecDepth 100000 in
def mt_X0_canBe : mj_T := (yX0_canBe, cX0_canBe, 4, (some .boolean), [(.iconst 0, 0, [], 0), (.istore_n 2, 1, [], 0), (.iconst 0, 2, [], 0), (.istore_n 3, 3, [], 0), (.iload_n 3, 4, [], 0), (.aload_n 0, 5, [], 0), (.getfield 29, 6, [0, 5], 0), (.if_icmp .ge 41, 9, [32], 0), (.aload_n 0, 12, [], 0), (.getfield 38, 13, [0, 8], 0), (.iload_n 3, 16, [], 0), (.iaload, 17, [], 0), (.aload_n 0, 18, [], 0), (.getfield 46, 19, [0, 10], 0), (.iload_n 3, 22, [], 0), (.aaload, 23, [4], 0), (.iload_n 1, 24, [], 0), (.iaload, 25, [], 0), (.if_icmp .le 5, 26, [21], 0), (.iconst 0, 29, [], 0), (.ireturn, 30, [], 1), (.iload_n 2, 31, [], 0), (.iconst 0, 32, [], 0), (.aload_n 0, 33, [], 0), (.getfield 38, 34, [0, 8], 0), (.iload_n 3, 37, [], 0), (.iaload, 38, [], 0), (.invokestatic 108, 39, [0], 0), (.iadd, 42, [], 0), (.istore_n 2, 43, [], 0), (.iinc 3 1, 44, [], 0), (.goto (-43), 47, [4], 0), (.iload_n 2, 50, [], 0), (.aload_n 0, 51, [], 0), (.getfield 49, 52, [0, 11], 0), (.iload_n 1, 55, [], 0), (.iaload, 56, [], 0), (.if_icmp .gt 7, 57, [40], 0), (.iconst 1, 60, [], 0), (.goto 4, 61, [41], 0), (.iconst 0, 64, [], 0), (.ireturn, 65, [], 1)], (0, 0, 1), (0, 0))
set_option maxRecDepth 100000 in
def mt_X0_costOf : mj_T := (yX0_costOf, cX0_costOf, 3, (some .int), [(.iload_n 1, 0, [], 0), (.iload_n 2, 1, [], 0), (.if_icmp .ne 7, 2, [5], 0), (.iconst 0, 5, [], 0), (.goto 21, 6, [17], 0), (.aload_n 0, 9, [], 0), (.getfield 32, 10, [0, 6], 0), (.iload_n 1, 13, [], 0), (.iload_n 2, 14, [], 0), (.isub, 15, [], 0), (.invokestatic 140, 16, [2], 0), (.imul, 19, [], 0), (.aload_n 0, 20, [], 0), (.getfield 35, 21, [0, 7], 0), (.iload_n 2, 24, [], 0), (.iaload, 25, [], 0), (.iadd, 26, [], 0), (.ireturn, 27, [], 0)], (0, 0, 2), (0, 0))
set_option maxRecDepth 100000 in
def mt_X0_firstForNothing : mj_T := (yX0_firstForNothing, cX0_firstForNothing, 3, (some .int), [(.iconst 0, 0, [], 0), (.istore_n 2, 1, [], 0), (.iload_n 2, 2, [], 0), (.aload_n 0, 3, [], 0), (.getfield 29, 4, [0, 5], 0), (.if_icmp .ge 20, 7, [15], 0), (.aload_n 0, 10, [], 0), (.iload_n 1, 11, [], 0), (.iload_n 2, 12, [], 0), (.invokevirtual 115, 13, [1, 2, 0], 0), (.ifCond .ne 5, 16, [13], 0), (.iload_n 2, 19, [], 0), (.ireturn, 20, [], 0), (.iinc 2 1, 21, [], 0), (.goto (-22), 24, [2], 0), (.iload_n 1, 27, [], 0), (.ireturn, 28, [], 0)], (0, 0, 1), (0, 0))
set_option maxRecDepth 100000 in
def mt_X0_init : mj_T := (yX0_init, cX0_init, 1, none, [(.aload_n 0, 0, [], 0), (.invokespecial 3, 1, [], 0), (.aload_n 0, 4, [], 0), (.bipush 12, 5, [], 0), (.newarray .int, 7, [0], 0), (.putfield 9, 9, [0, 0], 0), (.aload_n 0, 12, [], 0), (.iconst 0, 13, [], 0), (.putfield 15, 14, [0, 1], 0), (.aload_n 0, 17, [], 0), (.iconst 0, 18, [], 0), (.putfield 19, 19, [0, 2], 0), (.aload_n 0, 22, [], 0), (.iconst (-1), 23, [], 0), (.putfield 23, 24, [0, 3], 0), (.aload_n 0, 27, [], 0), (.iconst (-1), 28, [], 0), (.putfield 26, 29, [0, 4], 0), (.aload_n 0, 32, [], 0), (.iconst 0, 33, [], 0), (.putfield 29, 34, [0, 5], 0), (.aload_n 0, 37, [], 0), (.iconst 0, 38, [], 0), (.putfield 32, 39, [0, 6], 0), (.aload_n 0, 42, [], 0), (.iconst 3, 43, [], 0), (.newarray .int, 44, [0], 0), (.putfield 35, 46, [0, 7], 0), (.aload_n 0, 49, [], 0), (.iconst 3, 50, [], 0), (.newarray .int, 51, [0], 0), (.putfield 38, 53, [0, 8], 0), (.aload_n 0, 56, [], 0), (.iconst 3, 57, [], 0), (.bipush 12, 58, [], 0), (.multianewarray 41 2, 60, [], 0), (.putfield 43, 64, [0, 9], 0), (.aload_n 0, 67, [], 0), (.iconst 3, 68, [], 0), (.bipush 13, 69, [], 0), (.multianewarray 41 2, 71, [], 0), (.putfield 46, 75, [0, 10], 0), (.aload_n 0, 78, [], 0), (.bipush 13, 79, [], 0), (.newarray .int, 81, [0], 0), (.putfield 49, 83, [0, 11], 0), (.aload_n 0, 86, [], 0), (.iconst 3, 87, [], 0), (.bipush 81, 88, [], 0), (.multianewarray 41 2, 90, [], 0), (.putfield 52, 94, [0, 12], 0), (.aload_n 0, 97, [], 0), (.bipush 81, 98, [], 0), (.newarray .int, 100, [0], 0), (.putfield 55, 102, [0, 13], 0), (.aload_n 0, 105, [], 0), (.bipush 81, 106, [], 0), (.newarray .int, 108, [0], 0), (.putfield 58, 110, [0, 14], 0), (.aload_n 0, 113, [], 0), (.iconst 0, 114, [], 0), (.putfield 61, 115, [0, 15], 0), (.aload_n 0, 118, [], 0), (.bipush 12, 119, [], 0), (.newarray .int, 121, [0], 0), (.putfield 64, 123, [0, 16], 0), (.aload_n 0, 126, [], 0), (.bipush 12, 127, [], 0), (.newarray .int, 129, [0], 0), (.putfield 67, 131, [0, 17], 0), (.aload_n 0, 134, [], 0), (.iconst 0, 135, [], 0), (.putfield 70, 136, [0, 18], 0), (.return_, 139, [], 0)], (2, 0, 0), (20, 544))
set_option maxRecDepth 100000 in
def mt_X0_keepPath : mj_T := (yX0_keepPath, cX0_keepPath, 4, none, [(.aload_n 0, 0, [], 0), (.iload_n 2, 1, [], 0), (.putfield 70, 2, [0, 18], 0), (.iconst 0, 5, [], 0), (.istore_n 3, 6, [], 0), (.iload_n 3, 7, [], 0), (.iload_n 1, 8, [], 0), (.if_icmp .ge 27, 9, [21], 0), (.iload_n 3, 12, [], 0), (.bipush 12, 13, [], 0), (.if_icmp .ge 21, 15, [21], 0), (.aload_n 0, 18, [], 0), (.getfield 67, 19, [0, 17], 0), (.iload_n 3, 22, [], 0), (.aload_n 0, 23, [], 0), (.getfield 64, 24, [0, 16], 0), (.iload_n 3, 27, [], 0), (.iaload, 28, [], 0), (.iastore, 29, [], 0), (.iinc 3 1, 30, [], 0), (.goto (-26), 33, [5], 0), (.return_, 36, [], 0)], (0, 0, 2), (0, 0))
set_option maxRecDepth 100000 in
def mt_X0_keepTail : mj_T := (yX0_keepTail, cX0_keepTail, 4, none, [(.iload_n 1, 0, [], 0), (.istore_n 2, 1, [], 0), (.bipush 11, 2, [], 0), (.istore_n 3, 4, [], 0), (.iload_n 3, 5, [], 0), (.bipush 8, 6, [], 0), (.if_icmp .lt 35, 8, [25], 0), (.aload_n 0, 11, [], 0), (.getfield 29, 12, [0, 5], 0), (.ifCond .le 28, 15, [25], 0), (.aload_n 0, 18, [], 0), (.getfield 67, 19, [0, 17], 0), (.iload_n 3, 22, [], 0), (.iload_n 2, 23, [], 0), (.aload_n 0, 24, [], 0), (.getfield 29, 25, [0, 5], 0), (.irem, 28, [], 0), (.iastore, 29, [], 0), (.iload_n 2, 30, [], 0), (.aload_n 0, 31, [], 0), (.getfield 29, 32, [0, 5], 0), (.idiv, 35, [], 0), (.istore_n 2, 36, [], 0), (.iinc 3 (-1), 37, [], 0), (.goto (-35), 40, [4], 0), (.return_, 43, [], 0)], (0, 0, 1), (0, 0))
set_option maxRecDepth 100000 in
def mt_X0_lacksAny : mj_T := (yX0_lacksAny, cX0_lacksAny, 2, (some .boolean), [(.iconst 0, 0, [], 0), (.istore_n 1, 1, [], 0), (.iload_n 1, 2, [], 0), (.aload_n 0, 3, [], 0), (.getfield 29, 4, [0, 5], 0), (.if_icmp .ge 20, 7, [15], 0), (.aload_n 0, 10, [], 0), (.getfield 38, 11, [0, 8], 0), (.iload_n 1, 14, [], 0), (.iaload, 15, [], 0), (.ifCond .le 5, 16, [13], 0), (.iconst 1, 19, [], 0), (.ireturn, 20, [], 1), (.iinc 1 1, 21, [], 0), (.goto (-22), 24, [2], 0), (.iconst 0, 27, [], 0), (.ireturn, 28, [], 1)], (0, 0, 0), (0, 0))
set_option maxRecDepth 100000 in
def mt_X0_leastToCome : mj_T := (yX0_leastToCome, cX0_leastToCome, 6, (some .int), [(.iconst 0, 0, [], 0), (.istore_n 2, 1, [], 0), (.iconst 0, 2, [], 0), (.istore_n 3, 3, [], 0), (.iconst 0, 4, [], 0), (.istore 4, 5, [], 0), (.iconst 0, 7, [], 0), (.istore 5, 8, [], 0), (.iload 5, 10, [], 0), (.aload_n 0, 12, [], 0), (.getfield 29, 13, [0, 5], 0), (.if_icmp .ge 55, 16, [41], 0), (.aload_n 0, 19, [], 0), (.getfield 38, 20, [0, 8], 0), (.iload 5, 23, [], 0), (.iaload, 25, [], 0), (.ifCond .le 39, 26, [39], 0), (.iload 5, 29, [], 0), (.iload_n 1, 31, [], 0), (.if_icmp .eq 33, 32, [39], 0), (.iload 4, 35, [], 0), (.aload_n 0, 37, [], 0), (.getfield 35, 38, [0, 7], 0), (.iload 5, 41, [], 0), (.iaload, 43, [], 0), (.iadd, 44, [], 0), (.istore 4, 45, [], 0), (.iload_n 2, 47, [], 0), (.iload_n 1, 48, [], 0), (.iload 5, 49, [], 0), (.isub, 51, [], 0), (.invokestatic 108, 52, [0], 0), (.istore_n 2, 55, [], 0), (.iload_n 3, 56, [], 0), (.iload 5, 57, [], 0), (.iload_n 1, 59, [], 0), (.isub, 60, [], 0), (.invokestatic 108, 61, [0], 0), (.istore_n 3, 64, [], 0), (.iinc 5 1, 65, [], 0), (.goto (-58), 68, [8], 0), (.iload 4, 71, [], 0), (.aload_n 0, 73, [], 0), (.getfield 32, 74, [0, 6], 0), (.iload_n 2, 77, [], 0), (.iload_n 3, 78, [], 0), (.iadd, 79, [], 0), (.iload_n 2, 80, [], 0), (.iload_n 3, 81, [], 0), (.invokestatic 95, 82, [1], 0), (.iadd, 85, [], 0), (.imul, 86, [], 0), (.iadd, 87, [], 0), (.ireturn, 88, [], 0)], (0, 0, 1), (0, 0))
set_option maxRecDepth 100000 in
def mt_X0_listTails : mj_T := (yX0_listTails, cX0_listTails, 4, none, [(.aload_n 0, 0, [], 0), (.iconst 1, 1, [], 0), (.putfield 61, 2, [0, 15], 0), (.aload_n 0, 5, [], 0), (.getfield 55, 6, [0, 13], 0), (.iconst 0, 9, [], 0), (.iconst 0, 10, [], 0), (.iastore, 11, [], 0), (.iconst 0, 12, [], 0), (.istore_n 1, 13, [], 0), (.iload_n 1, 14, [], 0), (.iconst 3, 15, [], 0), (.if_icmp .ge 18, 16, [22], 0), (.aload_n 0, 19, [], 0), (.getfield 52, 20, [0, 12], 0), (.iload_n 1, 23, [], 0), (.aaload, 24, [4], 0), (.iconst 0, 25, [], 0), (.iconst 0, 26, [], 0), (.iastore, 27, [], 0), (.iinc 1 1, 28, [], 0), (.goto (-17), 31, [10], 0), (.bipush 11, 34, [], 0), (.istore_n 1, 36, [], 0), (.iload_n 1, 37, [], 0), (.bipush 8, 38, [], 0), (.if_icmp .lt 70, 40, [64], 0), (.aload_n 0, 43, [], 0), (.getfield 29, 44, [0, 5], 0), (.iconst 1, 47, [], 0), (.isub, 48, [], 0), (.istore_n 2, 49, [], 0), (.iload_n 2, 50, [], 0), (.ifCond .lt 40, 51, [55], 0), (.iconst 0, 54, [], 0), (.istore_n 3, 55, [], 0), (.iload_n 3, 56, [], 0), (.aload_n 0, 57, [], 0), (.getfield 61, 58, [0, 15], 0), (.if_icmp .ge 24, 61, [53], 0), (.aload_n 0, 64, [], 0), (.iload_n 1, 65, [], 0), (.iload_n 2, 66, [], 0), (.iload_n 3, 67, [], 0), (.iload_n 2, 68, [], 0), (.aload_n 0, 69, [], 0), (.getfield 61, 70, [0, 15], 0), (.imul, 73, [], 0), (.iload_n 3, 74, [], 0), (.iadd, 75, [], 0), (.invokevirtual 111, 76, [11, 4, 0], 0), (.iinc 3 1, 79, [], 0), (.goto (-26), 82, [36], 0), (.iinc 2 (-1), 85, [], 0), (.goto (-38), 88, [32], 0), (.aload_n 0, 91, [], 0), (.dup, 92, [], 0), (.getfield 61, 93, [0, 15], 0), (.aload_n 0, 96, [], 0), (.getfield 29, 97, [0, 5], 0), (.imul, 100, [], 0), (.putfield 61, 101, [0, 15], 0), (.iinc 1 (-1), 104, [], 0), (.goto (-70), 107, [24], 0), (.return_, 110, [], 0)], (0, 0, 0), (0, 0))
set_option maxRecDepth 100000 in
def mt_X0_meetsNeeds : mj_T := (yX0_meetsNeeds, cX0_meetsNeeds, 3, (some .boolean), [(.iconst 0, 0, [], 0), (.istore_n 2, 1, [], 0), (.iload_n 2, 2, [], 0), (.aload_n 0, 3, [], 0), (.getfield 29, 4, [0, 5], 0), (.if_icmp .ge 28, 7, [21], 0), (.aload_n 0, 10, [], 0), (.getfield 52, 11, [0, 12], 0), (.iload_n 2, 14, [], 0), (.aaload, 15, [4], 0), (.iload_n 1, 16, [], 0), (.iaload, 17, [], 0), (.aload_n 0, 18, [], 0), (.getfield 38, 19, [0, 8], 0), (.iload_n 2, 22, [], 0), (.iaload, 23, [], 0), (.if_icmp .ge 5, 24, [19], 0), (.iconst 0, 27, [], 0), (.ireturn, 28, [], 1), (.iinc 2 1, 29, [], 0), (.goto (-30), 32, [2], 0), (.iconst 1, 35, [], 0), (.ireturn, 36, [], 1)], (0, 0, 1), (0, 0))
set_option maxRecDepth 100000 in
def mt_X0_prepare : mj_T := (yX0_prepare, cX0_prepare, 5, none, [(.aload_n 0, 0, [], 0), (.aload_n 1, 1, [], 0), (.getfield 94, 2, [3, 4], 0), (.iconst 3, 5, [], 0), (.invokestatic 95, 6, [1], 0), (.putfield 29, 9, [0, 5], 0), (.aload_n 0, 12, [], 0), (.aload_n 1, 13, [], 0), (.getfield 101, 14, [3, 6], 0), (.putfield 32, 17, [0, 6], 0), (.aload_n 0, 20, [], 0), (.getfield 49, 21, [0, 11], 0), (.bipush 12, 24, [], 0), (.iconst 0, 26, [], 0), (.iastore, 27, [], 0), (.iconst 0, 28, [], 0), (.istore_n 2, 29, [], 0), (.iload_n 2, 30, [], 0), (.aload_n 0, 31, [], 0), (.getfield 29, 32, [0, 5], 0), (.if_icmp .ge 48, 35, [50], 0), (.aload_n 0, 38, [], 0), (.getfield 35, 39, [0, 7], 0), (.iload_n 2, 42, [], 0), (.aload_n 1, 43, [], 0), (.getfield 102, 44, [3, 1], 0), (.iload_n 2, 47, [], 0), (.aaload, 48, [4], 0), (.bipush 6, 49, [], 0), (.iaload, 51, [], 0), (.iastore, 52, [], 0), (.aload_n 0, 53, [], 0), (.getfield 38, 54, [0, 8], 0), (.iload_n 2, 57, [], 0), (.aload_n 1, 58, [], 0), (.getfield 102, 59, [3, 1], 0), (.iload_n 2, 62, [], 0), (.aaload, 63, [4], 0), (.iconst 4, 64, [], 0), (.iaload, 65, [], 0), (.iastore, 66, [], 0), (.aload_n 0, 67, [], 0), (.getfield 46, 68, [0, 10], 0), (.iload_n 2, 71, [], 0), (.aaload, 72, [4], 0), (.bipush 12, 73, [], 0), (.iconst 0, 75, [], 0), (.iastore, 76, [], 0), (.iinc 2 1, 77, [], 0), (.goto (-50), 80, [17], 0), (.bipush 11, 83, [], 0), (.istore_n 2, 85, [], 0), (.iload_n 2, 86, [], 0), (.ifCond .lt 105, 87, [118], 0), (.iconst 0, 90, [], 0), (.istore_n 3, 91, [], 0), (.iconst 0, 92, [], 0), (.istore 4, 93, [], 0), (.iload 4, 95, [], 0), (.aload_n 0, 97, [], 0), (.getfield 29, 98, [0, 5], 0), (.if_icmp .ge 69, 101, [104], 0), (.aload_n 0, 104, [], 0), (.getfield 43, 105, [0, 9], 0), (.iload 4, 108, [], 0), (.aaload, 110, [4], 0), (.iload_n 2, 111, [], 0), (.aload_n 1, 112, [], 0), (.iload 4, 113, [], 0), (.iload_n 2, 115, [], 0), (.invokevirtual 105, 116, [34, 2, 3], 0), (.iastore, 119, [], 0), (.aload_n 0, 120, [], 0), (.getfield 46, 121, [0, 10], 0), (.iload 4, 124, [], 0), (.aaload, 126, [4], 0), (.iload_n 2, 127, [], 0), (.aload_n 0, 128, [], 0), (.getfield 46, 129, [0, 10], 0), (.iload 4, 132, [], 0), (.aaload, 134, [4], 0), (.iload_n 2, 135, [], 0), (.iconst 1, 136, [], 0), (.iadd, 137, [], 0), (.iaload, 138, [], 0), (.aload_n 0, 139, [], 0), (.getfield 43, 140, [0, 9], 0), (.iload 4, 143, [], 0), (.aaload, 145, [4], 0), (.iload_n 2, 146, [], 0), (.iaload, 147, [], 0), (.iadd, 148, [], 0), (.iastore, 149, [], 0), (.iload_n 3, 150, [], 0), (.aload_n 0, 151, [], 0), (.getfield 43, 152, [0, 9], 0), (.iload 4, 155, [], 0), (.aaload, 157, [4], 0), (.iload_n 2, 158, [], 0), (.iaload, 159, [], 0), (.invokestatic 108, 160, [0], 0), (.istore_n 3, 163, [], 0), (.iinc 4 1, 164, [], 0), (.goto (-72), 167, [58], 0), (.aload_n 0, 170, [], 0), (.getfield 49, 171, [0, 11], 0), (.iload_n 2, 174, [], 0), (.aload_n 0, 175, [], 0), (.getfield 49, 176, [0, 11], 0), (.iload_n 2, 179, [], 0), (.iconst 1, 180, [], 0), (.iadd, 181, [], 0), (.iaload, 182, [], 0), (.iload_n 3, 183, [], 0), (.iadd, 184, [], 0), (.iastore, 185, [], 0), (.iinc 2 (-1), 186, [], 0), (.goto (-103), 189, [52], 0), (.return_, 192, [], 0)], (0, 0, 1), (0, 0))
set_option maxRecDepth 100000 in
def mt_X0_putAhead : mj_T := (yX0_putAhead, cX0_putAhead, 7, none, [(.iload 4, 0, [], 0), (.bipush 81, 2, [], 0), (.if_icmp .lt 4, 4, [4], 0), (.return_, 7, [], 0), (.iload_n 1, 8, [], 0), (.bipush 11, 9, [], 0), (.if_icmp .ne 7, 11, [9], 0), (.iconst 1, 14, [], 0), (.goto 4, 15, [10], 0), (.iconst 0, 18, [], 0), (.istore 5, 19, [], 0), (.aload_n 0, 21, [], 0), (.getfield 55, 22, [0, 13], 0), (.iload 4, 25, [], 0), (.iload 5, 27, [], 0), (.ifCond .eq 7, 29, [18], 0), (.iconst 0, 32, [], 0), (.goto 21, 33, [30], 0), (.aload_n 0, 36, [], 0), (.getfield 55, 37, [0, 13], 0), (.iload_n 3, 40, [], 0), (.iaload, 41, [], 0), (.aload_n 0, 42, [], 0), (.iload_n 2, 43, [], 0), (.aload_n 0, 44, [], 0), (.getfield 58, 45, [0, 14], 0), (.iload_n 3, 48, [], 0), (.iaload, 49, [], 0), (.invokevirtual 115, 50, [1, 2, 0], 0), (.iadd, 53, [], 0), (.iastore, 54, [], 0), (.iconst 0, 55, [], 0), (.istore 6, 56, [], 0), (.iload 6, 58, [], 0), (.aload_n 0, 60, [], 0), (.getfield 29, 61, [0, 5], 0), (.if_icmp .ge 28, 64, [51], 0), (.aload_n 0, 67, [], 0), (.getfield 52, 68, [0, 12], 0), (.iload 6, 71, [], 0), (.aaload, 73, [4], 0), (.iload 4, 74, [], 0), (.aload_n 0, 76, [], 0), (.getfield 52, 77, [0, 12], 0), (.iload 6, 80, [], 0), (.aaload, 82, [4], 0), (.iload_n 3, 83, [], 0), (.iaload, 84, [], 0), (.iastore, 85, [], 0), (.iinc 6 1, 86, [], 0), (.goto (-31), 89, [33], 0), (.aload_n 0, 92, [], 0), (.getfield 52, 93, [0, 12], 0), (.iload_n 2, 96, [], 0), (.aaload, 97, [4], 0), (.iload 4, 98, [], 0), (.dup2, 100, [], 0), (.iaload, 101, [], 0), (.aload_n 0, 102, [], 0), (.getfield 43, 103, [0, 9], 0), (.iload_n 2, 106, [], 0), (.aaload, 107, [4], 0), (.iload_n 1, 108, [], 0), (.iaload, 109, [], 0), (.iadd, 110, [], 0), (.iastore, 111, [], 0), (.aload_n 0, 112, [], 0), (.getfield 58, 113, [0, 14], 0), (.iload 4, 116, [], 0), (.iload_n 2, 118, [], 0), (.iastore, 119, [], 0), (.return_, 120, [], 0)], (0, 0, 4), (0, 0))
set_option maxRecDepth 100000 in
def mt_X0_searchPlan : mj_T := (yX0_searchPlan, cX0_searchPlan, 3, (some .int), [(.aload_n 0, 0, [], 0), (.aload_n 1, 1, [], 0), (.invokevirtual 82, 2, [10, 1, 0], 0), (.aload_n 0, 5, [], 0), (.invokevirtual 86, 6, [8, 0, 0], 0), (.aload_n 0, 9, [], 0), (.ldc 89, 10, [], 1000000), (.putfield 70, 12, [0, 18], 0), (.aload_n 0, 15, [], 0), (.iconst 0, 16, [], 0), (.aload_n 0, 17, [], 0), (.getfield 29, 18, [0, 5], 0), (.iconst 0, 21, [], 0), (.invokevirtual 90, 22, [15, 3, 0], 0), (.aload_n 0, 25, [], 0), (.getfield 70, 26, [0, 18], 0), (.ldc 89, 29, [], 1000000), (.if_icmp .ne 5, 31, [20], 0), (.iconst (-1), 34, [], 0), (.ireturn, 35, [], 0), (.iconst 0, 36, [], 0), (.istore_n 2, 37, [], 0), (.iload_n 2, 38, [], 0), (.bipush 12, 39, [], 0), (.if_icmp .ge 39, 41, [44], 0), (.aload_n 0, 44, [], 0), (.getfield 9, 45, [0, 0], 0), (.iload_n 2, 48, [], 0), (.aload_n 0, 49, [], 0), (.getfield 67, 50, [0, 17], 0), (.iload_n 2, 53, [], 0), (.iaload, 54, [], 0), (.aload_n 0, 55, [], 0), (.getfield 29, 56, [0, 5], 0), (.if_icmp .ne 8, 59, [37], 0), (.bipush 8, 62, [], 0), (.goto 9, 64, [41], 0), (.aload_n 0, 67, [], 0), (.getfield 67, 68, [0, 17], 0), (.iload_n 2, 71, [], 0), (.iaload, 72, [], 0), (.iastore, 73, [], 0), (.iinc 2 1, 74, [], 0), (.goto (-39), 77, [22], 0), (.aload_n 0, 80, [], 0), (.iconst 1, 81, [], 0), (.putfield 15, 82, [0, 1], 0), (.aload_n 0, 85, [], 0), (.aload_n 1, 86, [], 0), (.getfield 73, 87, [3, 9], 0), (.putfield 19, 90, [0, 2], 0), (.aload_n 0, 93, [], 0), (.getfield 70, 94, [0, 18], 0), (.ireturn, 97, [], 0)], (0, 0, 1), (0, 0))
set_option maxRecDepth 100000 in
def mt_X0_solve : mj_T := (yX0_solve, cX0_solve, 2, (some .int), [(.aload_n 1, 0, [], 0), (.getfield 73, 1, [3, 9], 0), (.aload_n 0, 4, [], 0), (.getfield 23, 5, [0, 3], 0), (.if_icmp .eq 20, 8, [14], 0), (.aload_n 0, 11, [], 0), (.aload_n 1, 12, [], 0), (.getfield 73, 13, [3, 9], 0), (.putfield 23, 16, [0, 3], 0), (.aload_n 0, 19, [], 0), (.aload_n 0, 20, [], 0), (.aload_n 1, 21, [], 0), (.invokevirtual 78, 22, [12, 1, 0], 0), (.putfield 26, 25, [0, 4], 0), (.aload_n 0, 28, [], 0), (.getfield 26, 29, [0, 4], 0), (.ireturn, 32, [], 0)], (0, 0, 1), (0, 0))
set_option maxRecDepth 100000 in
def mt_X0_stayFrom : mj_T := (yX0_stayFrom, cX0_stayFrom, 5, none, [(.iload_n 2, 0, [], 0), (.istore_n 3, 1, [], 0), (.iload_n 1, 2, [], 0), (.istore 4, 3, [], 0), (.iload 4, 5, [], 0), (.bipush 12, 7, [], 0), (.if_icmp .ge 23, 9, [18], 0), (.aload_n 0, 12, [], 0), (.iload_n 3, 13, [], 0), (.invokevirtual 143, 14, [2, 1, 0], 0), (.istore_n 3, 17, [], 0), (.aload_n 0, 18, [], 0), (.getfield 67, 19, [0, 17], 0), (.iload 4, 22, [], 0), (.iload_n 3, 24, [], 0), (.iastore, 25, [], 0), (.iinc 4 1, 26, [], 0), (.goto (-24), 29, [4], 0), (.return_, 32, [], 0)], (0, 0, 2), (0, 0))
set_option maxRecDepth 100000 in
def mt_X0_tryMonth : mj_T := (yX0_tryMonth, cX0_tryMonth, 5, none, [(.iload_n 3, 0, [], 0), (.aload_n 0, 1, [], 0), (.iload_n 2, 2, [], 0), (.invokevirtual 118, 3, [7, 1, 0], 0), (.iadd, 6, [], 0), (.aload_n 0, 7, [], 0), (.getfield 70, 8, [0, 18], 0), (.if_icmp .lt 4, 11, [9], 0), (.return_, 14, [], 0), (.aload_n 0, 15, [], 0), (.invokevirtual 122, 16, [6, 0, 0], 0), (.ifCond .ne 16, 19, [21], 0), (.aload_n 0, 22, [], 0), (.iload_n 1, 23, [], 0), (.iload_n 3, 24, [], 0), (.invokevirtual 126, 25, [4, 2, 0], 0), (.aload_n 0, 28, [], 0), (.iload_n 1, 29, [], 0), (.iload_n 2, 30, [], 0), (.invokevirtual 130, 31, [14, 2, 0], 0), (.return_, 34, [], 0), (.aload_n 0, 35, [], 0), (.iload_n 1, 36, [], 0), (.invokevirtual 133, 37, [0, 1, 0], 0), (.ifCond .ne 4, 40, [26], 0), (.return_, 43, [], 0), (.iload_n 1, 44, [], 0), (.bipush 8, 45, [], 0), (.if_icmp .lt 10, 47, [34], 0), (.aload_n 0, 50, [], 0), (.iload_n 2, 51, [], 0), (.iload_n 3, 52, [], 0), (.invokevirtual 137, 53, [16, 2, 0], 0), (.return_, 56, [], 0), (.iconst 0, 57, [], 0), (.istore 4, 58, [], 0), (.iload 4, 60, [], 0), (.aload_n 0, 62, [], 0), (.getfield 29, 63, [0, 5], 0), (.if_icmp .ge 73, 66, [85], 0), (.aload_n 0, 69, [], 0), (.getfield 64, 70, [0, 16], 0), (.iload_n 1, 73, [], 0), (.iload 4, 74, [], 0), (.iastore, 76, [], 0), (.aload_n 0, 77, [], 0), (.getfield 38, 78, [0, 8], 0), (.iload 4, 81, [], 0), (.dup2, 83, [], 0), (.iaload, 84, [], 0), (.aload_n 0, 85, [], 0), (.getfield 43, 86, [0, 9], 0), (.iload 4, 89, [], 0), (.aaload, 91, [4], 0), (.iload_n 1, 92, [], 0), (.iaload, 93, [], 0), (.isub, 94, [], 0), (.iastore, 95, [], 0), (.aload_n 0, 96, [], 0), (.iload_n 1, 97, [], 0), (.iconst 1, 98, [], 0), (.iadd, 99, [], 0), (.iload 4, 100, [], 0), (.iload_n 3, 102, [], 0), (.aload_n 0, 103, [], 0), (.iload_n 2, 104, [], 0), (.iload 4, 105, [], 0), (.invokevirtual 115, 107, [1, 2, 0], 0), (.iadd, 110, [], 0), (.invokevirtual 90, 111, [15, 3, 0], 0), (.aload_n 0, 114, [], 0), (.getfield 38, 115, [0, 8], 0), (.iload 4, 118, [], 0), (.dup2, 120, [], 0), (.iaload, 121, [], 0), (.aload_n 0, 122, [], 0), (.getfield 43, 123, [0, 9], 0), (.iload 4, 126, [], 0), (.aaload, 128, [4], 0), (.iload_n 1, 129, [], 0), (.iaload, 130, [], 0), (.iadd, 131, [], 0), (.iastore, 132, [], 0), (.iinc 4 1, 133, [], 0), (.goto (-76), 136, [36], 0), (.return_, 139, [], 0)], (0, 0, 3), (0, 0))
set_option maxRecDepth 100000 in
def mt_X0_tryTails : mj_T := (yX0_tryTails, cX0_tryTails, 5, none, [(.iconst 0, 0, [], 0), (.istore_n 3, 1, [], 0), (.iload_n 3, 2, [], 0), (.aload_n 0, 3, [], 0), (.getfield 61, 4, [0, 15], 0), (.if_icmp .ge 80, 7, [47], 0), (.iload_n 3, 10, [], 0), (.bipush 81, 11, [], 0), (.if_icmp .ge 74, 13, [47], 0), (.iload_n 2, 16, [], 0), (.aload_n 0, 17, [], 0), (.getfield 55, 18, [0, 13], 0), (.iload_n 3, 21, [], 0), (.iaload, 22, [], 0), (.iadd, 23, [], 0), (.istore 4, 24, [], 0), (.iload 4, 26, [], 0), (.aload_n 0, 28, [], 0), (.getfield 70, 29, [0, 18], 0), (.if_icmp .ge 49, 32, [45], 0), (.aload_n 0, 35, [], 0), (.iload_n 3, 36, [], 0), (.invokevirtual 146, 37, [9, 1, 0], 0), (.ifCond .eq 41, 40, [45], 0), (.iload 4, 43, [], 0), (.aload_n 0, 45, [], 0), (.iload_n 1, 46, [], 0), (.aload_n 0, 47, [], 0), (.getfield 58, 48, [0, 14], 0), (.iload_n 3, 51, [], 0), (.iaload, 52, [], 0), (.invokevirtual 115, 53, [1, 2, 0], 0), (.iadd, 56, [], 0), (.istore 4, 57, [], 0), (.iload 4, 59, [], 0), (.aload_n 0, 61, [], 0), (.getfield 70, 62, [0, 18], 0), (.if_icmp .ge 16, 65, [45], 0), (.aload_n 0, 68, [], 0), (.bipush 8, 69, [], 0), (.iload 4, 71, [], 0), (.invokevirtual 126, 73, [4, 2, 0], 0), (.aload_n 0, 76, [], 0), (.iload_n 3, 77, [], 0), (.invokevirtual 149, 78, [5, 1, 0], 0), (.iinc 3 1, 81, [], 0), (.goto (-82), 84, [2], 0), (.return_, 87, [], 0)], (0, 0, 2), (0, 0))
set_option maxRecDepth 100000 in
def mt_X1_clear : mj_T := (yX1_clear, cX1_clear, 2, none, [(.iconst 0, 0, [], 0), (.istore_n 1, 1, [], 0), (.iload_n 1, 2, [], 0), (.bipush 12, 3, [], 0), (.if_icmp .ge 30, 5, [22], 0), (.aload_n 0, 8, [], 0), (.getfield 9, 9, [1, 0], 0), (.iload_n 1, 12, [], 0), (.iconst (-1), 13, [], 0), (.iastore, 14, [], 0), (.aload_n 0, 15, [], 0), (.getfield 15, 16, [1, 1], 0), (.iload_n 1, 19, [], 0), (.iconst (-1), 20, [], 0), (.iastore, 21, [], 0), (.aload_n 0, 22, [], 0), (.getfield 18, 23, [1, 2], 0), (.iload_n 1, 26, [], 0), (.iconst 0, 27, [], 0), (.iastore, 28, [], 0), (.iinc 1 1, 29, [], 0), (.goto (-30), 32, [2], 0), (.aload_n 0, 35, [], 0), (.iconst 0, 36, [], 0), (.putfield 21, 37, [1, 3], 0), (.return_, 40, [], 0)], (0, 1, 0), (0, 0))
set_option maxRecDepth 100000 in
def mt_X1_copy : mj_T := (yX1_copy, cX1_copy, 2, none, [(.aload_n 1, 0, [], 0), (.getfield 9, 1, [1, 0], 0), (.iconst 0, 4, [], 0), (.aload_n 0, 5, [], 0), (.getfield 9, 6, [1, 0], 0), (.iconst 0, 9, [], 0), (.bipush 12, 10, [], 0), (.invokestatic 28, 12, [3], 0), (.aload_n 1, 15, [], 0), (.getfield 15, 16, [1, 1], 0), (.iconst 0, 19, [], 0), (.aload_n 0, 20, [], 0), (.getfield 15, 21, [1, 1], 0), (.iconst 0, 24, [], 0), (.bipush 12, 25, [], 0), (.invokestatic 28, 27, [3], 0), (.aload_n 1, 30, [], 0), (.getfield 18, 31, [1, 2], 0), (.iconst 0, 34, [], 0), (.aload_n 0, 35, [], 0), (.getfield 18, 36, [1, 2], 0), (.iconst 0, 39, [], 0), (.bipush 12, 40, [], 0), (.invokestatic 28, 42, [3], 0), (.aload_n 0, 45, [], 0), (.aload_n 1, 46, [], 0), (.getfield 21, 47, [1, 3], 0), (.putfield 21, 50, [1, 3], 0), (.return_, 53, [], 0)], (0, 1, 1), (0, 0))
set_option maxRecDepth 100000 in
def mt_X1_init : mj_T := (yX1_init, cX1_init, 1, none, [(.aload_n 0, 0, [], 0), (.invokespecial 3, 1, [], 0), (.aload_n 0, 4, [], 0), (.bipush 12, 5, [], 0), (.newarray .int, 7, [0], 0), (.putfield 9, 9, [1, 0], 0), (.aload_n 0, 12, [], 0), (.bipush 12, 13, [], 0), (.newarray .int, 15, [0], 0), (.putfield 15, 17, [1, 1], 0), (.aload_n 0, 20, [], 0), (.bipush 12, 21, [], 0), (.newarray .int, 23, [0], 0), (.putfield 18, 25, [1, 2], 0), (.aload_n 0, 28, [], 0), (.iconst 0, 29, [], 0), (.putfield 21, 30, [1, 3], 0), (.aload_n 0, 33, [], 0), (.invokevirtual 25, 34, [17, 0, 1], 0), (.return_, 37, [], 0)], (2, 1, 0), (3, 36))
set_option maxRecDepth 100000 in
def mt_X1_readLet : mj_T := (yX1_readLet, cX1_readLet, 7, (some .boolean), [(.aload_n 2, 0, [], 0), (.aload_n 1, 1, [], 0), (.invokevirtual 84, 2, [36, 1, 3], 0), (.istore 4, 5, [], 0), (.iload 4, 7, [], 0), (.iconst (-1), 9, [], 0), (.if_icmp .ne 5, 10, [9], 0), (.iconst 0, 13, [], 0), (.ireturn, 14, [], 1), (.iconst (-1), 15, [], 0), (.istore 5, 16, [], 0), (.aload_n 1, 18, [], 0), (.invokevirtual 34, 19, [69, 0, 7], 0), (.aload_n 1, 22, [], 0), (.getfield 39, 23, [7, 4], 0), (.iconst 1, 26, [], 0), (.if_icmp .ne 35, 27, [35], 0), (.aload_n 2, 30, [], 0), (.aload_n 1, 31, [], 0), (.invokevirtual 90, 32, [48, 1, 3], 0), (.istore 5, 35, [], 0), (.iload 5, 37, [], 0), (.iconst (-1), 39, [], 0), (.if_icmp .ne 5, 40, [26], 0), (.iconst 0, 43, [], 0), (.ireturn, 44, [], 1), (.iload 5, 45, [], 0), (.iload 4, 47, [], 0), (.if_icmp .ne 9, 49, [33], 0), (.aload_n 1, 52, [], 0), (.iconst 3, 53, [], 0), (.invokevirtual 66, 54, [83, 1, 7], 0), (.ireturn, 57, [], 1), (.aload_n 1, 58, [], 0), (.invokevirtual 34, 59, [69, 0, 7], 0), (.aload_n 1, 62, [], 0), (.iconst 0, 63, [], 0), (.sipush 999, 64, [], 0), (.invokevirtual 93, 67, [79, 2, 7], 0), (.istore 6, 70, [], 0), (.iload 6, 72, [], 0), (.iconst (-1), 74, [], 0), (.if_icmp .ne 5, 75, [45], 0), (.iconst 0, 78, [], 0), (.ireturn, 79, [], 1), (.aload_n 0, 80, [], 0), (.iload_n 3, 81, [], 0), (.iload 4, 82, [], 0), (.iload 5, 84, [], 0), (.iload 6, 86, [], 0), (.invokevirtual 80, 88, [23, 4, 1], 0), (.iconst 1, 91, [], 0), (.ireturn, 92, [], 1)], (0, 1, 3), (0, 0))
set_option maxRecDepth 100000 in
def mt_X1_readRow : mj_T := (yX1_readRow, cX1_readRow, 5, (some .boolean), [(.aload_n 1, 0, [], 0), (.getfield 54, 1, [7, 9], 0), (.astore_n 3, 4, [], 0), (.aload_n 3, 5, [], 0), (.getstatic 58, 6, [], 0), (.if_acmp .eq 16, 9, [13], 0), (.aload_n 3, 12, [], 0), (.getstatic 63, 13, [], 0), (.if_acmp .eq 9, 16, [13], 0), (.aload_n 1, 19, [], 0), (.iconst 1, 20, [], 0), (.invokevirtual 66, 21, [83, 1, 7], 0), (.ireturn, 24, [], 1), (.aload_n 1, 25, [], 0), (.iconst 0, 26, [], 0), (.bipush 11, 27, [], 0), (.invokevirtual 69, 29, [77, 2, 7], 0), (.istore 4, 32, [], 0), (.iload 4, 34, [], 0), (.iconst (-1), 36, [], 0), (.if_icmp .ne 5, 37, [23], 0), (.iconst 0, 40, [], 0), (.ireturn, 41, [], 1), (.aload_n 0, 42, [], 0), (.iload 4, 43, [], 0), (.invokevirtual 73, 45, [24, 1, 1], 0), (.ifCond .eq 9, 48, [31], 0), (.aload_n 1, 51, [], 0), (.iconst 3, 52, [], 0), (.invokevirtual 66, 53, [83, 1, 7], 0), (.ireturn, 56, [], 1), (.aload_n 3, 57, [], 0), (.getstatic 58, 58, [], 0), (.if_acmp .ne 12, 61, [40], 0), (.aload_n 0, 64, [], 0), (.aload_n 1, 65, [], 0), (.aload_n 2, 66, [], 0), (.iload 4, 67, [], 0), (.invokevirtual 76, 69, [20, 3, 1], 0), (.ireturn, 72, [], 1), (.aload_n 0, 73, [], 0), (.iload 4, 74, [], 0), (.bipush 8, 76, [], 0), (.iconst (-1), 78, [], 0), (.iconst 0, 79, [], 0), (.invokevirtual 80, 80, [23, 4, 1], 0), (.iconst 1, 83, [], 0), (.ireturn, 84, [], 1)], (0, 1, 2), (0, 0))
set_option maxRecDepth 100000 in
def mt_X1_readRows : mj_T := (yX1_readRows, cX1_readRows, 4, none, [(.aload_n 1, 0, [], 0), (.invokevirtual 34, 1, [69, 0, 7], 0), (.iconst 0, 4, [], 0), (.istore_n 3, 5, [], 0), (.iload_n 3, 6, [], 0), (.bipush 12, 7, [], 0), (.if_icmp .gt 39, 9, [24], 0), (.aload_n 1, 12, [], 0), (.getfield 39, 13, [7, 4], 0), (.ifCond .eq 32, 16, [24], 0), (.aload_n 0, 19, [], 0), (.aload_n 1, 20, [], 0), (.aload_n 2, 21, [], 0), (.invokevirtual 42, 22, [21, 2, 1], 0), (.ifCond .eq 12, 25, [19], 0), (.aload_n 1, 28, [], 0), (.bipush 59, 29, [], 0), (.invokevirtual 46, 31, [78, 1, 7], 0), (.ifCond .ne 4, 34, [20], 0), (.return_, 37, [], 0), (.aload_n 1, 38, [], 0), (.invokevirtual 34, 39, [69, 0, 7], 0), (.iinc 3 1, 42, [], 0), (.goto (-39), 45, [4], 0), (.aload_n 1, 48, [], 0), (.invokevirtual 50, 49, [70, 0, 7], 0), (.pop, 52, [], 0), (.return_, 53, [], 0)], (0, 1, 2), (0, 0))
set_option maxRecDepth 100000 in
def mt_X1_tell : mj_T := (yX1_tell, cX1_tell, 5, none, [(.aload_n 0, 0, [], 0), (.getfield 9, 1, [1, 0], 0), (.iload_n 1, 4, [], 0), (.iload_n 2, 5, [], 0), (.iastore, 6, [], 0), (.aload_n 0, 7, [], 0), (.getfield 15, 8, [1, 1], 0), (.iload_n 1, 11, [], 0), (.iload_n 3, 12, [], 0), (.iastore, 13, [], 0), (.aload_n 0, 14, [], 0), (.getfield 18, 15, [1, 2], 0), (.iload_n 1, 18, [], 0), (.iload 4, 19, [], 0), (.iastore, 21, [], 0), (.aload_n 0, 22, [], 0), (.dup, 23, [], 0), (.getfield 21, 24, [1, 3], 0), (.iconst 1, 27, [], 0), (.iadd, 28, [], 0), (.putfield 21, 29, [1, 3], 0), (.return_, 32, [], 0)], (0, 1, 4), (0, 0))
set_option maxRecDepth 100000 in
def mt_X1_tells : mj_T := (yX1_tells, cX1_tells, 2, (some .boolean), [(.aload_n 0, 0, [], 0), (.getfield 9, 1, [1, 0], 0), (.iload_n 1, 4, [], 0), (.iaload, 5, [], 0), (.iconst (-1), 6, [], 0), (.if_icmp .eq 7, 7, [8], 0), (.iconst 1, 10, [], 0), (.goto 4, 11, [9], 0), (.iconst 0, 14, [], 0), (.ireturn, 15, [], 1)], (0, 1, 1), (0, 0))
set_option maxRecDepth 100000 in
def mt_X2_asTold : mj_T := (yX2_asTold, cX2_asTold, 5, (some .boolean), [(.aload_n 1, 0, [], 0), (.getfield 77, 1, [9, 1], 0), (.iconst 1, 4, [], 0), (.isub, 5, [], 0), (.istore_n 3, 6, [], 0), (.iload_n 3, 7, [], 0), (.ifCond .lt 18, 8, [15], 0), (.iload_n 3, 11, [], 0), (.bipush 12, 12, [], 0), (.if_icmp .ge 12, 14, [15], 0), (.aload_n 0, 17, [], 0), (.getfield 23, 18, [2, 3], 0), (.iload_n 3, 21, [], 0), (.baload, 22, [], 0), (.ifCond .ne 5, 23, [17], 0), (.iconst 1, 26, [], 0), (.ireturn, 27, [], 1), (.iconst 0, 28, [], 0), (.istore 4, 29, [], 0), (.iload 4, 31, [], 0), (.iload_n 2, 33, [], 0), (.if_icmp .ge 32, 34, [39], 0), (.aload_n 1, 37, [], 0), (.getfield 88, 38, [9, 6], 0), (.iload 4, 41, [], 0), (.aaload, 43, [4], 0), (.iconst 0, 44, [], 0), (.iaload, 45, [], 0), (.aload_n 0, 46, [], 0), (.getfield 27, 47, [2, 4], 0), (.iload_n 3, 50, [], 0), (.aaload, 51, [4], 0), (.iload 4, 52, [], 0), (.iaload, 54, [], 0), (.if_icmp .eq 5, 55, [37], 0), (.iconst 0, 58, [], 0), (.ireturn, 59, [], 1), (.iinc 4 1, 60, [], 0), (.goto (-32), 63, [19], 0), (.iconst 1, 66, [], 0), (.ireturn, 67, [], 1)], (0, 2, 2), (0, 0))
set_option maxRecDepth 100000 in
def mt_X2_comesBy : mj_T := (yX2_comesBy, cX2_comesBy, 6, (some .boolean), [(.aload_n 0, 0, [], 0), (.getfield 36, 1, [2, 6], 0), (.getfield 77, 4, [9, 1], 0), (.aload_n 0, 7, [], 0), (.getfield 30, 8, [2, 5], 0), (.if_icmp .le 5, 11, [8], 0), (.iconst 1, 14, [], 0), (.ireturn, 15, [], 1), (.aload_n 0, 16, [], 0), (.getfield 40, 17, [2, 7], 0), (.aload_n 0, 20, [], 0), (.getfield 36, 21, [2, 6], 0), (.invokevirtual 80, 24, [90, 1, 9], 0), (.iconst 0, 27, [], 0), (.istore 5, 28, [], 0), (.iload 5, 30, [], 0), (.bipush 12, 32, [], 0), (.if_icmp .ge 60, 34, [46], 0), (.aload_n 0, 37, [], 0), (.getfield 40, 38, [2, 7], 0), (.getfield 77, 41, [9, 1], 0), (.aload_n 0, 44, [], 0), (.getfield 30, 45, [2, 5], 0), (.if_icmp .gt 46, 48, [46], 0), (.aload_n 0, 51, [], 0), (.getfield 40, 52, [2, 7], 0), (.aload_n 1, 55, [], 0), (.aload_n 2, 56, [], 0), (.iconst 0, 57, [], 0), (.invokevirtual 69, 58, [103, 3, 9], 0), (.aload_n 0, 61, [], 0), (.getfield 40, 62, [2, 7], 0), (.iload_n 3, 65, [], 0), (.iload 4, 66, [], 0), (.invokevirtual 84, 68, [98, 2, 9], 0), (.aload_n 0, 71, [], 0), (.aload_n 0, 72, [], 0), (.getfield 40, 73, [2, 7], 0), (.aload_n 1, 76, [], 0), (.getfield 52, 77, [3, 4], 0), (.invokevirtual 73, 80, [25, 2, 2], 0), (.ifCond .ne 5, 83, [44], 0), (.iconst 0, 86, [], 0), (.ireturn, 87, [], 1), (.iinc 5 1, 88, [], 0), (.goto (-61), 91, [15], 0), (.iconst 1, 94, [], 0), (.ireturn, 95, [], 1)], (0, 2, 4), (0, 0))
set_option maxRecDepth 100000 in
def mt_X2_init : mj_T := (yX2_init, cX2_init, 1, none, [(.aload_n 0, 0, [], 0), (.invokespecial 3, 1, [], 0), (.aload_n 0, 4, [], 0), (.bipush 40, 5, [], 0), (.iconst 3, 7, [], 0), (.multianewarray 11 2, 8, [], 0), (.putfield 13, 12, [2, 0], 0), (.aload_n 0, 15, [], 0), (.iconst 0, 16, [], 0), (.putfield 16, 17, [2, 1], 0), (.aload_n 0, 20, [], 0), (.iconst 0, 21, [], 0), (.putfield 20, 22, [2, 2], 0), (.aload_n 0, 25, [], 0), (.bipush 12, 26, [], 0), (.newarray .boolean, 28, [2], 0), (.putfield 23, 30, [2, 3], 0), (.aload_n 0, 33, [], 0), (.bipush 12, 34, [], 0), (.bipush 8, 36, [], 0), (.multianewarray 11 2, 38, [], 0), (.putfield 27, 42, [2, 4], 0), (.aload_n 0, 45, [], 0), (.iconst 0, 46, [], 0), (.putfield 30, 47, [2, 5], 0), (.aload_n 0, 50, [], 0), (.new 33, 51, [9, 15], 0), (.dup, 54, [], 0), (.invokespecial 35, 55, [96, 0, 9], 0), (.putfield 36, 58, [2, 6], 0), (.aload_n 0, 61, [], 0), (.new 33, 62, [9, 15], 0), (.dup, 65, [], 0), (.invokespecial 35, 66, [96, 0, 9], 0), (.putfield 40, 69, [2, 7], 0), (.return_, 72, [], 0)], (2, 2, 0), (81, 574))
set_option maxRecDepth 100000 in
def mt_X2_keep : mj_T := (yX2_keep, cX2_keep, 4, none, [(.aload_n 0, 0, [], 0), (.getfield 16, 1, [2, 1], 0), (.bipush 40, 4, [], 0), (.if_icmp .ge 49, 6, [34], 0), (.aload_n 0, 9, [], 0), (.getfield 13, 10, [2, 0], 0), (.aload_n 0, 13, [], 0), (.getfield 16, 14, [2, 1], 0), (.aaload, 17, [4], 0), (.iconst 0, 18, [], 0), (.iload_n 1, 19, [], 0), (.iastore, 20, [], 0), (.aload_n 0, 21, [], 0), (.getfield 13, 22, [2, 0], 0), (.aload_n 0, 25, [], 0), (.getfield 16, 26, [2, 1], 0), (.aaload, 29, [4], 0), (.iconst 1, 30, [], 0), (.iload_n 2, 31, [], 0), (.iastore, 32, [], 0), (.aload_n 0, 33, [], 0), (.getfield 13, 34, [2, 0], 0), (.aload_n 0, 37, [], 0), (.getfield 16, 38, [2, 1], 0), (.aaload, 41, [4], 0), (.iconst 2, 42, [], 0), (.iload_n 3, 43, [], 0), (.iastore, 44, [], 0), (.aload_n 0, 45, [], 0), (.dup, 46, [], 0), (.getfield 16, 47, [2, 1], 0), (.iconst 1, 50, [], 0), (.iadd, 51, [], 0), (.putfield 16, 52, [2, 1], 0), (.aload_n 0, 55, [], 0), (.dup, 56, [], 0), (.getfield 20, 57, [2, 2], 0), (.iconst 1, 60, [], 0), (.iadd, 61, [], 0), (.putfield 20, 62, [2, 2], 0), (.return_, 65, [], 0)], (0, 2, 3), (0, 0))
set_option maxRecDepth 100000 in
def mt_X2_readLevels : mj_T := (yX2_readLevels, cX2_readLevels, 8, (some .boolean), [(.iconst 1, 0, [], 0), (.iconst 2, 1, [], 0), (.iload_n 2, 2, [], 0), (.imul, 3, [], 0), (.iadd, 4, [], 0), (.istore_n 3, 5, [], 0), (.iconst 0, 6, [], 0), (.istore 4, 7, [], 0), (.iload 4, 9, [], 0), (.bipush 12, 11, [], 0), (.if_icmp .ge 17, 13, [18], 0), (.aload_n 0, 16, [], 0), (.getfield 23, 17, [2, 3], 0), (.iload 4, 20, [], 0), (.iconst 0, 22, [], 0), (.bastore, 23, [], 0), (.iinc 4 1, 24, [], 0), (.goto (-18), 27, [8], 0), (.aload_n 0, 30, [], 0), (.iconst (-1), 31, [], 0), (.putfield 30, 32, [2, 5], 0), (.iconst 0, 35, [], 0), (.istore 4, 36, [], 0), (.iload 4, 38, [], 0), (.aload_n 1, 40, [], 0), (.getfield 43, 41, [7, 1], 0), (.if_icmp .ge 125, 44, [94], 0), (.iload 4, 47, [], 0), (.iload_n 3, 49, [], 0), (.iadd, 50, [], 0), (.aload_n 1, 51, [], 0), (.getfield 43, 52, [7, 1], 0), (.if_icmp .gt 114, 55, [94], 0), (.aload_n 1, 58, [], 0), (.iload 4, 59, [], 0), (.invokevirtual 48, 61, [84, 1, 7], 0), (.istore 5, 64, [], 0), (.iload 5, 66, [], 0), (.aload_n 0, 68, [], 0), (.getfield 30, 69, [2, 5], 0), (.if_icmp .le 10, 72, [44], 0), (.iload 5, 75, [], 0), (.bipush 12, 77, [], 0), (.if_icmp .lt 5, 79, [46], 0), (.iconst 0, 82, [], 0), (.ireturn, 83, [], 1), (.iconst 0, 84, [], 0), (.istore 6, 85, [], 0), (.iload 6, 87, [], 0), (.iload_n 2, 89, [], 0), (.if_icmp .ge 56, 90, [81], 0), (.iload 6, 93, [], 0), (.bipush 8, 95, [], 0), (.if_icmp .ge 49, 97, [81], 0), (.iload 4, 100, [], 0), (.iconst 1, 102, [], 0), (.iadd, 103, [], 0), (.iconst 2, 104, [], 0), (.iload 6, 105, [], 0), (.imul, 107, [], 0), (.iadd, 108, [], 0), (.istore 7, 109, [], 0), (.aload_n 0, 111, [], 0), (.getfield 27, 112, [2, 4], 0), (.iload 5, 115, [], 0), (.aaload, 117, [4], 0), (.iload 6, 118, [], 0), (.aload_n 1, 120, [], 0), (.iload 7, 121, [], 0), (.invokevirtual 48, 123, [84, 1, 7], 0), (.sipush 256, 126, [], 0), (.imul, 129, [], 0), (.aload_n 1, 130, [], 0), (.iload 7, 131, [], 0), (.iconst 1, 133, [], 0), (.iadd, 134, [], 0), (.invokevirtual 48, 135, [84, 1, 7], 0), (.iadd, 138, [], 0), (.iastore, 139, [], 0), (.iinc 6 1, 140, [], 0), (.goto (-56), 143, [48], 0), (.aload_n 0, 146, [], 0), (.getfield 23, 147, [2, 3], 0), (.iload 5, 150, [], 0), (.iconst 1, 152, [], 0), (.bastore, 153, [], 0), (.aload_n 0, 154, [], 0), (.iload 5, 155, [], 0), (.putfield 30, 157, [2, 5], 0), (.iload 4, 160, [], 0), (.iload_n 3, 162, [], 0), (.iadd, 163, [], 0), (.istore 4, 164, [], 0), (.goto (-128), 166, [23], 0), (.aload_n 0, 169, [], 0), (.getfield 30, 170, [2, 5], 0), (.iconst (-1), 173, [], 0), (.if_icmp .eq 16, 174, [104], 0), (.iload 4, 177, [], 0), (.aload_n 1, 179, [], 0), (.getfield 43, 180, [7, 1], 0), (.if_icmp .ne 7, 183, [104], 0), (.iconst 1, 186, [], 0), (.goto 4, 187, [105], 0), (.iconst 0, 190, [], 0), (.ireturn, 191, [], 1)], (0, 2, 2), (0, 0))
set_option maxRecDepth 100000 in
def mt_X2_run : mj_T := (yX2_run, cX2_run, 7, (some .int), [(.aload_n 0, 0, [], 0), (.iconst 0, 1, [], 0), (.putfield 16, 2, [2, 1], 0), (.aload_n 0, 5, [], 0), (.iconst 0, 6, [], 0), (.putfield 20, 7, [2, 2], 0), (.iconst 0, 10, [], 0), (.istore_n 3, 11, [], 0), (.iload_n 3, 12, [], 0), (.aload_n 1, 13, [], 0), (.getfield 52, 14, [3, 4], 0), (.if_icmp .ge 102, 17, [61], 0), (.aload_n 0, 20, [], 0), (.getfield 36, 21, [2, 6], 0), (.aload_n 1, 24, [], 0), (.invokevirtual 57, 25, [108, 1, 9], 0), (.iconst 1, 28, [], 0), (.istore 4, 29, [], 0), (.iconst 0, 31, [], 0), (.istore 5, 32, [], 0), (.iload 5, 34, [], 0), (.bipush 12, 36, [], 0), (.if_icmp .ge 75, 38, [59], 0), (.iload 4, 41, [], 0), (.ifCond .eq 70, 43, [59], 0), (.iconst 1, 46, [], 0), (.istore 6, 47, [], 0), (.iload 6, 49, [], 0), (.bipush 9, 51, [], 0), (.if_icmp .gt 30, 53, [44], 0), (.aload_n 0, 56, [], 0), (.aload_n 1, 57, [], 0), (.aload_n 2, 58, [], 0), (.iload_n 3, 59, [], 0), (.iload 6, 60, [], 0), (.invokevirtual 61, 62, [26, 4, 2], 0), (.ifCond .eq 12, 65, [42], 0), (.aload_n 0, 68, [], 0), (.iload_n 3, 69, [], 0), (.iload 5, 70, [], 0), (.iload 6, 72, [], 0), (.invokevirtual 65, 74, [28, 3, 2], 0), (.iinc 6 1, 77, [], 0), (.goto (-31), 80, [27], 0), (.aload_n 0, 83, [], 0), (.getfield 36, 84, [2, 6], 0), (.aload_n 1, 87, [], 0), (.aload_n 2, 88, [], 0), (.iconst 0, 89, [], 0), (.invokevirtual 69, 90, [103, 3, 9], 0), (.aload_n 0, 93, [], 0), (.aload_n 0, 94, [], 0), (.getfield 36, 95, [2, 6], 0), (.aload_n 1, 98, [], 0), (.getfield 52, 99, [3, 4], 0), (.invokevirtual 73, 102, [25, 2, 2], 0), (.istore 4, 105, [], 0), (.iinc 5 1, 107, [], 0), (.goto (-76), 110, [20], 0), (.iinc 3 1, 113, [], 0), (.goto (-104), 116, [8], 0), (.aload_n 0, 119, [], 0), (.getfield 20, 120, [2, 2], 0), (.ireturn, 123, [], 0)], (0, 2, 2), (0, 0))
set_option maxRecDepth 100000 in
def mt_X3_clear : mj_T := (yX3_clear, cX3_clear, 3, none, [(.iconst 0, 0, [], 0), (.istore_n 1, 1, [], 0), (.iload_n 1, 2, [], 0), (.bipush 8, 3, [], 0), (.if_icmp .ge 69, 5, [45], 0), (.aload_n 0, 8, [], 0), (.getfield 9, 9, [3, 0], 0), (.iload_n 1, 12, [], 0), (.lconst 0, 13, [], 0), (.lastore, 14, [], 0), (.aload_n 0, 15, [], 0), (.getfield 46, 16, [3, 10], 0), (.iload_n 1, 19, [], 0), (.iconst 0, 20, [], 0), (.iastore, 21, [], 0), (.iconst 0, 22, [], 0), (.istore_n 2, 23, [], 0), (.iload_n 2, 24, [], 0), (.bipush 9, 25, [], 0), (.if_icmp .ge 18, 27, [29], 0), (.aload_n 0, 30, [], 0), (.getfield 17, 31, [3, 1], 0), (.iload_n 1, 34, [], 0), (.aaload, 35, [4], 0), (.iload_n 2, 36, [], 0), (.iconst 0, 37, [], 0), (.iastore, 38, [], 0), (.iinc 2 1, 39, [], 0), (.goto (-18), 42, [17], 0), (.iconst 0, 45, [], 0), (.istore_n 2, 46, [], 0), (.iload_n 2, 47, [], 0), (.bipush 12, 48, [], 0), (.if_icmp .ge 18, 50, [43], 0), (.aload_n 0, 53, [], 0), (.getfield 20, 54, [3, 2], 0), (.iload_n 1, 57, [], 0), (.aaload, 58, [4], 0), (.iload_n 2, 59, [], 0), (.iconst 0, 60, [], 0), (.iastore, 61, [], 0), (.iinc 2 1, 62, [], 0), (.goto (-18), 65, [31], 0), (.iinc 1 1, 68, [], 0), (.goto (-69), 71, [2], 0), (.iconst 0, 74, [], 0), (.istore_n 1, 75, [], 0), (.iload_n 1, 76, [], 0), (.bipush 12, 77, [], 0), (.if_icmp .ge 16, 79, [57], 0), (.aload_n 0, 82, [], 0), (.getfield 23, 83, [3, 3], 0), (.iload_n 1, 86, [], 0), (.iconst 0, 87, [], 0), (.iastore, 88, [], 0), (.iinc 1 1, 89, [], 0), (.goto (-16), 92, [47], 0), (.aload_n 0, 95, [], 0), (.iconst 0, 96, [], 0), (.putfield 27, 97, [3, 4], 0), (.aload_n 0, 100, [], 0), (.iconst 0, 101, [], 0), (.putfield 31, 102, [3, 5], 0), (.aload_n 0, 105, [], 0), (.iconst 0, 106, [], 0), (.putfield 34, 107, [3, 6], 0), (.aload_n 0, 110, [], 0), (.iconst 0, 111, [], 0), (.putfield 37, 112, [3, 7], 0), (.aload_n 0, 115, [], 0), (.iconst 3, 116, [], 0), (.putfield 40, 117, [3, 8], 0), (.aload_n 0, 120, [], 0), (.iconst 0, 121, [], 0), (.putfield 49, 122, [3, 11], 0), (.aload_n 0, 125, [], 0), (.iconst 0, 126, [], 0), (.putfield 52, 127, [3, 12], 0), (.aload_n 0, 130, [], 0), (.iconst 0, 131, [], 0), (.putfield 56, 132, [3, 13], 0), (.aload_n 0, 135, [], 0), (.iconst 0, 136, [], 0), (.putfield 59, 137, [3, 14], 0), (.return_, 140, [], 0)], (0, 3, 0), (0, 0))
set_option maxRecDepth 100000 in
def mt_X3_copy : mj_T := (yX3_copy, cX3_copy, 3, none, [(.aload_n 1, 0, [], 0), (.getfield 9, 1, [3, 0], 0), (.iconst 0, 4, [], 0), (.aload_n 0, 5, [], 0), (.getfield 9, 6, [3, 0], 0), (.iconst 0, 9, [], 0), (.bipush 8, 10, [], 0), (.invokestatic 62, 12, [4], 0), (.iconst 0, 15, [], 0), (.istore_n 2, 16, [], 0), (.iload_n 2, 17, [], 0), (.bipush 8, 18, [], 0), (.if_icmp .ge 47, 20, [39], 0), (.aload_n 1, 23, [], 0), (.getfield 17, 24, [3, 1], 0), (.iload_n 2, 27, [], 0), (.aaload, 28, [4], 0), (.iconst 0, 29, [], 0), (.aload_n 0, 30, [], 0), (.getfield 17, 31, [3, 1], 0), (.iload_n 2, 34, [], 0), (.aaload, 35, [4], 0), (.iconst 0, 36, [], 0), (.bipush 9, 37, [], 0), (.invokestatic 62, 39, [3], 0), (.aload_n 1, 42, [], 0), (.getfield 20, 43, [3, 2], 0), (.iload_n 2, 46, [], 0), (.aaload, 47, [4], 0), (.iconst 0, 48, [], 0), (.aload_n 0, 49, [], 0), (.getfield 20, 50, [3, 2], 0), (.iload_n 2, 53, [], 0), (.aaload, 54, [4], 0), (.iconst 0, 55, [], 0), (.bipush 12, 56, [], 0), (.invokestatic 62, 58, [3], 0), (.iinc 2 1, 61, [], 0), (.goto (-47), 64, [10], 0), (.aload_n 1, 67, [], 0), (.getfield 23, 68, [3, 3], 0), (.iconst 0, 71, [], 0), (.aload_n 0, 72, [], 0), (.getfield 23, 73, [3, 3], 0), (.iconst 0, 76, [], 0), (.bipush 12, 77, [], 0), (.invokestatic 62, 79, [3], 0), (.aload_n 0, 82, [], 0), (.aload_n 1, 83, [], 0), (.getfield 27, 84, [3, 4], 0), (.putfield 27, 87, [3, 4], 0), (.aload_n 0, 90, [], 0), (.aload_n 1, 91, [], 0), (.getfield 31, 92, [3, 5], 0), (.putfield 31, 95, [3, 5], 0), (.aload_n 0, 98, [], 0), (.aload_n 1, 99, [], 0), (.getfield 34, 100, [3, 6], 0), (.putfield 34, 103, [3, 6], 0), (.aload_n 0, 106, [], 0), (.aload_n 1, 107, [], 0), (.getfield 37, 108, [3, 7], 0), (.putfield 37, 111, [3, 7], 0), (.aload_n 0, 114, [], 0), (.aload_n 1, 115, [], 0), (.getfield 40, 116, [3, 8], 0), (.putfield 40, 119, [3, 8], 0), (.aload_n 0, 122, [], 0), (.aload_n 1, 123, [], 0), (.getfield 43, 124, [3, 9], 0), (.putfield 43, 127, [3, 9], 0), (.return_, 130, [], 0)], (0, 3, 1), (0, 0))
set_option maxRecDepth 100000 in
def mt_X3_find : mj_T := (yX3_find, cX3_find, 4, (some .int), [(.iconst 0, 0, [], 0), (.istore_n 3, 1, [], 0), (.iload_n 3, 2, [], 0), (.aload_n 0, 3, [], 0), (.getfield 27, 4, [3, 4], 0), (.if_icmp .ge 22, 7, [17], 0), (.aload_n 0, 10, [], 0), (.getfield 9, 11, [3, 0], 0), (.iload_n 3, 14, [], 0), (.laload, 15, [], 0), (.lload_n 1, 16, [], 0), (.lcmp, 17, [], 0), (.ifCond .ne 5, 18, [15], 0), (.iload_n 3, 21, [], 0), (.ireturn, 22, [], 0), (.iinc 3 1, 23, [], 0), (.goto (-24), 26, [2], 0), (.iconst (-1), 29, [], 0), (.ireturn, 30, [], 0)], (0, 3, 1), (0, 0))
set_option maxRecDepth 100000 in
def mt_X3_gain : mj_T := (yX3_gain, cX3_gain, 3, (some .int), [(.iconst 0, 0, [], 0), (.aload_n 0, 1, [], 0), (.getfield 23, 2, [3, 3], 0), (.iload_n 2, 5, [], 0), (.iaload, 6, [], 0), (.aload_n 0, 7, [], 0), (.getfield 17, 8, [3, 1], 0), (.iload_n 1, 11, [], 0), (.aaload, 12, [4], 0), (.iconst 0, 13, [], 0), (.iaload, 14, [], 0), (.isub, 15, [], 0), (.invokestatic 68, 16, [0], 0), (.ireturn, 19, [], 0)], (0, 3, 2), (0, 0))
set_option maxRecDepth 100000 in
def mt_X3_init : mj_T := (yX3_init, cX3_init, 1, none, [(.aload_n 0, 0, [], 0), (.invokespecial 3, 1, [], 0), (.aload_n 0, 4, [], 0), (.bipush 8, 5, [], 0), (.newarray .long, 7, [3], 0), (.putfield 9, 9, [3, 0], 0), (.aload_n 0, 12, [], 0), (.bipush 8, 13, [], 0), (.bipush 9, 15, [], 0), (.multianewarray 15 2, 17, [], 0), (.putfield 17, 21, [3, 1], 0), (.aload_n 0, 24, [], 0), (.bipush 8, 25, [], 0), (.bipush 12, 27, [], 0), (.multianewarray 15 2, 29, [], 0), (.putfield 20, 33, [3, 2], 0), (.aload_n 0, 36, [], 0), (.bipush 12, 37, [], 0), (.newarray .int, 39, [0], 0), (.putfield 23, 41, [3, 3], 0), (.aload_n 0, 44, [], 0), (.iconst 0, 45, [], 0), (.putfield 27, 46, [3, 4], 0), (.aload_n 0, 49, [], 0), (.iconst 0, 50, [], 0), (.putfield 31, 51, [3, 5], 0), (.aload_n 0, 54, [], 0), (.iconst 0, 55, [], 0), (.putfield 34, 56, [3, 6], 0), (.aload_n 0, 59, [], 0), (.iconst 0, 60, [], 0), (.putfield 37, 61, [3, 7], 0), (.aload_n 0, 64, [], 0), (.iconst 3, 65, [], 0), (.putfield 40, 66, [3, 8], 0), (.aload_n 0, 69, [], 0), (.iconst 0, 70, [], 0), (.putfield 43, 71, [3, 9], 0), (.aload_n 0, 74, [], 0), (.bipush 8, 75, [], 0), (.newarray .int, 77, [0], 0), (.putfield 46, 79, [3, 10], 0), (.aload_n 0, 82, [], 0), (.iconst 0, 83, [], 0), (.putfield 49, 84, [3, 11], 0), (.aload_n 0, 87, [], 0), (.iconst 0, 88, [], 0), (.putfield 52, 89, [3, 12], 0), (.aload_n 0, 92, [], 0), (.iconst 0, 93, [], 0), (.putfield 56, 94, [3, 13], 0), (.aload_n 0, 97, [], 0), (.iconst 0, 98, [], 0), (.putfield 59, 99, [3, 14], 0), (.return_, 102, [], 0)], (2, 3, 0), (21, 212))
set_option maxRecDepth 100000 in
def mt_X3_nextTown : mj_T := (yX3_nextTown, cX3_nextTown, 2, (some .int), [(.aload_n 1, 0, [], 0), (.invokevirtual 74, 1, [69, 0, 7], 0), (.aload_n 0, 4, [], 0), (.aload_n 1, 5, [], 0), (.invokevirtual 160, 6, [48, 1, 3], 0), (.ireturn, 9, [], 0)], (0, 3, 1), (0, 0))
set_option maxRecDepth 100000 in
def mt_X3_placeOf : mj_T := (yX3_placeOf, cX3_placeOf, 2, (some .int), [(.iload_n 1, 0, [], 0), (.bipush 8, 1, [], 0), (.if_icmp .ne 10, 3, [6], 0), (.aload_n 0, 6, [], 0), (.getfield 27, 7, [3, 4], 0), (.goto 4, 10, [7], 0), (.iload_n 1, 13, [], 0), (.ireturn, 14, [], 0)], (0, 3, 1), (0, 0))
set_option maxRecDepth 100000 in
def mt_X3_readAboutTown : mj_T := (yX3_readAboutTown, cX3_readAboutTown, 6, (some .boolean), [(.aload_n 0, 0, [], 0), (.aload_n 1, 1, [], 0), (.invokevirtual 164, 2, [36, 1, 3], 0), (.istore_n 3, 5, [], 0), (.iload_n 3, 6, [], 0), (.iconst (-1), 7, [], 0), (.if_icmp .ne 5, 8, [9], 0), (.iconst 0, 11, [], 0), (.ireturn, 12, [], 1), (.aload_n 0, 13, [], 0), (.getfield 46, 14, [3, 10], 0), (.iload_n 3, 17, [], 0), (.iaload, 18, [], 0), (.aload_n 2, 19, [], 0), (.getfield 171, 20, [], 0), (.ishr, 23, [], 0), (.iconst 1, 24, [], 0), (.iand, 25, [], 0), (.ifCond .eq 9, 26, [23], 0), (.aload_n 1, 29, [], 0), (.iconst 3, 30, [], 0), (.invokevirtual 98, 31, [83, 1, 7], 0), (.ireturn, 34, [], 1), (.aload_n 1, 35, [], 0), (.iconst 0, 36, [], 0), (.aload_n 2, 37, [], 0), (.getstatic 174, 38, [], 0), (.if_acmp .ne 9, 41, [30], 0), (.sipush 999, 44, [], 0), (.goto 5, 47, [31], 0), (.bipush 99, 50, [], 0), (.invokevirtual 157, 52, [77, 2, 7], 0), (.istore 4, 55, [], 0), (.iload 4, 57, [], 0), (.iconst (-1), 59, [], 0), (.if_icmp .ne 5, 60, [38], 0), (.iconst 0, 63, [], 0), (.ireturn, 64, [], 1), (.aload_n 2, 65, [], 0), (.getstatic 177, 66, [], 0), (.if_acmp .ne 31, 69, [58], 0), (.aload_n 1, 72, [], 0), (.iconst 0, 73, [], 0), (.bipush 99, 74, [], 0), (.invokevirtual 157, 76, [77, 2, 7], 0), (.istore 5, 79, [], 0), (.iload 5, 81, [], 0), (.iconst (-1), 83, [], 0), (.if_icmp .ne 5, 84, [51], 0), (.iconst 0, 87, [], 0), (.ireturn, 88, [], 1), (.aload_n 0, 89, [], 0), (.getfield 17, 90, [3, 1], 0), (.iload_n 3, 93, [], 0), (.aaload, 94, [4], 0), (.bipush 8, 95, [], 0), (.iload 5, 97, [], 0), (.iastore, 99, [], 0), (.aload_n 0, 100, [], 0), (.getfield 46, 101, [3, 10], 0), (.iload_n 3, 104, [], 0), (.dup2, 105, [], 0), (.iaload, 106, [], 0), (.iconst 1, 107, [], 0), (.aload_n 2, 108, [], 0), (.getfield 171, 109, [], 0), (.ishl, 112, [], 0), (.ior, 113, [], 0), (.iastore, 114, [], 0), (.aload_n 0, 115, [], 0), (.getfield 17, 116, [3, 1], 0), (.iload_n 3, 119, [], 0), (.aaload, 120, [4], 0), (.aload_n 2, 121, [], 0), (.getfield 171, 122, [], 0), (.iload 4, 125, [], 0), (.iastore, 127, [], 0), (.iconst 1, 128, [], 0), (.ireturn, 129, [], 1)], (0, 3, 2), (0, 0))
set_option maxRecDepth 100000 in
def mt_X3_readBid : mj_T := (yX3_readBid, cX3_readBid, 5, (some .boolean), [(.aload_n 0, 0, [], 0), (.getfield 31, 1, [3, 5], 0), (.bipush 40, 4, [], 0), (.if_icmp .lt 9, 6, [8], 0), (.aload_n 1, 9, [], 0), (.iconst 4, 10, [], 0), (.invokevirtual 98, 11, [83, 1, 7], 0), (.ireturn, 14, [], 1), (.aload_n 0, 15, [], 0), (.aload_n 1, 16, [], 0), (.invokevirtual 164, 17, [36, 1, 3], 0), (.istore_n 2, 20, [], 0), (.iload_n 2, 21, [], 0), (.iconst (-1), 22, [], 0), (.if_icmp .ne 5, 23, [17], 0), (.iconst 0, 26, [], 0), (.ireturn, 27, [], 1), (.aload_n 1, 28, [], 0), (.iconst 0, 29, [], 0), (.bipush 11, 30, [], 0), (.invokevirtual 157, 32, [77, 2, 7], 0), (.istore_n 3, 35, [], 0), (.iload_n 3, 36, [], 0), (.iconst (-1), 37, [], 0), (.if_icmp .ne 5, 38, [27], 0), (.iconst 0, 41, [], 0), (.ireturn, 42, [], 1), (.aload_n 0, 43, [], 0), (.getfield 20, 44, [3, 2], 0), (.iload_n 2, 47, [], 0), (.aaload, 48, [4], 0), (.iload_n 3, 49, [], 0), (.iaload, 50, [], 0), (.ifCond .eq 9, 51, [38], 0), (.aload_n 1, 54, [], 0), (.iconst 3, 55, [], 0), (.invokevirtual 98, 56, [83, 1, 7], 0), (.ireturn, 59, [], 1), (.aload_n 1, 60, [], 0), (.iconst 1, 61, [], 0), (.sipush 999, 62, [], 0), (.invokevirtual 157, 65, [77, 2, 7], 0), (.istore 4, 68, [], 0), (.iload 4, 70, [], 0), (.iconst (-1), 72, [], 0), (.if_icmp .ne 5, 73, [48], 0), (.iconst 0, 76, [], 0), (.ireturn, 77, [], 1), (.aload_n 0, 78, [], 0), (.iload_n 2, 79, [], 0), (.iload_n 3, 80, [], 0), (.iload 4, 81, [], 0), (.invokevirtual 167, 83, [47, 3, 3], 0), (.iconst 1, 86, [], 0), (.ireturn, 87, [], 1)], (0, 3, 1), (0, 0))
set_option maxRecDepth 100000 in
def mt_X3_readFish : mj_T := (yX3_readFish, cX3_readFish, 2, (some .boolean), [(.aload_n 0, 0, [], 0), (.getfield 56, 1, [3, 13], 0), (.ifCond .eq 9, 4, [7], 0), (.aload_n 1, 7, [], 0), (.iconst 3, 8, [], 0), (.invokevirtual 98, 9, [83, 1, 7], 0), (.ireturn, 12, [], 1), (.aload_n 0, 13, [], 0), (.iconst 1, 14, [], 0), (.putfield 56, 15, [3, 13], 0), (.aload_n 0, 18, [], 0), (.aload_n 1, 19, [], 0), (.iconst 0, 20, [], 0), (.sipush 999, 21, [], 0), (.invokevirtual 157, 24, [77, 2, 7], 0), (.putfield 37, 27, [3, 7], 0), (.aload_n 0, 30, [], 0), (.getfield 37, 31, [3, 7], 0), (.iconst (-1), 34, [], 0), (.if_icmp .eq 7, 35, [22], 0), (.iconst 1, 38, [], 0), (.goto 4, 39, [23], 0), (.iconst 0, 42, [], 0), (.ireturn, 43, [], 1)], (0, 3, 1), (0, 0))
set_option maxRecDepth 100000 in
def mt_X3_readMove : mj_T := (yX3_readMove, cX3_readMove, 2, (some .boolean), [(.aload_n 0, 0, [], 0), (.getfield 52, 1, [3, 12], 0), (.ifCond .eq 9, 4, [7], 0), (.aload_n 1, 7, [], 0), (.iconst 3, 8, [], 0), (.invokevirtual 98, 9, [83, 1, 7], 0), (.ireturn, 12, [], 1), (.aload_n 0, 13, [], 0), (.iconst 1, 14, [], 0), (.putfield 52, 15, [3, 12], 0), (.aload_n 0, 18, [], 0), (.aload_n 1, 19, [], 0), (.iconst 0, 20, [], 0), (.bipush 99, 21, [], 0), (.invokevirtual 157, 23, [77, 2, 7], 0), (.putfield 34, 26, [3, 6], 0), (.aload_n 0, 29, [], 0), (.getfield 34, 30, [3, 6], 0), (.iconst (-1), 33, [], 0), (.if_icmp .eq 7, 34, [22], 0), (.iconst 1, 37, [], 0), (.goto 4, 38, [23], 0), (.iconst 0, 41, [], 0), (.ireturn, 42, [], 1)], (0, 3, 1), (0, 0))
set_option maxRecDepth 100000 in
def mt_X3_readPatience : mj_T := (yX3_readPatience, cX3_readPatience, 2, (some .boolean), [(.aload_n 0, 0, [], 0), (.getfield 59, 1, [3, 14], 0), (.ifCond .eq 9, 4, [7], 0), (.aload_n 1, 7, [], 0), (.iconst 3, 8, [], 0), (.invokevirtual 98, 9, [83, 1, 7], 0), (.ireturn, 12, [], 1), (.aload_n 0, 13, [], 0), (.iconst 1, 14, [], 0), (.putfield 59, 15, [3, 14], 0), (.aload_n 0, 18, [], 0), (.aload_n 1, 19, [], 0), (.iconst 1, 20, [], 0), (.bipush 12, 21, [], 0), (.invokevirtual 157, 23, [77, 2, 7], 0), (.putfield 40, 26, [3, 8], 0), (.aload_n 0, 29, [], 0), (.getfield 40, 30, [3, 8], 0), (.iconst (-1), 33, [], 0), (.if_icmp .eq 7, 34, [22], 0), (.iconst 1, 37, [], 0), (.goto 4, 38, [23], 0), (.iconst 0, 41, [], 0), (.ireturn, 42, [], 1)], (0, 3, 1), (0, 0))
set_option maxRecDepth 100000 in
def mt_X3_readRow : mj_T := (yX3_readRow, cX3_readRow, 3, (some .boolean), [(.aload_n 1, 0, [], 0), (.getfield 94, 1, [7, 9], 0), (.astore_n 2, 4, [], 0), (.aload_n 2, 5, [], 0), (.ifnonnull 9, 6, [9], 0), (.aload_n 1, 9, [], 0), (.iconst 1, 10, [], 0), (.invokevirtual 98, 11, [83, 1, 7], 0), (.ireturn, 14, [], 1), (.aload_n 2, 15, [], 0), (.getstatic 101, 16, [], 0), (.if_acmp .ne 9, 19, [16], 0), (.aload_n 0, 22, [], 0), (.aload_n 1, 23, [], 0), (.invokevirtual 106, 24, [45, 1, 3], 0), (.ireturn, 27, [], 1), (.aload_n 2, 28, [], 0), (.getstatic 109, 29, [], 0), (.if_acmp .ne 9, 32, [23], 0), (.aload_n 0, 35, [], 0), (.aload_n 1, 36, [], 0), (.invokevirtual 112, 37, [46, 1, 3], 0), (.ireturn, 40, [], 1), (.aload_n 2, 41, [], 0), (.getstatic 115, 42, [], 0), (.if_acmp .ne 9, 45, [30], 0), (.aload_n 0, 48, [], 0), (.aload_n 1, 49, [], 0), (.invokevirtual 118, 50, [39, 1, 3], 0), (.ireturn, 53, [], 1), (.aload_n 2, 54, [], 0), (.invokevirtual 121, 55, [], 0), (.ifCond .eq 10, 58, [38], 0), (.aload_n 0, 61, [], 0), (.aload_n 1, 62, [], 0), (.aload_n 2, 63, [], 0), (.invokevirtual 124, 64, [38, 2, 3], 0), (.ireturn, 67, [], 1), (.aload_n 2, 68, [], 0), (.getstatic 128, 69, [], 0), (.if_acmp .ne 9, 72, [45], 0), (.aload_n 0, 75, [], 0), (.aload_n 1, 76, [], 0), (.invokevirtual 131, 77, [41, 1, 3], 0), (.ireturn, 80, [], 1), (.aload_n 2, 81, [], 0), (.getstatic 134, 82, [], 0), (.if_acmp .ne 9, 85, [52], 0), (.aload_n 0, 88, [], 0), (.aload_n 1, 89, [], 0), (.invokevirtual 137, 90, [40, 1, 3], 0), (.ireturn, 93, [], 1), (.aload_n 2, 94, [], 0), (.getstatic 140, 95, [], 0), (.if_acmp .ne 9, 98, [59], 0), (.aload_n 0, 101, [], 0), (.aload_n 1, 102, [], 0), (.invokevirtual 143, 103, [42, 1, 3], 0), (.ireturn, 106, [], 1), (.aload_n 1, 107, [], 0), (.iconst 1, 108, [], 0), (.invokevirtual 98, 109, [83, 1, 7], 0), (.ireturn, 112, [], 1)], (0, 3, 1), (0, 0))
set_option maxRecDepth 100000 in
def mt_X3_readRows : mj_T := (yX3_readRows, cX3_readRows, 3, (some .int), [(.iconst 0, 0, [], 0), (.istore_n 2, 1, [], 0), (.aload_n 1, 2, [], 0), (.invokevirtual 74, 3, [69, 0, 7], 0), (.aload_n 1, 6, [], 0), (.getfield 79, 7, [7, 4], 0), (.ifCond .eq 39, 10, [24], 0), (.iload_n 2, 13, [], 0), (.sipush 940, 14, [], 0), (.if_icmp .ge 32, 17, [24], 0), (.aload_n 0, 20, [], 0), (.aload_n 1, 21, [], 0), (.invokevirtual 82, 22, [43, 1, 3], 0), (.ifCond .eq 12, 25, [18], 0), (.aload_n 1, 28, [], 0), (.bipush 59, 29, [], 0), (.invokevirtual 86, 31, [78, 1, 7], 0), (.ifCond .ne 5, 34, [20], 0), (.iload_n 2, 37, [], 0), (.ireturn, 38, [], 0), (.iinc 2 1, 39, [], 0), (.aload_n 1, 42, [], 0), (.invokevirtual 74, 43, [69, 0, 7], 0), (.goto (-40), 46, [4], 0), (.aload_n 1, 49, [], 0), (.invokevirtual 90, 50, [70, 0, 7], 0), (.pop, 53, [], 0), (.iload_n 2, 54, [], 0), (.ireturn, 55, [], 0)], (0, 3, 1), (0, 0))
set_option maxRecDepth 100000 in
def mt_X3_readTown : mj_T := (yX3_readTown, cX3_readTown, 5, (some .boolean), [(.aload_n 0, 0, [], 0), (.getfield 27, 1, [3, 4], 0), (.bipush 8, 4, [], 0), (.if_icmp .lt 9, 6, [8], 0), (.aload_n 1, 9, [], 0), (.iconst 4, 10, [], 0), (.invokevirtual 98, 11, [83, 1, 7], 0), (.ireturn, 14, [], 1), (.aload_n 1, 15, [], 0), (.invokevirtual 74, 16, [69, 0, 7], 0), (.aload_n 1, 19, [], 0), (.invokevirtual 146, 20, [76, 0, 7], 0), (.ifCond .ne 5, 23, [15], 0), (.iconst 0, 26, [], 0), (.ireturn, 27, [], 1), (.aload_n 0, 28, [], 0), (.aload_n 1, 29, [], 0), (.getfield 149, 30, [7, 8], 0), (.invokevirtual 153, 33, [33, 1, 3], 0), (.iconst (-1), 36, [], 0), (.if_icmp .eq 9, 37, [25], 0), (.aload_n 1, 40, [], 0), (.iconst 3, 41, [], 0), (.invokevirtual 98, 42, [83, 1, 7], 0), (.ireturn, 45, [], 1), (.aload_n 0, 46, [], 0), (.getfield 9, 47, [3, 0], 0), (.aload_n 0, 50, [], 0), (.getfield 27, 51, [3, 4], 0), (.aload_n 1, 54, [], 0), (.getfield 149, 55, [7, 8], 0), (.lastore, 58, [], 0), (.iconst 0, 59, [], 0), (.istore_n 2, 60, [], 0), (.iload_n 2, 61, [], 0), (.iconst 3, 62, [], 0), (.if_icmp .gt 65, 63, [71], 0), (.iload_n 2, 66, [], 0), (.iconst 1, 67, [], 0), (.if_icmp .eq 8, 68, [43], 0), (.iload_n 2, 71, [], 0), (.iconst 3, 72, [], 0), (.if_icmp .ne 7, 73, [45], 0), (.iconst 1, 76, [], 0), (.goto 4, 77, [46], 0), (.iconst 0, 80, [], 0), (.istore_n 3, 81, [], 0), (.aload_n 1, 82, [], 0), (.iconst 0, 83, [], 0), (.iload_n 3, 84, [], 0), (.ifCond .eq 9, 85, [53], 0), (.sipush 999, 88, [], 0), (.goto 5, 91, [54], 0), (.bipush 99, 94, [], 0), (.invokevirtual 157, 96, [77, 2, 7], 0), (.istore 4, 99, [], 0), (.iload 4, 101, [], 0), (.iconst (-1), 103, [], 0), (.if_icmp .ne 5, 104, [61], 0), (.iconst 0, 107, [], 0), (.ireturn, 108, [], 1), (.aload_n 0, 109, [], 0), (.getfield 17, 110, [3, 1], 0), (.aload_n 0, 113, [], 0), (.getfield 27, 114, [3, 4], 0), (.aaload, 117, [4], 0), (.iload_n 2, 118, [], 0), (.iload 4, 119, [], 0), (.iastore, 121, [], 0), (.iinc 2 1, 122, [], 0), (.goto (-64), 125, [34], 0), (.aload_n 0, 128, [], 0), (.dup, 129, [], 0), (.getfield 27, 130, [3, 4], 0), (.iconst 1, 133, [], 0), (.iadd, 134, [], 0), (.putfield 27, 135, [3, 4], 0), (.iconst 1, 138, [], 0), (.ireturn, 139, [], 1)], (0, 3, 1), (0, 0))
set_option maxRecDepth 100000 in
def mt_X3_readWater : mj_T := (yX3_readWater, cX3_readWater, 4, (some .boolean), [(.aload_n 1, 0, [], 0), (.iconst 0, 1, [], 0), (.bipush 11, 2, [], 0), (.invokevirtual 157, 4, [77, 2, 7], 0), (.istore_n 2, 7, [], 0), (.iload_n 2, 8, [], 0), (.iconst (-1), 9, [], 0), (.if_icmp .ne 5, 10, [10], 0), (.iconst 0, 13, [], 0), (.ireturn, 14, [], 1), (.aload_n 0, 15, [], 0), (.getfield 49, 16, [3, 11], 0), (.iload_n 2, 19, [], 0), (.ishr, 20, [], 0), (.iconst 1, 21, [], 0), (.iand, 22, [], 0), (.ifCond .eq 9, 23, [21], 0), (.aload_n 1, 26, [], 0), (.iconst 3, 27, [], 0), (.invokevirtual 98, 28, [83, 1, 7], 0), (.ireturn, 31, [], 1), (.aload_n 1, 32, [], 0), (.iconst 0, 33, [], 0), (.sipush 999, 34, [], 0), (.invokevirtual 157, 37, [77, 2, 7], 0), (.istore_n 3, 40, [], 0), (.iload_n 3, 41, [], 0), (.iconst (-1), 42, [], 0), (.if_icmp .ne 5, 43, [31], 0), (.iconst 0, 46, [], 0), (.ireturn, 47, [], 1), (.aload_n 0, 48, [], 0), (.dup, 49, [], 0), (.getfield 49, 50, [3, 11], 0), (.iconst 1, 53, [], 0), (.iload_n 2, 54, [], 0), (.ishl, 55, [], 0), (.ior, 56, [], 0), (.putfield 49, 57, [3, 11], 0), (.aload_n 0, 60, [], 0), (.getfield 23, 61, [3, 3], 0), (.iload_n 2, 64, [], 0), (.iload_n 3, 65, [], 0), (.iastore, 66, [], 0), (.iconst 1, 67, [], 0), (.ireturn, 68, [], 1)], (0, 3, 1), (0, 0))
set_option maxRecDepth 100000 in
def mt_X3_setBid : mj_T := (yX3_setBid, cX3_setBid, 4, none, [(.aload_n 0, 0, [], 0), (.getfield 20, 1, [3, 2], 0), (.iload_n 1, 4, [], 0), (.aaload, 5, [4], 0), (.iload_n 2, 6, [], 0), (.iaload, 7, [], 0), (.ifCond .le 13, 8, [13], 0), (.aload_n 0, 11, [], 0), (.dup, 12, [], 0), (.getfield 31, 13, [3, 5], 0), (.iconst 1, 16, [], 0), (.isub, 17, [], 0), (.putfield 31, 18, [3, 5], 0), (.iload_n 3, 21, [], 0), (.ifCond .le 13, 22, [21], 0), (.aload_n 0, 25, [], 0), (.dup, 26, [], 0), (.getfield 31, 27, [3, 5], 0), (.iconst 1, 30, [], 0), (.iadd, 31, [], 0), (.putfield 31, 32, [3, 5], 0), (.aload_n 0, 35, [], 0), (.getfield 20, 36, [3, 2], 0), (.iload_n 1, 39, [], 0), (.aaload, 40, [4], 0), (.iload_n 2, 41, [], 0), (.iload_n 3, 42, [], 0), (.iastore, 43, [], 0), (.return_, 44, [], 0)], (0, 3, 3), (0, 0))
set_option maxRecDepth 100000 in
def mt_X3_townHere : mj_T := (yX3_townHere, cX3_townHere, 3, (some .int), [(.aload_n 1, 0, [], 0), (.invokevirtual 146, 1, [76, 0, 7], 0), (.ifCond .ne 5, 4, [5], 0), (.iconst (-1), 7, [], 0), (.ireturn, 8, [], 0), (.aload_n 0, 9, [], 0), (.aload_n 1, 10, [], 0), (.getfield 149, 11, [7, 8], 0), (.invokevirtual 153, 14, [33, 1, 3], 0), (.istore_n 2, 17, [], 0), (.iload_n 2, 18, [], 0), (.iconst (-1), 19, [], 0), (.if_icmp .ne 9, 20, [17], 0), (.aload_n 1, 23, [], 0), (.iconst 3, 24, [], 0), (.invokevirtual 98, 25, [83, 1, 7], 0), (.pop, 28, [], 0), (.iload_n 2, 29, [], 0), (.ireturn, 30, [], 0)], (0, 3, 1), (0, 0))
set_option maxRecDepth 100000 in
def mt_X4_clear : mj_T := (yX4_clear, cX4_clear, 2, none, [(.aload_n 0, 0, [], 0), (.iconst 1, 1, [], 0), (.putfield 9, 2, [4, 0], 0), (.iconst 0, 5, [], 0), (.istore_n 1, 6, [], 0), (.iload_n 1, 7, [], 0), (.bipush 8, 8, [], 0), (.if_icmp .ge 16, 10, [15], 0), (.aload_n 0, 13, [], 0), (.getfield 15, 14, [4, 1], 0), (.iload_n 1, 17, [], 0), (.iconst (-1), 18, [], 0), (.iastore, 19, [], 0), (.iinc 1 1, 20, [], 0), (.goto (-16), 23, [5], 0), (.iconst 0, 26, [], 0), (.istore_n 1, 27, [], 0), (.iload_n 1, 28, [], 0), (.bipush 12, 29, [], 0), (.if_icmp .ge 23, 31, [32], 0), (.aload_n 0, 34, [], 0), (.getfield 19, 35, [4, 2], 0), (.iload_n 1, 38, [], 0), (.iconst 0, 39, [], 0), (.iastore, 40, [], 0), (.aload_n 0, 41, [], 0), (.getfield 22, 42, [4, 3], 0), (.iload_n 1, 45, [], 0), (.iconst (-1), 46, [], 0), (.iastore, 47, [], 0), (.iinc 1 1, 48, [], 0), (.goto (-23), 51, [17], 0), (.return_, 54, [], 0)], (0, 4, 0), (0, 0))
set_option maxRecDepth 100000 in
def mt_X4_init : mj_T := (yX4_init, cX4_init, 1, none, [(.aload_n 0, 0, [], 0), (.invokespecial 3, 1, [], 0), (.aload_n 0, 4, [], 0), (.iconst 0, 5, [], 0), (.putfield 9, 6, [4, 0], 0), (.aload_n 0, 9, [], 0), (.bipush 8, 10, [], 0), (.newarray .int, 12, [0], 0), (.putfield 15, 14, [4, 1], 0), (.aload_n 0, 17, [], 0), (.bipush 12, 18, [], 0), (.newarray .int, 20, [0], 0), (.putfield 19, 22, [4, 2], 0), (.aload_n 0, 25, [], 0), (.bipush 12, 26, [], 0), (.newarray .int, 28, [0], 0), (.putfield 22, 30, [4, 3], 0), (.return_, 33, [], 0)], (2, 4, 0), (3, 32))
set_option maxRecDepth 100000 in
def mt_X4_priceNow : mj_T := (yX4_priceNow, cX4_priceNow, 3, (some .int), [(.aload_n 0, 0, [], 0), (.getfield 22, 1, [4, 3], 0), (.iload_n 1, 4, [], 0), (.iaload, 5, [], 0), (.iconst (-1), 6, [], 0), (.if_icmp .ne 12, 7, [11], 0), (.aload_n 0, 10, [], 0), (.getfield 19, 11, [4, 2], 0), (.iload_n 1, 14, [], 0), (.iaload, 15, [], 0), (.goto 11, 16, [17], 0), (.aload_n 0, 19, [], 0), (.getfield 19, 20, [4, 2], 0), (.iload_n 1, 23, [], 0), (.iaload, 24, [], 0), (.iload_n 2, 25, [], 0), (.iadd, 26, [], 0), (.ireturn, 27, [], 0)], (0, 4, 2), (0, 0))
set_option maxRecDepth 100000 in
def mt_X4_run : mj_T := (yX4_run, cX4_run, 6, (some .int), [(.aload_n 0, 0, [], 0), (.invokevirtual 25, 1, [49, 0, 4], 0), (.iconst 1, 4, [], 0), (.istore_n 3, 5, [], 0), (.iload_n 3, 6, [], 0), (.sipush 1000, 7, [], 0), (.if_icmp .gt 62, 10, [37], 0), (.iconst 0, 13, [], 0), (.istore 4, 14, [], 0), (.iconst 0, 16, [], 0), (.istore 5, 17, [], 0), (.iload 5, 19, [], 0), (.aload_n 1, 21, [], 0), (.getfield 28, 22, [3, 4], 0), (.if_icmp .ge 34, 25, [31], 0), (.aload_n 0, 28, [], 0), (.getfield 15, 29, [4, 1], 0), (.iload 5, 32, [], 0), (.iaload, 34, [], 0), (.iconst (-1), 35, [], 0), (.if_icmp .ne 17, 36, [29], 0), (.aload_n 0, 39, [], 0), (.aload_n 1, 40, [], 0), (.iload 5, 41, [], 0), (.iload_n 2, 43, [], 0), (.invokevirtual 34, 44, [53, 3, 4], 0), (.ifCond .eq 6, 47, [29], 0), (.iconst 1, 50, [], 0), (.istore 4, 51, [], 0), (.iinc 5 1, 53, [], 0), (.goto (-37), 56, [11], 0), (.iload 4, 59, [], 0), (.ifCond .ne 5, 61, [35], 0), (.iload_n 3, 64, [], 0), (.ireturn, 65, [], 0), (.iinc 3 1, 66, [], 0), (.goto (-63), 69, [4], 0), (.sipush 1000, 72, [], 0), (.ireturn, 75, [], 0)], (0, 4, 2), (0, 0))
set_option maxRecDepth 100000 in
def mt_X4_takeBest : mj_T := (yX4_takeBest, cX4_takeBest, 8, (some .boolean), [(.iconst (-1), 0, [], 0), (.istore 4, 1, [], 0), (.iconst 0, 3, [], 0), (.istore 5, 4, [], 0), (.iconst 0, 6, [], 0), (.istore 6, 7, [], 0), (.iload 6, 9, [], 0), (.bipush 12, 11, [], 0), (.if_icmp .ge 43, 13, [30], 0), (.aload_n 1, 16, [], 0), (.getfield 38, 17, [3, 2], 0), (.iload_n 2, 20, [], 0), (.aaload, 21, [4], 0), (.iload 6, 22, [], 0), (.iaload, 24, [], 0), (.aload_n 0, 25, [], 0), (.iload 6, 26, [], 0), (.iload_n 3, 28, [], 0), (.invokevirtual 42, 29, [51, 2, 4], 0), (.isub, 32, [], 0), (.istore 7, 33, [], 0), (.iload 7, 35, [], 0), (.iload 5, 37, [], 0), (.if_icmp .le 11, 39, [28], 0), (.iload 7, 42, [], 0), (.istore 5, 44, [], 0), (.iload 6, 46, [], 0), (.istore 4, 48, [], 0), (.iinc 6 1, 50, [], 0), (.goto (-44), 53, [6], 0), (.iload 4, 56, [], 0), (.iconst (-1), 58, [], 0), (.if_icmp .ne 5, 59, [35], 0), (.iconst 0, 62, [], 0), (.ireturn, 63, [], 1), (.aload_n 0, 64, [], 0), (.getfield 19, 65, [4, 2], 0), (.iload 4, 68, [], 0), (.aload_n 0, 70, [], 0), (.iload 4, 71, [], 0), (.iload_n 3, 73, [], 0), (.invokevirtual 42, 74, [51, 2, 4], 0), (.iastore, 77, [], 0), (.aload_n 0, 78, [], 0), (.getfield 22, 79, [4, 3], 0), (.iload 4, 82, [], 0), (.iaload, 84, [], 0), (.iconst (-1), 85, [], 0), (.if_icmp .eq 16, 86, [57], 0), (.aload_n 0, 89, [], 0), (.getfield 15, 90, [4, 1], 0), (.aload_n 0, 93, [], 0), (.getfield 22, 94, [4, 3], 0), (.iload 4, 97, [], 0), (.iaload, 99, [], 0), (.iconst (-1), 100, [], 0), (.iastore, 101, [], 0), (.aload_n 0, 102, [], 0), (.getfield 22, 103, [4, 3], 0), (.iload 4, 106, [], 0), (.iload_n 2, 108, [], 0), (.iastore, 109, [], 0), (.aload_n 0, 110, [], 0), (.getfield 15, 111, [4, 1], 0), (.iload_n 2, 114, [], 0), (.iload 4, 115, [], 0), (.iastore, 117, [], 0), (.iconst 1, 118, [], 0), (.ireturn, 119, [], 1)], (0, 4, 3), (0, 0))
set_option maxRecDepth 100000 in
def mt_X5_add : mj_T := (yX5_add, cX5_add, 4, (some .boolean), [(.aload_n 0, 0, [], 0), (.getfield 28, 1, [5, 4], 0), (.bipush 40, 4, [], 0), (.if_icmp .ge 43, 6, [28], 0), (.aload_n 0, 9, [], 0), (.getfield 13, 10, [5, 0], 0), (.aload_n 0, 13, [], 0), (.getfield 28, 14, [5, 4], 0), (.aload_n 1, 17, [], 0), (.aastore, 18, [5], 0), (.aload_n 0, 19, [], 0), (.getfield 17, 20, [5, 1], 0), (.aload_n 0, 23, [], 0), (.getfield 28, 24, [5, 4], 0), (.iload_n 2, 27, [], 0), (.iastore, 28, [], 0), (.aload_n 0, 29, [], 0), (.getfield 21, 30, [5, 2], 0), (.aload_n 0, 33, [], 0), (.getfield 28, 34, [5, 4], 0), (.iload_n 3, 37, [], 0), (.iastore, 38, [], 0), (.aload_n 0, 39, [], 0), (.dup, 40, [], 0), (.getfield 28, 41, [5, 4], 0), (.iconst 1, 44, [], 0), (.iadd, 45, [], 0), (.putfield 28, 46, [5, 4], 0), (.iconst 1, 49, [], 0), (.ireturn, 50, [], 1)], (0, 5, 3), (0, 0))
set_option maxRecDepth 100000 in
def mt_X5_begins : mj_T := (yX5_begins, cX5_begins, 1, (some .boolean), [(.aload_n 0, 0, [], 0), (.ifnull 35, 1, [16], 0), (.aload_n 0, 4, [], 0), (.getstatic 83, 5, [], 0), (.if_acmp .eq 24, 8, [14], 0), (.aload_n 0, 11, [], 0), (.getstatic 86, 12, [], 0), (.if_acmp .eq 17, 15, [14], 0), (.aload_n 0, 18, [], 0), (.getstatic 89, 19, [], 0), (.if_acmp .eq 10, 22, [14], 0), (.aload_n 0, 25, [], 0), (.invokevirtual 96, 26, [], 0), (.ifCond .eq 7, 29, [16], 0), (.iconst 1, 32, [], 0), (.goto 4, 33, [17], 0), (.iconst 0, 36, [], 0), (.ireturn, 37, [], 1)], (1, 5, 1), (0, 0))
set_option maxRecDepth 100000 in
def mt_X5_clear : mj_T := (yX5_clear, cX5_clear, 1, none, [(.aload_n 0, 0, [], 0), (.iconst 0, 1, [], 0), (.putfield 28, 2, [5, 4], 0), (.aload_n 0, 5, [], 0), (.iconst 0, 6, [], 0), (.putfield 32, 7, [5, 5], 0), (.return_, 10, [], 0)], (0, 5, 0), (0, 0))
set_option maxRecDepth 100000 in
def mt_X5_copy : mj_T := (yX5_copy, cX5_copy, 3, none, [(.iconst 0, 0, [], 0), (.istore_n 2, 1, [], 0), (.iload_n 2, 2, [], 0), (.bipush 40, 3, [], 0), (.if_icmp .ge 45, 5, [31], 0), (.aload_n 0, 8, [], 0), (.getfield 13, 9, [5, 0], 0), (.iload_n 2, 12, [], 0), (.aload_n 1, 13, [], 0), (.getfield 13, 14, [5, 0], 0), (.iload_n 2, 17, [], 0), (.aaload, 18, [5], 0), (.aastore, 19, [5], 0), (.aload_n 0, 20, [], 0), (.getfield 17, 21, [5, 1], 0), (.iload_n 2, 24, [], 0), (.aload_n 1, 25, [], 0), (.getfield 17, 26, [5, 1], 0), (.iload_n 2, 29, [], 0), (.iaload, 30, [], 0), (.iastore, 31, [], 0), (.aload_n 0, 32, [], 0), (.getfield 21, 33, [5, 2], 0), (.iload_n 2, 36, [], 0), (.aload_n 1, 37, [], 0), (.getfield 21, 38, [5, 2], 0), (.iload_n 2, 41, [], 0), (.iaload, 42, [], 0), (.iastore, 43, [], 0), (.iinc 2 1, 44, [], 0), (.goto (-45), 47, [2], 0), (.aload_n 0, 50, [], 0), (.aload_n 1, 51, [], 0), (.getfield 28, 52, [5, 4], 0), (.putfield 28, 55, [5, 4], 0), (.aload_n 0, 58, [], 0), (.aload_n 1, 59, [], 0), (.getfield 32, 60, [5, 5], 0), (.putfield 32, 63, [5, 5], 0), (.return_, 66, [], 0)], (0, 5, 1), (0, 0))
set_option maxRecDepth 100000 in
def mt_X5_holds : mj_T := (yX5_holds, cX5_holds, 7, (some .boolean), [(.iconst 0, 0, [], 0), (.istore 4, 1, [], 0), (.iconst 0, 3, [], 0), (.istore 5, 4, [], 0), (.iload 5, 6, [], 0), (.aload_n 0, 8, [], 0), (.getfield 28, 9, [5, 4], 0), (.if_icmp .ge 206, 12, [113], 0), (.iload 5, 15, [], 0), (.bipush 40, 17, [], 0), (.if_icmp .ge 199, 19, [113], 0), (.aload_n 0, 22, [], 0), (.getfield 13, 23, [5, 0], 0), (.iload 5, 26, [], 0), (.aaload, 28, [5], 0), (.astore 6, 29, [], 0), (.aload 6, 31, [], 0), (.getstatic 83, 33, [], 0), (.if_acmp .ne 38, 36, [39], 0), (.iload 4, 39, [], 0), (.iconst 1, 41, [], 0), (.if_icmp .lt 32, 42, [39], 0), (.aload_n 0, 45, [], 0), (.getfield 24, 46, [5, 3], 0), (.iload 4, 49, [], 0), (.iconst 1, 51, [], 0), (.isub, 52, [], 0), (.aload_n 0, 53, [], 0), (.getfield 24, 54, [5, 3], 0), (.iload 4, 57, [], 0), (.iconst 1, 59, [], 0), (.isub, 60, [], 0), (.baload, 61, [], 0), (.ifCond .ne 7, 62, [36], 0), (.iconst 1, 65, [], 0), (.goto 4, 66, [37], 0), (.iconst 0, 69, [], 0), (.bastore, 70, [], 0), (.goto 141, 71, [111], 0), (.aload 6, 74, [], 0), (.getstatic 65, 76, [], 0), (.if_acmp .ne 51, 79, [68], 0), (.iload 4, 82, [], 0), (.iconst 2, 84, [], 0), (.if_icmp .lt 45, 85, [68], 0), (.iinc 4 (-1), 88, [], 0), (.aload_n 0, 91, [], 0), (.getfield 24, 92, [5, 3], 0), (.iload 4, 95, [], 0), (.iconst 1, 97, [], 0), (.isub, 98, [], 0), (.aload_n 0, 99, [], 0), (.getfield 24, 100, [5, 3], 0), (.iload 4, 103, [], 0), (.iconst 1, 105, [], 0), (.isub, 106, [], 0), (.baload, 107, [], 0), (.ifCond .eq 17, 108, [65], 0), (.aload_n 0, 111, [], 0), (.getfield 24, 112, [5, 3], 0), (.iload 4, 115, [], 0), (.baload, 117, [], 0), (.ifCond .eq 7, 118, [65], 0), (.iconst 1, 121, [], 0), (.goto 4, 122, [66], 0), (.iconst 0, 125, [], 0), (.bastore, 126, [], 0), (.goto 85, 127, [111], 0), (.aload 6, 130, [], 0), (.getstatic 55, 132, [], 0), (.if_acmp .ne 51, 135, [97], 0), (.iload 4, 138, [], 0), (.iconst 2, 140, [], 0), (.if_icmp .lt 45, 141, [97], 0), (.iinc 4 (-1), 144, [], 0), (.aload_n 0, 147, [], 0), (.getfield 24, 148, [5, 3], 0), (.iload 4, 151, [], 0), (.iconst 1, 153, [], 0), (.isub, 154, [], 0), (.aload_n 0, 155, [], 0), (.getfield 24, 156, [5, 3], 0), (.iload 4, 159, [], 0), (.iconst 1, 161, [], 0), (.isub, 162, [], 0), (.baload, 163, [], 0), (.ifCond .ne 13, 164, [92], 0), (.aload_n 0, 167, [], 0), (.getfield 24, 168, [5, 3], 0), (.iload 4, 171, [], 0), (.baload, 173, [], 0), (.ifCond .eq 7, 174, [94], 0), (.iconst 1, 177, [], 0), (.goto 4, 178, [95], 0), (.iconst 0, 181, [], 0), (.bastore, 182, [], 0), (.goto 29, 183, [111], 0), (.iload 4, 186, [], 0), (.bipush 40, 188, [], 0), (.if_icmp .ge 22, 190, [111], 0), (.aload_n 0, 193, [], 0), (.getfield 24, 194, [5, 3], 0), (.iload 4, 197, [], 0), (.aload_n 0, 199, [], 0), (.aload_n 1, 200, [], 0), (.aload_n 2, 201, [], 0), (.iload_n 3, 202, [], 0), (.iload 5, 203, [], 0), (.invokevirtual 106, 205, [59, 4, 5], 0), (.bastore, 208, [], 0), (.iinc 4 1, 209, [], 0), (.iinc 5 1, 212, [], 0), (.goto (-209), 215, [4], 0), (.iload 4, 218, [], 0), (.ifCond .le 19, 220, [124], 0), (.aload_n 0, 223, [], 0), (.getfield 24, 224, [5, 3], 0), (.iload 4, 227, [], 0), (.iconst 1, 229, [], 0), (.isub, 230, [], 0), (.baload, 231, [], 0), (.ifCond .eq 7, 232, [124], 0), (.iconst 1, 235, [], 0), (.goto 4, 236, [125], 0), (.iconst 0, 239, [], 0), (.ireturn, 240, [], 1)], (0, 5, 3), (0, 0))
set_option maxRecDepth 100000 in
def mt_X5_holdsOne : mj_T := (yX5_holdsOne, cX5_holdsOne, 8, (some .boolean), [(.aload_n 0, 0, [], 0), (.getfield 13, 1, [5, 0], 0), (.iload 4, 4, [], 0), (.aaload, 6, [5], 0), (.astore 5, 7, [], 0), (.aload 5, 9, [], 0), (.ifnonnull 5, 11, [9], 0), (.iconst 0, 14, [], 0), (.ireturn, 15, [], 1), (.aload 5, 16, [], 0), (.getstatic 86, 18, [], 0), (.if_acmp .ne 21, 21, [24], 0), (.aload_n 2, 24, [], 0), (.getfield 110, 25, [9, 6], 0), (.iload_n 3, 28, [], 0), (.aaload, 29, [4], 0), (.iconst 3, 30, [], 0), (.iaload, 31, [], 0), (.iconst 1, 32, [], 0), (.if_icmp .ne 7, 33, [22], 0), (.iconst 1, 36, [], 0), (.goto 4, 37, [23], 0), (.iconst 0, 40, [], 0), (.ireturn, 41, [], 1), (.aload 5, 42, [], 0), (.getstatic 89, 44, [], 0), (.if_acmp .ne 10, 47, [32], 0), (.aload_n 2, 50, [], 0), (.aload_n 1, 51, [], 0), (.iload_n 3, 52, [], 0), (.invokevirtual 116, 53, [97, 2, 9], 0), (.ireturn, 56, [], 1), (.aload 5, 57, [], 0), (.getfield 120, 59, [], 0), (.ifCond .lt 17, 62, [41], 0), (.aload 5, 65, [], 0), (.getfield 120, 67, [], 0), (.bipush 11, 70, [], 0), (.if_icmp .ge 7, 72, [41], 0), (.iconst 1, 75, [], 0), (.goto 4, 76, [42], 0), (.iconst 0, 79, [], 0), (.istore 6, 80, [], 0), (.iload 6, 82, [], 0), (.ifCond .eq 18, 84, [53], 0), (.aload_n 2, 87, [], 0), (.getfield 110, 88, [9, 6], 0), (.iload_n 3, 91, [], 0), (.aaload, 92, [4], 0), (.aload 5, 93, [], 0), (.getfield 120, 95, [], 0), (.iaload, 98, [], 0), (.goto 4, 99, [54], 0), (.iload_n 3, 102, [], 0), (.istore 7, 103, [], 0), (.aload_n 0, 105, [], 0), (.getfield 17, 106, [5, 1], 0), (.iload 4, 109, [], 0), (.iaload, 111, [], 0), (.bipush 60, 112, [], 0), (.if_icmp .ne 21, 114, [71], 0), (.iload 7, 117, [], 0), (.aload_n 0, 119, [], 0), (.getfield 21, 120, [5, 2], 0), (.iload 4, 123, [], 0), (.iaload, 125, [], 0), (.if_icmp .ge 7, 126, [69], 0), (.iconst 1, 129, [], 0), (.goto 4, 130, [70], 0), (.iconst 0, 133, [], 0), (.ireturn, 134, [], 1), (.aload_n 0, 135, [], 0), (.getfield 17, 136, [5, 1], 0), (.iload 4, 139, [], 0), (.iaload, 141, [], 0), (.bipush 61, 142, [], 0), (.if_icmp .ne 23, 144, [87], 0), (.iload 7, 147, [], 0), (.aload_n 0, 149, [], 0), (.getfield 21, 150, [5, 2], 0), (.iload 4, 153, [], 0), (.iaload, 155, [], 0), (.if_icmp .ne 7, 156, [85], 0), (.iconst 1, 159, [], 0), (.goto 24, 160, [96], 0), (.iconst 0, 163, [], 0), (.goto 20, 164, [96], 0), (.iload 7, 167, [], 0), (.aload_n 0, 169, [], 0), (.getfield 21, 170, [5, 2], 0), (.iload 4, 173, [], 0), (.iaload, 175, [], 0), (.if_icmp .le 7, 176, [95], 0), (.iconst 1, 179, [], 0), (.goto 4, 180, [96], 0), (.iconst 0, 183, [], 0), (.ireturn, 184, [], 1)], (0, 5, 4), (0, 0))
set_option maxRecDepth 100000 in
def mt_X5_init : mj_T := (yX5_init, cX5_init, 1, none, [(.aload_n 0, 0, [], 0), (.invokespecial 5, 1, [], 0), (.aload_n 0, 4, [], 0), (.bipush 40, 5, [], 0), (.anewarray 11, 7, [5], 0), (.putfield 13, 10, [5, 0], 0), (.aload_n 0, 13, [], 0), (.bipush 40, 14, [], 0), (.newarray .int, 16, [0], 0), (.putfield 17, 18, [5, 1], 0), (.aload_n 0, 21, [], 0), (.bipush 40, 22, [], 0), (.newarray .int, 24, [0], 0), (.putfield 21, 26, [5, 2], 0), (.aload_n 0, 29, [], 0), (.bipush 40, 30, [], 0), (.newarray .boolean, 32, [2], 0), (.putfield 24, 34, [5, 3], 0), (.aload_n 0, 37, [], 0), (.iconst 0, 38, [], 0), (.putfield 28, 39, [5, 4], 0), (.aload_n 0, 42, [], 0), (.iconst 0, 43, [], 0), (.putfield 32, 44, [5, 5], 0), (.return_, 47, [], 0)], (2, 5, 0), (4, 160))
set_option maxRecDepth 100000 in
def mt_X5_readAll : mj_T := (yX5_readAll, cX5_readAll, 4, (some .boolean), [(.aload_n 0, 0, [], 0), (.aload_n 1, 1, [], 0), (.iload_n 2, 2, [], 0), (.invokevirtual 62, 3, [65, 2, 5], 0), (.ifCond .ne 5, 6, [7], 0), (.iconst 0, 9, [], 0), (.ireturn, 10, [], 1), (.iconst 0, 11, [], 0), (.istore_n 3, 12, [], 0), (.iload_n 3, 13, [], 0), (.bipush 20, 14, [], 0), (.if_icmp .ge 44, 16, [33], 0), (.aload_n 1, 19, [], 0), (.getfield 51, 20, [7, 9], 0), (.getstatic 65, 23, [], 0), (.if_acmp .ne 34, 26, [33], 0), (.aload_n 1, 29, [], 0), (.invokevirtual 35, 30, [69, 0, 7], 0), (.aload_n 0, 33, [], 0), (.aload_n 1, 34, [], 0), (.iload_n 2, 35, [], 0), (.invokevirtual 62, 36, [65, 2, 5], 0), (.ifCond .ne 5, 39, [25], 0), (.iconst 0, 42, [], 0), (.ireturn, 43, [], 1), (.aload_n 0, 44, [], 0), (.getstatic 65, 45, [], 0), (.iconst 0, 48, [], 0), (.iconst 0, 49, [], 0), (.invokevirtual 58, 50, [54, 3, 5], 0), (.pop, 53, [], 0), (.iinc 3 1, 54, [], 0), (.goto (-44), 57, [9], 0), (.iconst 1, 60, [], 0), (.ireturn, 61, [], 1)], (0, 5, 2), (0, 0))
set_option maxRecDepth 100000 in
def mt_X5_readClosing : mj_T := (yX5_readClosing, cX5_readClosing, 2, (some .boolean), [(.aload_n 1, 0, [], 0), (.bipush 41, 1, [], 0), (.invokevirtual 68, 3, [75, 1, 7], 0), (.ifCond .ne 9, 6, [8], 0), (.aload_n 1, 9, [], 0), (.iconst 1, 10, [], 0), (.invokevirtual 76, 11, [83, 1, 7], 0), (.ireturn, 14, [], 1), (.aload_n 1, 15, [], 0), (.invokevirtual 35, 16, [69, 0, 7], 0), (.iconst 1, 19, [], 0), (.ireturn, 20, [], 1)], (0, 5, 1), (0, 0))
set_option maxRecDepth 100000 in
def mt_X5_readCond : mj_T := (yX5_readCond, cX5_readCond, 4, (some .boolean), [(.aload_n 0, 0, [], 0), (.aload_n 1, 1, [], 0), (.iload_n 2, 2, [], 0), (.invokevirtual 48, 3, [61, 2, 5], 0), (.ifCond .ne 5, 6, [7], 0), (.iconst 0, 9, [], 0), (.ireturn, 10, [], 1), (.iconst 0, 11, [], 0), (.istore_n 3, 12, [], 0), (.iload_n 3, 13, [], 0), (.bipush 20, 14, [], 0), (.if_icmp .ge 44, 16, [33], 0), (.aload_n 1, 19, [], 0), (.getfield 51, 20, [7, 9], 0), (.getstatic 55, 23, [], 0), (.if_acmp .ne 34, 26, [33], 0), (.aload_n 1, 29, [], 0), (.invokevirtual 35, 30, [69, 0, 7], 0), (.aload_n 0, 33, [], 0), (.aload_n 1, 34, [], 0), (.iload_n 2, 35, [], 0), (.invokevirtual 48, 36, [61, 2, 5], 0), (.ifCond .ne 5, 39, [25], 0), (.iconst 0, 42, [], 0), (.ireturn, 43, [], 1), (.aload_n 0, 44, [], 0), (.getstatic 55, 45, [], 0), (.iconst 0, 48, [], 0), (.iconst 0, 49, [], 0), (.invokevirtual 58, 50, [54, 3, 5], 0), (.pop, 53, [], 0), (.iinc 3 1, 54, [], 0), (.goto (-44), 57, [9], 0), (.iconst 1, 60, [], 0), (.ireturn, 61, [], 1)], (0, 5, 2), (0, 0))
set_option maxRecDepth 100000 in
def mt_X5_readMeasure : mj_T := (yX5_readMeasure, cX5_readMeasure, 5, (some .boolean), [(.aload_n 1, 0, [], 0), (.bipush 60, 1, [], 0), (.invokevirtual 68, 3, [75, 1, 7], 0), (.ifCond .ne 27, 6, [16], 0), (.aload_n 1, 9, [], 0), (.bipush 61, 10, [], 0), (.invokevirtual 68, 12, [75, 1, 7], 0), (.ifCond .ne 18, 15, [16], 0), (.aload_n 1, 18, [], 0), (.bipush 62, 19, [], 0), (.invokevirtual 68, 21, [75, 1, 7], 0), (.ifCond .ne 9, 24, [16], 0), (.aload_n 1, 27, [], 0), (.iconst 1, 28, [], 0), (.invokevirtual 76, 29, [83, 1, 7], 0), (.ireturn, 32, [], 1), (.aload_n 1, 33, [], 0), (.getfield 99, 34, [7, 7], 0), (.istore_n 3, 37, [], 0), (.aload_n 1, 38, [], 0), (.iconst 0, 39, [], 0), (.sipush 999, 40, [], 0), (.invokevirtual 102, 43, [77, 2, 7], 0), (.istore 4, 46, [], 0), (.iload 4, 48, [], 0), (.iconst (-1), 50, [], 0), (.if_icmp .ne 5, 51, [29], 0), (.iconst 0, 54, [], 0), (.ireturn, 55, [], 1), (.aload_n 1, 56, [], 0), (.invokevirtual 35, 57, [69, 0, 7], 0), (.aload_n 0, 60, [], 0), (.aload_n 2, 61, [], 0), (.iload_n 3, 62, [], 0), (.iload 4, 63, [], 0), (.invokevirtual 58, 65, [54, 3, 5], 0), (.ireturn, 68, [], 1)], (0, 5, 2), (0, 0))
set_option maxRecDepth 100000 in
def mt_X5_readOne : mj_T := (yX5_readOne, cX5_readOne, 5, (some .boolean), [(.aload_n 1, 0, [], 0), (.getfield 51, 1, [7, 9], 0), (.astore_n 3, 4, [], 0), (.aload_n 1, 5, [], 0), (.bipush 40, 6, [], 0), (.invokevirtual 68, 8, [75, 1, 7], 0), (.istore 4, 11, [], 0), (.iload 4, 13, [], 0), (.ifCond .ne 16, 15, [16], 0), (.aload_n 3, 18, [], 0), (.invokestatic 72, 19, [55, 1, 5], 0), (.ifCond .ne 9, 22, [16], 0), (.aload_n 1, 25, [], 0), (.iconst 1, 26, [], 0), (.invokevirtual 76, 27, [83, 1, 7], 0), (.ireturn, 30, [], 1), (.aload_n 0, 31, [], 0), (.getfield 32, 32, [5, 5], 0), (.bipush 20, 35, [], 0), (.if_icmp .ge 9, 37, [23], 0), (.iload_n 2, 40, [], 0), (.bipush 8, 41, [], 0), (.if_icmp .le 9, 43, [27], 0), (.aload_n 1, 46, [], 0), (.iconst 4, 47, [], 0), (.invokevirtual 76, 48, [83, 1, 7], 0), (.ireturn, 51, [], 1), (.aload_n 0, 52, [], 0), (.dup, 53, [], 0), (.getfield 32, 54, [5, 5], 0), (.iconst 1, 57, [], 0), (.iadd, 58, [], 0), (.putfield 32, 59, [5, 5], 0), (.aload_n 1, 62, [], 0), (.invokevirtual 35, 63, [69, 0, 7], 0), (.iload 4, 66, [], 0), (.ifCond .eq 28, 68, [52], 0), (.aload_n 0, 71, [], 0), (.aload_n 1, 72, [], 0), (.iload_n 2, 73, [], 0), (.iconst 1, 74, [], 0), (.iadd, 75, [], 0), (.invokevirtual 40, 76, [63, 2, 5], 0), (.ifCond .eq 15, 79, [50], 0), (.aload_n 0, 82, [], 0), (.aload_n 1, 83, [], 0), (.invokevirtual 79, 84, [62, 1, 5], 0), (.ifCond .eq 7, 87, [50], 0), (.iconst 1, 90, [], 0), (.goto 4, 91, [51], 0), (.iconst 0, 94, [], 0), (.ireturn, 95, [], 1), (.aload_n 3, 96, [], 0), (.getstatic 83, 97, [], 0), (.if_acmp .ne 32, 100, [72], 0), (.aload_n 0, 103, [], 0), (.aload_n 1, 104, [], 0), (.iload_n 2, 105, [], 0), (.iconst 1, 106, [], 0), (.iadd, 107, [], 0), (.invokevirtual 62, 108, [65, 2, 5], 0), (.ifCond .eq 19, 111, [70], 0), (.aload_n 0, 114, [], 0), (.getstatic 83, 115, [], 0), (.iconst 0, 118, [], 0), (.iconst 0, 119, [], 0), (.invokevirtual 58, 120, [54, 3, 5], 0), (.ifCond .eq 7, 123, [70], 0), (.iconst 1, 126, [], 0), (.goto 4, 127, [71], 0), (.iconst 0, 130, [], 0), (.ireturn, 131, [], 1), (.aload_n 3, 132, [], 0), (.getstatic 86, 133, [], 0), (.if_acmp .eq 10, 136, [78], 0), (.aload_n 3, 139, [], 0), (.getstatic 89, 140, [], 0), (.if_acmp .ne 11, 143, [84], 0), (.aload_n 0, 146, [], 0), (.aload_n 3, 147, [], 0), (.iconst 0, 148, [], 0), (.iconst 0, 149, [], 0), (.invokevirtual 58, 150, [54, 3, 5], 0), (.ireturn, 153, [], 1), (.aload_n 0, 154, [], 0), (.aload_n 1, 155, [], 0), (.aload_n 3, 156, [], 0), (.invokevirtual 92, 157, [64, 2, 5], 0), (.ireturn, 160, [], 1)], (0, 5, 2), (0, 0))
set_option maxRecDepth 100000 in
def mt_X5_readText : mj_T := (yX5_readText, cX5_readText, 2, none, [(.aload_n 1, 0, [], 0), (.invokevirtual 35, 1, [69, 0, 7], 0), (.aload_n 0, 4, [], 0), (.aload_n 1, 5, [], 0), (.iconst 1, 6, [], 0), (.invokevirtual 40, 7, [63, 2, 5], 0), (.ifCond .eq 8, 10, [10], 0), (.aload_n 1, 13, [], 0), (.invokevirtual 44, 14, [70, 0, 7], 0), (.pop, 17, [], 0), (.return_, 18, [], 0)], (0, 5, 1), (0, 0))
set_option maxRecDepth 100000 in
def mt_X6_copy : mj_T := (yX6_copy, cX6_copy, 2, none, [(.aload_n 0, 0, [], 0), (.getfield 10, 1, [6, 0], 0), (.aload_n 1, 4, [], 0), (.getfield 10, 5, [6, 0], 0), (.invokevirtual 37, 8, [32, 1, 3], 0), (.aload_n 0, 11, [], 0), (.getfield 19, 12, [6, 1], 0), (.aload_n 1, 15, [], 0), (.getfield 19, 16, [6, 1], 0), (.invokevirtual 41, 19, [18, 1, 1], 0), (.aload_n 0, 22, [], 0), (.getfield 26, 23, [6, 2], 0), (.aload_n 1, 26, [], 0), (.getfield 26, 27, [6, 2], 0), (.invokevirtual 44, 30, [57, 1, 5], 0), (.aload_n 0, 33, [], 0), (.getfield 33, 34, [6, 3], 0), (.aload_n 1, 37, [], 0), (.getfield 33, 38, [6, 3], 0), (.invokevirtual 47, 41, [90, 1, 9], 0), (.return_, 44, [], 0)], (0, 6, 1), (0, 0))
set_option maxRecDepth 100000 in
def mt_X6_init : mj_T := (yX6_init, cX6_init, 1, none, [(.aload_n 0, 0, [], 0), (.invokespecial 1, 1, [], 0), (.aload_n 0, 4, [], 0), (.new 7, 5, [3, 15], 0), (.dup, 8, [], 0), (.invokespecial 9, 9, [35, 0, 3], 0), (.putfield 10, 12, [6, 0], 0), (.aload_n 0, 15, [], 0), (.new 16, 16, [1, 4], 0), (.dup, 19, [], 0), (.invokespecial 18, 20, [19, 0, 1], 0), (.putfield 19, 23, [6, 1], 0), (.aload_n 0, 26, [], 0), (.new 23, 27, [5, 6], 0), (.dup, 30, [], 0), (.invokespecial 25, 31, [60, 0, 5], 0), (.putfield 26, 34, [6, 2], 0), (.aload_n 0, 37, [], 0), (.new 30, 38, [9, 15], 0), (.dup, 41, [], 0), (.invokespecial 32, 42, [96, 0, 9], 0), (.putfield 33, 45, [6, 3], 0), (.return_, 48, [], 0)], (2, 6, 0), (44, 580))
set_option maxRecDepth 100000 in
def mt_X7_advance : mj_T := (yX7_advance, cX7_advance, 2, none, [(.aload_n 0, 0, [], 0), (.getfield 15, 1, [7, 1], 0), (.aload_n 0, 4, [], 0), (.getfield 45, 5, [7, 10], 0), (.invokestatic 51, 8, [1], 0), (.istore_n 1, 11, [], 0), (.aload_n 0, 12, [], 0), (.getfield 48, 13, [7, 11], 0), (.iload_n 1, 16, [], 0), (.if_icmp .ge 42, 17, [29], 0), (.aload_n 0, 20, [], 0), (.aload_n 0, 21, [], 0), (.getfield 48, 22, [7, 11], 0), (.invokevirtual 57, 25, [84, 1, 7], 0), (.bipush 32, 28, [], 0), (.if_icmp .eq 16, 30, [22], 0), (.aload_n 0, 33, [], 0), (.aload_n 0, 34, [], 0), (.getfield 48, 35, [7, 11], 0), (.invokevirtual 57, 38, [84, 1, 7], 0), (.bipush 10, 41, [], 0), (.if_icmp .ne 16, 43, [29], 0), (.aload_n 0, 46, [], 0), (.dup, 47, [], 0), (.getfield 48, 48, [7, 11], 0), (.iconst 1, 51, [], 0), (.iadd, 52, [], 0), (.putfield 48, 53, [7, 11], 0), (.goto (-44), 56, [6], 0), (.aload_n 0, 59, [], 0), (.aconst_null, 60, [], 0), (.putfield 41, 61, [7, 9], 0), (.aload_n 0, 64, [], 0), (.lconst 0, 65, [], 0), (.putfield 37, 66, [7, 8], 0), (.aload_n 0, 69, [], 0), (.iconst 0, 70, [], 0), (.putfield 31, 71, [7, 6], 0), (.aload_n 0, 74, [], 0), (.iconst 0, 75, [], 0), (.putfield 34, 76, [7, 7], 0), (.aload_n 0, 79, [], 0), (.getfield 48, 80, [7, 11], 0), (.iload_n 1, 83, [], 0), (.if_icmp .lt 14, 84, [52], 0), (.aload_n 0, 87, [], 0), (.iconst 0, 88, [], 0), (.putfield 25, 89, [7, 4], 0), (.aload_n 0, 92, [], 0), (.iload_n 1, 93, [], 0), (.putfield 28, 94, [7, 5], 0), (.return_, 97, [], 0), (.aload_n 0, 98, [], 0), (.aload_n 0, 99, [], 0), (.getfield 48, 100, [7, 11], 0), (.putfield 28, 103, [7, 5], 0), (.aload_n 0, 106, [], 0), (.aload_n 0, 107, [], 0), (.getfield 48, 108, [7, 11], 0), (.invokevirtual 57, 111, [84, 1, 7], 0), (.invokestatic 61, 114, [74, 1, 7], 0), (.ifCond .ne 17, 117, [68], 0), (.aload_n 0, 120, [], 0), (.aload_n 0, 121, [], 0), (.getfield 48, 122, [7, 11], 0), (.invokevirtual 57, 125, [84, 1, 7], 0), (.invokestatic 65, 128, [73, 1, 7], 0), (.ifCond .eq 10, 131, [71], 0), (.aload_n 0, 134, [], 0), (.invokevirtual 68, 135, [82, 0, 7], 0), (.goto 30, 138, [86], 0), (.aload_n 0, 141, [], 0), (.iconst 3, 142, [], 0), (.putfield 25, 143, [7, 4], 0), (.aload_n 0, 146, [], 0), (.aload_n 0, 147, [], 0), (.aload_n 0, 148, [], 0), (.getfield 48, 149, [7, 11], 0), (.invokevirtual 57, 152, [84, 1, 7], 0), (.putfield 34, 155, [7, 7], 0), (.aload_n 0, 158, [], 0), (.dup, 159, [], 0), (.getfield 48, 160, [7, 11], 0), (.iconst 1, 163, [], 0), (.iadd, 164, [], 0), (.putfield 48, 165, [7, 11], 0), (.return_, 168, [], 0)], (0, 7, 0), (0, 0))
set_option maxRecDepth 100000 in
def mt_X7_finish : mj_T := (yX7_finish, cX7_finish, 1, (some .boolean), [(.aload_n 0, 0, [], 0), (.getfield 25, 1, [7, 4], 0), (.ifCond .ne 14, 4, [8], 0), (.aload_n 0, 7, [], 0), (.getfield 15, 8, [7, 1], 0), (.aload_n 0, 11, [], 0), (.getfield 45, 12, [7, 10], 0), (.if_icmp .le 11, 15, [12], 0), (.aload_n 0, 18, [], 0), (.iconst 1, 19, [], 0), (.invokevirtual 77, 20, [83, 1, 7], 0), (.ifCond .eq 7, 23, [14], 0), (.iconst 1, 26, [], 0), (.goto 4, 27, [15], 0), (.iconst 0, 30, [], 0), (.ireturn, 31, [], 1)], (0, 7, 0), (0, 0))
set_option maxRecDepth 100000 in
def mt_X7_hasRoom : mj_T := (yX7_hasRoom, cX7_hasRoom, 1, (some .boolean), [(.aload_n 0, 0, [], 0), (.getfield 15, 1, [7, 1], 0), (.bipush 20, 4, [], 0), (.iadd, 6, [], 0), (.sipush 940, 7, [], 0), (.if_icmp .gt 7, 10, [8], 0), (.iconst 1, 13, [], 0), (.goto 4, 14, [9], 0), (.iconst 0, 17, [], 0), (.ireturn, 18, [], 1)], (0, 7, 0), (0, 0))
set_option maxRecDepth 100000 in
def mt_X7_init : mj_T := (yX7_init, cX7_init, 1, none, [(.aload_n 0, 0, [], 0), (.invokespecial 3, 1, [], 0), (.aload_n 0, 4, [], 0), (.sipush 940, 5, [], 0), (.newarray .byte, 8, [1], 0), (.putfield 11, 10, [7, 0], 0), (.aload_n 0, 13, [], 0), (.iconst 0, 14, [], 0), (.putfield 15, 15, [7, 1], 0), (.aload_n 0, 18, [], 0), (.iconst 0, 19, [], 0), (.putfield 19, 20, [7, 2], 0), (.aload_n 0, 23, [], 0), (.iconst 0, 24, [], 0), (.putfield 22, 25, [7, 3], 0), (.aload_n 0, 28, [], 0), (.iconst 0, 29, [], 0), (.putfield 25, 30, [7, 4], 0), (.aload_n 0, 33, [], 0), (.iconst 0, 34, [], 0), (.putfield 28, 35, [7, 5], 0), (.aload_n 0, 38, [], 0), (.iconst 0, 39, [], 0), (.putfield 31, 40, [7, 6], 0), (.aload_n 0, 43, [], 0), (.iconst 0, 44, [], 0), (.putfield 34, 45, [7, 7], 0), (.aload_n 0, 48, [], 0), (.lconst 0, 49, [], 0), (.putfield 37, 50, [7, 8], 0), (.aload_n 0, 53, [], 0), (.aconst_null, 54, [], 0), (.putfield 41, 55, [7, 9], 0), (.aload_n 0, 58, [], 0), (.iconst 0, 59, [], 0), (.putfield 45, 60, [7, 10], 0), (.aload_n 0, 63, [], 0), (.iconst 0, 64, [], 0), (.putfield 48, 65, [7, 11], 0), (.return_, 68, [], 0)], (2, 7, 0), (1, 940))
set_option maxRecDepth 100000 in
def mt_X7_isDigit : mj_T := (yX7_isDigit, cX7_isDigit, 1, (some .boolean), [(.iload_n 0, 0, [], 0), (.bipush 48, 1, [], 0), (.if_icmp .lt 13, 3, [8], 0), (.iload_n 0, 6, [], 0), (.bipush 57, 7, [], 0), (.if_icmp .gt 7, 9, [8], 0), (.iconst 1, 12, [], 0), (.goto 4, 13, [9], 0), (.iconst 0, 16, [], 0), (.ireturn, 17, [], 1)], (1, 7, 1), (0, 0))
set_option maxRecDepth 100000 in
def mt_X7_isLetter : mj_T := (yX7_isLetter, cX7_isLetter, 1, (some .boolean), [(.iload_n 0, 0, [], 0), (.bipush 97, 1, [], 0), (.if_icmp .lt 13, 3, [8], 0), (.iload_n 0, 6, [], 0), (.bipush 122, 7, [], 0), (.if_icmp .gt 7, 9, [8], 0), (.iconst 1, 12, [], 0), (.goto 4, 13, [9], 0), (.iconst 0, 16, [], 0), (.ireturn, 17, [], 1)], (1, 7, 1), (0, 0))
set_option maxRecDepth 100000 in
def mt_X7_isSign : mj_T := (yX7_isSign, cX7_isSign, 2, (some .boolean), [(.aload_n 0, 0, [], 0), (.getfield 25, 1, [7, 4], 0), (.iconst 3, 4, [], 0), (.if_icmp .ne 15, 5, [10], 0), (.aload_n 0, 8, [], 0), (.getfield 34, 9, [7, 7], 0), (.iload_n 1, 12, [], 0), (.if_icmp .ne 7, 13, [10], 0), (.iconst 1, 16, [], 0), (.goto 4, 17, [11], 0), (.iconst 0, 20, [], 0), (.ireturn, 21, [], 1)], (0, 7, 1), (0, 0))
set_option maxRecDepth 100000 in
def mt_X7_nameHere : mj_T := (yX7_nameHere, cX7_nameHere, 1, (some .boolean), [(.aload_n 0, 0, [], 0), (.getfield 25, 1, [7, 4], 0), (.iconst 1, 4, [], 0), (.if_icmp .ne 10, 5, [7], 0), (.aload_n 0, 8, [], 0), (.getfield 41, 9, [7, 9], 0), (.ifnull 11, 12, [11], 0), (.aload_n 0, 15, [], 0), (.iconst 1, 16, [], 0), (.invokevirtual 77, 17, [83, 1, 7], 0), (.ifCond .eq 7, 20, [13], 0), (.iconst 1, 23, [], 0), (.goto 4, 24, [14], 0), (.iconst 0, 27, [], 0), (.ireturn, 28, [], 1)], (0, 7, 0), (0, 0))
set_option maxRecDepth 100000 in
def mt_X7_nextNumber : mj_T := (yX7_nextNumber, cX7_nextNumber, 3, (some .int), [(.aload_n 0, 0, [], 0), (.invokevirtual 80, 1, [69, 0, 7], 0), (.aload_n 0, 4, [], 0), (.iload_n 1, 5, [], 0), (.iload_n 2, 6, [], 0), (.invokevirtual 83, 7, [79, 2, 7], 0), (.ireturn, 10, [], 0)], (0, 7, 2), (0, 0))
set_option maxRecDepth 100000 in
def mt_X7_nextSign : mj_T := (yX7_nextSign, cX7_nextSign, 2, (some .boolean), [(.aload_n 0, 0, [], 0), (.invokevirtual 80, 1, [69, 0, 7], 0), (.aload_n 0, 4, [], 0), (.iload_n 1, 5, [], 0), (.invokevirtual 86, 6, [75, 1, 7], 0), (.ifCond .ne 11, 9, [10], 0), (.aload_n 0, 12, [], 0), (.iconst 1, 13, [], 0), (.invokevirtual 77, 14, [83, 1, 7], 0), (.ifCond .eq 7, 17, [12], 0), (.iconst 1, 20, [], 0), (.goto 4, 21, [13], 0), (.iconst 0, 24, [], 0), (.ireturn, 25, [], 1)], (0, 7, 1), (0, 0))
set_option maxRecDepth 100000 in
def mt_X7_numberHere : mj_T := (yX7_numberHere, cX7_numberHere, 3, (some .int), [(.aload_n 0, 0, [], 0), (.getfield 25, 1, [7, 4], 0), (.iconst 2, 4, [], 0), (.if_icmp .eq 11, 5, [10], 0), (.aload_n 0, 8, [], 0), (.iconst 1, 9, [], 0), (.invokevirtual 77, 10, [83, 1, 7], 0), (.pop, 13, [], 0), (.iconst (-1), 14, [], 0), (.ireturn, 15, [], 0), (.aload_n 0, 16, [], 0), (.getfield 31, 17, [7, 6], 0), (.iload_n 1, 20, [], 0), (.if_icmp .lt 11, 21, [18], 0), (.aload_n 0, 24, [], 0), (.getfield 31, 25, [7, 6], 0), (.iload_n 2, 28, [], 0), (.if_icmp .le 11, 29, [24], 0), (.aload_n 0, 32, [], 0), (.iconst 2, 33, [], 0), (.invokevirtual 77, 34, [83, 1, 7], 0), (.pop, 37, [], 0), (.iconst (-1), 38, [], 0), (.ireturn, 39, [], 0), (.aload_n 0, 40, [], 0), (.getfield 31, 41, [7, 6], 0), (.ireturn, 44, [], 0)], (0, 7, 2), (0, 0))
set_option maxRecDepth 100000 in
def mt_X7_open : mj_T := (yX7_open, cX7_open, 2, none, [(.aload_n 0, 0, [], 0), (.iload_n 1, 1, [], 0), (.putfield 45, 2, [7, 10], 0), (.aload_n 0, 5, [], 0), (.iconst 0, 6, [], 0), (.putfield 48, 7, [7, 11], 0), (.aload_n 0, 10, [], 0), (.iconst 0, 11, [], 0), (.putfield 19, 12, [7, 2], 0), (.aload_n 0, 15, [], 0), (.iconst 0, 16, [], 0), (.putfield 22, 17, [7, 3], 0), (.return_, 20, [], 0)], (0, 7, 1), (0, 0))
set_option maxRecDepth 100000 in
def mt_X7_put : mj_T := (yX7_put, cX7_put, 3, none, [(.bipush 24, 0, [], 0), (.istore_n 2, 2, [], 0), (.iload_n 2, 3, [], 0), (.ifCond .lt 42, 4, [25], 0), (.aload_n 0, 7, [], 0), (.getfield 15, 8, [7, 1], 0), (.sipush 940, 11, [], 0), (.if_icmp .ge 32, 14, [25], 0), (.aload_n 0, 17, [], 0), (.getfield 11, 18, [7, 0], 0), (.aload_n 0, 21, [], 0), (.getfield 15, 22, [7, 1], 0), (.iload_n 1, 25, [], 0), (.iload_n 2, 26, [], 0), (.iushr, 27, [], 0), (.i2b, 28, [], 0), (.bastore, 29, [], 0), (.aload_n 0, 30, [], 0), (.dup, 31, [], 0), (.getfield 15, 32, [7, 1], 0), (.iconst 1, 35, [], 0), (.iadd, 36, [], 0), (.putfield 15, 37, [7, 1], 0), (.iinc 2 (-8), 40, [], 0), (.goto (-40), 43, [2], 0), (.return_, 46, [], 0)], (0, 7, 1), (0, 0))
set_option maxRecDepth 100000 in
def mt_X7_readRun : mj_T := (yX7_readRun, cX7_readRun, 4, none, [(.iconst 0, 0, [], 0), (.istore_n 1, 1, [], 0), (.iconst 0, 2, [], 0), (.istore_n 2, 3, [], 0), (.aload_n 0, 4, [], 0), (.getfield 48, 5, [7, 11], 0), (.aload_n 0, 8, [], 0), (.getfield 15, 9, [7, 1], 0), (.if_icmp .ge 101, 12, [60], 0), (.aload_n 0, 15, [], 0), (.aload_n 0, 16, [], 0), (.getfield 48, 17, [7, 11], 0), (.invokevirtual 57, 20, [84, 1, 7], 0), (.invokestatic 61, 23, [74, 1, 7], 0), (.ifCond .ne 17, 26, [21], 0), (.aload_n 0, 29, [], 0), (.aload_n 0, 30, [], 0), (.getfield 48, 31, [7, 11], 0), (.invokevirtual 57, 34, [84, 1, 7], 0), (.invokestatic 65, 37, [73, 1, 7], 0), (.ifCond .eq 73, 40, [60], 0), (.aload_n 0, 43, [], 0), (.aload_n 0, 44, [], 0), (.getfield 48, 45, [7, 11], 0), (.invokevirtual 57, 48, [84, 1, 7], 0), (.istore_n 3, 51, [], 0), (.iload_n 3, 52, [], 0), (.invokestatic 61, 53, [74, 1, 7], 0), (.ifCond .eq 25, 56, [42], 0), (.iinc 1 1, 59, [], 0), (.aload_n 0, 62, [], 0), (.aload_n 0, 63, [], 0), (.getfield 37, 64, [7, 8], 0), (.iconst 5, 67, [], 0), (.lshl, 68, [], 0), (.iload_n 3, 69, [], 0), (.bipush 96, 70, [], 0), (.isub, 72, [], 0), (.i2l, 73, [], 0), (.lor, 74, [], 0), (.putfield 37, 75, [7, 8], 0), (.goto 22, 78, [53], 0), (.iinc 2 1, 81, [], 0), (.aload_n 0, 84, [], 0), (.aload_n 0, 85, [], 0), (.getfield 31, 86, [7, 6], 0), (.bipush 10, 89, [], 0), (.imul, 91, [], 0), (.iload_n 3, 92, [], 0), (.iadd, 93, [], 0), (.bipush 48, 94, [], 0), (.isub, 96, [], 0), (.putfield 31, 97, [7, 6], 0), (.aload_n 0, 100, [], 0), (.dup, 101, [], 0), (.getfield 48, 102, [7, 11], 0), (.iconst 1, 105, [], 0), (.iadd, 106, [], 0), (.putfield 48, 107, [7, 11], 0), (.goto (-106), 110, [4], 0), (.aload_n 0, 113, [], 0), (.iconst 4, 114, [], 0), (.putfield 25, 115, [7, 4], 0), (.iload_n 2, 118, [], 0), (.ifCond .ne 28, 119, [77], 0), (.iload_n 1, 122, [], 0), (.bipush 8, 123, [], 0), (.if_icmp .gt 22, 125, [77], 0), (.aload_n 0, 128, [], 0), (.iconst 1, 129, [], 0), (.putfield 25, 130, [7, 4], 0), (.aload_n 0, 133, [], 0), (.aload_n 0, 134, [], 0), (.getfield 37, 135, [7, 8], 0), (.invokestatic 73, 138, [], 0), (.putfield 41, 141, [7, 9], 0), (.goto 17, 144, [85], 0), (.iload_n 1, 147, [], 0), (.ifCond .ne 13, 148, [85], 0), (.iload_n 2, 151, [], 0), (.iconst 3, 152, [], 0), (.if_icmp .gt 8, 153, [85], 0), (.aload_n 0, 156, [], 0), (.iconst 2, 157, [], 0), (.putfield 25, 158, [7, 4], 0), (.return_, 161, [], 0)], (0, 7, 0), (0, 0))
set_option maxRecDepth 100000 in
def mt_X7_refuse : mj_T := (yX7_refuse, cX7_refuse, 2, (some .boolean), [(.aload_n 0, 0, [], 0), (.iload_n 1, 1, [], 0), (.putfield 19, 2, [7, 2], 0), (.aload_n 0, 5, [], 0), (.aload_n 0, 6, [], 0), (.getfield 28, 7, [7, 5], 0), (.putfield 22, 10, [7, 3], 0), (.iconst 0, 13, [], 0), (.ireturn, 14, [], 1)], (0, 7, 1), (0, 0))
set_option maxRecDepth 100000 in
def mt_X7_valueAt : mj_T := (yX7_valueAt, cX7_valueAt, 2, (some .int), [(.iload_n 1, 0, [], 0), (.ifCond .lt 31, 1, [16], 0), (.iload_n 1, 4, [], 0), (.aload_n 0, 5, [], 0), (.getfield 15, 6, [7, 1], 0), (.if_icmp .ge 23, 9, [16], 0), (.iload_n 1, 12, [], 0), (.sipush 940, 13, [], 0), (.if_icmp .ge 16, 16, [16], 0), (.aload_n 0, 19, [], 0), (.getfield 11, 20, [7, 0], 0), (.iload_n 1, 23, [], 0), (.baload, 24, [], 0), (.sipush 255, 25, [], 0), (.iand, 28, [], 0), (.goto 4, 29, [17], 0), (.iconst (-1), 32, [], 0), (.ireturn, 33, [], 0)], (0, 7, 1), (0, 0))
set_option maxRecDepth 100000 in
def mt_X8_back : mj_T := (yX8_back, cX8_back, 2, (some .int), [(.aload_n 0, 0, [], 0), (.getfield 21, 1, [8, 3], 0), (.ifCond .gt 5, 4, [5], 0), (.iconst (-1), 7, [], 0), (.ireturn, 8, [], 0), (.aload_n 0, 9, [], 0), (.dup, 10, [], 0), (.getfield 21, 11, [8, 3], 0), (.iconst 1, 14, [], 0), (.isub, 15, [], 0), (.putfield 21, 16, [8, 3], 0), (.aload_n 1, 19, [], 0), (.aload_n 0, 20, [], 0), (.getfield 11, 21, [8, 0], 0), (.aload_n 0, 24, [], 0), (.getfield 21, 25, [8, 3], 0), (.iaload, 28, [], 0), (.aload_n 0, 29, [], 0), (.getfield 15, 30, [8, 1], 0), (.aload_n 0, 33, [], 0), (.getfield 21, 34, [8, 3], 0), (.iaload, 37, [], 0), (.aload_n 0, 38, [], 0), (.getfield 18, 39, [8, 2], 0), (.aload_n 0, 42, [], 0), (.getfield 21, 43, [8, 3], 0), (.iaload, 46, [], 0), (.invokevirtual 31, 47, [47, 3, 3], 0), (.aload_n 0, 50, [], 0), (.getfield 21, 51, [8, 3], 0), (.ireturn, 54, [], 0)], (0, 8, 1), (0, 0))
set_option maxRecDepth 100000 in
def mt_X8_init : mj_T := (yX8_init, cX8_init, 1, none, [(.aload_n 0, 0, [], 0), (.invokespecial 3, 1, [], 0), (.aload_n 0, 4, [], 0), (.bipush 8, 5, [], 0), (.newarray .int, 7, [0], 0), (.putfield 11, 9, [8, 0], 0), (.aload_n 0, 12, [], 0), (.bipush 8, 13, [], 0), (.newarray .int, 15, [0], 0), (.putfield 15, 17, [8, 1], 0), (.aload_n 0, 20, [], 0), (.bipush 8, 21, [], 0), (.newarray .int, 23, [0], 0), (.putfield 18, 25, [8, 2], 0), (.aload_n 0, 28, [], 0), (.iconst 0, 29, [], 0), (.putfield 21, 30, [8, 3], 0), (.return_, 33, [], 0)], (2, 8, 0), (3, 24))
set_option maxRecDepth 100000 in
def mt_X8_keep : mj_T := (yX8_keep, cX8_keep, 4, none, [(.aload_n 0, 0, [], 0), (.getfield 21, 1, [8, 3], 0), (.bipush 8, 4, [], 0), (.if_icmp .lt 54, 6, [31], 0), (.aload_n 0, 9, [], 0), (.getfield 11, 10, [8, 0], 0), (.iconst 1, 13, [], 0), (.aload_n 0, 14, [], 0), (.getfield 11, 15, [8, 0], 0), (.iconst 0, 18, [], 0), (.bipush 7, 19, [], 0), (.invokestatic 25, 21, [3], 0), (.aload_n 0, 24, [], 0), (.getfield 15, 25, [8, 1], 0), (.iconst 1, 28, [], 0), (.aload_n 0, 29, [], 0), (.getfield 15, 30, [8, 1], 0), (.iconst 0, 33, [], 0), (.bipush 7, 34, [], 0), (.invokestatic 25, 36, [3], 0), (.aload_n 0, 39, [], 0), (.getfield 18, 40, [8, 2], 0), (.iconst 1, 43, [], 0), (.aload_n 0, 44, [], 0), (.getfield 18, 45, [8, 2], 0), (.iconst 0, 48, [], 0), (.bipush 7, 49, [], 0), (.invokestatic 25, 51, [3], 0), (.aload_n 0, 54, [], 0), (.bipush 7, 55, [], 0), (.putfield 21, 57, [8, 3], 0), (.aload_n 0, 60, [], 0), (.getfield 11, 61, [8, 0], 0), (.aload_n 0, 64, [], 0), (.getfield 21, 65, [8, 3], 0), (.iload_n 1, 68, [], 0), (.iastore, 69, [], 0), (.aload_n 0, 70, [], 0), (.getfield 15, 71, [8, 1], 0), (.aload_n 0, 74, [], 0), (.getfield 21, 75, [8, 3], 0), (.iload_n 2, 78, [], 0), (.iastore, 79, [], 0), (.aload_n 0, 80, [], 0), (.getfield 18, 81, [8, 2], 0), (.aload_n 0, 84, [], 0), (.getfield 21, 85, [8, 3], 0), (.iload_n 3, 88, [], 0), (.iastore, 89, [], 0), (.aload_n 0, 90, [], 0), (.dup, 91, [], 0), (.getfield 21, 92, [8, 3], 0), (.iconst 1, 95, [], 0), (.iadd, 96, [], 0), (.putfield 21, 97, [8, 3], 0), (.return_, 100, [], 0)], (0, 8, 3), (0, 0))
set_option maxRecDepth 100000 in
def mt_X10_bridgeTo : mj_T := (yX10_bridgeTo, cX10_bridgeTo, 5, (some .int), [(.iload_n 2, 0, [], 0), (.bipush 8, 1, [], 0), (.if_icmp .eq 8, 3, [6], 0), (.iload_n 2, 6, [], 0), (.iconst (-1), 7, [], 0), (.if_icmp .ne 5, 8, [8], 0), (.iconst 0, 11, [], 0), (.ireturn, 12, [], 0), (.aload_n 0, 13, [], 0), (.getfield 15, 14, [9, 1], 0), (.iconst 1, 17, [], 0), (.isub, 18, [], 0), (.istore_n 3, 19, [], 0), (.iload_n 3, 20, [], 0), (.ifCond .lt 27, 21, [29], 0), (.aload_n 0, 24, [], 0), (.getfield 22, 25, [9, 3], 0), (.iload_n 3, 28, [], 0), (.iaload, 29, [], 0), (.iload_n 2, 30, [], 0), (.if_icmp .eq 13, 31, [27], 0), (.aload_n 0, 34, [], 0), (.getfield 26, 35, [9, 4], 0), (.iload_n 3, 38, [], 0), (.iaload, 39, [], 0), (.iload_n 2, 40, [], 0), (.if_icmp .ne 7, 41, [29], 0), (.iconst 1, 44, [], 0), (.goto 4, 45, [30], 0), (.iconst 0, 48, [], 0), (.istore 4, 49, [], 0), (.iload 4, 51, [], 0), (.ifCond .eq 7, 53, [35], 0), (.iconst 0, 56, [], 0), (.goto 12, 57, [41], 0), (.aload_n 1, 60, [], 0), (.getfield 64, 61, [3, 1], 0), (.iload_n 2, 64, [], 0), (.aaload, 65, [4], 0), (.bipush 6, 66, [], 0), (.iaload, 68, [], 0), (.ireturn, 69, [], 0)], (0, 9, 2), (0, 0))
set_option maxRecDepth 100000 in
def mt_X10_canPay : mj_T := (yX10_canPay, cX10_canPay, 3, (some .boolean), [(.aload_n 0, 0, [], 0), (.getfield 34, 1, [9, 6], 0), (.iload_n 1, 4, [], 0), (.aaload, 5, [4], 0), (.iconst 3, 6, [], 0), (.iaload, 7, [], 0), (.ifCond .ne 19, 8, [17], 0), (.aload_n 0, 11, [], 0), (.getfield 34, 12, [9, 6], 0), (.iload_n 1, 15, [], 0), (.aaload, 16, [4], 0), (.iconst 1, 17, [], 0), (.iaload, 18, [], 0), (.iload_n 2, 19, [], 0), (.if_icmp .lt 7, 20, [17], 0), (.iconst 1, 23, [], 0), (.goto 4, 24, [18], 0), (.iconst 0, 27, [], 0), (.ireturn, 28, [], 1)], (0, 9, 2), (0, 0))
set_option maxRecDepth 100000 in
def mt_X10_copy : mj_T := (yX10_copy, cX10_copy, 3, none, [(.aload_n 0, 0, [], 0), (.aload_n 1, 1, [], 0), (.getfield 9, 2, [9, 0], 0), (.putfield 9, 5, [9, 0], 0), (.aload_n 0, 8, [], 0), (.aload_n 1, 9, [], 0), (.getfield 15, 10, [9, 1], 0), (.putfield 15, 13, [9, 1], 0), (.aload_n 0, 16, [], 0), (.aload_n 1, 17, [], 0), (.getfield 19, 18, [9, 2], 0), (.putfield 19, 21, [9, 2], 0), (.aload_n 1, 24, [], 0), (.getfield 22, 25, [9, 3], 0), (.iconst 0, 28, [], 0), (.aload_n 0, 29, [], 0), (.getfield 22, 30, [9, 3], 0), (.iconst 0, 33, [], 0), (.bipush 12, 34, [], 0), (.invokestatic 67, 36, [3], 0), (.aload_n 1, 39, [], 0), (.getfield 26, 40, [9, 4], 0), (.iconst 0, 43, [], 0), (.aload_n 0, 44, [], 0), (.getfield 26, 45, [9, 4], 0), (.iconst 0, 48, [], 0), (.bipush 12, 49, [], 0), (.invokestatic 67, 51, [3], 0), (.aload_n 1, 54, [], 0), (.getfield 29, 55, [9, 5], 0), (.iconst 0, 58, [], 0), (.aload_n 0, 59, [], 0), (.getfield 29, 60, [9, 5], 0), (.iconst 0, 63, [], 0), (.bipush 12, 64, [], 0), (.invokestatic 67, 66, [3], 0), (.iconst 0, 69, [], 0), (.istore_n 2, 70, [], 0), (.iload_n 2, 71, [], 0), (.bipush 8, 72, [], 0), (.if_icmp .ge 28, 74, [55], 0), (.aload_n 1, 77, [], 0), (.getfield 34, 78, [9, 6], 0), (.iload_n 2, 81, [], 0), (.aaload, 82, [4], 0), (.iconst 0, 83, [], 0), (.aload_n 0, 84, [], 0), (.getfield 34, 85, [9, 6], 0), (.iload_n 2, 88, [], 0), (.aaload, 89, [4], 0), (.iconst 0, 90, [], 0), (.bipush 11, 91, [], 0), (.invokestatic 67, 93, [3], 0), (.iinc 2 1, 96, [], 0), (.goto (-28), 99, [38], 0), (.aload_n 0, 102, [], 0), (.aload_n 1, 103, [], 0), (.getfield 37, 104, [9, 7], 0), (.putfield 37, 107, [9, 7], 0), (.aload_n 0, 110, [], 0), (.aload_n 1, 111, [], 0), (.getfield 40, 112, [9, 8], 0), (.putfield 40, 115, [9, 8], 0), (.aload_n 0, 118, [], 0), (.aload_n 1, 119, [], 0), (.getfield 43, 120, [9, 9], 0), (.putfield 43, 123, [9, 9], 0), (.aload_n 0, 126, [], 0), (.aload_n 1, 127, [], 0), (.getfield 46, 128, [9, 10], 0), (.putfield 46, 131, [9, 10], 0), (.aload_n 0, 134, [], 0), (.aload_n 1, 135, [], 0), (.getfield 49, 136, [9, 11], 0), (.putfield 49, 139, [9, 11], 0), (.aload_n 0, 142, [], 0), (.aload_n 1, 143, [], 0), (.getfield 52, 144, [9, 12], 0), (.putfield 52, 147, [9, 12], 0), (.aload_n 0, 150, [], 0), (.aload_n 1, 151, [], 0), (.getfield 55, 152, [9, 13], 0), (.putfield 55, 155, [9, 13], 0), (.aload_n 0, 158, [], 0), (.aload_n 1, 159, [], 0), (.getfield 58, 160, [9, 14], 0), (.putfield 58, 163, [9, 14], 0), (.return_, 166, [], 0)], (0, 9, 1), (0, 0))
set_option maxRecDepth 100000 in
def mt_X10_draw : mj_T := (yX10_draw, cX10_draw, 6, none, [(.iload_n 3, 0, [], 0), (.istore 4, 1, [], 0), (.iconst 0, 3, [], 0), (.istore 5, 4, [], 0), (.iload 5, 6, [], 0), (.bipush 12, 8, [], 0), (.if_icmp .ge 43, 10, [28], 0), (.aload_n 0, 13, [], 0), (.getfield 15, 14, [9, 1], 0), (.bipush 12, 17, [], 0), (.if_icmp .ge 34, 19, [28], 0), (.iload 4, 22, [], 0), (.ldc 81, 24, [], 1103515245), (.imul, 26, [], 0), (.sipush 12345, 27, [], 0), (.iadd, 30, [], 0), (.istore 4, 31, [], 0), (.aload_n 0, 33, [], 0), (.aload_n 1, 34, [], 0), (.aload_n 2, 35, [], 0), (.iload 4, 36, [], 0), (.bipush 8, 38, [], 0), (.iushr, 40, [], 0), (.bipush 100, 41, [], 0), (.irem, 43, [], 0), (.invokevirtual 77, 44, [103, 3, 9], 0), (.iinc 5 1, 47, [], 0), (.goto (-44), 50, [4], 0), (.return_, 53, [], 0)], (0, 9, 3), (0, 0))
set_option maxRecDepth 100000 in
def mt_X10_drink : mj_T := (yX10_drink, cX10_drink, 6, none, [(.aload_n 0, 0, [], 0), (.getfield 34, 1, [9, 6], 0), (.iload_n 2, 4, [], 0), (.aaload, 5, [4], 0), (.astore_n 3, 6, [], 0), (.aload_n 1, 7, [], 0), (.getfield 64, 8, [3, 1], 0), (.iload_n 2, 11, [], 0), (.aaload, 12, [4], 0), (.iconst 2, 13, [], 0), (.iaload, 14, [], 0), (.istore 4, 15, [], 0), (.iload 4, 17, [], 0), (.aload_n 3, 19, [], 0), (.iconst 0, 20, [], 0), (.iaload, 21, [], 0), (.invokestatic 159, 22, [1], 0), (.istore 5, 25, [], 0), (.aload_n 3, 27, [], 0), (.iconst 0, 28, [], 0), (.dup2, 29, [], 0), (.iaload, 30, [], 0), (.iload 5, 31, [], 0), (.isub, 33, [], 0), (.iastore, 34, [], 0), (.aload_n 0, 35, [], 0), (.dup, 36, [], 0), (.getfield 46, 37, [9, 10], 0), (.iload 5, 40, [], 0), (.iadd, 42, [], 0), (.putfield 46, 43, [9, 10], 0), (.iload 5, 46, [], 0), (.iload 4, 48, [], 0), (.if_icmp .ge 21, 50, [49], 0), (.aload_n 3, 53, [], 0), (.iconst 2, 54, [], 0), (.dup2, 55, [], 0), (.iaload, 56, [], 0), (.iconst 1, 57, [], 0), (.iadd, 58, [], 0), (.iastore, 59, [], 0), (.aload_n 3, 60, [], 0), (.bipush 7, 61, [], 0), (.dup2, 63, [], 0), (.iaload, 64, [], 0), (.iconst 1, 65, [], 0), (.iadd, 66, [], 0), (.iastore, 67, [], 0), (.goto 7, 68, [53], 0), (.aload_n 3, 71, [], 0), (.iconst 2, 72, [], 0), (.iconst 0, 73, [], 0), (.iastore, 74, [], 0), (.aload_n 3, 75, [], 0), (.iconst 2, 76, [], 0), (.iaload, 77, [], 0), (.aload_n 1, 78, [], 0), (.getfield 162, 79, [3, 8], 0), (.if_icmp .lt 23, 82, [75], 0), (.aload_n 3, 85, [], 0), (.iconst 3, 86, [], 0), (.iconst 1, 87, [], 0), (.iastore, 88, [], 0), (.aload_n 0, 89, [], 0), (.dup, 90, [], 0), (.getfield 52, 91, [9, 12], 0), (.aload_n 3, 94, [], 0), (.iconst 0, 95, [], 0), (.iaload, 96, [], 0), (.iadd, 97, [], 0), (.putfield 52, 98, [9, 12], 0), (.aload_n 3, 101, [], 0), (.iconst 0, 102, [], 0), (.iconst 0, 103, [], 0), (.iastore, 104, [], 0), (.aload_n 0, 105, [], 0), (.aload_n 1, 106, [], 0), (.iload_n 2, 107, [], 0), (.invokevirtual 165, 108, [109, 2, 9], 0), (.return_, 111, [], 0)], (0, 9, 2), (0, 0))
set_option maxRecDepth 100000 in
def mt_X10_goOn : mj_T := (yX10_goOn, cX10_goOn, 5, none, [(.iconst 0, 0, [], 0), (.istore 4, 1, [], 0), (.iload 4, 3, [], 0), (.iload_n 3, 5, [], 0), (.if_icmp .ge 25, 6, [16], 0), (.aload_n 0, 9, [], 0), (.getfield 15, 10, [9, 1], 0), (.bipush 12, 13, [], 0), (.if_icmp .ge 16, 15, [16], 0), (.aload_n 0, 18, [], 0), (.aload_n 1, 19, [], 0), (.aload_n 2, 20, [], 0), (.iconst 0, 21, [], 0), (.invokevirtual 77, 22, [103, 3, 9], 0), (.iinc 4 1, 25, [], 0), (.goto (-25), 28, [2], 0), (.return_, 31, [], 0)], (0, 9, 3), (0, 0))
set_option maxRecDepth 100000 in
def mt_X10_harvest : mj_T := (yX10_harvest, cX10_harvest, 3, none, [(.iconst 0, 0, [], 0), (.istore_n 2, 1, [], 0), (.iload_n 2, 2, [], 0), (.aload_n 1, 3, [], 0), (.getfield 106, 4, [3, 4], 0), (.if_icmp .ge 57, 7, [42], 0), (.aload_n 0, 10, [], 0), (.getfield 34, 11, [9, 6], 0), (.iload_n 2, 14, [], 0), (.aaload, 15, [4], 0), (.bipush 9, 16, [], 0), (.aload_n 1, 18, [], 0), (.getfield 64, 19, [3, 1], 0), (.iload_n 2, 22, [], 0), (.aaload, 23, [4], 0), (.bipush 8, 24, [], 0), (.iaload, 26, [], 0), (.aload_n 0, 27, [], 0), (.getfield 34, 28, [9, 6], 0), (.iload_n 2, 31, [], 0), (.aaload, 32, [4], 0), (.bipush 8, 33, [], 0), (.iaload, 35, [], 0), (.imul, 36, [], 0), (.iastore, 37, [], 0), (.aload_n 0, 38, [], 0), (.getfield 34, 39, [9, 6], 0), (.iload_n 2, 42, [], 0), (.aaload, 43, [4], 0), (.iconst 1, 44, [], 0), (.dup2, 45, [], 0), (.iaload, 46, [], 0), (.aload_n 0, 47, [], 0), (.getfield 34, 48, [9, 6], 0), (.iload_n 2, 51, [], 0), (.aaload, 52, [4], 0), (.bipush 9, 53, [], 0), (.iaload, 55, [], 0), (.iadd, 56, [], 0), (.iastore, 57, [], 0), (.iinc 2 1, 58, [], 0), (.goto (-59), 61, [2], 0), (.return_, 64, [], 0)], (0, 9, 1), (0, 0))
set_option maxRecDepth 100000 in
def mt_X10_inPonds : mj_T := (yX10_inPonds, cX10_inPonds, 3, (some .int), [(.iconst 0, 0, [], 0), (.istore_n 1, 1, [], 0), (.iconst 0, 2, [], 0), (.istore_n 2, 3, [], 0), (.iload_n 2, 4, [], 0), (.bipush 8, 5, [], 0), (.if_icmp .ge 20, 7, [18], 0), (.iload_n 1, 10, [], 0), (.aload_n 0, 11, [], 0), (.getfield 34, 12, [9, 6], 0), (.iload_n 2, 15, [], 0), (.aaload, 16, [4], 0), (.iconst 0, 17, [], 0), (.iaload, 18, [], 0), (.iadd, 19, [], 0), (.istore_n 1, 20, [], 0), (.iinc 2 1, 21, [], 0), (.goto (-20), 24, [4], 0), (.iload_n 1, 27, [], 0), (.ireturn, 28, [], 0)], (0, 9, 0), (0, 0))
set_option maxRecDepth 100000 in
def mt_X10_init : mj_T := (yX10_init, cX10_init, 1, none, [(.aload_n 0, 0, [], 0), (.invokespecial 3, 1, [], 0), (.aload_n 0, 4, [], 0), (.iconst 0, 5, [], 0), (.putfield 9, 6, [9, 0], 0), (.aload_n 0, 9, [], 0), (.iconst 0, 10, [], 0), (.putfield 15, 11, [9, 1], 0), (.aload_n 0, 14, [], 0), (.iconst 0, 15, [], 0), (.putfield 19, 16, [9, 2], 0), (.aload_n 0, 19, [], 0), (.bipush 12, 20, [], 0), (.newarray .int, 22, [0], 0), (.putfield 22, 24, [9, 3], 0), (.aload_n 0, 27, [], 0), (.bipush 12, 28, [], 0), (.newarray .int, 30, [0], 0), (.putfield 26, 32, [9, 4], 0), (.aload_n 0, 35, [], 0), (.bipush 12, 36, [], 0), (.newarray .int, 38, [0], 0), (.putfield 29, 40, [9, 5], 0), (.aload_n 0, 43, [], 0), (.bipush 8, 44, [], 0), (.bipush 11, 46, [], 0), (.multianewarray 32 2, 48, [], 0), (.putfield 34, 52, [9, 6], 0), (.aload_n 0, 55, [], 0), (.bipush 8, 56, [], 0), (.putfield 37, 58, [9, 7], 0), (.aload_n 0, 61, [], 0), (.iconst 0, 62, [], 0), (.putfield 40, 63, [9, 8], 0), (.aload_n 0, 66, [], 0), (.iconst 0, 67, [], 0), (.putfield 43, 68, [9, 9], 0), (.aload_n 0, 71, [], 0), (.iconst 0, 72, [], 0), (.putfield 46, 73, [9, 10], 0), (.aload_n 0, 76, [], 0), (.iconst 0, 77, [], 0), (.putfield 49, 78, [9, 11], 0), (.aload_n 0, 81, [], 0), (.iconst 0, 82, [], 0), (.putfield 52, 83, [9, 12], 0), (.aload_n 0, 86, [], 0), (.iconst 0, 87, [], 0), (.putfield 55, 88, [9, 13], 0), (.aload_n 0, 91, [], 0), (.iconst 0, 92, [], 0), (.putfield 58, 93, [9, 14], 0), (.return_, 96, [], 0)], (2, 9, 0), (12, 132))
set_option maxRecDepth 100000 in
def mt_X10_lacks : mj_T := (yX10_lacks, cX10_lacks, 3, (some .boolean), [(.aload_n 0, 0, [], 0), (.getfield 34, 1, [9, 6], 0), (.iload_n 2, 4, [], 0), (.aaload, 5, [4], 0), (.bipush 6, 6, [], 0), (.iaload, 8, [], 0), (.aload_n 1, 9, [], 0), (.getfield 64, 10, [3, 1], 0), (.iload_n 2, 13, [], 0), (.aaload, 14, [4], 0), (.iconst 4, 15, [], 0), (.iaload, 16, [], 0), (.if_icmp .ge 7, 17, [15], 0), (.iconst 1, 20, [], 0), (.goto 4, 21, [16], 0), (.iconst 0, 24, [], 0), (.ireturn, 25, [], 1)], (0, 9, 2), (0, 0))
set_option maxRecDepth 100000 in
def mt_X10_leakFrom : mj_T := (yX10_leakFrom, cX10_leakFrom, 3, none, [(.aload_n 0, 0, [], 0), (.getfield 34, 1, [9, 6], 0), (.iload_n 1, 4, [], 0), (.aaload, 5, [4], 0), (.iconst 0, 6, [], 0), (.dup2, 7, [], 0), (.iaload, 8, [], 0), (.iload_n 2, 9, [], 0), (.aload_n 0, 10, [], 0), (.getfield 34, 11, [9, 6], 0), (.iload_n 1, 14, [], 0), (.aaload, 15, [4], 0), (.iconst 0, 16, [], 0), (.iaload, 17, [], 0), (.invokestatic 159, 18, [1], 0), (.isub, 21, [], 0), (.iastore, 22, [], 0), (.return_, 23, [], 0)], (0, 9, 2), (0, 0))
set_option maxRecDepth 100000 in
def mt_X10_leastBid : mj_T := (yX10_leastBid, cX10_leastBid, 7, (some .int), [(.iconst 1, 0, [], 0), (.istore 4, 1, [], 0), (.iconst 0, 3, [], 0), (.istore 5, 4, [], 0), (.iload 5, 6, [], 0), (.aload_n 1, 8, [], 0), (.getfield 106, 9, [3, 4], 0), (.if_icmp .ge 64, 12, [38], 0), (.aload_n 1, 15, [], 0), (.getfield 132, 16, [3, 2], 0), (.iload 5, 19, [], 0), (.aaload, 21, [4], 0), (.iload_n 3, 22, [], 0), (.iaload, 23, [], 0), (.istore 6, 24, [], 0), (.iload 5, 26, [], 0), (.iload_n 2, 28, [], 0), (.if_icmp .eq 41, 29, [36], 0), (.iload 6, 32, [], 0), (.ifCond .le 36, 34, [36], 0), (.aload_n 0, 37, [], 0), (.iload 5, 38, [], 0), (.iload 6, 40, [], 0), (.invokevirtual 124, 42, [89, 2, 9], 0), (.ifCond .eq 25, 45, [36], 0), (.iload 4, 48, [], 0), (.iload 5, 50, [], 0), (.iload_n 2, 52, [], 0), (.if_icmp .ge 10, 53, [33], 0), (.iload 6, 56, [], 0), (.iconst 1, 58, [], 0), (.iadd, 59, [], 0), (.goto 5, 60, [34], 0), (.iload 6, 63, [], 0), (.invokestatic 135, 65, [0], 0), (.istore 4, 68, [], 0), (.iinc 5 1, 70, [], 0), (.goto (-67), 73, [4], 0), (.iload 4, 76, [], 0), (.ireturn, 78, [], 0)], (0, 9, 3), (0, 0))
set_option maxRecDepth 100000 in
def mt_X10_letByBids : mj_T := (yX10_letByBids, cX10_letByBids, 6, none, [(.bipush 8, 0, [], 0), (.istore_n 2, 2, [], 0), (.iconst 0, 3, [], 0), (.istore_n 3, 4, [], 0), (.iconst 0, 5, [], 0), (.istore 4, 6, [], 0), (.iload 4, 8, [], 0), (.aload_n 1, 10, [], 0), (.getfield 106, 11, [3, 4], 0), (.if_icmp .ge 46, 14, [32], 0), (.aload_n 1, 17, [], 0), (.getfield 132, 18, [3, 2], 0), (.iload 4, 21, [], 0), (.aaload, 23, [4], 0), (.aload_n 0, 24, [], 0), (.getfield 15, 25, [9, 1], 0), (.iaload, 28, [], 0), (.istore 5, 29, [], 0), (.iload 5, 31, [], 0), (.iload_n 3, 33, [], 0), (.if_icmp .le 20, 34, [30], 0), (.aload_n 0, 37, [], 0), (.iload 4, 38, [], 0), (.iload 5, 40, [], 0), (.invokevirtual 124, 42, [89, 2, 9], 0), (.ifCond .eq 9, 45, [30], 0), (.iload 5, 48, [], 0), (.istore_n 3, 50, [], 0), (.iload 4, 51, [], 0), (.istore_n 2, 53, [], 0), (.iinc 4 1, 54, [], 0), (.goto (-49), 57, [6], 0), (.aload_n 0, 60, [], 0), (.getfield 22, 61, [9, 3], 0), (.aload_n 0, 64, [], 0), (.getfield 15, 65, [9, 1], 0), (.iload_n 2, 68, [], 0), (.iastore, 69, [], 0), (.aload_n 0, 70, [], 0), (.getfield 26, 71, [9, 4], 0), (.aload_n 0, 74, [], 0), (.getfield 15, 75, [9, 1], 0), (.iconst (-1), 78, [], 0), (.iastore, 79, [], 0), (.aload_n 0, 80, [], 0), (.getfield 29, 81, [9, 5], 0), (.aload_n 0, 84, [], 0), (.getfield 15, 85, [9, 1], 0), (.iload_n 3, 88, [], 0), (.iastore, 89, [], 0), (.iload_n 2, 90, [], 0), (.bipush 8, 91, [], 0), (.if_icmp .eq 9, 93, [57], 0), (.aload_n 0, 96, [], 0), (.iload_n 2, 97, [], 0), (.iload_n 3, 98, [], 0), (.invokevirtual 128, 99, [105, 2, 9], 0), (.return_, 102, [], 0)], (0, 9, 1), (0, 0))
set_option maxRecDepth 100000 in
def mt_X10_letByContract : mj_T := (yX10_letByContract, cX10_letByContract, 7, none, [(.aload_n 1, 0, [], 0), (.getfield 115, 1, [1, 0], 0), (.aload_n 0, 4, [], 0), (.getfield 15, 5, [9, 1], 0), (.iaload, 8, [], 0), (.istore_n 2, 9, [], 0), (.aload_n 1, 10, [], 0), (.getfield 118, 11, [1, 1], 0), (.aload_n 0, 14, [], 0), (.getfield 15, 15, [9, 1], 0), (.iaload, 18, [], 0), (.istore_n 3, 19, [], 0), (.aload_n 1, 20, [], 0), (.getfield 121, 21, [1, 2], 0), (.aload_n 0, 24, [], 0), (.getfield 15, 25, [9, 1], 0), (.iaload, 28, [], 0), (.istore 4, 29, [], 0), (.aload_n 0, 31, [], 0), (.getfield 22, 32, [9, 3], 0), (.aload_n 0, 35, [], 0), (.getfield 15, 36, [9, 1], 0), (.bipush 8, 39, [], 0), (.iastore, 41, [], 0), (.aload_n 0, 42, [], 0), (.getfield 26, 43, [9, 4], 0), (.aload_n 0, 46, [], 0), (.getfield 15, 47, [9, 1], 0), (.iconst (-1), 50, [], 0), (.iastore, 51, [], 0), (.aload_n 0, 52, [], 0), (.getfield 29, 53, [9, 5], 0), (.aload_n 0, 56, [], 0), (.getfield 15, 57, [9, 1], 0), (.iconst 0, 60, [], 0), (.iastore, 61, [], 0), (.iload_n 2, 62, [], 0), (.bipush 8, 63, [], 0), (.if_icmp .ne 4, 65, [40], 0), (.return_, 68, [], 0), (.iload_n 3, 69, [], 0), (.iconst (-1), 70, [], 0), (.if_icmp .ne 7, 71, [45], 0), (.iconst 0, 74, [], 0), (.goto 7, 75, [48], 0), (.iload 4, 78, [], 0), (.iconst 2, 80, [], 0), (.idiv, 81, [], 0), (.istore 5, 82, [], 0), (.iload_n 3, 84, [], 0), (.iconst (-1), 85, [], 0), (.if_icmp .eq 13, 86, [57], 0), (.aload_n 0, 89, [], 0), (.iload_n 3, 90, [], 0), (.iload 5, 91, [], 0), (.invokevirtual 124, 93, [89, 2, 9], 0), (.ifCond .eq 7, 96, [59], 0), (.iconst 1, 99, [], 0), (.goto 4, 100, [60], 0), (.iconst 0, 103, [], 0), (.istore 6, 104, [], 0), (.aload_n 0, 106, [], 0), (.iload_n 2, 107, [], 0), (.iload 4, 108, [], 0), (.iload 5, 110, [], 0), (.isub, 112, [], 0), (.invokevirtual 124, 113, [89, 2, 9], 0), (.ifCond .eq 61, 116, [101], 0), (.iload 6, 119, [], 0), (.ifCond .eq 56, 121, [101], 0), (.aload_n 0, 124, [], 0), (.getfield 22, 125, [9, 3], 0), (.aload_n 0, 128, [], 0), (.getfield 15, 129, [9, 1], 0), (.iload_n 2, 132, [], 0), (.iastore, 133, [], 0), (.aload_n 0, 134, [], 0), (.getfield 26, 135, [9, 4], 0), (.aload_n 0, 138, [], 0), (.getfield 15, 139, [9, 1], 0), (.iload_n 3, 142, [], 0), (.iastore, 143, [], 0), (.aload_n 0, 144, [], 0), (.getfield 29, 145, [9, 5], 0), (.aload_n 0, 148, [], 0), (.getfield 15, 149, [9, 1], 0), (.iload 4, 152, [], 0), (.iastore, 154, [], 0), (.aload_n 0, 155, [], 0), (.iload_n 2, 156, [], 0), (.iload 4, 157, [], 0), (.iload 5, 159, [], 0), (.isub, 161, [], 0), (.invokevirtual 128, 162, [105, 2, 9], 0), (.iload_n 3, 165, [], 0), (.iconst (-1), 166, [], 0), (.if_icmp .eq 10, 167, [101], 0), (.aload_n 0, 170, [], 0), (.iload_n 3, 171, [], 0), (.iload 5, 172, [], 0), (.invokevirtual 128, 174, [105, 2, 9], 0), (.return_, 177, [], 0)], (0, 9, 1), (0, 0))
set_option maxRecDepth 100000 in
def mt_X10_moveRiver : mj_T := (yX10_moveRiver, cX10_moveRiver, 5, none, [(.aload_n 0, 0, [], 0), (.getfield 22, 1, [9, 3], 0), (.aload_n 0, 4, [], 0), (.getfield 15, 5, [9, 1], 0), (.iaload, 8, [], 0), (.istore_n 2, 9, [], 0), (.aload_n 1, 10, [], 0), (.iload_n 2, 11, [], 0), (.invokevirtual 141, 12, [37, 1, 3], 0), (.aload_n 1, 15, [], 0), (.aload_n 0, 16, [], 0), (.getfield 37, 17, [9, 7], 0), (.invokevirtual 141, 20, [37, 1, 3], 0), (.isub, 23, [], 0), (.invokestatic 145, 24, [2], 0), (.istore_n 3, 27, [], 0), (.aload_n 1, 28, [], 0), (.getfield 148, 29, [3, 6], 0), (.iload_n 3, 32, [], 0), (.imul, 33, [], 0), (.aload_n 0, 34, [], 0), (.aload_n 1, 35, [], 0), (.iload_n 2, 36, [], 0), (.invokevirtual 151, 37, [88, 2, 9], 0), (.iadd, 40, [], 0), (.aload_n 0, 41, [], 0), (.aload_n 1, 42, [], 0), (.aload_n 0, 43, [], 0), (.getfield 26, 44, [9, 4], 0), (.aload_n 0, 47, [], 0), (.getfield 15, 48, [9, 1], 0), (.iaload, 51, [], 0), (.invokevirtual 151, 52, [88, 2, 9], 0), (.iadd, 55, [], 0), (.istore 4, 56, [], 0), (.aload_n 0, 58, [], 0), (.dup, 59, [], 0), (.getfield 58, 60, [9, 14], 0), (.iload 4, 63, [], 0), (.iadd, 65, [], 0), (.putfield 58, 66, [9, 14], 0), (.aload_n 0, 69, [], 0), (.dup, 70, [], 0), (.getfield 19, 71, [9, 2], 0), (.iload 4, 74, [], 0), (.isub, 76, [], 0), (.putfield 19, 77, [9, 2], 0), (.aload_n 0, 80, [], 0), (.iconst 0, 81, [], 0), (.aload_n 0, 82, [], 0), (.getfield 40, 83, [9, 8], 0), (.iload_n 3, 86, [], 0), (.isub, 87, [], 0), (.invokestatic 135, 88, [0], 0), (.putfield 40, 91, [9, 8], 0), (.aload_n 0, 94, [], 0), (.iload_n 2, 95, [], 0), (.putfield 37, 96, [9, 7], 0), (.return_, 99, [], 0)], (0, 9, 1), (0, 0))
set_option maxRecDepth 100000 in
def mt_X10_nextMonth : mj_T := (yX10_nextMonth, cX10_nextMonth, 5, none, [(.aload_n 0, 0, [], 0), (.getfield 15, 1, [9, 1], 0), (.bipush 12, 4, [], 0), (.if_icmp .lt 4, 6, [5], 0), (.return_, 9, [], 0), (.aload_n 2, 10, [], 0), (.aload_n 0, 11, [], 0), (.getfield 15, 12, [9, 1], 0), (.invokevirtual 82, 15, [24, 1, 1], 0), (.ifCond .eq 11, 18, [14], 0), (.aload_n 0, 21, [], 0), (.aload_n 2, 22, [], 0), (.invokevirtual 88, 23, [101, 1, 9], 0), (.goto 8, 26, [17], 0), (.aload_n 0, 29, [], 0), (.aload_n 1, 30, [], 0), (.invokevirtual 92, 31, [100, 1, 9], 0), (.aload_n 0, 34, [], 0), (.aload_n 1, 35, [], 0), (.invokevirtual 96, 36, [102, 1, 9], 0), (.aload_n 0, 39, [], 0), (.aload_n 1, 40, [], 0), (.aload_n 1, 41, [], 0), (.getfield 99, 42, [3, 3], 0), (.aload_n 0, 45, [], 0), (.getfield 15, 46, [9, 1], 0), (.iaload, 49, [], 0), (.iload_n 3, 50, [], 0), (.iadd, 51, [], 0), (.invokevirtual 102, 52, [106, 2, 9], 0), (.iconst 0, 55, [], 0), (.istore 4, 56, [], 0), (.iload 4, 58, [], 0), (.aload_n 1, 60, [], 0), (.getfield 106, 61, [3, 4], 0), (.if_icmp .ge 16, 64, [42], 0), (.aload_n 0, 67, [], 0), (.aload_n 1, 68, [], 0), (.iload 4, 69, [], 0), (.invokevirtual 109, 71, [92, 2, 9], 0), (.iinc 4 1, 74, [], 0), (.goto (-19), 77, [32], 0), (.aload_n 0, 80, [], 0), (.dup, 81, [], 0), (.getfield 15, 82, [9, 1], 0), (.iconst 1, 85, [], 0), (.iadd, 86, [], 0), (.putfield 15, 87, [9, 1], 0), (.aload_n 0, 90, [], 0), (.getfield 15, 91, [9, 1], 0), (.bipush 12, 94, [], 0), (.if_icmp .ne 8, 96, [55], 0), (.aload_n 0, 99, [], 0), (.aload_n 1, 100, [], 0), (.invokevirtual 112, 101, [94, 1, 9], 0), (.return_, 104, [], 0)], (0, 9, 3), (0, 0))
set_option maxRecDepth 100000 in
def mt_X10_number : mj_T := (yX10_number, cX10_number, 2, (some .int), [(.iload_n 1, 0, [], 0), (.tableswitch 114 0 10 #[59, 64, 69, 74, 79, 84, 89, 94, 99, 104, 109], 1, [35, 2, 5, 8, 11, 14, 17, 20, 23, 26, 29, 32], 59), (.aload_n 0, 60, [], 0), (.getfield 15, 61, [9, 1], 0), (.ireturn, 64, [], 0), (.aload_n 0, 65, [], 0), (.getfield 37, 66, [9, 7], 0), (.ireturn, 69, [], 0), (.aload_n 0, 70, [], 0), (.getfield 19, 71, [9, 2], 0), (.ireturn, 74, [], 0), (.aload_n 0, 75, [], 0), (.getfield 40, 76, [9, 8], 0), (.ireturn, 79, [], 0), (.aload_n 0, 80, [], 0), (.getfield 43, 81, [9, 9], 0), (.ireturn, 84, [], 0), (.aload_n 0, 85, [], 0), (.getfield 46, 86, [9, 10], 0), (.ireturn, 89, [], 0), (.aload_n 0, 90, [], 0), (.getfield 49, 91, [9, 11], 0), (.ireturn, 94, [], 0), (.aload_n 0, 95, [], 0), (.getfield 52, 96, [9, 12], 0), (.ireturn, 99, [], 0), (.aload_n 0, 100, [], 0), (.invokevirtual 73, 101, [95, 0, 9], 0), (.ireturn, 104, [], 0), (.aload_n 0, 105, [], 0), (.getfield 55, 106, [9, 13], 0), (.ireturn, 109, [], 0), (.aload_n 0, 110, [], 0), (.getfield 58, 111, [9, 14], 0), (.ireturn, 114, [], 0), (.sipush (-1001), 115, [], 0), (.ireturn, 118, [], 0)], (0, 9, 1), (0, 0))
set_option maxRecDepth 100000 in
def mt_X10_pay : mj_T := (yX10_pay, cX10_pay, 3, none, [(.aload_n 0, 0, [], 0), (.getfield 34, 1, [9, 6], 0), (.iload_n 1, 4, [], 0), (.aaload, 5, [4], 0), (.iconst 1, 6, [], 0), (.dup2, 7, [], 0), (.iaload, 8, [], 0), (.iload_n 2, 9, [], 0), (.isub, 10, [], 0), (.iastore, 11, [], 0), (.aload_n 0, 12, [], 0), (.getfield 34, 13, [9, 6], 0), (.iload_n 1, 16, [], 0), (.aaload, 17, [4], 0), (.iconst 5, 18, [], 0), (.dup2, 19, [], 0), (.iaload, 20, [], 0), (.iload_n 2, 21, [], 0), (.iadd, 22, [], 0), (.iastore, 23, [], 0), (.aload_n 0, 24, [], 0), (.dup, 25, [], 0), (.getfield 19, 26, [9, 2], 0), (.iload_n 2, 29, [], 0), (.iadd, 30, [], 0), (.putfield 19, 31, [9, 2], 0), (.return_, 34, [], 0)], (0, 9, 2), (0, 0))
set_option maxRecDepth 100000 in
def mt_X10_pour : mj_T := (yX10_pour, cX10_pour, 6, none, [(.aload_n 0, 0, [], 0), (.getfield 22, 1, [9, 3], 0), (.aload_n 0, 4, [], 0), (.getfield 15, 5, [9, 1], 0), (.iaload, 8, [], 0), (.istore_n 3, 9, [], 0), (.aload_n 0, 10, [], 0), (.getfield 26, 11, [9, 4], 0), (.aload_n 0, 14, [], 0), (.getfield 15, 15, [9, 1], 0), (.iaload, 18, [], 0), (.istore 4, 19, [], 0), (.aload_n 0, 21, [], 0), (.dup, 22, [], 0), (.getfield 43, 23, [9, 9], 0), (.iload_n 2, 26, [], 0), (.iadd, 27, [], 0), (.putfield 43, 28, [9, 9], 0), (.iload_n 3, 31, [], 0), (.bipush 8, 32, [], 0), (.if_icmp .ne 14, 34, [28], 0), (.aload_n 0, 37, [], 0), (.dup, 38, [], 0), (.getfield 52, 39, [9, 12], 0), (.iload_n 2, 42, [], 0), (.iadd, 43, [], 0), (.putfield 52, 44, [9, 12], 0), (.return_, 47, [], 0), (.aload_n 0, 48, [], 0), (.dup, 49, [], 0), (.getfield 55, 50, [9, 13], 0), (.iconst 1, 53, [], 0), (.iadd, 54, [], 0), (.putfield 55, 55, [9, 13], 0), (.iload 4, 58, [], 0), (.iconst (-1), 60, [], 0), (.if_icmp .ne 7, 61, [39], 0), (.iconst 0, 64, [], 0), (.goto 6, 65, [42], 0), (.iload_n 2, 68, [], 0), (.iconst 2, 69, [], 0), (.idiv, 70, [], 0), (.istore 5, 71, [], 0), (.aload_n 0, 73, [], 0), (.aload_n 1, 74, [], 0), (.iload_n 3, 75, [], 0), (.iload_n 2, 76, [], 0), (.iload 5, 77, [], 0), (.isub, 79, [], 0), (.invokevirtual 155, 80, [107, 3, 9], 0), (.iload 4, 83, [], 0), (.iconst (-1), 85, [], 0), (.if_icmp .eq 12, 86, [58], 0), (.aload_n 0, 89, [], 0), (.aload_n 1, 90, [], 0), (.iload 4, 91, [], 0), (.iload 5, 93, [], 0), (.invokevirtual 155, 95, [107, 3, 9], 0), (.return_, 98, [], 0)], (0, 9, 2), (0, 0))
set_option maxRecDepth 100000 in
def mt_X10_pourTo : mj_T := (yX10_pourTo, cX10_pourTo, 8, none, [(.aload_n 0, 0, [], 0), (.getfield 34, 1, [9, 6], 0), (.iload_n 2, 4, [], 0), (.aaload, 5, [4], 0), (.astore 4, 6, [], 0), (.iload_n 3, 8, [], 0), (.aload_n 1, 9, [], 0), (.getfield 64, 10, [3, 1], 0), (.iload_n 2, 13, [], 0), (.aaload, 14, [4], 0), (.iconst 0, 15, [], 0), (.iaload, 16, [], 0), (.invokestatic 159, 17, [1], 0), (.istore 5, 20, [], 0), (.iload_n 3, 22, [], 0), (.iload 5, 23, [], 0), (.isub, 25, [], 0), (.istore 6, 26, [], 0), (.iload 6, 28, [], 0), (.aload_n 1, 30, [], 0), (.getfield 64, 31, [3, 1], 0), (.iload_n 2, 34, [], 0), (.aaload, 35, [4], 0), (.iconst 1, 36, [], 0), (.iaload, 37, [], 0), (.aload 4, 38, [], 0), (.iconst 0, 40, [], 0), (.iaload, 41, [], 0), (.isub, 42, [], 0), (.invokestatic 159, 43, [1], 0), (.istore 7, 46, [], 0), (.aload_n 0, 48, [], 0), (.dup, 49, [], 0), (.getfield 49, 50, [9, 11], 0), (.iload 5, 53, [], 0), (.iadd, 55, [], 0), (.putfield 49, 56, [9, 11], 0), (.aload_n 0, 59, [], 0), (.dup, 60, [], 0), (.getfield 52, 61, [9, 12], 0), (.iload 6, 64, [], 0), (.iload 7, 66, [], 0), (.isub, 68, [], 0), (.iadd, 69, [], 0), (.putfield 52, 70, [9, 12], 0), (.aload 4, 73, [], 0), (.iconst 0, 75, [], 0), (.dup2, 76, [], 0), (.iaload, 77, [], 0), (.iload 7, 78, [], 0), (.iadd, 80, [], 0), (.iastore, 81, [], 0), (.aload 4, 82, [], 0), (.bipush 6, 84, [], 0), (.dup2, 86, [], 0), (.iaload, 87, [], 0), (.iload 7, 88, [], 0), (.iadd, 90, [], 0), (.iastore, 91, [], 0), (.aload 4, 92, [], 0), (.iconst 4, 94, [], 0), (.dup2, 95, [], 0), (.iaload, 96, [], 0), (.iconst 1, 97, [], 0), (.iadd, 98, [], 0), (.iastore, 99, [], 0), (.aload 4, 100, [], 0), (.iconst 1, 102, [], 0), (.dup2, 103, [], 0), (.iaload, 104, [], 0), (.aload_n 1, 105, [], 0), (.getfield 64, 106, [3, 1], 0), (.iload_n 2, 109, [], 0), (.aaload, 110, [4], 0), (.iconst 5, 111, [], 0), (.iaload, 112, [], 0), (.iadd, 113, [], 0), (.iastore, 114, [], 0), (.return_, 115, [], 0)], (0, 9, 3), (0, 0))
set_option maxRecDepth 100000 in
def mt_X10_start : mj_T := (yX10_start, cX10_start, 4, none, [(.aload_n 0, 0, [], 0), (.iconst 1, 1, [], 0), (.putfield 9, 2, [9, 0], 0), (.aload_n 0, 5, [], 0), (.iconst 0, 6, [], 0), (.putfield 15, 7, [9, 1], 0), (.aload_n 0, 10, [], 0), (.iconst 0, 11, [], 0), (.putfield 19, 12, [9, 2], 0), (.aload_n 0, 15, [], 0), (.bipush 8, 16, [], 0), (.putfield 37, 18, [9, 7], 0), (.aload_n 0, 21, [], 0), (.aload_n 1, 22, [], 0), (.getfield 61, 23, [3, 7], 0), (.putfield 40, 26, [9, 8], 0), (.aload_n 0, 29, [], 0), (.iconst 0, 30, [], 0), (.putfield 43, 31, [9, 9], 0), (.aload_n 0, 34, [], 0), (.iconst 0, 35, [], 0), (.putfield 46, 36, [9, 10], 0), (.aload_n 0, 39, [], 0), (.iconst 0, 40, [], 0), (.putfield 49, 41, [9, 11], 0), (.aload_n 0, 44, [], 0), (.iconst 0, 45, [], 0), (.putfield 52, 46, [9, 12], 0), (.aload_n 0, 49, [], 0), (.iconst 0, 50, [], 0), (.putfield 55, 51, [9, 13], 0), (.aload_n 0, 54, [], 0), (.iconst 0, 55, [], 0), (.putfield 58, 56, [9, 14], 0), (.iconst 0, 59, [], 0), (.istore_n 2, 60, [], 0), (.iload_n 2, 61, [], 0), (.bipush 8, 62, [], 0), (.if_icmp .ge 48, 64, [67], 0), (.iconst 0, 67, [], 0), (.istore_n 3, 68, [], 0), (.iload_n 3, 69, [], 0), (.bipush 11, 70, [], 0), (.if_icmp .ge 18, 72, [53], 0), (.aload_n 0, 75, [], 0), (.getfield 34, 76, [9, 6], 0), (.iload_n 2, 79, [], 0), (.aaload, 80, [4], 0), (.iload_n 3, 81, [], 0), (.iconst 0, 82, [], 0), (.iastore, 83, [], 0), (.iinc 3 1, 84, [], 0), (.goto (-18), 87, [41], 0), (.aload_n 0, 90, [], 0), (.getfield 34, 91, [9, 6], 0), (.iload_n 2, 94, [], 0), (.aaload, 95, [4], 0), (.iconst 1, 96, [], 0), (.aload_n 1, 97, [], 0), (.getfield 64, 98, [3, 1], 0), (.iload_n 2, 101, [], 0), (.aaload, 102, [4], 0), (.iconst 3, 103, [], 0), (.iaload, 104, [], 0), (.iastore, 105, [], 0), (.iinc 2 1, 106, [], 0), (.goto (-48), 109, [36], 0), (.return_, 112, [], 0)], (0, 9, 1), (0, 0))
set_option maxRecDepth 100000 in
def mt_X10_waterField : mj_T := (yX10_waterField, cX10_waterField, 5, none, [(.aload_n 0, 0, [], 0), (.getfield 34, 1, [9, 6], 0), (.iload_n 2, 4, [], 0), (.aaload, 5, [4], 0), (.astore_n 3, 6, [], 0), (.aload_n 1, 7, [], 0), (.getfield 64, 8, [3, 1], 0), (.iload_n 2, 11, [], 0), (.aaload, 12, [4], 0), (.bipush 7, 13, [], 0), (.iaload, 15, [], 0), (.istore 4, 16, [], 0), (.iload 4, 18, [], 0), (.ifCond .le 56, 20, [50], 0), (.aload_n 3, 23, [], 0), (.iconst 0, 24, [], 0), (.iaload, 25, [], 0), (.iload 4, 26, [], 0), (.if_icmp .lt 48, 28, [50], 0), (.aload_n 3, 31, [], 0), (.iconst 0, 32, [], 0), (.dup2, 33, [], 0), (.iaload, 34, [], 0), (.iload 4, 35, [], 0), (.isub, 37, [], 0), (.iastore, 38, [], 0), (.aload_n 0, 39, [], 0), (.dup, 40, [], 0), (.getfield 46, 41, [9, 10], 0), (.iload 4, 44, [], 0), (.iadd, 46, [], 0), (.putfield 46, 47, [9, 10], 0), (.aload_n 3, 50, [], 0), (.bipush 10, 51, [], 0), (.dup2, 53, [], 0), (.iaload, 54, [], 0), (.iconst 1, 55, [], 0), (.iadd, 56, [], 0), (.iastore, 57, [], 0), (.aload_n 3, 58, [], 0), (.bipush 8, 59, [], 0), (.aload_n 3, 61, [], 0), (.bipush 8, 62, [], 0), (.iaload, 64, [], 0), (.aload_n 3, 65, [], 0), (.bipush 10, 66, [], 0), (.iaload, 68, [], 0), (.invokestatic 135, 69, [0], 0), (.iastore, 72, [], 0), (.goto 8, 73, [54], 0), (.aload_n 3, 76, [], 0), (.bipush 10, 77, [], 0), (.iconst 0, 79, [], 0), (.iastore, 80, [], 0), (.return_, 81, [], 0)], (0, 9, 2), (0, 0))
set_option maxRecDepth 100000 in
def mt_X11_begin : mj_T := (yX11_begin, cX11_begin, 1, (some .boolean), [(.aload_n 0, 0, [], 0), (.getfield 19, 1, [10, 1], 0), (.getfield 94, 4, [6, 0], 0), (.getfield 160, 7, [3, 4], 0), (.ifCond .ne 5, 10, [7], 0), (.iconst 0, 13, [], 0), (.ireturn, 14, [], 1), (.aload_n 0, 15, [], 0), (.getfield 19, 16, [10, 1], 0), (.getfield 130, 19, [6, 3], 0), (.aload_n 0, 22, [], 0), (.getfield 19, 23, [10, 1], 0), (.getfield 94, 26, [6, 0], 0), (.invokevirtual 205, 29, [108, 1, 9], 0), (.iconst 1, 32, [], 0), (.ireturn, 33, [], 1)], (0, 10, 0), (0, 0))
set_option maxRecDepth 100000 in
def mt_X11_bid : mj_T := (yX11_bid, cX11_bid, 3, (some .int), [(.aload_n 0, 0, [], 0), (.iload_n 1, 1, [], 0), (.invokevirtual 145, 2, [130, 1, 10], 0), (.ifCond .eq 10, 5, [7], 0), (.iload_n 2, 8, [], 0), (.invokestatic 163, 9, [129, 1, 10], 0), (.ifCond .ne 5, 12, [9], 0), (.iconst (-1), 15, [], 0), (.ireturn, 16, [], 0), (.aload_n 0, 17, [], 0), (.getfield 19, 18, [10, 1], 0), (.getfield 94, 21, [6, 0], 0), (.getfield 166, 24, [3, 2], 0), (.iload_n 1, 27, [], 0), (.aaload, 28, [4], 0), (.iload_n 2, 29, [], 0), (.iaload, 30, [], 0), (.ireturn, 31, [], 0)], (0, 10, 2), (0, 0))
set_option maxRecDepth 100000 in
def mt_X11_bidsOf : mj_T := (yX11_bidsOf, cX11_bidsOf, 4, (some .int), [(.aload_n 0, 0, [], 0), (.iload_n 1, 1, [], 0), (.invokevirtual 145, 2, [130, 1, 10], 0), (.ifCond .ne 5, 5, [6], 0), (.iconst (-1), 8, [], 0), (.ireturn, 9, [], 0), (.iconst 0, 10, [], 0), (.istore_n 2, 11, [], 0), (.iconst 0, 12, [], 0), (.istore_n 3, 13, [], 0), (.iload_n 3, 14, [], 0), (.bipush 12, 15, [], 0), (.if_icmp .ge 26, 17, [26], 0), (.iload_n 2, 20, [], 0), (.aload_n 0, 21, [], 0), (.getfield 19, 22, [10, 1], 0), (.getfield 94, 25, [6, 0], 0), (.getfield 166, 28, [3, 2], 0), (.iload_n 1, 31, [], 0), (.aaload, 32, [4], 0), (.iload_n 3, 33, [], 0), (.iaload, 34, [], 0), (.iadd, 35, [], 0), (.istore_n 2, 36, [], 0), (.iinc 3 1, 37, [], 0), (.goto (-26), 40, [10], 0), (.iload_n 2, 43, [], 0), (.ireturn, 44, [], 0)], (0, 10, 1), (0, 0))
set_option maxRecDepth 100000 in
def mt_X11_byteAt : mj_T := (yX11_byteAt, cX11_byteAt, 2, (some .int), [(.iload_n 1, 0, [], 0), (.ifCond .lt 27, 1, [14], 0), (.iload_n 1, 4, [], 0), (.aload_n 0, 5, [], 0), (.getfield 73, 6, [10, 11], 0), (.if_icmp .ge 19, 9, [14], 0), (.iload_n 1, 12, [], 0), (.sipush 300, 13, [], 0), (.if_icmp .ge 12, 16, [14], 0), (.aload_n 0, 19, [], 0), (.getfield 69, 20, [10, 10], 0), (.iload_n 1, 23, [], 0), (.baload, 24, [], 0), (.goto 4, 25, [15], 0), (.iconst (-1), 28, [], 0), (.ireturn, 29, [], 0)], (0, 10, 1), (0, 0))
set_option maxRecDepth 100000 in
def mt_X11_cheapest : mj_T := (yX11_cheapest, cX11_cheapest, 1, (some .int), [(.aload_n 0, 0, [], 0), (.getfield 19, 1, [10, 1], 0), (.getfield 94, 4, [6, 0], 0), (.getfield 160, 7, [3, 4], 0), (.ifCond .eq 17, 10, [11], 0), (.aload_n 0, 13, [], 0), (.getfield 19, 14, [10, 1], 0), (.getfield 94, 17, [6, 0], 0), (.getfield 160, 20, [3, 4], 0), (.iconst 3, 23, [], 0), (.if_icmp .le 6, 24, [13], 0), (.bipush (-2), 27, [], 0), (.ireturn, 29, [], 0), (.aload_n 0, 30, [], 0), (.getfield 44, 31, [10, 6], 0), (.aload_n 0, 34, [], 0), (.getfield 19, 35, [10, 1], 0), (.getfield 94, 38, [6, 0], 0), (.invokevirtual 231, 41, [13, 1, 0], 0), (.ireturn, 44, [], 0)], (0, 10, 0), (0, 0))
set_option maxRecDepth 100000 in
def mt_X11_closeTape : mj_T := (yX11_closeTape, cX11_closeTape, 2, (some .int), [(.aload_n 0, 0, [], 0), (.getfield 10, 1, [10, 0], 0), (.iconst 0, 4, [], 0), (.putfield 91, 5, [7, 1], 0), (.aload_n 0, 8, [], 0), (.aload_n 0, 9, [], 0), (.getfield 10, 10, [10, 0], 0), (.getfield 110, 13, [7, 2], 0), (.putfield 77, 16, [10, 12], 0), (.aload_n 0, 19, [], 0), (.getfield 77, 20, [10, 12], 0), (.ifCond .ne 7, 23, [14], 0), (.iload_n 1, 26, [], 0), (.goto 12, 27, [19], 0), (.iconst (-1), 30, [], 0), (.aload_n 0, 31, [], 0), (.getfield 10, 32, [10, 0], 0), (.getfield 142, 35, [7, 3], 0), (.isub, 38, [], 0), (.ireturn, 39, [], 0)], (0, 10, 1), (0, 0))
set_option maxRecDepth 100000 in
def mt_X11_contract : mj_T := (yX11_contract, cX11_contract, 3, (some .int), [(.iload_n 1, 0, [], 0), (.invokestatic 163, 1, [129, 1, 10], 0), (.ifCond .eq 17, 4, [9], 0), (.aload_n 0, 7, [], 0), (.getfield 19, 8, [10, 1], 0), (.getfield 116, 11, [6, 1], 0), (.iload_n 1, 14, [], 0), (.invokevirtual 193, 15, [24, 1, 1], 0), (.ifCond .ne 5, 18, [11], 0), (.iconst (-1), 21, [], 0), (.ireturn, 22, [], 0), (.iload_n 2, 23, [], 0), (.tableswitch 67 0 2 #[28, 41, 54], 24, [34, 13, 20, 27], 28), (.aload_n 0, 52, [], 0), (.getfield 19, 53, [10, 1], 0), (.getfield 116, 56, [6, 1], 0), (.getfield 196, 59, [1, 0], 0), (.iload_n 1, 62, [], 0), (.iaload, 63, [], 0), (.ireturn, 64, [], 0), (.aload_n 0, 65, [], 0), (.getfield 19, 66, [10, 1], 0), (.getfield 116, 69, [6, 1], 0), (.getfield 199, 72, [1, 1], 0), (.iload_n 1, 75, [], 0), (.iaload, 76, [], 0), (.ireturn, 77, [], 0), (.aload_n 0, 78, [], 0), (.getfield 19, 79, [10, 1], 0), (.getfield 116, 82, [6, 1], 0), (.getfield 202, 85, [1, 2], 0), (.iload_n 1, 88, [], 0), (.iaload, 89, [], 0), (.ireturn, 90, [], 0), (.iconst (-1), 91, [], 0), (.ireturn, 92, [], 0)], (0, 10, 2), (0, 0))
set_option maxRecDepth 100000 in
def mt_X11_contracts : mj_T := (yX11_contracts, cX11_contracts, 2, (some .int), [(.aload_n 0, 0, [], 0), (.getfield 23, 1, [10, 2], 0), (.getfield 116, 4, [6, 1], 0), (.astore_n 1, 7, [], 0), (.aload_n 1, 8, [], 0), (.invokevirtual 120, 9, [17, 0, 1], 0), (.aload_n 0, 12, [], 0), (.getfield 10, 13, [10, 0], 0), (.sipush 400, 16, [], 0), (.invokevirtual 103, 19, [80, 1, 7], 0), (.aload_n 1, 22, [], 0), (.aload_n 0, 23, [], 0), (.getfield 10, 24, [10, 0], 0), (.aload_n 0, 27, [], 0), (.getfield 19, 28, [10, 1], 0), (.getfield 94, 31, [6, 0], 0), (.invokevirtual 187, 34, [22, 2, 1], 0), (.aload_n 0, 37, [], 0), (.getfield 10, 38, [10, 0], 0), (.getfield 110, 41, [7, 2], 0), (.ifCond .ne 25, 44, [31], 0), (.aload_n 0, 47, [], 0), (.getfield 23, 48, [10, 2], 0), (.aload_n 0, 51, [], 0), (.getfield 19, 52, [10, 1], 0), (.getfield 116, 55, [6, 1], 0), (.putfield 116, 58, [6, 1], 0), (.aload_n 0, 61, [], 0), (.getfield 19, 62, [10, 1], 0), (.aload_n 1, 65, [], 0), (.putfield 116, 66, [6, 1], 0), (.aload_n 0, 69, [], 0), (.aload_n 1, 70, [], 0), (.getfield 190, 71, [1, 3], 0), (.invokevirtual 138, 74, [115, 1, 10], 0), (.ireturn, 77, [], 0)], (0, 10, 0), (0, 0))
set_option maxRecDepth 100000 in
def mt_X11_count : mj_T := (yX11_count, cX11_count, 2, (some .int), [(.iload_n 1, 0, [], 0), (.tableswitch 117 0 6 #[43, 54, 65, 76, 87, 98, 109], 1, [36, 2, 7, 12, 17, 22, 27, 32], 43), (.aload_n 0, 44, [], 0), (.getfield 19, 45, [10, 1], 0), (.getfield 94, 48, [6, 0], 0), (.getfield 160, 51, [3, 4], 0), (.ireturn, 54, [], 0), (.aload_n 0, 55, [], 0), (.getfield 19, 56, [10, 1], 0), (.getfield 94, 59, [6, 0], 0), (.getfield 169, 62, [3, 5], 0), (.ireturn, 65, [], 0), (.aload_n 0, 66, [], 0), (.getfield 19, 67, [10, 1], 0), (.getfield 94, 70, [6, 0], 0), (.getfield 340, 73, [3, 6], 0), (.ireturn, 76, [], 0), (.aload_n 0, 77, [], 0), (.getfield 19, 78, [10, 1], 0), (.getfield 94, 81, [6, 0], 0), (.getfield 343, 84, [3, 7], 0), (.ireturn, 87, [], 0), (.aload_n 0, 88, [], 0), (.getfield 19, 89, [10, 1], 0), (.getfield 94, 92, [6, 0], 0), (.getfield 346, 95, [3, 8], 0), (.ireturn, 98, [], 0), (.aload_n 0, 99, [], 0), (.getfield 19, 100, [10, 1], 0), (.getfield 116, 103, [6, 1], 0), (.getfield 190, 106, [1, 3], 0), (.ireturn, 109, [], 0), (.aload_n 0, 110, [], 0), (.getfield 10, 111, [10, 0], 0), (.getfield 91, 114, [7, 1], 0), (.ireturn, 117, [], 0), (.iconst (-1), 118, [], 0), (.ireturn, 119, [], 0)], (0, 10, 1), (0, 0))
set_option maxRecDepth 100000 in
def mt_X11_drawn : mj_T := (yX11_drawn, cX11_drawn, 2, (some .int), [(.aload_n 0, 0, [], 0), (.getfield 19, 1, [10, 1], 0), (.getfield 94, 4, [6, 0], 0), (.getfield 160, 7, [3, 4], 0), (.ifCond .ne 7, 10, [7], 0), (.sipush (-10001), 13, [], 0), (.ireturn, 16, [], 0), (.aload_n 0, 17, [], 0), (.getfield 65, 18, [10, 9], 0), (.aload_n 0, 21, [], 0), (.getfield 19, 22, [10, 1], 0), (.getfield 94, 25, [6, 0], 0), (.invokevirtual 205, 28, [108, 1, 9], 0), (.aload_n 0, 31, [], 0), (.getfield 65, 32, [10, 9], 0), (.aload_n 0, 35, [], 0), (.getfield 19, 36, [10, 1], 0), (.getfield 94, 39, [6, 0], 0), (.aload_n 0, 42, [], 0), (.getfield 19, 43, [10, 1], 0), (.getfield 116, 46, [6, 1], 0), (.iload_n 1, 49, [], 0), (.invokevirtual 315, 50, [91, 3, 9], 0), (.aload_n 0, 53, [], 0), (.getfield 65, 54, [10, 9], 0), (.getfield 309, 57, [9, 2], 0), (.ireturn, 60, [], 0)], (0, 10, 1), (0, 0))
set_option maxRecDepth 100000 in
def mt_X11_droughts : mj_T := (yX11_droughts, cX11_droughts, 3, (some .int), [(.aload_n 0, 0, [], 0), (.getfield 19, 1, [10, 1], 0), (.getfield 130, 4, [6, 3], 0), (.getfield 133, 7, [9, 0], 0), (.ifCond .ne 5, 10, [7], 0), (.iconst (-1), 13, [], 0), (.ireturn, 14, [], 0), (.iconst 0, 15, [], 0), (.istore_n 1, 16, [], 0), (.iconst 0, 17, [], 0), (.istore_n 2, 18, [], 0), (.iload_n 2, 19, [], 0), (.aload_n 0, 20, [], 0), (.getfield 19, 21, [10, 1], 0), (.getfield 130, 24, [6, 3], 0), (.getfield 209, 27, [9, 1], 0), (.if_icmp .ge 38, 30, [36], 0), (.iload_n 2, 33, [], 0), (.bipush 12, 34, [], 0), (.if_icmp .ge 32, 36, [36], 0), (.aload_n 0, 39, [], 0), (.getfield 19, 40, [10, 1], 0), (.getfield 130, 43, [6, 3], 0), (.getfield 222, 46, [9, 3], 0), (.iload_n 2, 49, [], 0), (.iaload, 50, [], 0), (.bipush 8, 51, [], 0), (.if_icmp .ne 9, 53, [34], 0), (.iload_n 1, 56, [], 0), (.iconst 1, 57, [], 0), (.iload_n 2, 58, [], 0), (.ishl, 59, [], 0), (.ior, 60, [], 0), (.istore_n 1, 61, [], 0), (.iinc 2 1, 62, [], 0), (.goto (-46), 65, [11], 0), (.iload_n 1, 68, [], 0), (.ireturn, 69, [], 0)], (0, 10, 0), (0, 0))
set_option maxRecDepth 100000 in
def mt_X11_end : mj_T := (yX11_end, cX11_end, 2, (some .boolean), [(.iload_n 1, 0, [], 0), (.ifCond .lt 14, 1, [7], 0), (.iload_n 1, 4, [], 0), (.aload_n 0, 5, [], 0), (.getfield 10, 6, [10, 0], 0), (.getfield 91, 9, [7, 1], 0), (.if_icmp .le 5, 12, [9], 0), (.iconst 0, 15, [], 0), (.ireturn, 16, [], 1), (.aload_n 0, 17, [], 0), (.getfield 10, 18, [10, 0], 0), (.iload_n 1, 21, [], 0), (.putfield 91, 22, [7, 1], 0), (.iconst 1, 25, [], 0), (.ireturn, 26, [], 1)], (0, 10, 1), (0, 0))
set_option maxRecDepth 100000 in
def mt_X11_enough : mj_T := (yX11_enough, cX11_enough, 6, (some .int), [(.aload_n 0, 0, [], 0), (.iload_n 1, 1, [], 0), (.invokevirtual 145, 2, [130, 1, 10], 0), (.ifCond .ne 5, 5, [6], 0), (.iconst (-1), 8, [], 0), (.ireturn, 9, [], 0), (.aload_n 0, 10, [], 0), (.getfield 19, 11, [10, 1], 0), (.getfield 94, 14, [6, 0], 0), (.getfield 156, 17, [3, 1], 0), (.iload_n 1, 20, [], 0), (.aaload, 21, [4], 0), (.iconst 4, 22, [], 0), (.iaload, 23, [], 0), (.istore_n 2, 24, [], 0), (.iconst 0, 25, [], 0), (.istore_n 3, 26, [], 0), (.iconst 0, 27, [], 0), (.istore 4, 28, [], 0), (.iload 4, 30, [], 0), (.bipush 12, 32, [], 0), (.if_icmp .gt 55, 34, [53], 0), (.iload_n 2, 37, [], 0), (.ifCond .gt 6, 38, [26], 0), (.iload 4, 41, [], 0), (.ireturn, 43, [], 0), (.aload_n 0, 44, [], 0), (.iload_n 1, 45, [], 0), (.iload_n 3, 46, [], 0), (.invokevirtual 270, 47, [134, 2, 10], 0), (.istore 5, 50, [], 0), (.iload 5, 52, [], 0), (.iconst (-1), 54, [], 0), (.if_icmp .ne 5, 55, [36], 0), (.iconst (-1), 58, [], 0), (.ireturn, 59, [], 0), (.iload_n 3, 60, [], 0), (.iconst 1, 61, [], 0), (.iload 5, 62, [], 0), (.ishl, 64, [], 0), (.ior, 65, [], 0), (.istore_n 3, 66, [], 0), (.iload_n 2, 67, [], 0), (.aload_n 0, 68, [], 0), (.getfield 19, 69, [10, 1], 0), (.getfield 94, 72, [6, 0], 0), (.iload_n 1, 75, [], 0), (.iload 5, 76, [], 0), (.invokevirtual 274, 78, [34, 2, 3], 0), (.isub, 81, [], 0), (.istore_n 2, 82, [], 0), (.iinc 4 1, 83, [], 0), (.goto (-56), 86, [19], 0), (.iconst (-1), 89, [], 0), (.ireturn, 90, [], 0)], (0, 10, 1), (0, 0))
set_option maxRecDepth 100000 in
def mt_X11_fault : mj_T := (yX11_fault, cX11_fault, 1, (some .int), [(.aload_n 0, 0, [], 0), (.getfield 77, 1, [10, 12], 0), (.ireturn, 4, [], 0)], (0, 10, 0), (0, 0))
set_option maxRecDepth 100000 in
def mt_X11_feed : mj_T := (yX11_feed, cX11_feed, 6, (some .int), [(.aload_n 0, 0, [], 0), (.getfield 10, 1, [10, 0], 0), (.invokevirtual 83, 4, [71, 0, 7], 0), (.ifCond .ne 5, 7, [6], 0), (.iconst (-1), 10, [], 0), (.ireturn, 11, [], 0), (.aload_n 0, 12, [], 0), (.getfield 10, 13, [10, 0], 0), (.iload_n 1, 16, [], 0), (.invokevirtual 87, 17, [81, 1, 7], 0), (.aload_n 0, 20, [], 0), (.getfield 10, 21, [10, 0], 0), (.iload_n 2, 24, [], 0), (.invokevirtual 87, 25, [81, 1, 7], 0), (.aload_n 0, 28, [], 0), (.getfield 10, 29, [10, 0], 0), (.iload_n 3, 32, [], 0), (.invokevirtual 87, 33, [81, 1, 7], 0), (.aload_n 0, 36, [], 0), (.getfield 10, 37, [10, 0], 0), (.iload 4, 40, [], 0), (.invokevirtual 87, 42, [81, 1, 7], 0), (.aload_n 0, 45, [], 0), (.getfield 10, 46, [10, 0], 0), (.iload 5, 49, [], 0), (.invokevirtual 87, 51, [81, 1, 7], 0), (.aload_n 0, 54, [], 0), (.getfield 10, 55, [10, 0], 0), (.getfield 91, 58, [7, 1], 0), (.ireturn, 61, [], 0)], (0, 10, 5), (0, 0))
set_option maxRecDepth 100000 in
def mt_X11_greatest : mj_T := (yX11_greatest, cX11_greatest, 5, (some .int), [(.iload_n 1, 0, [], 0), (.invokestatic 163, 1, [129, 1, 10], 0), (.ifCond .ne 5, 4, [5], 0), (.iconst (-1), 7, [], 0), (.ireturn, 8, [], 0), (.iconst (-1), 9, [], 0), (.istore_n 2, 10, [], 0), (.iconst 0, 11, [], 0), (.istore_n 3, 12, [], 0), (.iconst 0, 13, [], 0), (.istore 4, 14, [], 0), (.iload 4, 16, [], 0), (.aload_n 0, 18, [], 0), (.getfield 19, 19, [10, 1], 0), (.getfield 94, 22, [6, 0], 0), (.getfield 160, 25, [3, 4], 0), (.if_icmp .ge 47, 28, [40], 0), (.aload_n 0, 31, [], 0), (.getfield 19, 32, [10, 1], 0), (.getfield 94, 35, [6, 0], 0), (.getfield 166, 38, [3, 2], 0), (.iload 4, 41, [], 0), (.aaload, 43, [4], 0), (.iload_n 1, 44, [], 0), (.iaload, 45, [], 0), (.iload_n 3, 46, [], 0), (.if_icmp .le 22, 47, [38], 0), (.aload_n 0, 50, [], 0), (.getfield 19, 51, [10, 1], 0), (.getfield 94, 54, [6, 0], 0), (.getfield 166, 57, [3, 2], 0), (.iload 4, 60, [], 0), (.aaload, 62, [4], 0), (.iload_n 1, 63, [], 0), (.iaload, 64, [], 0), (.istore_n 3, 65, [], 0), (.iload 4, 66, [], 0), (.istore_n 2, 68, [], 0), (.iinc 4 1, 69, [], 0), (.goto (-56), 72, [11], 0), (.iload_n 2, 75, [], 0), (.ireturn, 76, [], 0)], (0, 10, 1), (0, 0))
set_option maxRecDepth 100000 in
def mt_X11_has : mj_T := (yX11_has, cX11_has, 2, (some .int), [(.iload_n 1, 0, [], 0), (.ifCond .lt 31, 1, [15], 0), (.iload_n 1, 4, [], 0), (.bipush 8, 5, [], 0), (.if_icmp .ge 25, 7, [15], 0), (.aload_n 0, 10, [], 0), (.getfield 51, 11, [10, 7], 0), (.getfield 251, 14, [4, 0], 0), (.ifCond .eq 15, 17, [15], 0), (.aload_n 0, 20, [], 0), (.getfield 51, 21, [10, 7], 0), (.getfield 252, 24, [4, 1], 0), (.iload_n 1, 27, [], 0), (.iaload, 28, [], 0), (.goto 4, 29, [16], 0), (.iconst (-1), 32, [], 0), (.ireturn, 33, [], 0)], (0, 10, 1), (0, 0))
set_option maxRecDepth 100000 in
def mt_X11_image : mj_T := (yX11_image, cX11_image, 2, (some .boolean), [(.iload_n 1, 0, [], 0), (.ifCond .lt 8, 1, [5], 0), (.iload_n 1, 4, [], 0), (.iconst 2, 5, [], 0), (.if_icmp .lt 5, 6, [7], 0), (.iconst 0, 9, [], 0), (.ireturn, 10, [], 1), (.aload_n 0, 11, [], 0), (.getfield 26, 12, [10, 3], 0), (.iload_n 1, 15, [], 0), (.aaload, 16, [6], 0), (.aload_n 0, 17, [], 0), (.getfield 19, 18, [10, 1], 0), (.invokevirtual 337, 21, [67, 1, 6], 0), (.aload_n 0, 24, [], 0), (.getfield 30, 25, [10, 4], 0), (.iload_n 1, 28, [], 0), (.iconst 1, 29, [], 0), (.bastore, 30, [], 0), (.iconst 1, 31, [], 0), (.ireturn, 32, [], 1)], (0, 10, 1), (0, 0))
set_option maxRecDepth 100000 in
def mt_X11_init : mj_T := (yX11_init, cX11_init, 2, none, [(.aload_n 0, 0, [], 0), (.invokespecial 1, 1, [], 0), (.aload_n 0, 4, [], 0), (.new 7, 5, [7, 12], 0), (.dup, 8, [], 0), (.invokespecial 9, 9, [72, 0, 7], 0), (.putfield 10, 12, [10, 0], 0), (.aload_n 0, 15, [], 0), (.new 16, 16, [6, 4], 0), (.dup, 19, [], 0), (.invokespecial 18, 20, [68, 0, 6], 0), (.putfield 19, 23, [10, 1], 0), (.aload_n 0, 26, [], 0), (.new 16, 27, [6, 4], 0), (.dup, 30, [], 0), (.invokespecial 18, 31, [68, 0, 6], 0), (.putfield 23, 34, [10, 2], 0), (.aload_n 0, 37, [], 0), (.iconst 2, 38, [], 0), (.anewarray 16, 39, [6], 0), (.putfield 26, 42, [10, 3], 0), (.aload_n 0, 45, [], 0), (.iconst 2, 46, [], 0), (.newarray .boolean, 47, [2], 0), (.putfield 30, 49, [10, 4], 0), (.aload_n 0, 52, [], 0), (.new 34, 53, [8, 4], 0), (.dup, 56, [], 0), (.invokespecial 36, 57, [86, 0, 8], 0), (.putfield 37, 60, [10, 5], 0), (.aload_n 0, 63, [], 0), (.new 41, 64, [0, 19], 0), (.dup, 67, [], 0), (.invokespecial 43, 68, [3, 0, 0], 0), (.putfield 44, 71, [10, 6], 0), (.aload_n 0, 74, [], 0), (.new 48, 75, [4, 4], 0), (.dup, 78, [], 0), (.invokespecial 50, 79, [50, 0, 4], 0), (.putfield 51, 82, [10, 7], 0), (.aload_n 0, 85, [], 0), (.new 55, 86, [2, 8], 0), (.dup, 89, [], 0), (.invokespecial 57, 90, [27, 0, 2], 0), (.putfield 58, 93, [10, 8], 0), (.aload_n 0, 96, [], 0), (.new 62, 97, [9, 15], 0), (.dup, 100, [], 0), (.invokespecial 64, 101, [96, 0, 9], 0), (.putfield 65, 104, [10, 9], 0), (.aload_n 0, 107, [], 0), (.sipush 300, 108, [], 0), (.newarray .byte, 111, [1], 0), (.putfield 69, 113, [10, 10], 0), (.aload_n 0, 116, [], 0), (.iconst 0, 117, [], 0), (.putfield 73, 118, [10, 11], 0), (.aload_n 0, 121, [], 0), (.iconst 0, 122, [], 0), (.putfield 77, 123, [10, 12], 0), (.aload_n 0, 126, [], 0), (.iconst 0, 127, [], 0), (.putfield 80, 128, [10, 13], 0), (.iconst 0, 131, [], 0), (.istore_n 1, 132, [], 0), (.iload_n 1, 133, [], 0), (.iconst 2, 134, [], 0), (.if_icmp .ge 22, 135, [77], 0), (.aload_n 0, 138, [], 0), (.getfield 26, 139, [10, 3], 0), (.iload_n 1, 142, [], 0), (.new 16, 143, [6, 4], 0), (.dup, 146, [], 0), (.invokespecial 18, 147, [68, 0, 6], 0), (.aastore, 150, [6], 0), (.iinc 1 1, 151, [], 0), (.goto (-21), 154, [65], 0), (.return_, 157, [], 0)], (2, 10, 0), (309, 4948))
set_option maxRecDepth 100000 in
def mt_X11_isMonth : mj_T := (yX11_isMonth, cX11_isMonth, 1, (some .boolean), [(.iload_n 0, 0, [], 0), (.ifCond .lt 13, 1, [7], 0), (.iload_n 0, 4, [], 0), (.bipush 12, 5, [], 0), (.if_icmp .ge 7, 7, [7], 0), (.iconst 1, 10, [], 0), (.goto 4, 11, [8], 0), (.iconst 0, 14, [], 0), (.ireturn, 15, [], 1)], (1, 10, 1), (0, 0))
set_option maxRecDepth 100000 in
def mt_X11_isTown : mj_T := (yX11_isTown, cX11_isTown, 2, (some .boolean), [(.iload_n 1, 0, [], 0), (.ifCond .lt 21, 1, [10], 0), (.iload_n 1, 4, [], 0), (.aload_n 0, 5, [], 0), (.getfield 19, 6, [10, 1], 0), (.getfield 94, 9, [6, 0], 0), (.getfield 160, 12, [3, 4], 0), (.if_icmp .ge 7, 15, [10], 0), (.iconst 1, 18, [], 0), (.goto 4, 19, [11], 0), (.iconst 0, 22, [], 0), (.ireturn, 23, [], 1)], (0, 10, 1), (0, 0))
set_option maxRecDepth 100000 in
def mt_X11_leak : mj_T := (yX11_leak, cX11_leak, 3, (some .int), [(.iload_n 1, 0, [], 0), (.ifCond .lt 29, 1, [15], 0), (.iload_n 1, 4, [], 0), (.aload_n 0, 5, [], 0), (.getfield 58, 6, [10, 8], 0), (.getfield 265, 9, [2, 1], 0), (.if_icmp .ge 18, 12, [15], 0), (.iload_n 1, 15, [], 0), (.bipush 40, 16, [], 0), (.if_icmp .ge 12, 18, [15], 0), (.iload_n 2, 21, [], 0), (.ifCond .lt 8, 22, [15], 0), (.iload_n 2, 25, [], 0), (.iconst 2, 26, [], 0), (.if_icmp .le 5, 27, [17], 0), (.iconst (-1), 30, [], 0), (.ireturn, 31, [], 0), (.aload_n 0, 32, [], 0), (.getfield 58, 33, [10, 8], 0), (.getfield 267, 36, [2, 0], 0), (.iload_n 1, 39, [], 0), (.aaload, 40, [4], 0), (.iload_n 2, 41, [], 0), (.iaload, 42, [], 0), (.ireturn, 43, [], 0)], (0, 10, 2), (0, 0))
set_option maxRecDepth 100000 in
def mt_X11_leaks : mj_T := (yX11_leaks, cX11_leaks, 2, (some .int), [(.aload_n 0, 0, [], 0), (.getfield 58, 1, [10, 8], 0), (.aload_n 0, 4, [], 0), (.getfield 10, 5, [10, 0], 0), (.aload_n 0, 8, [], 0), (.getfield 19, 9, [10, 1], 0), (.getfield 94, 12, [6, 0], 0), (.getfield 160, 15, [3, 4], 0), (.invokevirtual 258, 18, [29, 2, 2], 0), (.istore_n 1, 21, [], 0), (.aload_n 0, 22, [], 0), (.getfield 10, 23, [10, 0], 0), (.iconst 0, 26, [], 0), (.putfield 91, 27, [7, 1], 0), (.iload_n 1, 30, [], 0), (.ifCond .eq 27, 31, [26], 0), (.aload_n 0, 34, [], 0), (.getfield 58, 35, [10, 8], 0), (.aload_n 0, 38, [], 0), (.getfield 19, 39, [10, 1], 0), (.getfield 94, 42, [6, 0], 0), (.aload_n 0, 45, [], 0), (.getfield 19, 46, [10, 1], 0), (.getfield 116, 49, [6, 1], 0), (.invokevirtual 262, 52, [30, 2, 2], 0), (.goto 4, 55, [27], 0), (.iconst (-1), 58, [], 0), (.ireturn, 59, [], 0)], (0, 10, 0), (0, 0))
set_option maxRecDepth 100000 in
def mt_X11_let : mj_T := (yX11_let, cX11_let, 3, (some .int), [(.aload_n 0, 0, [], 0), (.getfield 19, 1, [10, 1], 0), (.getfield 130, 4, [6, 3], 0), (.getfield 133, 7, [9, 0], 0), (.ifCond .eq 24, 10, [14], 0), (.iload_n 1, 13, [], 0), (.invokestatic 163, 14, [129, 1, 10], 0), (.ifCond .eq 17, 17, [14], 0), (.iload_n 1, 20, [], 0), (.aload_n 0, 21, [], 0), (.getfield 19, 22, [10, 1], 0), (.getfield 130, 25, [6, 3], 0), (.getfield 209, 28, [9, 1], 0), (.if_icmp .lt 5, 31, [16], 0), (.iconst (-1), 34, [], 0), (.ireturn, 35, [], 0), (.iload_n 2, 36, [], 0), (.tableswitch 66 0 2 #[27, 40, 53], 37, [39, 18, 25, 32], 27), (.aload_n 0, 64, [], 0), (.getfield 19, 65, [10, 1], 0), (.getfield 130, 68, [6, 3], 0), (.getfield 222, 71, [9, 3], 0), (.iload_n 1, 74, [], 0), (.iaload, 75, [], 0), (.ireturn, 76, [], 0), (.aload_n 0, 77, [], 0), (.getfield 19, 78, [10, 1], 0), (.getfield 130, 81, [6, 3], 0), (.getfield 225, 84, [9, 4], 0), (.iload_n 1, 87, [], 0), (.iaload, 88, [], 0), (.ireturn, 89, [], 0), (.aload_n 0, 90, [], 0), (.getfield 19, 91, [10, 1], 0), (.getfield 130, 94, [6, 3], 0), (.getfield 228, 97, [9, 5], 0), (.iload_n 1, 100, [], 0), (.iaload, 101, [], 0), (.ireturn, 102, [], 0), (.iconst (-1), 103, [], 0), (.ireturn, 104, [], 0)], (0, 10, 2), (0, 0))
set_option maxRecDepth 100000 in
def mt_X11_mostGain : mj_T := (yX11_mostGain, cX11_mostGain, 7, (some .int), [(.iconst (-1), 0, [], 0), (.istore_n 3, 1, [], 0), (.iconst 0, 2, [], 0), (.istore 4, 3, [], 0), (.iload 4, 5, [], 0), (.bipush 12, 7, [], 0), (.if_icmp .ge 70, 9, [41], 0), (.iload_n 2, 12, [], 0), (.iload 4, 13, [], 0), (.ishr, 15, [], 0), (.iconst 1, 16, [], 0), (.iand, 17, [], 0), (.ifCond .ne 7, 18, [15], 0), (.iconst 1, 21, [], 0), (.goto 4, 22, [16], 0), (.iconst 0, 25, [], 0), (.istore 5, 26, [], 0), (.aload_n 0, 28, [], 0), (.getfield 19, 29, [10, 1], 0), (.getfield 94, 32, [6, 0], 0), (.iload_n 1, 35, [], 0), (.iload 4, 36, [], 0), (.invokevirtual 274, 38, [34, 2, 3], 0), (.istore 6, 41, [], 0), (.iload 5, 43, [], 0), (.ifCond .eq 28, 45, [39], 0), (.iload_n 3, 48, [], 0), (.iconst (-1), 49, [], 0), (.if_icmp .eq 20, 50, [37], 0), (.iload 6, 53, [], 0), (.aload_n 0, 55, [], 0), (.getfield 19, 56, [10, 1], 0), (.getfield 94, 59, [6, 0], 0), (.iload_n 1, 62, [], 0), (.iload_n 3, 63, [], 0), (.invokevirtual 274, 64, [34, 2, 3], 0), (.if_icmp .le 6, 67, [39], 0), (.iload 4, 70, [], 0), (.istore_n 3, 72, [], 0), (.iinc 4 1, 73, [], 0), (.goto (-71), 76, [4], 0), (.iload_n 3, 79, [], 0), (.ireturn, 80, [], 0)], (0, 10, 2), (0, 0))
set_option maxRecDepth 100000 in
def mt_X11_must : mj_T := (yX11_must, cX11_must, 4, (some .int), [(.aload_n 0, 0, [], 0), (.iload_n 1, 1, [], 0), (.invokevirtual 145, 2, [130, 1, 10], 0), (.ifCond .eq 10, 5, [7], 0), (.iload_n 2, 8, [], 0), (.invokestatic 163, 9, [129, 1, 10], 0), (.ifCond .ne 5, 12, [9], 0), (.iconst (-1), 15, [], 0), (.ireturn, 16, [], 0), (.aload_n 0, 17, [], 0), (.getfield 65, 18, [10, 9], 0), (.aload_n 0, 21, [], 0), (.getfield 19, 22, [10, 1], 0), (.getfield 94, 25, [6, 0], 0), (.invokevirtual 205, 28, [108, 1, 9], 0), (.aload_n 0, 31, [], 0), (.getfield 65, 32, [10, 9], 0), (.aload_n 0, 35, [], 0), (.getfield 19, 36, [10, 1], 0), (.getfield 94, 39, [6, 0], 0), (.aload_n 0, 42, [], 0), (.getfield 19, 43, [10, 1], 0), (.getfield 116, 46, [6, 1], 0), (.iload_n 2, 49, [], 0), (.invokevirtual 212, 50, [93, 3, 9], 0), (.aload_n 0, 53, [], 0), (.getfield 19, 54, [10, 1], 0), (.getfield 116, 57, [6, 1], 0), (.iload_n 2, 60, [], 0), (.invokevirtual 193, 61, [24, 1, 1], 0), (.ifCond .eq 74, 64, [68], 0), (.aload_n 0, 67, [], 0), (.getfield 19, 68, [10, 1], 0), (.getfield 116, 71, [6, 1], 0), (.getfield 196, 74, [1, 0], 0), (.iload_n 2, 77, [], 0), (.iaload, 78, [], 0), (.iload_n 1, 79, [], 0), (.if_icmp .ne 23, 80, [49], 0), (.aload_n 0, 83, [], 0), (.getfield 19, 84, [10, 1], 0), (.getfield 116, 87, [6, 1], 0), (.getfield 199, 90, [1, 1], 0), (.iload_n 2, 93, [], 0), (.iaload, 94, [], 0), (.iconst (-1), 95, [], 0), (.if_icmp .ne 7, 96, [49], 0), (.iconst 1, 99, [], 0), (.goto 4, 100, [50], 0), (.iconst 0, 103, [], 0), (.istore_n 3, 104, [], 0), (.iload_n 3, 105, [], 0), (.ifCond .eq 30, 106, [66], 0), (.aload_n 0, 109, [], 0), (.getfield 65, 110, [10, 9], 0), (.iload_n 1, 113, [], 0), (.aload_n 0, 114, [], 0), (.getfield 19, 115, [10, 1], 0), (.getfield 116, 118, [6, 1], 0), (.getfield 202, 121, [1, 2], 0), (.iload_n 2, 124, [], 0), (.iaload, 125, [], 0), (.invokevirtual 318, 126, [89, 2, 9], 0), (.ifCond .eq 7, 129, [66], 0), (.iconst 1, 132, [], 0), (.goto 4, 133, [67], 0), (.iconst (-1), 136, [], 0), (.ireturn, 137, [], 0), (.aload_n 0, 138, [], 0), (.getfield 65, 139, [10, 9], 0), (.aload_n 0, 142, [], 0), (.getfield 19, 143, [10, 1], 0), (.getfield 94, 146, [6, 0], 0), (.iload_n 1, 149, [], 0), (.iload_n 2, 150, [], 0), (.invokevirtual 322, 151, [99, 3, 9], 0), (.istore_n 3, 154, [], 0), (.iload_n 3, 155, [], 0), (.sipush 999, 156, [], 0), (.if_icmp .gt 19, 159, [88], 0), (.aload_n 0, 162, [], 0), (.getfield 65, 163, [10, 9], 0), (.iload_n 1, 166, [], 0), (.iload_n 3, 167, [], 0), (.invokevirtual 318, 168, [89, 2, 9], 0), (.ifCond .eq 7, 171, [88], 0), (.iload_n 3, 174, [], 0), (.goto 4, 175, [89], 0), (.iconst (-1), 178, [], 0), (.ireturn, 179, [], 0)], (0, 10, 2), (0, 0))
set_option maxRecDepth 100000 in
def mt_X11_offer : mj_T := (yX11_offer, cX11_offer, 5, (some .boolean), [(.aload_n 0, 0, [], 0), (.iload_n 1, 1, [], 0), (.invokevirtual 145, 2, [130, 1, 10], 0), (.ifCond .eq 21, 5, [12], 0), (.iload_n 2, 8, [], 0), (.invokestatic 163, 9, [129, 1, 10], 0), (.ifCond .eq 14, 12, [12], 0), (.iload_n 3, 15, [], 0), (.ifCond .lt 10, 16, [12], 0), (.iload_n 3, 19, [], 0), (.sipush 999, 20, [], 0), (.if_icmp .le 5, 23, [14], 0), (.iconst 0, 26, [], 0), (.ireturn, 27, [], 1), (.aload_n 0, 28, [], 0), (.getfield 19, 29, [10, 1], 0), (.getfield 94, 32, [6, 0], 0), (.getfield 166, 35, [3, 2], 0), (.iload_n 1, 38, [], 0), (.aaload, 39, [4], 0), (.iload_n 2, 40, [], 0), (.iaload, 41, [], 0), (.istore 4, 42, [], 0), (.iload 4, 44, [], 0), (.ifCond .ne 24, 46, [35], 0), (.iload_n 3, 49, [], 0), (.ifCond .le 20, 50, [35], 0), (.aload_n 0, 53, [], 0), (.getfield 19, 54, [10, 1], 0), (.getfield 94, 57, [6, 0], 0), (.getfield 169, 60, [3, 5], 0), (.bipush 40, 63, [], 0), (.if_icmp .lt 5, 65, [35], 0), (.iconst 0, 68, [], 0), (.ireturn, 69, [], 1), (.aload_n 0, 70, [], 0), (.getfield 37, 71, [10, 5], 0), (.iload_n 1, 74, [], 0), (.iload_n 2, 75, [], 0), (.iload 4, 76, [], 0), (.invokevirtual 172, 78, [87, 3, 8], 0), (.aload_n 0, 81, [], 0), (.getfield 19, 82, [10, 1], 0), (.getfield 94, 85, [6, 0], 0), (.iload_n 1, 88, [], 0), (.iload_n 2, 89, [], 0), (.iload_n 3, 90, [], 0), (.invokevirtual 176, 91, [47, 3, 3], 0), (.iconst 1, 94, [], 0), (.ireturn, 95, [], 1)], (0, 10, 3), (0, 0))
set_option maxRecDepth 100000 in
def mt_X11_on : mj_T := (yX11_on, cX11_on, 3, (some .int), [(.iload_n 1, 0, [], 0), (.ifCond .lt 22, 1, [10], 0), (.iload_n 1, 4, [], 0), (.bipush 12, 5, [], 0), (.if_icmp .gt 16, 7, [10], 0), (.aload_n 0, 10, [], 0), (.getfield 19, 11, [10, 1], 0), (.getfield 130, 14, [6, 3], 0), (.getfield 133, 17, [9, 0], 0), (.ifCond .ne 5, 20, [12], 0), (.iconst (-1), 23, [], 0), (.ireturn, 24, [], 0), (.aload_n 0, 25, [], 0), (.getfield 19, 26, [10, 1], 0), (.getfield 130, 29, [6, 3], 0), (.getfield 209, 32, [9, 1], 0), (.istore_n 2, 35, [], 0), (.aload_n 0, 36, [], 0), (.getfield 19, 37, [10, 1], 0), (.getfield 130, 40, [6, 3], 0), (.aload_n 0, 43, [], 0), (.getfield 19, 44, [10, 1], 0), (.getfield 94, 47, [6, 0], 0), (.aload_n 0, 50, [], 0), (.getfield 19, 51, [10, 1], 0), (.getfield 116, 54, [6, 1], 0), (.iload_n 1, 57, [], 0), (.invokevirtual 212, 58, [93, 3, 9], 0), (.aload_n 0, 61, [], 0), (.getfield 19, 62, [10, 1], 0), (.getfield 130, 65, [6, 3], 0), (.getfield 209, 68, [9, 1], 0), (.iload_n 2, 71, [], 0), (.isub, 72, [], 0), (.ireturn, 73, [], 0)], (0, 10, 1), (0, 0))
set_option maxRecDepth 100000 in
def mt_X11_plain : mj_T := (yX11_plain, cX11_plain, 3, (some .int), [(.aload_n 0, 0, [], 0), (.getfield 23, 1, [10, 2], 0), (.getfield 94, 4, [6, 0], 0), (.astore_n 1, 7, [], 0), (.aload_n 1, 8, [], 0), (.invokevirtual 98, 9, [31, 0, 3], 0), (.aload_n 0, 12, [], 0), (.getfield 10, 13, [10, 0], 0), (.sipush 900, 16, [], 0), (.invokevirtual 103, 19, [80, 1, 7], 0), (.aload_n 1, 22, [], 0), (.aload_n 0, 23, [], 0), (.getfield 10, 24, [10, 0], 0), (.invokevirtual 106, 27, [44, 1, 3], 0), (.istore_n 2, 30, [], 0), (.aload_n 0, 31, [], 0), (.getfield 10, 32, [10, 0], 0), (.getfield 110, 35, [7, 2], 0), (.ifCond .ne 82, 38, [56], 0), (.aload_n 0, 41, [], 0), (.dup, 42, [], 0), (.getfield 80, 43, [10, 13], 0), (.iconst 1, 46, [], 0), (.iadd, 47, [], 0), (.putfield 80, 48, [10, 13], 0), (.aload_n 1, 51, [], 0), (.aload_n 0, 52, [], 0), (.getfield 80, 53, [10, 13], 0), (.putfield 113, 56, [3, 9], 0), (.aload_n 0, 59, [], 0), (.getfield 23, 60, [10, 2], 0), (.aload_n 0, 63, [], 0), (.getfield 19, 64, [10, 1], 0), (.getfield 94, 67, [6, 0], 0), (.putfield 94, 70, [6, 0], 0), (.aload_n 0, 73, [], 0), (.getfield 19, 74, [10, 1], 0), (.aload_n 1, 77, [], 0), (.putfield 94, 78, [6, 0], 0), (.aload_n 0, 81, [], 0), (.getfield 19, 82, [10, 1], 0), (.getfield 116, 85, [6, 1], 0), (.invokevirtual 120, 88, [17, 0, 1], 0), (.aload_n 0, 91, [], 0), (.getfield 19, 92, [10, 1], 0), (.getfield 123, 95, [6, 2], 0), (.invokevirtual 127, 98, [56, 0, 5], 0), (.aload_n 0, 101, [], 0), (.getfield 19, 102, [10, 1], 0), (.getfield 130, 105, [6, 3], 0), (.iconst 0, 108, [], 0), (.putfield 133, 109, [9, 0], 0), (.aload_n 0, 112, [], 0), (.getfield 37, 113, [10, 5], 0), (.iconst 0, 116, [], 0), (.putfield 137, 117, [8, 3], 0), (.aload_n 0, 120, [], 0), (.iload_n 2, 121, [], 0), (.invokevirtual 138, 122, [115, 1, 10], 0), (.ireturn, 125, [], 0)], (0, 10, 0), (0, 0))
set_option maxRecDepth 100000 in
def mt_X11_plan : mj_T := (yX11_plan, cX11_plan, 2, (some .int), [(.iload_n 1, 0, [], 0), (.invokestatic 163, 1, [129, 1, 10], 0), (.ifCond .eq 25, 4, [13], 0), (.aload_n 0, 7, [], 0), (.getfield 44, 8, [10, 6], 0), (.getfield 234, 11, [0, 1], 0), (.ifCond .eq 15, 14, [13], 0), (.aload_n 0, 17, [], 0), (.getfield 44, 18, [10, 6], 0), (.getfield 237, 21, [0, 0], 0), (.iload_n 1, 24, [], 0), (.iaload, 25, [], 0), (.goto 4, 26, [14], 0), (.iconst (-1), 29, [], 0), (.ireturn, 30, [], 0)], (0, 10, 1), (0, 0))
set_option maxRecDepth 100000 in
def mt_X11_price : mj_T := (yX11_price, cX11_price, 2, (some .int), [(.iload_n 1, 0, [], 0), (.invokestatic 163, 1, [129, 1, 10], 0), (.ifCond .eq 25, 4, [13], 0), (.aload_n 0, 7, [], 0), (.getfield 51, 8, [10, 7], 0), (.getfield 251, 11, [4, 0], 0), (.ifCond .eq 15, 14, [13], 0), (.aload_n 0, 17, [], 0), (.getfield 51, 18, [10, 7], 0), (.getfield 255, 21, [4, 2], 0), (.iload_n 1, 24, [], 0), (.iaload, 25, [], 0), (.goto 4, 26, [14], 0), (.iconst (-1), 29, [], 0), (.ireturn, 30, [], 0)], (0, 10, 1), (0, 0))
set_option maxRecDepth 100000 in
def mt_X11_putByte : mj_T := (yX11_putByte, cX11_putByte, 2, none, [(.aload_n 0, 0, [], 0), (.getfield 73, 1, [10, 11], 0), (.sipush 300, 4, [], 0), (.if_icmp .ge 24, 7, [17], 0), (.aload_n 0, 10, [], 0), (.getfield 69, 11, [10, 10], 0), (.aload_n 0, 14, [], 0), (.getfield 73, 15, [10, 11], 0), (.iload_n 1, 18, [], 0), (.i2b, 19, [], 0), (.bastore, 20, [], 0), (.aload_n 0, 21, [], 0), (.dup, 22, [], 0), (.getfield 73, 23, [10, 11], 0), (.iconst 1, 26, [], 0), (.iadd, 27, [], 0), (.putfield 73, 28, [10, 11], 0), (.return_, 31, [], 0)], (0, 10, 1), (0, 0))
set_option maxRecDepth 100000 in
def mt_X11_putNumber : mj_T := (yX11_putNumber, cX11_putNumber, 2, none, [(.iload_n 1, 0, [], 0), (.bipush 99, 1, [], 0), (.if_icmp .le 17, 3, [12], 0), (.aload_n 0, 6, [], 0), (.bipush 48, 7, [], 0), (.iload_n 1, 9, [], 0), (.bipush 100, 10, [], 0), (.idiv, 12, [], 0), (.bipush 10, 13, [], 0), (.irem, 15, [], 0), (.iadd, 16, [], 0), (.invokevirtual 287, 17, [141, 1, 10], 0), (.iload_n 1, 20, [], 0), (.bipush 9, 21, [], 0), (.if_icmp .le 17, 23, [24], 0), (.aload_n 0, 26, [], 0), (.bipush 48, 27, [], 0), (.iload_n 1, 29, [], 0), (.bipush 10, 30, [], 0), (.idiv, 32, [], 0), (.bipush 10, 33, [], 0), (.irem, 35, [], 0), (.iadd, 36, [], 0), (.invokevirtual 287, 37, [141, 1, 10], 0), (.aload_n 0, 40, [], 0), (.bipush 48, 41, [], 0), (.iload_n 1, 43, [], 0), (.bipush 10, 44, [], 0), (.irem, 46, [], 0), (.iadd, 47, [], 0), (.invokevirtual 287, 48, [141, 1, 10], 0), (.return_, 51, [], 0)], (0, 10, 1), (0, 0))
set_option maxRecDepth 100000 in
def mt_X11_putTenant : mj_T := (yX11_putTenant, cX11_putTenant, 6, none, [(.aload_n 0, 0, [], 0), (.iload_n 1, 1, [], 0), (.invokevirtual 145, 2, [130, 1, 10], 0), (.ifCond .eq 18, 5, [11], 0), (.aload_n 0, 8, [], 0), (.getfield 19, 9, [10, 1], 0), (.getfield 94, 12, [6, 0], 0), (.getfield 293, 15, [3, 0], 0), (.iload_n 1, 18, [], 0), (.laload, 19, [], 0), (.goto 9, 20, [13], 0), (.getstatic 297, 23, [], 0), (.getfield 303, 26, [], 0), (.lstore_n 2, 29, [], 0), (.bipush 35, 30, [], 0), (.istore 4, 32, [], 0), (.iload 4, 34, [], 0), (.ifCond .lt 34, 36, [34], 0), (.lload_n 2, 39, [], 0), (.iload 4, 40, [], 0), (.lshr, 42, [], 0), (.ldc2_w 307, 43, [], 31), (.land, 46, [], 0), (.l2i, 47, [], 0), (.istore 5, 48, [], 0), (.iload 5, 50, [], 0), (.ifCond .eq 12, 52, [32], 0), (.aload_n 0, 55, [], 0), (.bipush 96, 56, [], 0), (.iload 5, 58, [], 0), (.iadd, 60, [], 0), (.invokevirtual 287, 61, [141, 1, 10], 0), (.iinc 4 (-5), 64, [], 0), (.goto (-33), 67, [16], 0), (.aload_n 0, 70, [], 0), (.bipush 32, 71, [], 0), (.invokevirtual 287, 73, [141, 1, 10], 0), (.return_, 76, [], 0)], (0, 10, 1), (0, 0))
set_option maxRecDepth 100000 in
def mt_X11_restore : mj_T := (yX11_restore, cX11_restore, 2, (some .boolean), [(.iload_n 1, 0, [], 0), (.ifCond .lt 17, 1, [10], 0), (.iload_n 1, 4, [], 0), (.iconst 2, 5, [], 0), (.if_icmp .ge 12, 6, [10], 0), (.aload_n 0, 9, [], 0), (.getfield 30, 10, [10, 4], 0), (.iload_n 1, 13, [], 0), (.baload, 14, [], 0), (.ifCond .ne 5, 15, [12], 0), (.iconst 0, 18, [], 0), (.ireturn, 19, [], 1), (.aload_n 0, 20, [], 0), (.getfield 19, 21, [10, 1], 0), (.aload_n 0, 24, [], 0), (.getfield 26, 25, [10, 3], 0), (.iload_n 1, 28, [], 0), (.aaload, 29, [6], 0), (.invokevirtual 337, 30, [67, 1, 6], 0), (.aload_n 0, 33, [], 0), (.getfield 37, 34, [10, 5], 0), (.iconst 0, 37, [], 0), (.putfield 137, 38, [8, 3], 0), (.iconst 1, 41, [], 0), (.ireturn, 42, [], 1)], (0, 10, 1), (0, 0))
set_option maxRecDepth 100000 in
def mt_X11_rounds : mj_T := (yX11_rounds, cX11_rounds, 2, (some .int), [(.iload_n 1, 0, [], 0), (.iconst 1, 1, [], 0), (.if_icmp .lt 22, 2, [11], 0), (.iload_n 1, 5, [], 0), (.bipush 99, 6, [], 0), (.if_icmp .gt 16, 8, [11], 0), (.aload_n 0, 11, [], 0), (.getfield 19, 12, [10, 1], 0), (.getfield 94, 15, [6, 0], 0), (.getfield 160, 18, [3, 4], 0), (.ifCond .ne 5, 21, [13], 0), (.iconst (-1), 24, [], 0), (.ireturn, 25, [], 0), (.aload_n 0, 26, [], 0), (.getfield 51, 27, [10, 7], 0), (.aload_n 0, 30, [], 0), (.getfield 19, 31, [10, 1], 0), (.getfield 94, 34, [6, 0], 0), (.iload_n 1, 37, [], 0), (.invokevirtual 247, 38, [52, 2, 4], 0), (.ireturn, 41, [], 0)], (0, 10, 1), (0, 0))
set_option maxRecDepth 100000 in
def mt_X11_said : mj_T := (yX11_said, cX11_said, 4, (some .int), [(.aload_n 0, 0, [], 0), (.getfield 19, 1, [10, 1], 0), (.getfield 123, 4, [6, 2], 0), (.getfield 330, 7, [5, 5], 0), (.ifCond .eq 16, 10, [10], 0), (.aload_n 0, 13, [], 0), (.getfield 19, 14, [10, 1], 0), (.getfield 130, 17, [6, 3], 0), (.getfield 133, 20, [9, 0], 0), (.ifCond .ne 5, 23, [12], 0), (.iconst (-1), 26, [], 0), (.ireturn, 27, [], 0), (.iconst 0, 28, [], 0), (.istore_n 2, 29, [], 0), (.iconst 0, 30, [], 0), (.istore_n 3, 31, [], 0), (.iload_n 3, 32, [], 0), (.aload_n 0, 33, [], 0), (.getfield 19, 34, [10, 1], 0), (.getfield 94, 37, [6, 0], 0), (.getfield 160, 40, [3, 4], 0), (.if_icmp .ge 47, 43, [42], 0), (.aload_n 0, 46, [], 0), (.getfield 19, 47, [10, 1], 0), (.getfield 123, 50, [6, 2], 0), (.aload_n 0, 53, [], 0), (.getfield 19, 54, [10, 1], 0), (.getfield 94, 57, [6, 0], 0), (.aload_n 0, 60, [], 0), (.getfield 19, 61, [10, 1], 0), (.getfield 130, 64, [6, 3], 0), (.iload_n 3, 67, [], 0), (.invokevirtual 333, 68, [58, 3, 5], 0), (.ifCond .eq 13, 71, [40], 0), (.iload_n 2, 74, [], 0), (.iload_n 1, 75, [], 0), (.if_icmp .ne 5, 76, [39], 0), (.iload_n 3, 79, [], 0), (.ireturn, 80, [], 0), (.iinc 2 1, 81, [], 0), (.iinc 3 1, 84, [], 0), (.goto (-55), 87, [16], 0), (.iload_n 1, 90, [], 0), (.iconst (-1), 91, [], 0), (.if_icmp .ne 7, 92, [47], 0), (.iload_n 2, 95, [], 0), (.goto 4, 96, [48], 0), (.iconst (-1), 99, [], 0), (.ireturn, 100, [], 0)], (0, 10, 1), (0, 0))
set_option maxRecDepth 100000 in
def mt_X11_sentence : mj_T := (yX11_sentence, cX11_sentence, 2, (some .int), [(.aload_n 0, 0, [], 0), (.getfield 23, 1, [10, 2], 0), (.getfield 123, 4, [6, 2], 0), (.astore_n 1, 7, [], 0), (.aload_n 1, 8, [], 0), (.invokevirtual 127, 9, [56, 0, 5], 0), (.aload_n 0, 12, [], 0), (.getfield 10, 13, [10, 0], 0), (.sipush 200, 16, [], 0), (.invokevirtual 103, 19, [80, 1, 7], 0), (.aload_n 1, 22, [], 0), (.aload_n 0, 23, [], 0), (.getfield 10, 24, [10, 0], 0), (.invokevirtual 326, 27, [66, 1, 5], 0), (.aload_n 0, 30, [], 0), (.getfield 10, 31, [10, 0], 0), (.getfield 110, 34, [7, 2], 0), (.ifCond .ne 25, 37, [28], 0), (.aload_n 0, 40, [], 0), (.getfield 23, 41, [10, 2], 0), (.aload_n 0, 44, [], 0), (.getfield 19, 45, [10, 1], 0), (.getfield 123, 48, [6, 2], 0), (.putfield 123, 51, [6, 2], 0), (.aload_n 0, 54, [], 0), (.getfield 19, 55, [10, 1], 0), (.aload_n 1, 58, [], 0), (.putfield 123, 59, [6, 2], 0), (.aload_n 0, 62, [], 0), (.aload_n 1, 63, [], 0), (.getfield 330, 64, [5, 5], 0), (.invokevirtual 138, 67, [115, 1, 10], 0), (.ireturn, 70, [], 0)], (0, 10, 0), (0, 0))
set_option maxRecDepth 100000 in
def mt_X11_shores : mj_T := (yX11_shores, cX11_shores, 6, (some .int), [(.aload_n 0, 0, [], 0), (.iload_n 1, 1, [], 0), (.invokevirtual 145, 2, [130, 1, 10], 0), (.ifCond .eq 14, 5, [10], 0), (.iload_n 2, 8, [], 0), (.iconst 1, 9, [], 0), (.if_icmp .lt 9, 10, [10], 0), (.iload_n 2, 13, [], 0), (.bipush 100, 14, [], 0), (.if_icmp .le 5, 16, [12], 0), (.iconst (-1), 19, [], 0), (.ireturn, 20, [], 0), (.iconst 0, 21, [], 0), (.istore 4, 22, [], 0), (.iconst 0, 24, [], 0), (.istore 5, 25, [], 0), (.iload 5, 27, [], 0), (.iload_n 2, 29, [], 0), (.if_icmp .ge 64, 30, [49], 0), (.aload_n 0, 33, [], 0), (.getfield 65, 34, [10, 9], 0), (.aload_n 0, 37, [], 0), (.getfield 19, 38, [10, 1], 0), (.getfield 94, 41, [6, 0], 0), (.invokevirtual 205, 44, [108, 1, 9], 0), (.aload_n 0, 47, [], 0), (.getfield 65, 48, [10, 9], 0), (.aload_n 0, 51, [], 0), (.getfield 19, 52, [10, 1], 0), (.getfield 94, 55, [6, 0], 0), (.aload_n 0, 58, [], 0), (.getfield 19, 59, [10, 1], 0), (.getfield 116, 62, [6, 1], 0), (.iload_n 3, 65, [], 0), (.iload 5, 66, [], 0), (.iadd, 68, [], 0), (.invokevirtual 315, 69, [91, 3, 9], 0), (.iload 4, 72, [], 0), (.aload_n 0, 74, [], 0), (.getfield 65, 75, [10, 9], 0), (.getfield 219, 78, [9, 6], 0), (.iload_n 1, 81, [], 0), (.aaload, 82, [4], 0), (.iconst 3, 83, [], 0), (.iaload, 84, [], 0), (.iadd, 85, [], 0), (.istore 4, 86, [], 0), (.iinc 5 1, 88, [], 0), (.goto (-64), 91, [16], 0), (.iload 4, 94, [], 0), (.ireturn, 96, [], 0)], (0, 10, 3), (0, 0))
set_option maxRecDepth 100000 in
def mt_X11_shoresOf : mj_T := (yX11_shoresOf, cX11_shoresOf, 3, (some .int), [(.aload_n 0, 0, [], 0), (.getfield 19, 1, [10, 1], 0), (.getfield 94, 4, [6, 0], 0), (.getfield 160, 7, [3, 4], 0), (.ifCond .ne 5, 10, [7], 0), (.iconst (-1), 13, [], 0), (.ireturn, 14, [], 0), (.aload_n 0, 15, [], 0), (.aload_n 0, 16, [], 0), (.getfield 19, 17, [10, 1], 0), (.getfield 94, 20, [6, 0], 0), (.invokevirtual 277, 23, [153, 1, 10], 0), (.iconst 0, 26, [], 0), (.istore_n 1, 27, [], 0), (.iconst 0, 28, [], 0), (.istore_n 2, 29, [], 0), (.iload_n 2, 30, [], 0), (.aload_n 0, 31, [], 0), (.getfield 19, 32, [10, 1], 0), (.getfield 94, 35, [6, 0], 0), (.getfield 160, 38, [3, 4], 0), (.if_icmp .ge 25, 41, [36], 0), (.iload_n 1, 44, [], 0), (.aload_n 0, 45, [], 0), (.getfield 65, 46, [10, 9], 0), (.getfield 219, 49, [9, 6], 0), (.iload_n 2, 52, [], 0), (.aaload, 53, [4], 0), (.iconst 3, 54, [], 0), (.iaload, 55, [], 0), (.iload_n 2, 56, [], 0), (.ishl, 57, [], 0), (.ior, 58, [], 0), (.istore_n 1, 59, [], 0), (.iinc 2 1, 60, [], 0), (.goto (-33), 63, [16], 0), (.iload_n 1, 66, [], 0), (.ireturn, 67, [], 0)], (0, 10, 0), (0, 0))
set_option maxRecDepth 100000 in
def mt_X11_take : mj_T := (yX11_take, cX11_take, 3, (some .boolean), [(.aload_n 0, 0, [], 0), (.getfield 44, 1, [10, 6], 0), (.getfield 234, 4, [0, 1], 0), (.ifCond .eq 23, 7, [12], 0), (.aload_n 0, 10, [], 0), (.getfield 44, 11, [10, 6], 0), (.getfield 240, 14, [0, 2], 0), (.aload_n 0, 17, [], 0), (.getfield 19, 18, [10, 1], 0), (.getfield 94, 21, [6, 0], 0), (.getfield 113, 24, [3, 9], 0), (.if_icmp .eq 5, 27, [14], 0), (.iconst 0, 30, [], 0), (.ireturn, 31, [], 1), (.aload_n 0, 32, [], 0), (.getfield 19, 33, [10, 1], 0), (.getfield 116, 36, [6, 1], 0), (.invokevirtual 120, 39, [17, 0, 1], 0), (.iconst 0, 42, [], 0), (.istore_n 1, 43, [], 0), (.iload_n 1, 44, [], 0), (.bipush 12, 45, [], 0), (.if_icmp .ge 58, 47, [52], 0), (.aload_n 0, 50, [], 0), (.getfield 44, 51, [10, 6], 0), (.getfield 237, 54, [0, 0], 0), (.iload_n 1, 57, [], 0), (.iaload, 58, [], 0), (.istore_n 2, 59, [], 0), (.aload_n 0, 60, [], 0), (.getfield 19, 61, [10, 1], 0), (.getfield 116, 64, [6, 1], 0), (.iload_n 1, 67, [], 0), (.iload_n 2, 68, [], 0), (.iconst (-1), 69, [], 0), (.aload_n 0, 70, [], 0), (.iload_n 2, 71, [], 0), (.invokevirtual 145, 72, [130, 1, 10], 0), (.ifCond .eq 20, 75, [48], 0), (.aload_n 0, 78, [], 0), (.getfield 19, 79, [10, 1], 0), (.getfield 94, 82, [6, 0], 0), (.getfield 166, 85, [3, 2], 0), (.iload_n 2, 88, [], 0), (.aaload, 89, [4], 0), (.iload_n 1, 90, [], 0), (.iaload, 91, [], 0), (.goto 4, 92, [49], 0), (.iconst 0, 95, [], 0), (.invokevirtual 243, 96, [23, 4, 1], 0), (.iinc 1 1, 99, [], 0), (.goto (-58), 102, [20], 0), (.iconst 1, 105, [], 0), (.ireturn, 106, [], 1)], (0, 10, 0), (0, 0))
set_option maxRecDepth 100000 in
def mt_X11_thirsty : mj_T := (yX11_thirsty, cX11_thirsty, 3, (some .int), [(.aload_n 0, 0, [], 0), (.getfield 19, 1, [10, 1], 0), (.getfield 94, 4, [6, 0], 0), (.getfield 160, 7, [3, 4], 0), (.ifCond .ne 5, 10, [7], 0), (.iconst (-1), 13, [], 0), (.ireturn, 14, [], 0), (.aload_n 0, 15, [], 0), (.aload_n 0, 16, [], 0), (.getfield 19, 17, [10, 1], 0), (.getfield 94, 20, [6, 0], 0), (.invokevirtual 277, 23, [153, 1, 10], 0), (.iconst 0, 26, [], 0), (.istore_n 1, 27, [], 0), (.iconst 0, 28, [], 0), (.istore_n 2, 29, [], 0), (.iload_n 2, 30, [], 0), (.aload_n 0, 31, [], 0), (.getfield 19, 32, [10, 1], 0), (.getfield 94, 35, [6, 0], 0), (.getfield 160, 38, [3, 4], 0), (.if_icmp .ge 33, 41, [38], 0), (.aload_n 0, 44, [], 0), (.getfield 65, 45, [10, 9], 0), (.aload_n 0, 48, [], 0), (.getfield 19, 49, [10, 1], 0), (.getfield 94, 52, [6, 0], 0), (.iload_n 2, 55, [], 0), (.invokevirtual 280, 56, [97, 2, 9], 0), (.ifCond .eq 9, 59, [36], 0), (.iload_n 1, 62, [], 0), (.iconst 1, 63, [], 0), (.iload_n 2, 64, [], 0), (.ishl, 65, [], 0), (.ior, 66, [], 0), (.istore_n 1, 67, [], 0), (.iinc 2 1, 68, [], 0), (.goto (-41), 71, [16], 0), (.iload_n 1, 74, [], 0), (.ireturn, 75, [], 0)], (0, 10, 0), (0, 0))
set_option maxRecDepth 100000 in
def mt_X11_town : mj_T := (yX11_town, cX11_town, 3, (some .int), [(.aload_n 0, 0, [], 0), (.getfield 19, 1, [10, 1], 0), (.getfield 130, 4, [6, 3], 0), (.getfield 133, 7, [9, 0], 0), (.ifCond .eq 21, 10, [14], 0), (.aload_n 0, 13, [], 0), (.iload_n 1, 14, [], 0), (.invokevirtual 145, 15, [130, 1, 10], 0), (.ifCond .eq 13, 18, [14], 0), (.iload_n 2, 21, [], 0), (.ifCond .lt 9, 22, [14], 0), (.iload_n 2, 25, [], 0), (.bipush 9, 26, [], 0), (.if_icmp .le 5, 28, [16], 0), (.iconst (-1), 31, [], 0), (.ireturn, 32, [], 0), (.aload_n 0, 33, [], 0), (.getfield 19, 34, [10, 1], 0), (.getfield 130, 37, [6, 3], 0), (.getfield 219, 40, [9, 6], 0), (.iload_n 1, 43, [], 0), (.aaload, 44, [4], 0), (.iload_n 2, 45, [], 0), (.iaload, 46, [], 0), (.ireturn, 47, [], 0)], (0, 10, 2), (0, 0))
set_option maxRecDepth 100000 in
def mt_X11_tryYear : mj_T := (yX11_tryYear, cX11_tryYear, 2, none, [(.aload_n 0, 0, [], 0), (.getfield 65, 1, [10, 9], 0), (.aload_n 1, 4, [], 0), (.invokevirtual 205, 5, [108, 1, 9], 0), (.aload_n 0, 8, [], 0), (.getfield 65, 9, [10, 9], 0), (.aload_n 1, 12, [], 0), (.aload_n 0, 13, [], 0), (.getfield 19, 14, [10, 1], 0), (.getfield 116, 17, [6, 1], 0), (.bipush 12, 20, [], 0), (.invokevirtual 212, 22, [93, 3, 9], 0), (.return_, 25, [], 0)], (0, 10, 1), (0, 0))
set_option maxRecDepth 100000 in
def mt_X11_undo : mj_T := (yX11_undo, cX11_undo, 1, (some .int), [(.aload_n 0, 0, [], 0), (.getfield 37, 1, [10, 5], 0), (.aload_n 0, 4, [], 0), (.getfield 19, 5, [10, 1], 0), (.getfield 94, 8, [6, 0], 0), (.invokevirtual 179, 11, [85, 1, 8], 0), (.ireturn, 14, [], 0)], (0, 10, 0), (0, 0))
set_option maxRecDepth 100000 in
def mt_X11_water : mj_T := (yX11_water, cX11_water, 2, (some .int), [(.iload_n 1, 0, [], 0), (.invokestatic 163, 1, [129, 1, 10], 0), (.ifCond .eq 18, 4, [10], 0), (.aload_n 0, 7, [], 0), (.getfield 19, 8, [10, 1], 0), (.getfield 94, 11, [6, 0], 0), (.getfield 183, 14, [3, 3], 0), (.iload_n 1, 17, [], 0), (.iaload, 18, [], 0), (.goto 4, 19, [11], 0), (.iconst (-1), 22, [], 0), (.ireturn, 23, [], 0)], (0, 10, 1), (0, 0))
set_option maxRecDepth 100000 in
def mt_X11_wettest : mj_T := (yX11_wettest, cX11_wettest, 4, (some .int), [(.aload_n 0, 0, [], 0), (.iload_n 1, 1, [], 0), (.invokevirtual 145, 2, [130, 1, 10], 0), (.ifCond .ne 5, 5, [6], 0), (.iconst (-1), 8, [], 0), (.ireturn, 9, [], 0), (.iconst 0, 10, [], 0), (.istore_n 2, 11, [], 0), (.iconst 1, 12, [], 0), (.istore_n 3, 13, [], 0), (.iload_n 3, 14, [], 0), (.bipush 12, 15, [], 0), (.if_icmp .ge 38, 17, [30], 0), (.aload_n 0, 20, [], 0), (.getfield 19, 21, [10, 1], 0), (.getfield 94, 24, [6, 0], 0), (.getfield 183, 27, [3, 3], 0), (.iload_n 3, 30, [], 0), (.iaload, 31, [], 0), (.aload_n 0, 32, [], 0), (.getfield 19, 33, [10, 1], 0), (.getfield 94, 36, [6, 0], 0), (.getfield 183, 39, [3, 3], 0), (.iload_n 2, 42, [], 0), (.iaload, 43, [], 0), (.if_icmp .le 5, 44, [28], 0), (.iload_n 3, 47, [], 0), (.istore_n 2, 48, [], 0), (.iinc 3 1, 49, [], 0), (.goto (-38), 52, [10], 0), (.iload_n 2, 55, [], 0), (.ireturn, 56, [], 0)], (0, 10, 1), (0, 0))
set_option maxRecDepth 100000 in
def mt_X11_worth : mj_T := (yX11_worth, cX11_worth, 4, (some .int), [(.aload_n 0, 0, [], 0), (.iload_n 1, 1, [], 0), (.invokevirtual 145, 2, [130, 1, 10], 0), (.ifCond .ne 7, 5, [6], 0), (.sipush (-10001), 8, [], 0), (.ireturn, 11, [], 0), (.aload_n 0, 12, [], 0), (.aload_n 0, 13, [], 0), (.getfield 19, 14, [10, 1], 0), (.getfield 94, 17, [6, 0], 0), (.invokevirtual 277, 20, [153, 1, 10], 0), (.aload_n 0, 23, [], 0), (.getfield 65, 24, [10, 9], 0), (.getfield 309, 27, [9, 2], 0), (.istore_n 2, 30, [], 0), (.aload_n 0, 31, [], 0), (.getfield 23, 32, [10, 2], 0), (.getfield 94, 35, [6, 0], 0), (.aload_n 0, 38, [], 0), (.getfield 19, 39, [10, 1], 0), (.getfield 94, 42, [6, 0], 0), (.invokevirtual 312, 45, [32, 1, 3], 0), (.iconst 0, 48, [], 0), (.istore_n 3, 49, [], 0), (.iload_n 3, 50, [], 0), (.bipush 12, 51, [], 0), (.if_icmp .ge 22, 53, [36], 0), (.aload_n 0, 56, [], 0), (.getfield 23, 57, [10, 2], 0), (.getfield 94, 60, [6, 0], 0), (.iload_n 1, 63, [], 0), (.iload_n 3, 64, [], 0), (.iconst 0, 65, [], 0), (.invokevirtual 176, 66, [47, 3, 3], 0), (.iinc 3 1, 69, [], 0), (.goto (-22), 72, [24], 0), (.aload_n 0, 75, [], 0), (.aload_n 0, 76, [], 0), (.getfield 23, 77, [10, 2], 0), (.getfield 94, 80, [6, 0], 0), (.invokevirtual 277, 83, [153, 1, 10], 0), (.iload_n 2, 86, [], 0), (.aload_n 0, 87, [], 0), (.getfield 65, 88, [10, 9], 0), (.getfield 309, 91, [9, 2], 0), (.isub, 94, [], 0), (.ireturn, 95, [], 0)], (0, 10, 1), (0, 0))
set_option maxRecDepth 100000 in
def mt_X11_write : mj_T := (yX11_write, cX11_write, 2, (some .int), [(.aload_n 0, 0, [], 0), (.getfield 19, 1, [10, 1], 0), (.getfield 130, 4, [6, 3], 0), (.getfield 133, 7, [9, 0], 0), (.ifCond .ne 5, 10, [7], 0), (.iconst (-1), 13, [], 0), (.ireturn, 14, [], 0), (.aload_n 0, 15, [], 0), (.iconst 0, 16, [], 0), (.putfield 73, 17, [10, 11], 0), (.iconst 0, 20, [], 0), (.istore_n 1, 21, [], 0), (.iload_n 1, 22, [], 0), (.aload_n 0, 23, [], 0), (.getfield 19, 24, [10, 1], 0), (.getfield 130, 27, [6, 3], 0), (.getfield 209, 30, [9, 1], 0), (.if_icmp .ge 96, 33, [64], 0), (.iload_n 1, 36, [], 0), (.bipush 12, 37, [], 0), (.if_icmp .ge 90, 39, [64], 0), (.aload_n 0, 42, [], 0), (.iload_n 1, 43, [], 0), (.invokevirtual 284, 44, [142, 1, 10], 0), (.aload_n 0, 47, [], 0), (.bipush 32, 48, [], 0), (.invokevirtual 287, 50, [141, 1, 10], 0), (.aload_n 0, 53, [], 0), (.aload_n 0, 54, [], 0), (.getfield 19, 55, [10, 1], 0), (.getfield 130, 58, [6, 3], 0), (.getfield 222, 61, [9, 3], 0), (.iload_n 1, 64, [], 0), (.iaload, 65, [], 0), (.invokevirtual 290, 66, [143, 1, 10], 0), (.aload_n 0, 69, [], 0), (.getfield 19, 70, [10, 1], 0), (.getfield 130, 73, [6, 3], 0), (.getfield 225, 76, [9, 4], 0), (.iload_n 1, 79, [], 0), (.iaload, 80, [], 0), (.iconst (-1), 81, [], 0), (.if_icmp .eq 19, 82, [51], 0), (.aload_n 0, 85, [], 0), (.aload_n 0, 86, [], 0), (.getfield 19, 87, [10, 1], 0), (.getfield 130, 90, [6, 3], 0), (.getfield 225, 93, [9, 4], 0), (.iload_n 1, 96, [], 0), (.iaload, 97, [], 0), (.invokevirtual 290, 98, [143, 1, 10], 0), (.aload_n 0, 101, [], 0), (.aload_n 0, 102, [], 0), (.getfield 19, 103, [10, 1], 0), (.getfield 130, 106, [6, 3], 0), (.getfield 228, 109, [9, 5], 0), (.iload_n 1, 112, [], 0), (.iaload, 113, [], 0), (.invokevirtual 284, 114, [142, 1, 10], 0), (.aload_n 0, 117, [], 0), (.bipush 59, 118, [], 0), (.invokevirtual 287, 120, [141, 1, 10], 0), (.iinc 1 1, 123, [], 0), (.goto (-104), 126, [12], 0), (.aload_n 0, 129, [], 0), (.getfield 73, 130, [10, 11], 0), (.ireturn, 133, [], 0)], (0, 10, 0), (0, 0))
set_option maxRecDepth 100000 in
def mt_X11_year : mj_T := (yX11_year, cX11_year, 2, (some .int), [(.aload_n 0, 0, [], 0), (.getfield 19, 1, [10, 1], 0), (.getfield 130, 4, [6, 3], 0), (.getfield 133, 7, [9, 0], 0), (.ifCond .eq 17, 10, [11], 0), (.aload_n 0, 13, [], 0), (.getfield 19, 14, [10, 1], 0), (.getfield 130, 17, [6, 3], 0), (.iload_n 1, 20, [], 0), (.invokevirtual 216, 21, [104, 1, 9], 0), (.goto 6, 24, [12], 0), (.sipush (-1001), 27, [], 0), (.ireturn, 30, [], 0)], (0, 10, 1), (0, 0))
set_option maxRecDepth 100000 in
def mt_X12_areLevels : mj_T := (yX12_areLevels, cX12_areLevels, 7, (some .boolean), [(.aload_n 0, 0, [], 0), (.invokevirtual 333, 1, [163, 0, 11], 0), (.iconst 1, 4, [], 0), (.iconst 2, 5, [], 0), (.aload_n 0, 6, [], 0), (.getfield 33, 7, [11, 6], 0), (.iconst 0, 10, [], 0), (.iaload, 11, [], 0), (.imul, 12, [], 0), (.iadd, 13, [], 0), (.istore_n 2, 14, [], 0), (.iconst 0, 15, [], 0), (.istore_n 3, 16, [], 0), (.iconst 1, 17, [], 0), (.istore 4, 18, [], 0), (.iconst 0, 20, [], 0), (.istore 5, 21, [], 0), (.iload 5, 23, [], 0), (.bipush 12, 25, [], 0), (.if_icmp .ge 117, 27, [85], 0), (.iload_n 3, 30, [], 0), (.iload_n 1, 31, [], 0), (.if_icmp .ge 112, 32, [85], 0), (.iload 4, 35, [], 0), (.ifCond .eq 107, 37, [85], 0), (.aload_n 0, 40, [], 0), (.iconst 0, 41, [], 0), (.invokevirtual 336, 42, [213, 1, 11], 0), (.aload_n 0, 45, [], 0), (.iload_n 2, 46, [], 0), (.iload_n 3, 47, [], 0), (.imul, 48, [], 0), (.invokevirtual 372, 49, [218, 1, 11], 0), (.iload 5, 52, [], 0), (.if_icmp .eq 6, 54, [36], 0), (.goto 81, 57, [83], 0), (.iconst 0, 60, [], 0), (.istore 6, 61, [], 0), (.iload 6, 63, [], 0), (.aload_n 0, 65, [], 0), (.getfield 33, 66, [11, 6], 0), (.iconst 0, 69, [], 0), (.iaload, 70, [], 0), (.if_icmp .ge 64, 71, [82], 0), (.iload 4, 74, [], 0), (.ifCond .eq 50, 76, [78], 0), (.aload_n 0, 79, [], 0), (.iload 6, 80, [], 0), (.iconst 0, 82, [], 0), (.invokevirtual 285, 83, [219, 2, 11], 0), (.sipush 256, 86, [], 0), (.aload_n 0, 89, [], 0), (.iload_n 2, 90, [], 0), (.iload_n 3, 91, [], 0), (.imul, 92, [], 0), (.iconst 1, 93, [], 0), (.iadd, 94, [], 0), (.iconst 2, 95, [], 0), (.iload 6, 96, [], 0), (.imul, 98, [], 0), (.iadd, 99, [], 0), (.invokevirtual 372, 100, [218, 1, 11], 0), (.imul, 103, [], 0), (.aload_n 0, 104, [], 0), (.iload_n 2, 105, [], 0), (.iload_n 3, 106, [], 0), (.imul, 107, [], 0), (.iconst 2, 108, [], 0), (.iadd, 109, [], 0), (.iconst 2, 110, [], 0), (.iload 6, 111, [], 0), (.imul, 113, [], 0), (.iadd, 114, [], 0), (.invokevirtual 372, 115, [218, 1, 11], 0), (.iadd, 118, [], 0), (.if_icmp .ne 7, 119, [78], 0), (.iconst 1, 122, [], 0), (.goto 4, 123, [79], 0), (.iconst 0, 126, [], 0), (.istore 4, 127, [], 0), (.iinc 6 1, 129, [], 0), (.goto (-69), 132, [38], 0), (.iinc 3 1, 135, [], 0), (.iinc 5 1, 138, [], 0), (.goto (-118), 141, [17], 0), (.iload 4, 144, [], 0), (.ireturn, 146, [], 1)], (0, 11, 1), (0, 0))
set_option maxRecDepth 100000 in
def mt_X12_bad : mj_T := (yX12_bad, cX12_bad, 2, (some .boolean), [(.aload_n 0, 0, [], 0), (.iload_n 1, 1, [], 0), (.putfield 180, 2, [11, 15], 0), (.aload_n 0, 5, [], 0), (.aload_n 0, 6, [], 0), (.getfield 157, 7, [11, 12], 0), (.putfield 183, 10, [11, 16], 0), (.iconst 0, 13, [], 0), (.ireturn, 14, [], 1)], (0, 11, 1), (0, 0))
set_option maxRecDepth 100000 in
def mt_X12_begin : mj_T := (yX12_begin, cX12_begin, 1, (some .boolean), [(.aload_n 0, 0, [], 0), (.iconst 0, 1, [], 0), (.putfield 1, 2, [11, 0], 0), (.aload_n 0, 5, [], 0), (.getfield 33, 6, [11, 6], 0), (.iconst 0, 9, [], 0), (.iaload, 10, [], 0), (.ifCond .ne 5, 11, [10], 0), (.iconst 0, 14, [], 0), (.ireturn, 15, [], 1), (.aload_n 0, 16, [], 0), (.invokevirtual 333, 17, [163, 0, 11], 0), (.iconst 1, 20, [], 0), (.ireturn, 21, [], 1)], (0, 11, 0), (0, 0))
set_option maxRecDepth 100000 in
def mt_X12_begins : mj_T := (yX12_begins, cX12_begins, 2, none, [(.sipush 221, 0, [], 0), (.istore_n 1, 3, [], 0), (.iload_n 1, 4, [], 0), (.sipush 356, 5, [], 0), (.if_icmp .ge 16, 8, [12], 0), (.aload_n 0, 11, [], 0), (.getfield 33, 12, [11, 6], 0), (.iload_n 1, 15, [], 0), (.iconst 0, 16, [], 0), (.iastore, 17, [], 0), (.iinc 1 1, 18, [], 0), (.goto (-17), 21, [2], 0), (.aload_n 0, 24, [], 0), (.getfield 33, 25, [11, 6], 0), (.sipush 221, 28, [], 0), (.iconst 1, 31, [], 0), (.iastore, 32, [], 0), (.aload_n 0, 33, [], 0), (.getfield 33, 34, [11, 6], 0), (.sipush 223, 37, [], 0), (.bipush 8, 40, [], 0), (.iastore, 42, [], 0), (.aload_n 0, 43, [], 0), (.getfield 33, 44, [11, 6], 0), (.sipush 225, 47, [], 0), (.aload_n 0, 50, [], 0), (.getfield 33, 51, [11, 6], 0), (.iconst 2, 54, [], 0), (.iaload, 55, [], 0), (.iastore, 56, [], 0), (.iconst 0, 57, [], 0), (.istore_n 1, 58, [], 0), (.iload_n 1, 59, [], 0), (.aload_n 0, 60, [], 0), (.getfield 33, 61, [11, 6], 0), (.iconst 0, 64, [], 0), (.iaload, 65, [], 0), (.if_icmp .ge 30, 66, [54], 0), (.aload_n 0, 69, [], 0), (.getfield 33, 70, [11, 6], 0), (.sipush 232, 73, [], 0), (.bipush 11, 76, [], 0), (.iload_n 1, 78, [], 0), (.imul, 79, [], 0), (.iadd, 80, [], 0), (.iconst 1, 81, [], 0), (.iadd, 82, [], 0), (.aload_n 0, 83, [], 0), (.iload_n 1, 84, [], 0), (.iconst 3, 85, [], 0), (.invokevirtual 270, 86, [252, 2, 11], 0), (.iastore, 89, [], 0), (.iinc 1 1, 90, [], 0), (.goto (-34), 93, [32], 0), (.return_, 96, [], 0)], (0, 11, 0), (0, 0))
set_option maxRecDepth 100000 in
def mt_X12_behind : mj_T := (yX12_behind, cX12_behind, 1, (some .boolean), [(.aload_n 0, 0, [], 0), (.invokevirtual 427, 1, [217, 0, 11], 0), (.aload_n 0, 4, [], 0), (.ldc2_w 131, 5, [], 6385252), (.invokevirtual 202, 8, [206, 1, 11], 0), (.ifCond .ne 13, 11, [10], 0), (.aload_n 0, 14, [], 0), (.ldc2_w 129, 15, [], 28530), (.invokevirtual 202, 18, [206, 1, 11], 0), (.ifCond .eq 71, 21, [44], 0), (.aload_n 0, 24, [], 0), (.aload_n 0, 25, [], 0), (.ldc2_w 131, 26, [], 6385252), (.invokevirtual 202, 29, [206, 1, 11], 0), (.ifCond .eq 8, 32, [17], 0), (.bipush 11, 35, [], 0), (.goto 5, 37, [18], 0), (.bipush 12, 40, [], 0), (.invokevirtual 430, 42, [207, 1, 11], 0), (.aload_n 0, 45, [], 0), (.getfield 89, 46, [11, 52], 0), (.aload_n 0, 49, [], 0), (.getfield 409, 50, [11, 55], 0), (.aload_n 0, 53, [], 0), (.ldc2_w 131, 54, [], 6385252), (.invokevirtual 202, 57, [206, 1, 11], 0), (.ifCond .eq 8, 60, [29], 0), (.bipush 11, 63, [], 0), (.goto 5, 65, [30], 0), (.bipush 12, 68, [], 0), (.iastore, 70, [], 0), (.aload_n 0, 71, [], 0), (.dup, 72, [], 0), (.getfield 409, 73, [11, 55], 0), (.iconst 1, 76, [], 0), (.iadd, 77, [], 0), (.putfield 409, 78, [11, 55], 0), (.aload_n 0, 81, [], 0), (.iconst 0, 82, [], 0), (.putfield 424, 83, [11, 57], 0), (.aload_n 0, 86, [], 0), (.invokevirtual 192, 87, [216, 0, 11], 0), (.iconst 1, 90, [], 0), (.ireturn, 91, [], 1), (.aload_n 0, 92, [], 0), (.bipush 12, 93, [], 0), (.invokevirtual 430, 95, [207, 1, 11], 0), (.aload_n 0, 98, [], 0), (.bipush 41, 99, [], 0), (.invokevirtual 186, 101, [203, 1, 11], 0), (.ifCond .eq 10, 104, [54], 0), (.aload_n 0, 107, [], 0), (.getfield 409, 108, [11, 55], 0), (.ifCond .ne 9, 111, [58], 0), (.aload_n 0, 114, [], 0), (.iconst 1, 115, [], 0), (.invokevirtual 189, 116, [161, 1, 11], 0), (.ireturn, 119, [], 1), (.aload_n 0, 120, [], 0), (.dup, 121, [], 0), (.getfield 409, 122, [11, 55], 0), (.iconst 1, 125, [], 0), (.isub, 126, [], 0), (.putfield 409, 127, [11, 55], 0), (.aload_n 0, 130, [], 0), (.dup, 131, [], 0), (.getfield 415, 132, [11, 56], 0), (.iconst 1, 135, [], 0), (.isub, 136, [], 0), (.putfield 415, 137, [11, 56], 0), (.aload_n 0, 140, [], 0), (.invokevirtual 192, 141, [216, 0, 11], 0), (.iconst 1, 144, [], 0), (.ireturn, 145, [], 1)], (0, 11, 0), (0, 0))
set_option maxRecDepth 100000 in
def mt_X12_bid : mj_T := (yX12_bid, cX12_bid, 3, (some .int), [(.aload_n 0, 0, [], 0), (.iconst 0, 1, [], 0), (.putfield 1, 2, [11, 0], 0), (.aload_n 0, 5, [], 0), (.iload_n 1, 6, [], 0), (.invokevirtual 263, 7, [205, 1, 11], 0), (.ifCond .eq 19, 10, [15], 0), (.iload_n 2, 13, [], 0), (.invokestatic 273, 14, [200, 1, 11], 0), (.ifCond .eq 12, 17, [15], 0), (.aload_n 0, 20, [], 0), (.iload_n 1, 21, [], 0), (.iload_n 2, 22, [], 0), (.invokevirtual 276, 23, [167, 2, 11], 0), (.goto 4, 26, [16], 0), (.iconst (-1), 29, [], 0), (.ireturn, 30, [], 0)], (0, 11, 2), (0, 0))
set_option maxRecDepth 100000 in
def mt_X12_bidMany : mj_T := (yX12_bidMany, cX12_bidMany, 3, (some .int), [(.iconst 0, 0, [], 0), (.istore_n 1, 1, [], 0), (.iconst 0, 2, [], 0), (.istore_n 2, 3, [], 0), (.iload_n 2, 4, [], 0), (.bipush 96, 5, [], 0), (.if_icmp .ge 29, 7, [22], 0), (.iload_n 1, 10, [], 0), (.aload_n 0, 11, [], 0), (.getfield 33, 12, [11, 6], 0), (.bipush 88, 15, [], 0), (.iload_n 2, 17, [], 0), (.iadd, 18, [], 0), (.iaload, 19, [], 0), (.ifCond .le 7, 20, [17], 0), (.iconst 1, 23, [], 0), (.goto 4, 24, [18], 0), (.iconst 0, 27, [], 0), (.iadd, 28, [], 0), (.istore_n 1, 29, [], 0), (.iinc 2 1, 30, [], 0), (.goto (-29), 33, [4], 0), (.iload_n 1, 36, [], 0), (.ireturn, 37, [], 0)], (0, 11, 0), (0, 0))
set_option maxRecDepth 100000 in
def mt_X12_bidOf : mj_T := (yX12_bidOf, cX12_bidOf, 3, (some .int), [(.aload_n 0, 0, [], 0), (.getfield 33, 1, [11, 6], 0), (.bipush 88, 4, [], 0), (.bipush 12, 6, [], 0), (.iload_n 1, 8, [], 0), (.imul, 9, [], 0), (.iadd, 10, [], 0), (.iload_n 2, 11, [], 0), (.iadd, 12, [], 0), (.iaload, 13, [], 0), (.ireturn, 14, [], 0)], (0, 11, 2), (0, 0))
set_option maxRecDepth 100000 in
def mt_X12_bidsOf : mj_T := (yX12_bidsOf, cX12_bidsOf, 4, (some .int), [(.aload_n 0, 0, [], 0), (.iconst 0, 1, [], 0), (.putfield 1, 2, [11, 0], 0), (.aload_n 0, 5, [], 0), (.iload_n 1, 6, [], 0), (.invokevirtual 263, 7, [205, 1, 11], 0), (.ifCond .ne 5, 10, [9], 0), (.iconst (-1), 13, [], 0), (.ireturn, 14, [], 0), (.iconst 0, 15, [], 0), (.istore_n 2, 16, [], 0), (.iconst 0, 17, [], 0), (.istore_n 3, 18, [], 0), (.iload_n 3, 19, [], 0), (.bipush 12, 20, [], 0), (.if_icmp .ge 18, 22, [25], 0), (.iload_n 2, 25, [], 0), (.aload_n 0, 26, [], 0), (.iload_n 1, 27, [], 0), (.iload_n 3, 28, [], 0), (.invokevirtual 276, 29, [167, 2, 11], 0), (.iadd, 32, [], 0), (.istore_n 2, 33, [], 0), (.iinc 3 1, 34, [], 0), (.goto (-18), 37, [13], 0), (.iload_n 2, 40, [], 0), (.ireturn, 41, [], 0)], (0, 11, 1), (0, 0))
set_option maxRecDepth 100000 in
def mt_X12_bitOf : mj_T := (yX12_bitOf, cX12_bitOf, 2, (some .boolean), [(.iload_n 0, 0, [], 0), (.iload_n 1, 1, [], 0), (.ishr, 2, [], 0), (.iconst 1, 3, [], 0), (.iand, 4, [], 0), (.iconst 1, 5, [], 0), (.if_icmp .ne 7, 6, [9], 0), (.iconst 1, 9, [], 0), (.goto 4, 10, [10], 0), (.iconst 0, 13, [], 0), (.ireturn, 14, [], 1)], (1, 11, 2), (0, 0))
set_option maxRecDepth 100000 in
def mt_X12_byteAt : mj_T := (yX12_byteAt, cX12_byteAt, 2, (some .int), [(.aload_n 0, 0, [], 0), (.iconst 0, 1, [], 0), (.putfield 1, 2, [11, 0], 0), (.iload_n 1, 5, [], 0), (.iconst 0, 6, [], 0), (.aload_n 0, 7, [], 0), (.getfield 391, 8, [11, 51], 0), (.iconst 1, 11, [], 0), (.isub, 12, [], 0), (.invokestatic 195, 13, [198, 3, 11], 0), (.ifCond .eq 16, 16, [18], 0), (.aload_n 0, 19, [], 0), (.getfield 86, 20, [11, 50], 0), (.iload_n 1, 23, [], 0), (.baload, 24, [], 0), (.sipush 255, 25, [], 0), (.iand, 28, [], 0), (.goto 4, 29, [19], 0), (.iconst (-1), 32, [], 0), (.ireturn, 33, [], 0)], (0, 11, 1), (0, 0))
set_option maxRecDepth 100000 in
def mt_X12_canBe : mj_T := (yX12_canBe, cX12_canBe, 5, (some .boolean), [(.iconst 0, 0, [], 0), (.istore_n 2, 1, [], 0), (.iload_n 2, 2, [], 0), (.aload_n 0, 3, [], 0), (.getfield 33, 4, [11, 6], 0), (.iconst 0, 7, [], 0), (.iaload, 8, [], 0), (.if_icmp .ge 58, 9, [41], 0), (.aload_n 0, 12, [], 0), (.getfield 65, 13, [11, 37], 0), (.iconst 3, 16, [], 0), (.iload_n 1, 17, [], 0), (.imul, 18, [], 0), (.iload_n 2, 19, [], 0), (.iadd, 20, [], 0), (.iaload, 21, [], 0), (.istore_n 3, 22, [], 0), (.iload_n 1, 23, [], 0), (.istore 4, 24, [], 0), (.iload 4, 26, [], 0), (.bipush 12, 28, [], 0), (.if_icmp .ge 19, 30, [31], 0), (.iload_n 3, 33, [], 0), (.aload_n 0, 34, [], 0), (.iload_n 2, 35, [], 0), (.iload 4, 36, [], 0), (.invokevirtual 339, 38, [191, 2, 11], 0), (.iadd, 41, [], 0), (.istore_n 3, 42, [], 0), (.iinc 4 1, 43, [], 0), (.goto (-20), 46, [19], 0), (.iload_n 3, 49, [], 0), (.aload_n 0, 50, [], 0), (.iload_n 2, 51, [], 0), (.iconst 4, 52, [], 0), (.invokevirtual 270, 53, [252, 2, 11], 0), (.if_icmp .ge 5, 56, [39], 0), (.iconst 0, 59, [], 0), (.ireturn, 60, [], 1), (.iinc 2 1, 61, [], 0), (.goto (-62), 64, [2], 0), (.iconst 1, 67, [], 0), (.ireturn, 68, [], 1)], (0, 11, 1), (0, 0))
set_option maxRecDepth 100000 in
def mt_X12_canPay : mj_T := (yX12_canPay, cX12_canPay, 3, (some .boolean), [(.aload_n 0, 0, [], 0), (.iload_n 1, 1, [], 0), (.iconst 3, 2, [], 0), (.invokevirtual 285, 3, [219, 2, 11], 0), (.ifCond .ne 17, 6, [13], 0), (.aload_n 0, 9, [], 0), (.iload_n 1, 10, [], 0), (.iconst 1, 11, [], 0), (.invokevirtual 285, 12, [219, 2, 11], 0), (.iload_n 2, 15, [], 0), (.if_icmp .lt 7, 16, [13], 0), (.iconst 1, 19, [], 0), (.goto 4, 20, [14], 0), (.iconst 0, 23, [], 0), (.ireturn, 24, [], 1)], (0, 11, 2), (0, 0))
set_option maxRecDepth 100000 in
def mt_X12_cheapest : mj_T := (yX12_cheapest, cX12_cheapest, 5, (some .int), [(.aload_n 0, 0, [], 0), (.iconst 0, 1, [], 0), (.putfield 1, 2, [11, 0], 0), (.aload_n 0, 5, [], 0), (.getfield 33, 6, [11, 6], 0), (.iconst 0, 9, [], 0), (.iaload, 10, [], 0), (.istore_n 1, 11, [], 0), (.iload_n 1, 12, [], 0), (.iconst 1, 13, [], 0), (.iconst 3, 14, [], 0), (.invokestatic 195, 15, [198, 3, 11], 0), (.ifCond .ne 6, 18, [15], 0), (.bipush (-2), 21, [], 0), (.ireturn, 23, [], 0), (.ldc_w 342, 24, [], 0), (.istore_n 2, 27, [], 0), (.aload_n 0, 28, [], 0), (.getfield 62, 29, [11, 36], 0), (.iconst 0, 32, [], 0), (.iconst 0, 33, [], 0), (.iastore, 34, [], 0), (.iconst 0, 35, [], 0), (.istore_n 3, 36, [], 0), (.iload_n 3, 37, [], 0), (.iconst 3, 38, [], 0), (.if_icmp .ge 16, 39, [34], 0), (.aload_n 0, 42, [], 0), (.getfield 65, 43, [11, 37], 0), (.iload_n 3, 46, [], 0), (.iconst 0, 47, [], 0), (.iastore, 48, [], 0), (.iinc 3 1, 49, [], 0), (.goto (-15), 52, [24], 0), (.iconst 0, 55, [], 0), (.istore_n 3, 56, [], 0), (.aload_n 0, 57, [], 0), (.getfield 59, 58, [11, 35], 0), (.iconst 0, 61, [], 0), (.iconst (-1), 62, [], 0), (.iastore, 63, [], 0), (.iload_n 3, 64, [], 0), (.ifCond .lt 264, 65, [193], 0), (.iload_n 3, 68, [], 0), (.bipush 12, 69, [], 0), (.if_icmp .ne 64, 71, [78], 0), (.aload_n 0, 74, [], 0), (.getfield 62, 75, [11, 36], 0), (.iload_n 3, 78, [], 0), (.iaload, 79, [], 0), (.iload_n 2, 80, [], 0), (.if_icmp .ge 48, 81, [76], 0), (.aload_n 0, 84, [], 0), (.iload_n 3, 85, [], 0), (.invokevirtual 343, 86, [171, 1, 11], 0), (.ifCond .eq 40, 89, [76], 0), (.aload_n 0, 92, [], 0), (.getfield 62, 93, [11, 36], 0), (.iload_n 3, 96, [], 0), (.iaload, 97, [], 0), (.istore_n 2, 98, [], 0), (.iconst 0, 99, [], 0), (.istore 4, 100, [], 0), (.iload 4, 102, [], 0), (.bipush 12, 104, [], 0), (.if_icmp .ge 23, 106, [76], 0), (.aload_n 0, 109, [], 0), (.getfield 68, 110, [11, 38], 0), (.iload 4, 113, [], 0), (.aload_n 0, 115, [], 0), (.getfield 59, 116, [11, 35], 0), (.iload 4, 119, [], 0), (.iaload, 121, [], 0), (.iastore, 122, [], 0), (.iinc 4 1, 123, [], 0), (.goto (-24), 126, [63], 0), (.iinc 3 (-1), 129, [], 0), (.goto (-68), 132, [41], 0), (.aload_n 0, 135, [], 0), (.getfield 59, 136, [11, 35], 0), (.iload_n 3, 139, [], 0), (.aload_n 0, 140, [], 0), (.getfield 59, 141, [11, 35], 0), (.iload_n 3, 144, [], 0), (.iaload, 145, [], 0), (.bipush 8, 146, [], 0), (.if_icmp .ne 8, 148, [89], 0), (.bipush 9, 151, [], 0), (.goto 28, 153, [105], 0), (.aload_n 0, 156, [], 0), (.getfield 59, 157, [11, 35], 0), (.iload_n 3, 160, [], 0), (.iaload, 161, [], 0), (.iconst 1, 162, [], 0), (.iadd, 163, [], 0), (.iload_n 1, 164, [], 0), (.if_icmp .ne 8, 165, [99], 0), (.bipush 8, 168, [], 0), (.goto 11, 170, [105], 0), (.aload_n 0, 173, [], 0), (.getfield 59, 174, [11, 35], 0), (.iload_n 3, 177, [], 0), (.iaload, 178, [], 0), (.iconst 1, 179, [], 0), (.iadd, 180, [], 0), (.iastore, 181, [], 0), (.aload_n 0, 182, [], 0), (.getfield 59, 183, [11, 35], 0), (.iload_n 3, 186, [], 0), (.iaload, 187, [], 0), (.bipush 8, 188, [], 0), (.if_icmp .gt 11, 190, [116], 0), (.aload_n 0, 193, [], 0), (.iload_n 3, 194, [], 0), (.invokevirtual 343, 195, [171, 1, 11], 0), (.ifCond .ne 9, 198, [118], 0), (.iinc 3 (-1), 201, [], 0), (.goto (-140), 204, [41], 0), (.aload_n 0, 207, [], 0), (.getfield 62, 208, [11, 36], 0), (.iload_n 3, 211, [], 0), (.iconst 1, 212, [], 0), (.iadd, 213, [], 0), (.aload_n 0, 214, [], 0), (.getfield 62, 215, [11, 36], 0), (.iload_n 3, 218, [], 0), (.iaload, 219, [], 0), (.aload_n 0, 220, [], 0), (.iload_n 3, 221, [], 0), (.aload_n 0, 222, [], 0), (.getfield 59, 223, [11, 35], 0), (.iload_n 3, 226, [], 0), (.iaload, 227, [], 0), (.invokevirtual 346, 228, [178, 2, 11], 0), (.iadd, 231, [], 0), (.iastore, 232, [], 0), (.aload_n 0, 233, [], 0), (.getfield 62, 234, [11, 36], 0), (.iload_n 3, 237, [], 0), (.iconst 1, 238, [], 0), (.iadd, 239, [], 0), (.iaload, 240, [], 0), (.iload_n 2, 241, [], 0), (.if_icmp .lt 6, 242, [145], 0), (.goto (-181), 245, [41], 0), (.iconst 0, 248, [], 0), (.istore 4, 249, [], 0), (.iload 4, 251, [], 0), (.iload_n 1, 253, [], 0), (.if_icmp .ge 56, 254, [183], 0), (.aload_n 0, 257, [], 0), (.getfield 65, 258, [11, 37], 0), (.iconst 3, 261, [], 0), (.iload_n 3, 262, [], 0), (.imul, 263, [], 0), (.iconst 3, 264, [], 0), (.iadd, 265, [], 0), (.iload 4, 266, [], 0), (.iadd, 268, [], 0), (.aload_n 0, 269, [], 0), (.getfield 65, 270, [11, 37], 0), (.iconst 3, 273, [], 0), (.iload_n 3, 274, [], 0), (.imul, 275, [], 0), (.iload 4, 276, [], 0), (.iadd, 278, [], 0), (.iaload, 279, [], 0), (.iload 4, 280, [], 0), (.aload_n 0, 282, [], 0), (.getfield 59, 283, [11, 35], 0), (.iload_n 3, 286, [], 0), (.iaload, 287, [], 0), (.if_icmp .ne 13, 288, [178], 0), (.aload_n 0, 291, [], 0), (.iload 4, 292, [], 0), (.iload_n 3, 294, [], 0), (.invokevirtual 339, 295, [191, 2, 11], 0), (.goto 4, 298, [179], 0), (.iconst 0, 301, [], 0), (.iadd, 302, [], 0), (.iastore, 303, [], 0), (.iinc 4 1, 304, [], 0), (.goto (-56), 307, [147], 0), (.iinc 3 1, 310, [], 0), (.iload_n 3, 313, [], 0), (.bipush 12, 314, [], 0), (.if_icmp .ge (-252), 316, [41], 0), (.aload_n 0, 319, [], 0), (.getfield 59, 320, [11, 35], 0), (.iload_n 3, 323, [], 0), (.iconst (-1), 324, [], 0), (.iastore, 325, [], 0), (.goto (-262), 326, [41], 0), (.iload_n 2, 329, [], 0), (.ldc_w 342, 330, [], 0), (.if_icmp .ne 5, 333, [198], 0), (.iconst (-1), 336, [], 0), (.ireturn, 337, [], 0), (.aload_n 0, 338, [], 0), (.iconst 1, 339, [], 0), (.putfield 349, 340, [11, 39], 0), (.aload_n 0, 343, [], 0), (.aload_n 0, 344, [], 0), (.getfield 260, 345, [11, 25], 0), (.putfield 353, 348, [11, 40], 0), (.iload_n 2, 351, [], 0), (.ireturn, 352, [], 0)], (0, 11, 0), (0, 0))
set_option maxRecDepth 100000 in
def mt_X12_code : mj_T := (yX12_code, cX12_code, 4, none, [(.aload_n 0, 0, [], 0), (.getfield 40, 1, [11, 8], 0), (.iconst 3, 4, [], 0), (.aload_n 0, 5, [], 0), (.getfield 406, 6, [11, 53], 0), (.imul, 9, [], 0), (.iload_n 1, 10, [], 0), (.iastore, 11, [], 0), (.aload_n 0, 12, [], 0), (.getfield 40, 13, [11, 8], 0), (.iconst 3, 16, [], 0), (.aload_n 0, 17, [], 0), (.getfield 406, 18, [11, 53], 0), (.imul, 21, [], 0), (.iconst 1, 22, [], 0), (.iadd, 23, [], 0), (.iload_n 2, 24, [], 0), (.iastore, 25, [], 0), (.aload_n 0, 26, [], 0), (.getfield 40, 27, [11, 8], 0), (.iconst 3, 30, [], 0), (.aload_n 0, 31, [], 0), (.getfield 406, 32, [11, 53], 0), (.imul, 35, [], 0), (.iconst 2, 36, [], 0), (.iadd, 37, [], 0), (.iload_n 3, 38, [], 0), (.iastore, 39, [], 0), (.aload_n 0, 40, [], 0), (.dup, 41, [], 0), (.getfield 406, 42, [11, 53], 0), (.iconst 1, 45, [], 0), (.iadd, 46, [], 0), (.putfield 406, 47, [11, 53], 0), (.return_, 50, [], 0)], (0, 11, 3), (0, 0))
set_option maxRecDepth 100000 in
def mt_X12_comes : mj_T := (yX12_comes, cX12_comes, 6, none, [(.iload_n 2, 0, [], 0), (.aload_n 0, 1, [], 0), (.iload_n 1, 2, [], 0), (.iconst 0, 3, [], 0), (.invokevirtual 270, 4, [252, 2, 11], 0), (.if_icmp .ge 7, 7, [8], 0), (.iload_n 2, 10, [], 0), (.goto 9, 11, [12], 0), (.aload_n 0, 14, [], 0), (.iload_n 1, 15, [], 0), (.iconst 0, 16, [], 0), (.invokevirtual 270, 17, [252, 2, 11], 0), (.istore_n 3, 20, [], 0), (.aload_n 0, 21, [], 0), (.iload_n 1, 22, [], 0), (.iconst 1, 23, [], 0), (.invokevirtual 270, 24, [252, 2, 11], 0), (.aload_n 0, 27, [], 0), (.iload_n 1, 28, [], 0), (.iconst 0, 29, [], 0), (.invokevirtual 285, 30, [219, 2, 11], 0), (.isub, 33, [], 0), (.istore 4, 34, [], 0), (.iload_n 2, 36, [], 0), (.iload_n 3, 37, [], 0), (.isub, 38, [], 0), (.iload 4, 39, [], 0), (.if_icmp .ge 9, 41, [32], 0), (.iload_n 2, 44, [], 0), (.iload_n 3, 45, [], 0), (.isub, 46, [], 0), (.goto 5, 47, [33], 0), (.iload 4, 50, [], 0), (.istore 5, 52, [], 0), (.aload_n 0, 54, [], 0), (.getfield 33, 55, [11, 6], 0), (.sipush 228, 58, [], 0), (.dup2, 61, [], 0), (.iaload, 62, [], 0), (.iload_n 3, 63, [], 0), (.iadd, 64, [], 0), (.iastore, 65, [], 0), (.aload_n 0, 66, [], 0), (.getfield 33, 67, [11, 6], 0), (.sipush 229, 70, [], 0), (.dup2, 73, [], 0), (.iaload, 74, [], 0), (.iload_n 2, 75, [], 0), (.iload_n 3, 76, [], 0), (.isub, 77, [], 0), (.iload 5, 78, [], 0), (.isub, 80, [], 0), (.iadd, 81, [], 0), (.iastore, 82, [], 0), (.aload_n 0, 83, [], 0), (.iload_n 1, 84, [], 0), (.iconst 0, 85, [], 0), (.iload 5, 86, [], 0), (.invokevirtual 288, 88, [214, 3, 11], 0), (.aload_n 0, 91, [], 0), (.iload_n 1, 92, [], 0), (.bipush 6, 93, [], 0), (.iload 5, 95, [], 0), (.invokevirtual 288, 97, [214, 3, 11], 0), (.return_, 100, [], 0)], (0, 11, 2), (0, 0))
set_option maxRecDepth 100000 in
def mt_X12_contract : mj_T := (yX12_contract, cX12_contract, 3, (some .int), [(.aload_n 0, 0, [], 0), (.iconst 0, 1, [], 0), (.putfield 1, 2, [11, 0], 0), (.iload_n 1, 5, [], 0), (.invokestatic 273, 6, [200, 1, 11], 0), (.ifCond .eq 27, 9, [20], 0), (.iload_n 2, 12, [], 0), (.iconst 0, 13, [], 0), (.iconst 2, 14, [], 0), (.invokestatic 195, 15, [198, 3, 11], 0), (.ifCond .eq 18, 18, [20], 0), (.aload_n 0, 21, [], 0), (.getfield 33, 22, [11, 6], 0), (.sipush 184, 25, [], 0), (.iconst 3, 28, [], 0), (.iload_n 1, 29, [], 0), (.imul, 30, [], 0), (.iadd, 31, [], 0), (.iaload, 32, [], 0), (.ifCond .ne 5, 33, [22], 0), (.iconst (-1), 36, [], 0), (.ireturn, 37, [], 0), (.iload_n 2, 38, [], 0), (.iconst 2, 39, [], 0), (.if_icmp .ge 22, 40, [38], 0), (.aload_n 0, 43, [], 0), (.getfield 33, 44, [11, 6], 0), (.sipush 184, 47, [], 0), (.iconst 3, 50, [], 0), (.iload_n 1, 51, [], 0), (.imul, 52, [], 0), (.iadd, 53, [], 0), (.iload_n 2, 54, [], 0), (.iadd, 55, [], 0), (.iaload, 56, [], 0), (.iconst 1, 57, [], 0), (.isub, 58, [], 0), (.goto 17, 59, [48], 0), (.aload_n 0, 62, [], 0), (.getfield 33, 63, [11, 6], 0), (.sipush 184, 66, [], 0), (.iconst 3, 69, [], 0), (.iload_n 1, 70, [], 0), (.imul, 71, [], 0), (.iadd, 72, [], 0), (.iconst 2, 73, [], 0), (.iadd, 74, [], 0), (.iaload, 75, [], 0), (.ireturn, 76, [], 0)], (0, 11, 2), (0, 0))
set_option maxRecDepth 100000 in
def mt_X12_contracts : mj_T := (yX12_contracts, cX12_contracts, 3, (some .int), [(.aload_n 0, 0, [], 0), (.iconst 0, 1, [], 0), (.putfield 1, 2, [11, 0], 0), (.aload_n 0, 5, [], 0), (.sipush 400, 6, [], 0), (.invokevirtual 242, 9, [245, 1, 11], 0), (.aload_n 0, 12, [], 0), (.iconst 0, 13, [], 0), (.putfield 180, 14, [11, 15], 0), (.iconst 0, 17, [], 0), (.istore_n 1, 18, [], 0), (.iload_n 1, 19, [], 0), (.bipush 36, 20, [], 0), (.if_icmp .ge 16, 22, [21], 0), (.aload_n 0, 25, [], 0), (.getfield 40, 26, [11, 8], 0), (.iload_n 1, 29, [], 0), (.iconst 0, 30, [], 0), (.iastore, 31, [], 0), (.iinc 1 1, 32, [], 0), (.goto (-16), 35, [11], 0), (.iconst 0, 38, [], 0), (.istore_n 1, 39, [], 0), (.aload_n 0, 40, [], 0), (.invokevirtual 192, 41, [216, 0, 11], 0), (.aload_n 0, 44, [], 0), (.getfield 163, 45, [11, 11], 0), (.ifCond .eq 32, 48, [42], 0), (.aload_n 0, 51, [], 0), (.invokevirtual 282, 52, [180, 0, 11], 0), (.ifCond .eq 12, 55, [35], 0), (.aload_n 0, 58, [], 0), (.bipush 59, 59, [], 0), (.invokevirtual 251, 61, [242, 1, 11], 0), (.ifCond .ne 10, 64, [40], 0), (.iconst (-1), 67, [], 0), (.aload_n 0, 68, [], 0), (.getfield 183, 69, [11, 16], 0), (.isub, 72, [], 0), (.ireturn, 73, [], 0), (.iinc 1 1, 74, [], 0), (.goto (-33), 77, [25], 0), (.iconst 0, 80, [], 0), (.istore_n 2, 81, [], 0), (.iload_n 2, 82, [], 0), (.bipush 36, 83, [], 0), (.if_icmp .ge 25, 85, [59], 0), (.aload_n 0, 88, [], 0), (.getfield 33, 89, [11, 6], 0), (.sipush 184, 92, [], 0), (.iload_n 2, 95, [], 0), (.iadd, 96, [], 0), (.aload_n 0, 97, [], 0), (.getfield 40, 98, [11, 8], 0), (.iload_n 2, 101, [], 0), (.iaload, 102, [], 0), (.iastore, 103, [], 0), (.iinc 2 1, 104, [], 0), (.goto (-25), 107, [44], 0), (.aload_n 0, 110, [], 0), (.getfield 33, 111, [11, 6], 0), (.sipush 220, 114, [], 0), (.iload_n 1, 117, [], 0), (.iastore, 118, [], 0), (.iload_n 1, 119, [], 0), (.ireturn, 120, [], 0)], (0, 11, 0), (0, 0))
set_option maxRecDepth 100000 in
def mt_X12_costOf : mj_T := (yX12_costOf, cX12_costOf, 4, (some .int), [(.iload_n 1, 0, [], 0), (.ifCond .ne 8, 1, [4], 0), (.bipush 8, 4, [], 0), (.goto 11, 6, [10], 0), (.aload_n 0, 9, [], 0), (.getfield 59, 10, [11, 35], 0), (.iload_n 1, 13, [], 0), (.iconst 1, 14, [], 0), (.isub, 15, [], 0), (.iaload, 16, [], 0), (.istore_n 3, 17, [], 0), (.aload_n 0, 18, [], 0), (.getfield 33, 19, [11, 6], 0), (.iconst 1, 22, [], 0), (.iaload, 23, [], 0), (.aload_n 0, 24, [], 0), (.iload_n 2, 25, [], 0), (.invokevirtual 311, 26, [225, 1, 11], 0), (.aload_n 0, 29, [], 0), (.iload_n 3, 30, [], 0), (.invokevirtual 311, 31, [225, 1, 11], 0), (.isub, 34, [], 0), (.invokestatic 315, 35, [243, 1, 11], 0), (.imul, 38, [], 0), (.iload_n 2, 39, [], 0), (.bipush 8, 40, [], 0), (.if_icmp .ge 18, 42, [35], 0), (.iload_n 2, 45, [], 0), (.iload_n 3, 46, [], 0), (.if_icmp .eq 13, 47, [35], 0), (.aload_n 0, 50, [], 0), (.iload_n 2, 51, [], 0), (.bipush 6, 52, [], 0), (.invokevirtual 270, 54, [252, 2, 11], 0), (.goto 4, 57, [36], 0), (.iconst 0, 60, [], 0), (.iadd, 61, [], 0), (.ireturn, 62, [], 0)], (0, 11, 2), (0, 0))
set_option maxRecDepth 100000 in
def mt_X12_count : mj_T := (yX12_count, cX12_count, 2, (some .int), [(.aload_n 0, 0, [], 0), (.iconst 0, 1, [], 0), (.putfield 1, 2, [11, 0], 0), (.iload_n 1, 5, [], 0), (.iconst 1, 6, [], 0), (.if_icmp .ne 10, 7, [9], 0), (.aload_n 0, 10, [], 0), (.invokevirtual 279, 11, [166, 0, 11], 0), (.goto 61, 14, [40], 0), (.iload_n 1, 17, [], 0), (.iconst 5, 18, [], 0), (.if_icmp .ne 14, 19, [17], 0), (.aload_n 0, 22, [], 0), (.getfield 33, 23, [11, 6], 0), (.sipush 220, 26, [], 0), (.iaload, 29, [], 0), (.goto 45, 30, [40], 0), (.iload_n 1, 33, [], 0), (.bipush 6, 34, [], 0), (.if_icmp .ne 10, 36, [23], 0), (.aload_n 0, 39, [], 0), (.getfield 7, 40, [11, 2], 0), (.goto 32, 43, [40], 0), (.iload_n 1, 46, [], 0), (.iconst 0, 47, [], 0), (.iconst 4, 48, [], 0), (.invokestatic 195, 49, [198, 3, 11], 0), (.ifCond .eq 22, 52, [39], 0), (.aload_n 0, 55, [], 0), (.getfield 33, 56, [11, 6], 0), (.iload_n 1, 59, [], 0), (.ifCond .ne 7, 60, [34], 0), (.iconst 0, 63, [], 0), (.goto 6, 64, [37], 0), (.iload_n 1, 67, [], 0), (.iconst 1, 68, [], 0), (.isub, 69, [], 0), (.iaload, 70, [], 0), (.goto 4, 71, [40], 0), (.iconst (-1), 74, [], 0), (.ireturn, 75, [], 0)], (0, 11, 1), (0, 0))
set_option maxRecDepth 100000 in
def mt_X12_dealRow : mj_T := (yX12_dealRow, cX12_dealRow, 5, (some .boolean), [(.aload_n 0, 0, [], 0), (.ldc2_w 125, 1, [], 7103860), (.invokevirtual 202, 4, [206, 1, 11], 0), (.istore_n 1, 7, [], 0), (.iload_n 1, 8, [], 0), (.ifCond .ne 19, 9, [14], 0), (.aload_n 0, 12, [], 0), (.ldc2_w 127, 13, [], 7562593), (.invokevirtual 202, 16, [206, 1, 11], 0), (.ifCond .ne 9, 19, [14], 0), (.aload_n 0, 22, [], 0), (.iconst 1, 23, [], 0), (.invokevirtual 189, 24, [161, 1, 11], 0), (.ireturn, 27, [], 1), (.aload_n 0, 28, [], 0), (.invokevirtual 192, 29, [216, 0, 11], 0), (.aload_n 0, 32, [], 0), (.getfield 163, 33, [11, 11], 0), (.iconst 2, 36, [], 0), (.if_icmp .eq 9, 37, [24], 0), (.aload_n 0, 40, [], 0), (.iconst 1, 41, [], 0), (.invokevirtual 189, 42, [161, 1, 11], 0), (.ireturn, 45, [], 1), (.aload_n 0, 46, [], 0), (.getfield 173, 47, [11, 14], 0), (.bipush 11, 50, [], 0), (.if_icmp .le 9, 52, [32], 0), (.aload_n 0, 55, [], 0), (.iconst 2, 56, [], 0), (.invokevirtual 189, 57, [161, 1, 11], 0), (.ireturn, 60, [], 1), (.iconst 3, 61, [], 0), (.aload_n 0, 62, [], 0), (.getfield 173, 63, [11, 14], 0), (.imul, 66, [], 0), (.istore_n 2, 67, [], 0), (.aload_n 0, 68, [], 0), (.getfield 40, 69, [11, 8], 0), (.iload_n 2, 72, [], 0), (.iaload, 73, [], 0), (.ifCond .le 9, 74, [46], 0), (.aload_n 0, 77, [], 0), (.iconst 3, 78, [], 0), (.invokevirtual 189, 79, [161, 1, 11], 0), (.ireturn, 82, [], 1), (.aload_n 0, 83, [], 0), (.invokevirtual 192, 84, [216, 0, 11], 0), (.iload_n 1, 87, [], 0), (.ifCond .ne 13, 88, [57], 0), (.aload_n 0, 91, [], 0), (.getfield 40, 92, [11, 8], 0), (.iload_n 2, 95, [], 0), (.bipush 9, 96, [], 0), (.iastore, 98, [], 0), (.iconst 1, 99, [], 0), (.ireturn, 100, [], 1), (.aload_n 0, 101, [], 0), (.invokevirtual 232, 102, [201, 0, 11], 0), (.ifCond .ne 9, 105, [64], 0), (.aload_n 0, 108, [], 0), (.iconst 1, 109, [], 0), (.invokevirtual 189, 110, [161, 1, 11], 0), (.ireturn, 113, [], 1), (.aload_n 0, 114, [], 0), (.iconst 0, 115, [], 0), (.aload_n 0, 116, [], 0), (.getfield 33, 117, [11, 6], 0), (.iconst 0, 120, [], 0), (.iaload, 121, [], 0), (.invokevirtual 235, 122, [188, 2, 11], 0), (.istore_n 3, 125, [], 0), (.iload_n 3, 126, [], 0), (.ifCond .ge 9, 127, [78], 0), (.aload_n 0, 130, [], 0), (.iconst 3, 131, [], 0), (.invokevirtual 189, 132, [161, 1, 11], 0), (.ireturn, 135, [], 1), (.aload_n 0, 136, [], 0), (.getfield 40, 137, [11, 8], 0), (.iload_n 2, 140, [], 0), (.iload_n 3, 141, [], 0), (.iconst 1, 142, [], 0), (.iadd, 143, [], 0), (.iastore, 144, [], 0), (.aload_n 0, 145, [], 0), (.invokevirtual 192, 146, [216, 0, 11], 0), (.aload_n 0, 149, [], 0), (.getfield 163, 150, [11, 11], 0), (.iconst 1, 153, [], 0), (.if_icmp .ne 62, 154, [126], 0), (.aload_n 0, 157, [], 0), (.invokevirtual 232, 158, [201, 0, 11], 0), (.ifCond .ne 9, 161, [98], 0), (.aload_n 0, 164, [], 0), (.iconst 1, 165, [], 0), (.invokevirtual 189, 166, [161, 1, 11], 0), (.ireturn, 169, [], 1), (.aload_n 0, 170, [], 0), (.iconst 0, 171, [], 0), (.aload_n 0, 172, [], 0), (.getfield 33, 173, [11, 6], 0), (.iconst 0, 176, [], 0), (.iaload, 177, [], 0), (.invokevirtual 235, 178, [188, 2, 11], 0), (.istore 4, 181, [], 0), (.iload 4, 183, [], 0), (.ifCond .lt 9, 185, [111], 0), (.iload 4, 188, [], 0), (.iload_n 3, 190, [], 0), (.if_icmp .ne 9, 191, [115], 0), (.aload_n 0, 194, [], 0), (.iconst 3, 195, [], 0), (.invokevirtual 189, 196, [161, 1, 11], 0), (.ireturn, 199, [], 1), (.aload_n 0, 200, [], 0), (.getfield 40, 201, [11, 8], 0), (.iload_n 2, 204, [], 0), (.iconst 1, 205, [], 0), (.iadd, 206, [], 0), (.iload 4, 207, [], 0), (.iconst 1, 209, [], 0), (.iadd, 210, [], 0), (.iastore, 211, [], 0), (.aload_n 0, 212, [], 0), (.invokevirtual 192, 213, [216, 0, 11], 0), (.aload_n 0, 216, [], 0), (.iconst 0, 217, [], 0), (.sipush 999, 218, [], 0), (.invokevirtual 217, 221, [246, 2, 11], 0), (.ifCond .ne 5, 224, [133], 0), (.iconst 0, 227, [], 0), (.ireturn, 228, [], 1), (.aload_n 0, 229, [], 0), (.getfield 40, 230, [11, 8], 0), (.iload_n 2, 233, [], 0), (.iconst 2, 234, [], 0), (.iadd, 235, [], 0), (.aload_n 0, 236, [], 0), (.getfield 199, 237, [11, 18], 0), (.iastore, 240, [], 0), (.iconst 1, 241, [], 0), (.ireturn, 242, [], 1)], (0, 11, 0), (0, 0))
set_option maxRecDepth 100000 in
def mt_X12_draw : mj_T := (yX12_draw, cX12_draw, 2, (some .int), [(.aload_n 0, 0, [], 0), (.aload_n 0, 1, [], 0), (.getfield 368, 2, [11, 47], 0), (.ldc_w 371, 5, [], 0), (.imul, 8, [], 0), (.sipush 12345, 9, [], 0), (.iadd, 12, [], 0), (.putfield 368, 13, [11, 47], 0), (.aload_n 0, 16, [], 0), (.getfield 368, 17, [11, 47], 0), (.bipush 8, 20, [], 0), (.iushr, 22, [], 0), (.iload_n 1, 23, [], 0), (.irem, 24, [], 0), (.ireturn, 25, [], 0)], (0, 11, 1), (0, 0))
set_option maxRecDepth 100000 in
def mt_X12_drawn : mj_T := (yX12_drawn, cX12_drawn, 3, (some .int), [(.aload_n 0, 0, [], 0), (.iconst 0, 1, [], 0), (.putfield 1, 2, [11, 0], 0), (.aload_n 0, 5, [], 0), (.getfield 33, 6, [11, 6], 0), (.iconst 0, 9, [], 0), (.iaload, 10, [], 0), (.ifCond .ne 7, 11, [10], 0), (.sipush (-10001), 14, [], 0), (.ireturn, 17, [], 0), (.aload_n 0, 18, [], 0), (.invokevirtual 375, 19, [247, 0, 11], 0), (.aload_n 0, 22, [], 0), (.iload_n 1, 23, [], 0), (.putfield 368, 24, [11, 47], 0), (.aload_n 0, 27, [], 0), (.iconst 1, 28, [], 0), (.invokevirtual 387, 29, [259, 1, 11], 0), (.aload_n 0, 32, [], 0), (.getfield 33, 33, [11, 6], 0), (.sipush 224, 36, [], 0), (.iaload, 39, [], 0), (.istore_n 2, 40, [], 0), (.aload_n 0, 41, [], 0), (.invokevirtual 384, 42, [189, 0, 11], 0), (.iload_n 2, 45, [], 0), (.ireturn, 46, [], 0)], (0, 11, 1), (0, 0))
set_option maxRecDepth 100000 in
def mt_X12_droughts : mj_T := (yX12_droughts, cX12_droughts, 3, (some .int), [(.aload_n 0, 0, [], 0), (.iconst 0, 1, [], 0), (.putfield 1, 2, [11, 0], 0), (.aload_n 0, 5, [], 0), (.getfield 33, 6, [11, 6], 0), (.sipush 221, 9, [], 0), (.iaload, 12, [], 0), (.ifCond .ne 5, 13, [10], 0), (.iconst (-1), 16, [], 0), (.ireturn, 17, [], 0), (.iconst 0, 18, [], 0), (.istore_n 1, 19, [], 0), (.iconst 0, 20, [], 0), (.istore_n 2, 21, [], 0), (.iload_n 2, 22, [], 0), (.aload_n 0, 23, [], 0), (.getfield 33, 24, [11, 6], 0), (.sipush 222, 27, [], 0), (.iaload, 30, [], 0), (.if_icmp .ge 36, 31, [40], 0), (.iload_n 1, 34, [], 0), (.aload_n 0, 35, [], 0), (.getfield 33, 36, [11, 6], 0), (.sipush 320, 39, [], 0), (.iconst 3, 42, [], 0), (.iload_n 2, 43, [], 0), (.imul, 44, [], 0), (.iadd, 45, [], 0), (.iaload, 46, [], 0), (.bipush 8, 47, [], 0), (.if_icmp .ne 9, 49, [35], 0), (.iconst 1, 52, [], 0), (.iload_n 2, 53, [], 0), (.ishl, 54, [], 0), (.goto 4, 55, [36], 0), (.iconst 0, 58, [], 0), (.ior, 59, [], 0), (.istore_n 1, 60, [], 0), (.iinc 2 1, 61, [], 0), (.goto (-42), 64, [14], 0), (.iload_n 1, 67, [], 0), (.ireturn, 68, [], 0)], (0, 11, 0), (0, 0))
set_option maxRecDepth 100000 in
def mt_X12_end : mj_T := (yX12_end, cX12_end, 2, (some .boolean), [(.aload_n 0, 0, [], 0), (.iconst 0, 1, [], 0), (.putfield 1, 2, [11, 0], 0), (.iload_n 1, 5, [], 0), (.ifCond .lt 11, 6, [9], 0), (.iload_n 1, 9, [], 0), (.aload_n 0, 10, [], 0), (.getfield 7, 11, [11, 2], 0), (.if_icmp .le 5, 14, [11], 0), (.iconst 0, 17, [], 0), (.ireturn, 18, [], 1), (.aload_n 0, 19, [], 0), (.iload_n 1, 20, [], 0), (.putfield 7, 21, [11, 2], 0), (.iconst 1, 24, [], 0), (.ireturn, 25, [], 1)], (0, 11, 1), (0, 0))
set_option maxRecDepth 100000 in
def mt_X12_enough : mj_T := (yX12_enough, cX12_enough, 7, (some .int), [(.aload_n 0, 0, [], 0), (.iconst 0, 1, [], 0), (.putfield 1, 2, [11, 0], 0), (.aload_n 0, 5, [], 0), (.iload_n 1, 6, [], 0), (.invokevirtual 263, 7, [205, 1, 11], 0), (.ifCond .ne 5, 10, [9], 0), (.iconst (-1), 13, [], 0), (.ireturn, 14, [], 0), (.iconst 0, 15, [], 0), (.istore_n 2, 16, [], 0), (.iconst 0, 17, [], 0), (.istore_n 3, 18, [], 0), (.iconst 0, 19, [], 0), (.istore 4, 20, [], 0), (.iload 4, 22, [], 0), (.bipush 12, 24, [], 0), (.if_icmp .gt 100, 26, [71], 0), (.iload_n 3, 29, [], 0), (.aload_n 0, 30, [], 0), (.iload_n 1, 31, [], 0), (.iconst 4, 32, [], 0), (.invokevirtual 270, 33, [252, 2, 11], 0), (.if_icmp .lt 6, 36, [26], 0), (.iload 4, 39, [], 0), (.ireturn, 41, [], 0), (.iconst (-1), 42, [], 0), (.istore 5, 43, [], 0), (.iconst 0, 45, [], 0), (.istore 6, 46, [], 0), (.iload 6, 48, [], 0), (.bipush 12, 50, [], 0), (.if_icmp .ge 44, 52, [52], 0), (.iload_n 2, 55, [], 0), (.iload 6, 56, [], 0), (.invokestatic 213, 58, [169, 2, 11], 0), (.ifCond .ne 29, 61, [50], 0), (.iload 5, 64, [], 0), (.ifCond .lt 20, 66, [48], 0), (.aload_n 0, 69, [], 0), (.iload_n 1, 70, [], 0), (.iload 6, 71, [], 0), (.invokevirtual 339, 73, [191, 2, 11], 0), (.aload_n 0, 76, [], 0), (.iload_n 1, 77, [], 0), (.iload 5, 78, [], 0), (.invokevirtual 339, 80, [191, 2, 11], 0), (.if_icmp .le 7, 83, [50], 0), (.iload 6, 86, [], 0), (.istore 5, 88, [], 0), (.iinc 6 1, 90, [], 0), (.goto (-45), 93, [30], 0), (.iload 5, 96, [], 0), (.ifCond .ge 5, 98, [56], 0), (.iconst (-1), 101, [], 0), (.ireturn, 102, [], 0), (.iload_n 2, 103, [], 0), (.iconst 1, 104, [], 0), (.iload 5, 105, [], 0), (.ishl, 107, [], 0), (.ior, 108, [], 0), (.istore_n 2, 109, [], 0), (.iload_n 3, 110, [], 0), (.aload_n 0, 111, [], 0), (.iload_n 1, 112, [], 0), (.iload 5, 113, [], 0), (.invokevirtual 339, 115, [191, 2, 11], 0), (.iadd, 118, [], 0), (.istore_n 3, 119, [], 0), (.iinc 4 1, 120, [], 0), (.goto (-101), 123, [15], 0), (.iconst (-1), 126, [], 0), (.ireturn, 127, [], 0)], (0, 11, 1), (0, 0))
set_option maxRecDepth 100000 in
def mt_X12_fault : mj_T := (yX12_fault, cX12_fault, 1, (some .int), [(.aload_n 0, 0, [], 0), (.iconst 0, 1, [], 0), (.putfield 1, 2, [11, 0], 0), (.aload_n 0, 5, [], 0), (.getfield 180, 6, [11, 15], 0), (.ireturn, 9, [], 0)], (0, 11, 0), (0, 0))
set_option maxRecDepth 100000 in
def mt_X12_feed : mj_T := (yX12_feed, cX12_feed, 6, (some .int), [(.aload_n 0, 0, [], 0), (.iconst 0, 1, [], 0), (.putfield 1, 2, [11, 0], 0), (.aload_n 0, 5, [], 0), (.getfield 7, 6, [11, 2], 0), (.bipush 20, 9, [], 0), (.iadd, 11, [], 0), (.sipush 940, 12, [], 0), (.if_icmp .le 5, 15, [11], 0), (.iconst (-1), 18, [], 0), (.ireturn, 19, [], 0), (.aload_n 0, 20, [], 0), (.iload_n 1, 21, [], 0), (.invokevirtual 10, 22, [190, 1, 11], 0), (.aload_n 0, 25, [], 0), (.iload_n 2, 26, [], 0), (.invokevirtual 10, 27, [190, 1, 11], 0), (.aload_n 0, 30, [], 0), (.iload_n 3, 31, [], 0), (.invokevirtual 10, 32, [190, 1, 11], 0), (.aload_n 0, 35, [], 0), (.iload 4, 36, [], 0), (.invokevirtual 10, 38, [190, 1, 11], 0), (.aload_n 0, 41, [], 0), (.iload 5, 42, [], 0), (.invokevirtual 10, 44, [190, 1, 11], 0), (.aload_n 0, 47, [], 0), (.getfield 7, 48, [11, 2], 0), (.ireturn, 51, [], 0)], (0, 11, 5), (0, 0))
set_option maxRecDepth 100000 in
def mt_X12_find : mj_T := (yX12_find, cX12_find, 4, (some .int), [(.iconst 0, 0, [], 0), (.istore_n 3, 1, [], 0), (.iload_n 3, 2, [], 0), (.iload_n 2, 3, [], 0), (.if_icmp .ge 27, 4, [19], 0), (.aload_n 0, 7, [], 0), (.getfield 43, 8, [11, 9], 0), (.iload_n 1, 11, [], 0), (.iload_n 3, 12, [], 0), (.iadd, 13, [], 0), (.laload, 14, [], 0), (.aload_n 0, 15, [], 0), (.getfield 176, 16, [11, 17], 0), (.lcmp, 19, [], 0), (.ifCond .ne 5, 20, [17], 0), (.iload_n 3, 23, [], 0), (.ireturn, 24, [], 0), (.iinc 3 1, 25, [], 0), (.goto (-26), 28, [2], 0), (.iconst (-1), 31, [], 0), (.ireturn, 32, [], 0)], (0, 11, 2), (0, 0))
set_option maxRecDepth 100000 in
def mt_X12_forgets : mj_T := (yX12_forgets, cX12_forgets, 2, none, [(.iconst 0, 0, [], 0), (.istore_n 1, 1, [], 0), (.iload_n 1, 2, [], 0), (.sipush 135, 3, [], 0), (.if_icmp .ge 25, 6, [17], 0), (.aload_n 0, 9, [], 0), (.getfield 33, 10, [11, 6], 0), (.sipush 221, 13, [], 0), (.iload_n 1, 16, [], 0), (.iadd, 17, [], 0), (.aload_n 0, 18, [], 0), (.getfield 77, 19, [11, 45], 0), (.iload_n 1, 22, [], 0), (.iaload, 23, [], 0), (.iastore, 24, [], 0), (.iinc 1 1, 25, [], 0), (.goto (-26), 28, [2], 0), (.return_, 31, [], 0)], (0, 11, 0), (0, 0))
set_option maxRecDepth 100000 in
def mt_X12_four : mj_T := (yX12_four, cX12_four, 3, none, [(.bipush 24, 0, [], 0), (.istore_n 2, 2, [], 0), (.iload_n 2, 3, [], 0), (.ifCond .lt 32, 4, [21], 0), (.aload_n 0, 7, [], 0), (.getfield 14, 8, [11, 1], 0), (.aload_n 0, 11, [], 0), (.getfield 7, 12, [11, 2], 0), (.iload_n 1, 15, [], 0), (.iload_n 2, 16, [], 0), (.ishr, 17, [], 0), (.i2b, 18, [], 0), (.bastore, 19, [], 0), (.aload_n 0, 20, [], 0), (.dup, 21, [], 0), (.getfield 7, 22, [11, 2], 0), (.iconst 1, 25, [], 0), (.iadd, 26, [], 0), (.putfield 7, 27, [11, 2], 0), (.iinc 2 (-8), 30, [], 0), (.goto (-30), 33, [2], 0), (.return_, 36, [], 0)], (0, 11, 1), (0, 0))
set_option maxRecDepth 100000 in
def mt_X12_gains : mj_T := (yX12_gains, cX12_gains, 3, (some .int), [(.aload_n 0, 0, [], 0), (.getfield 33, 1, [11, 6], 0), (.bipush 76, 4, [], 0), (.iload_n 2, 6, [], 0), (.iadd, 7, [], 0), (.iaload, 8, [], 0), (.aload_n 0, 9, [], 0), (.iload_n 1, 10, [], 0), (.iconst 0, 11, [], 0), (.invokevirtual 270, 12, [252, 2, 11], 0), (.if_icmp .le 22, 15, [23], 0), (.aload_n 0, 18, [], 0), (.getfield 33, 19, [11, 6], 0), (.bipush 76, 22, [], 0), (.iload_n 2, 24, [], 0), (.iadd, 25, [], 0), (.iaload, 26, [], 0), (.aload_n 0, 27, [], 0), (.iload_n 1, 28, [], 0), (.iconst 0, 29, [], 0), (.invokevirtual 270, 30, [252, 2, 11], 0), (.isub, 33, [], 0), (.goto 4, 34, [24], 0), (.iconst 0, 37, [], 0), (.ireturn, 38, [], 0)], (0, 11, 2), (0, 0))
set_option maxRecDepth 100000 in
def mt_X12_greatest : mj_T := (yX12_greatest, cX12_greatest, 4, (some .int), [(.aload_n 0, 0, [], 0), (.iconst 0, 1, [], 0), (.putfield 1, 2, [11, 0], 0), (.iload_n 1, 5, [], 0), (.invokestatic 273, 6, [200, 1, 11], 0), (.ifCond .ne 5, 9, [8], 0), (.iconst (-1), 12, [], 0), (.ireturn, 13, [], 0), (.iconst (-1), 14, [], 0), (.istore_n 2, 15, [], 0), (.iconst 0, 16, [], 0), (.istore_n 3, 17, [], 0), (.iload_n 3, 18, [], 0), (.aload_n 0, 19, [], 0), (.getfield 33, 20, [11, 6], 0), (.iconst 0, 23, [], 0), (.iaload, 24, [], 0), (.if_icmp .ge 39, 25, [38], 0), (.aload_n 0, 28, [], 0), (.iload_n 3, 29, [], 0), (.iload_n 1, 30, [], 0), (.invokevirtual 276, 31, [167, 2, 11], 0), (.ifCond .le 24, 34, [36], 0), (.iload_n 2, 37, [], 0), (.ifCond .lt 18, 38, [34], 0), (.aload_n 0, 41, [], 0), (.iload_n 3, 42, [], 0), (.iload_n 1, 43, [], 0), (.invokevirtual 276, 44, [167, 2, 11], 0), (.aload_n 0, 47, [], 0), (.iload_n 2, 48, [], 0), (.iload_n 1, 49, [], 0), (.invokevirtual 276, 50, [167, 2, 11], 0), (.if_icmp .le 5, 53, [36], 0), (.iload_n 3, 56, [], 0), (.istore_n 2, 57, [], 0), (.iinc 3 1, 58, [], 0), (.goto (-43), 61, [12], 0), (.iload_n 2, 64, [], 0), (.ireturn, 65, [], 0)], (0, 11, 1), (0, 0))
set_option maxRecDepth 100000 in
def mt_X12_has : mj_T := (yX12_has, cX12_has, 2, (some .int), [(.aload_n 0, 0, [], 0), (.iconst 0, 1, [], 0), (.putfield 1, 2, [11, 0], 0), (.aload_n 0, 5, [], 0), (.getfield 356, 6, [11, 44], 0), (.ifCond .eq 26, 9, [19], 0), (.iload_n 1, 12, [], 0), (.iconst 0, 13, [], 0), (.aload_n 0, 14, [], 0), (.getfield 359, 15, [11, 43], 0), (.iconst 1, 18, [], 0), (.isub, 19, [], 0), (.invokestatic 195, 20, [198, 3, 11], 0), (.ifCond .eq 12, 23, [19], 0), (.aload_n 0, 26, [], 0), (.getfield 71, 27, [11, 41], 0), (.iload_n 1, 30, [], 0), (.iaload, 31, [], 0), (.goto 4, 32, [20], 0), (.iconst (-1), 35, [], 0), (.ireturn, 36, [], 0)], (0, 11, 1), (0, 0))
set_option maxRecDepth 100000 in
def mt_X12_holderOf : mj_T := (yX12_holderOf, cX12_holderOf, 3, (some .int), [(.iconst 0, 0, [], 0), (.istore_n 2, 1, [], 0), (.iload_n 2, 2, [], 0), (.aload_n 0, 3, [], 0), (.getfield 33, 4, [11, 6], 0), (.iconst 0, 7, [], 0), (.iaload, 8, [], 0), (.if_icmp .ge 21, 9, [18], 0), (.aload_n 0, 12, [], 0), (.getfield 71, 13, [11, 41], 0), (.iload_n 2, 16, [], 0), (.iaload, 17, [], 0), (.iload_n 1, 18, [], 0), (.if_icmp .ne 5, 19, [16], 0), (.iload_n 2, 22, [], 0), (.ireturn, 23, [], 0), (.iinc 2 1, 24, [], 0), (.goto (-25), 27, [2], 0), (.iconst (-1), 30, [], 0), (.ireturn, 31, [], 0)], (0, 11, 1), (0, 0))
set_option maxRecDepth 100000 in
def mt_X12_image : mj_T := (yX12_image, cX12_image, 3, (some .boolean), [(.aload_n 0, 0, [], 0), (.iconst 0, 1, [], 0), (.putfield 1, 2, [11, 0], 0), (.iload_n 1, 5, [], 0), (.iconst 0, 6, [], 0), (.iconst 1, 7, [], 0), (.invokestatic 195, 8, [198, 3, 11], 0), (.ifCond .ne 5, 11, [10], 0), (.iconst 0, 14, [], 0), (.ireturn, 15, [], 1), (.iconst 0, 16, [], 0), (.istore_n 2, 17, [], 0), (.iload_n 2, 18, [], 0), (.sipush 537, 19, [], 0), (.if_icmp .ge 27, 22, [29], 0), (.aload_n 0, 25, [], 0), (.getfield 96, 26, [11, 59], 0), (.sipush 538, 29, [], 0), (.iload_n 1, 32, [], 0), (.imul, 33, [], 0), (.iload_n 2, 34, [], 0), (.iadd, 35, [], 0), (.aload_n 0, 36, [], 0), (.getfield 33, 37, [11, 6], 0), (.iload_n 2, 40, [], 0), (.iaload, 41, [], 0), (.iastore, 42, [], 0), (.iinc 2 1, 43, [], 0), (.goto (-28), 46, [12], 0), (.aload_n 0, 49, [], 0), (.getfield 96, 50, [11, 59], 0), (.sipush 538, 53, [], 0), (.iload_n 1, 56, [], 0), (.imul, 57, [], 0), (.sipush 537, 58, [], 0), (.iadd, 61, [], 0), (.aload_n 0, 62, [], 0), (.getfield 260, 63, [11, 25], 0), (.iastore, 66, [], 0), (.iconst 0, 67, [], 0), (.istore_n 2, 68, [], 0), (.iload_n 2, 69, [], 0), (.bipush 8, 70, [], 0), (.if_icmp .ge 26, 72, [58], 0), (.aload_n 0, 75, [], 0), (.getfield 99, 76, [11, 60], 0), (.bipush 8, 79, [], 0), (.iload_n 1, 81, [], 0), (.imul, 82, [], 0), (.iload_n 2, 83, [], 0), (.iadd, 84, [], 0), (.aload_n 0, 85, [], 0), (.getfield 43, 86, [11, 9], 0), (.iload_n 2, 89, [], 0), (.laload, 90, [], 0), (.lastore, 91, [], 0), (.iinc 2 1, 92, [], 0), (.goto (-26), 95, [41], 0), (.aload_n 0, 98, [], 0), (.getfield 102, 99, [11, 61], 0), (.iload_n 1, 102, [], 0), (.iconst 1, 103, [], 0), (.bastore, 104, [], 0), (.iconst 1, 105, [], 0), (.ireturn, 106, [], 1)], (0, 11, 1), (0, 0))
set_option maxRecDepth 100000 in
def mt_X12_init : mj_T := (yX12_init, cX12_init, 1, none, [(.aload_n 0, 0, [], 0), (.invokespecial 27, 1, [], 0), (.aload_n 0, 4, [], 0), (.sipush 940, 5, [], 0), (.newarray .byte, 8, [1], 0), (.putfield 14, 10, [11, 1], 0), (.aload_n 0, 13, [], 0), (.sipush 537, 14, [], 0), (.newarray .int, 17, [0], 0), (.putfield 33, 19, [11, 6], 0), (.aload_n 0, 22, [], 0), (.sipush 221, 23, [], 0), (.newarray .int, 26, [0], 0), (.putfield 37, 28, [11, 7], 0), (.aload_n 0, 31, [], 0), (.sipush 135, 32, [], 0), (.newarray .int, 35, [0], 0), (.putfield 40, 37, [11, 8], 0), (.aload_n 0, 40, [], 0), (.bipush 16, 41, [], 0), (.newarray .long, 43, [3], 0), (.putfield 43, 45, [11, 9], 0), (.aload_n 0, 48, [], 0), (.bipush 24, 49, [], 0), (.newarray .long, 51, [3], 0), (.putfield 47, 53, [11, 10], 0), (.aload_n 0, 56, [], 0), (.iconst 4, 57, [], 0), (.newarray .int, 58, [0], 0), (.putfield 50, 60, [11, 23], 0), (.aload_n 0, 63, [], 0), (.bipush 24, 64, [], 0), (.newarray .int, 66, [0], 0), (.putfield 53, 68, [11, 27], 0), (.aload_n 0, 71, [], 0), (.iconst (-1), 72, [], 0), (.putfield 56, 73, [11, 32], 0), (.aload_n 0, 76, [], 0), (.bipush 13, 77, [], 0), (.newarray .int, 79, [0], 0), (.putfield 59, 81, [11, 35], 0), (.aload_n 0, 84, [], 0), (.bipush 13, 85, [], 0), (.newarray .int, 87, [0], 0), (.putfield 62, 89, [11, 36], 0), (.aload_n 0, 92, [], 0), (.bipush 39, 93, [], 0), (.newarray .int, 95, [0], 0), (.putfield 65, 97, [11, 37], 0), (.aload_n 0, 100, [], 0), (.bipush 12, 101, [], 0), (.newarray .int, 103, [0], 0), (.putfield 68, 105, [11, 38], 0), (.aload_n 0, 108, [], 0), (.bipush 8, 109, [], 0), (.newarray .int, 111, [0], 0), (.putfield 71, 113, [11, 41], 0), (.aload_n 0, 116, [], 0), (.bipush 12, 117, [], 0), (.newarray .int, 119, [0], 0), (.putfield 74, 121, [11, 42], 0), (.aload_n 0, 124, [], 0), (.sipush 135, 125, [], 0), (.newarray .int, 128, [0], 0), (.putfield 77, 130, [11, 45], 0), (.aload_n 0, 133, [], 0), (.bipush 12, 134, [], 0), (.newarray .int, 136, [0], 0), (.putfield 80, 138, [11, 46], 0), (.aload_n 0, 141, [], 0), (.bipush 120, 142, [], 0), (.newarray .int, 144, [0], 0), (.putfield 83, 146, [11, 48], 0), (.aload_n 0, 149, [], 0), (.sipush 400, 150, [], 0), (.newarray .byte, 153, [1], 0), (.putfield 86, 155, [11, 50], 0), (.aload_n 0, 158, [], 0), (.bipush 45, 159, [], 0), (.newarray .int, 161, [0], 0), (.putfield 89, 163, [11, 52], 0), (.aload_n 0, 166, [], 0), (.bipush 45, 167, [], 0), (.newarray .boolean, 169, [2], 0), (.putfield 92, 171, [11, 58], 0), (.aload_n 0, 174, [], 0), (.sipush 1076, 175, [], 0), (.newarray .int, 178, [0], 0), (.putfield 96, 180, [11, 59], 0), (.aload_n 0, 183, [], 0), (.bipush 16, 184, [], 0), (.newarray .long, 186, [3], 0), (.putfield 99, 188, [11, 60], 0), (.aload_n 0, 191, [], 0), (.iconst 2, 192, [], 0), (.newarray .boolean, 193, [2], 0), (.putfield 102, 195, [11, 61], 0), (.aload_n 0, 198, [], 0), (.getfield 47, 199, [11, 10], 0), (.iconst 0, 202, [], 0), (.ldc2_w 105, 203, [], 1953462126), (.lastore, 206, [], 0), (.aload_n 0, 207, [], 0), (.getfield 47, 208, [11, 10], 0), (.iconst 1, 211, [], 0), (.ldc2_w 107, 212, [], 512736126322), (.lastore, 215, [], 0), (.aload_n 0, 216, [], 0), (.getfield 47, 217, [11, 10], 0), (.iconst 2, 220, [], 0), (.ldc2_w 109, 221, [], 6449508), (.lastore, 224, [], 0), (.aload_n 0, 225, [], 0), (.getfield 47, 226, [11, 10], 0), (.iconst 3, 229, [], 0), (.ldc2_w 111, 230, [], 1852138852), (.lastore, 233, [], 0), (.aload_n 0, 234, [], 0), (.getfield 47, 235, [11, 10], 0), (.iconst 4, 238, [], 0), (.ldc2_w 113, 239, [], 1835625580), (.lastore, 242, [], 0), (.aload_n 0, 243, [], 0), (.getfield 47, 244, [11, 10], 0), (.iconst 5, 247, [], 0), (.ldc2_w 115, 248, [], 108243533981541), (.lastore, 251, [], 0), (.aload_n 0, 252, [], 0), (.getfield 47, 253, [11, 10], 0), (.bipush 6, 256, [], 0), (.ldc2_w 117, 258, [], 439854918756), (.lastore, 261, [], 0), (.aload_n 0, 262, [], 0), (.getfield 47, 263, [11, 10], 0), (.bipush 7, 266, [], 0), (.ldc2_w 119, 268, [], 1836021349), (.lastore, 271, [], 0), (.aload_n 0, 272, [], 0), (.getfield 47, 273, [11, 10], 0), (.bipush 8, 276, [], 0), (.ldc2_w 121, 278, [], 1718186856), (.lastore, 281, [], 0), (.aload_n 0, 282, [], 0), (.getfield 47, 283, [11, 10], 0), (.bipush 9, 286, [], 0), (.ldc2_w 123, 288, [], 8097881601010983781), (.lastore, 291, [], 0), (.aload_n 0, 292, [], 0), (.getfield 47, 293, [11, 10], 0), (.bipush 10, 296, [], 0), (.ldc2_w 125, 298, [], 7103860), (.lastore, 301, [], 0), (.aload_n 0, 302, [], 0), (.getfield 47, 303, [11, 10], 0), (.bipush 11, 306, [], 0), (.ldc2_w 127, 308, [], 7562593), (.lastore, 311, [], 0), (.aload_n 0, 312, [], 0), (.getfield 47, 313, [11, 10], 0), (.bipush 12, 316, [], 0), (.ldc2_w 129, 318, [], 28530), (.lastore, 321, [], 0), (.aload_n 0, 322, [], 0), (.getfield 47, 323, [11, 10], 0), (.bipush 13, 326, [], 0), (.ldc2_w 131, 328, [], 6385252), (.lastore, 331, [], 0), (.aload_n 0, 332, [], 0), (.getfield 47, 333, [11, 10], 0), (.bipush 14, 336, [], 0), (.ldc2_w 133, 338, [], 7237492), (.lastore, 341, [], 0), (.aload_n 0, 342, [], 0), (.getfield 47, 343, [11, 10], 0), (.bipush 15, 346, [], 0), (.ldc2_w 135, 348, [], 495673373285), (.lastore, 351, [], 0), (.aload_n 0, 352, [], 0), (.getfield 47, 353, [11, 10], 0), (.bipush 16, 356, [], 0), (.ldc2_w 137, 358, [], 32765899399459961), (.lastore, 361, [], 0), (.aload_n 0, 362, [], 0), (.getfield 47, 363, [11, 10], 0), (.bipush 17, 366, [], 0), (.ldc2_w 139, 368, [], 1886350948), (.lastore, 371, [], 0), (.aload_n 0, 372, [], 0), (.getfield 47, 373, [11, 10], 0), (.bipush 18, 376, [], 0), (.ldc2_w 141, 378, [], 483006772069), (.lastore, 381, [], 0), (.aload_n 0, 382, [], 0), (.getfield 47, 383, [11, 10], 0), (.bipush 19, 386, [], 0), (.ldc2_w 143, 388, [], 1885432164), (.lastore, 391, [], 0), (.aload_n 0, 392, [], 0), (.getfield 47, 393, [11, 10], 0), (.bipush 20, 396, [], 0), (.ldc2_w 145, 398, [], 6582905), (.lastore, 401, [], 0), (.aload_n 0, 402, [], 0), (.getfield 47, 403, [11, 10], 0), (.bipush 21, 406, [], 0), (.ldc2_w 147, 408, [], 1818588275), (.lastore, 411, [], 0), (.aload_n 0, 412, [], 0), (.getfield 47, 413, [11, 10], 0), (.bipush 22, 416, [], 0), (.ldc2_w 149, 418, [], 444300879214), (.lastore, 421, [], 0), (.aload_n 0, 422, [], 0), (.getfield 47, 423, [11, 10], 0), (.bipush 23, 426, [], 0), (.ldc2_w 151, 428, [], 482854658917), (.lastore, 431, [], 0), (.aload_n 0, 432, [], 0), (.getfield 33, 433, [11, 6], 0), (.iconst 3, 436, [], 0), (.iconst 3, 437, [], 0), (.iastore, 438, [], 0), (.return_, 439, [], 0)], (2, 11, 0), (23, 3849))
set_option maxRecDepth 100000 in
def mt_X12_isDigit : mj_T := (yX12_isDigit, cX12_isDigit, 1, (some .boolean), [(.iload_n 0, 0, [], 0), (.bipush 48, 1, [], 0), (.if_icmp .lt 13, 3, [8], 0), (.iload_n 0, 6, [], 0), (.bipush 57, 7, [], 0), (.if_icmp .gt 7, 9, [8], 0), (.iconst 1, 12, [], 0), (.goto 4, 13, [9], 0), (.iconst 0, 16, [], 0), (.ireturn, 17, [], 1)], (1, 11, 1), (0, 0))
set_option maxRecDepth 100000 in
def mt_X12_isIn : mj_T := (yX12_isIn, cX12_isIn, 3, (some .boolean), [(.iload_n 0, 0, [], 0), (.iload_n 1, 1, [], 0), (.if_icmp .lt 12, 2, [8], 0), (.iload_n 0, 5, [], 0), (.iload_n 2, 6, [], 0), (.if_icmp .gt 7, 7, [8], 0), (.iconst 1, 10, [], 0), (.goto 4, 11, [9], 0), (.iconst 0, 14, [], 0), (.ireturn, 15, [], 1)], (1, 11, 3), (0, 0))
set_option maxRecDepth 100000 in
def mt_X12_isLeaf : mj_T := (yX12_isLeaf, cX12_isLeaf, 6, (some .boolean), [(.iload_n 2, 0, [], 0), (.ifCond .ne 19, 1, [12], 0), (.aload_n 0, 4, [], 0), (.iload_n 1, 5, [], 0), (.iconst 3, 6, [], 0), (.invokevirtual 285, 7, [219, 2, 11], 0), (.iconst 1, 10, [], 0), (.if_icmp .ne 7, 11, [10], 0), (.iconst 1, 14, [], 0), (.goto 4, 15, [11], 0), (.iconst 0, 18, [], 0), (.ireturn, 19, [], 1), (.iload_n 2, 20, [], 0), (.iconst 1, 21, [], 0), (.if_icmp .ne 25, 22, [28], 0), (.aload_n 0, 25, [], 0), (.iload_n 1, 26, [], 0), (.bipush 6, 27, [], 0), (.invokevirtual 285, 29, [219, 2, 11], 0), (.aload_n 0, 32, [], 0), (.iload_n 1, 33, [], 0), (.iconst 4, 34, [], 0), (.invokevirtual 270, 35, [252, 2, 11], 0), (.if_icmp .ge 7, 38, [26], 0), (.iconst 1, 41, [], 0), (.goto 4, 42, [27], 0), (.iconst 0, 45, [], 0), (.ireturn, 46, [], 1), (.iload_n 2, 47, [], 0), (.iconst 2, 48, [], 0), (.if_icmp .ne 12, 49, [36], 0), (.aload_n 0, 52, [], 0), (.iload_n 1, 53, [], 0), (.iconst 0, 54, [], 0), (.invokevirtual 285, 55, [219, 2, 11], 0), (.goto 78, 58, [77], 0), (.iload_n 2, 61, [], 0), (.iconst 3, 62, [], 0), (.if_icmp .ne 12, 63, [44], 0), (.aload_n 0, 66, [], 0), (.iload_n 1, 67, [], 0), (.iconst 1, 68, [], 0), (.invokevirtual 285, 69, [219, 2, 11], 0), (.goto 64, 72, [77], 0), (.iload_n 2, 75, [], 0), (.iconst 4, 76, [], 0), (.if_icmp .ne 12, 77, [52], 0), (.aload_n 0, 80, [], 0), (.iload_n 1, 81, [], 0), (.iconst 5, 82, [], 0), (.invokevirtual 285, 83, [219, 2, 11], 0), (.goto 50, 86, [77], 0), (.iload_n 2, 89, [], 0), (.iconst 5, 90, [], 0), (.if_icmp .ne 13, 91, [60], 0), (.aload_n 0, 94, [], 0), (.iload_n 1, 95, [], 0), (.bipush 7, 96, [], 0), (.invokevirtual 285, 98, [219, 2, 11], 0), (.goto 35, 101, [77], 0), (.iload_n 2, 104, [], 0), (.bipush 6, 105, [], 0), (.if_icmp .ne 12, 107, [68], 0), (.aload_n 0, 110, [], 0), (.iload_n 1, 111, [], 0), (.iconst 4, 112, [], 0), (.invokevirtual 285, 113, [219, 2, 11], 0), (.goto 20, 116, [77], 0), (.iload_n 2, 119, [], 0), (.bipush 7, 120, [], 0), (.if_icmp .ne 13, 122, [76], 0), (.aload_n 0, 125, [], 0), (.iload_n 1, 126, [], 0), (.bipush 8, 127, [], 0), (.invokevirtual 285, 129, [219, 2, 11], 0), (.goto 4, 132, [77], 0), (.iload_n 1, 135, [], 0), (.istore 5, 136, [], 0), (.iload_n 3, 138, [], 0), (.bipush 60, 139, [], 0), (.if_icmp .ne 18, 141, [88], 0), (.iload 5, 144, [], 0), (.iload 4, 146, [], 0), (.if_icmp .ge 7, 148, [86], 0), (.iconst 1, 151, [], 0), (.goto 40, 152, [104], 0), (.iconst 0, 155, [], 0), (.goto 36, 156, [104], 0), (.iload_n 3, 159, [], 0), (.bipush 61, 160, [], 0), (.if_icmp .ne 18, 162, [98], 0), (.iload 5, 165, [], 0), (.iload 4, 167, [], 0), (.if_icmp .ne 7, 169, [96], 0), (.iconst 1, 172, [], 0), (.goto 19, 173, [104], 0), (.iconst 0, 176, [], 0), (.goto 15, 177, [104], 0), (.iload 5, 180, [], 0), (.iload 4, 182, [], 0), (.if_icmp .le 7, 184, [103], 0), (.iconst 1, 187, [], 0), (.goto 4, 188, [104], 0), (.iconst 0, 191, [], 0), (.ireturn, 192, [], 1)], (0, 11, 4), (0, 0))
set_option maxRecDepth 100000 in
def mt_X12_isMonth : mj_T := (yX12_isMonth, cX12_isMonth, 1, (some .boolean), [(.iload_n 0, 0, [], 0), (.iconst 0, 1, [], 0), (.bipush 11, 2, [], 0), (.invokestatic 195, 4, [198, 3, 11], 0), (.ireturn, 7, [], 1)], (1, 11, 1), (0, 0))
set_option maxRecDepth 100000 in
def mt_X12_isName : mj_T := (yX12_isName, cX12_isName, 3, (some .boolean), [(.aload_n 0, 0, [], 0), (.getfield 163, 1, [11, 11], 0), (.iconst 1, 4, [], 0), (.if_icmp .ne 7, 5, [6], 0), (.iconst 1, 8, [], 0), (.goto 4, 9, [7], 0), (.iconst 0, 12, [], 0), (.istore_n 1, 13, [], 0), (.iconst 0, 14, [], 0), (.istore_n 2, 15, [], 0), (.iload_n 2, 16, [], 0), (.bipush 24, 17, [], 0), (.if_icmp .ge 33, 19, [29], 0), (.iload_n 1, 22, [], 0), (.ifCond .eq 21, 23, [25], 0), (.aload_n 0, 26, [], 0), (.getfield 176, 27, [11, 17], 0), (.aload_n 0, 30, [], 0), (.getfield 47, 31, [11, 10], 0), (.iload_n 2, 34, [], 0), (.laload, 35, [], 0), (.lcmp, 36, [], 0), (.ifCond .eq 7, 37, [25], 0), (.iconst 1, 40, [], 0), (.goto 4, 41, [26], 0), (.iconst 0, 44, [], 0), (.istore_n 1, 45, [], 0), (.iinc 2 1, 46, [], 0), (.goto (-33), 49, [10], 0), (.iload_n 1, 52, [], 0), (.ireturn, 53, [], 1)], (0, 11, 0), (0, 0))
set_option maxRecDepth 100000 in
def mt_X12_isSaid : mj_T := (yX12_isSaid, cX12_isSaid, 5, (some .boolean), [(.iconst 0, 0, [], 0), (.istore_n 2, 1, [], 0), (.iconst 0, 2, [], 0), (.istore_n 3, 3, [], 0), (.iload_n 3, 4, [], 0), (.aload_n 0, 5, [], 0), (.getfield 33, 6, [11, 6], 0), (.sipush 356, 9, [], 0), (.iaload, 12, [], 0), (.if_icmp .ge 199, 13, [122], 0), (.sipush 357, 16, [], 0), (.iconst 3, 19, [], 0), (.iload_n 3, 20, [], 0), (.imul, 21, [], 0), (.iadd, 22, [], 0), (.istore 4, 23, [], 0), (.aload_n 0, 25, [], 0), (.getfield 33, 26, [11, 6], 0), (.iload 4, 29, [], 0), (.iaload, 31, [], 0), (.bipush 10, 32, [], 0), (.if_icmp .ne 30, 34, [39], 0), (.aload_n 0, 37, [], 0), (.getfield 92, 38, [11, 58], 0), (.iload_n 2, 41, [], 0), (.iconst 1, 42, [], 0), (.isub, 43, [], 0), (.aload_n 0, 44, [], 0), (.getfield 92, 45, [11, 58], 0), (.iload_n 2, 48, [], 0), (.iconst 1, 49, [], 0), (.isub, 50, [], 0), (.baload, 51, [], 0), (.ifCond .ne 7, 52, [36], 0), (.iconst 1, 55, [], 0), (.goto 4, 56, [37], 0), (.iconst 0, 59, [], 0), (.bastore, 60, [], 0), (.goto 145, 61, [120], 0), (.aload_n 0, 64, [], 0), (.getfield 33, 65, [11, 6], 0), (.iload 4, 68, [], 0), (.iaload, 70, [], 0), (.bipush 11, 71, [], 0), (.if_icmp .eq 15, 73, [51], 0), (.aload_n 0, 76, [], 0), (.getfield 33, 77, [11, 6], 0), (.iload 4, 80, [], 0), (.iaload, 82, [], 0), (.bipush 12, 83, [], 0), (.if_icmp .ne 82, 85, [96], 0), (.iinc 2 (-1), 88, [], 0), (.aload_n 0, 91, [], 0), (.getfield 92, 92, [11, 58], 0), (.iload_n 2, 95, [], 0), (.iconst 1, 96, [], 0), (.isub, 97, [], 0), (.aload_n 0, 98, [], 0), (.getfield 33, 99, [11, 6], 0), (.iload 4, 102, [], 0), (.iaload, 104, [], 0), (.bipush 11, 105, [], 0), (.if_icmp .ne 31, 107, [79], 0), (.aload_n 0, 110, [], 0), (.getfield 92, 111, [11, 58], 0), (.iload_n 2, 114, [], 0), (.iconst 1, 115, [], 0), (.isub, 116, [], 0), (.baload, 117, [], 0), (.ifCond .eq 16, 118, [77], 0), (.aload_n 0, 121, [], 0), (.getfield 92, 122, [11, 58], 0), (.iload_n 2, 125, [], 0), (.baload, 126, [], 0), (.ifCond .eq 7, 127, [77], 0), (.iconst 1, 130, [], 0), (.goto 32, 131, [94], 0), (.iconst 0, 134, [], 0), (.goto 28, 135, [94], 0), (.aload_n 0, 138, [], 0), (.getfield 92, 139, [11, 58], 0), (.iload_n 2, 142, [], 0), (.iconst 1, 143, [], 0), (.isub, 144, [], 0), (.baload, 145, [], 0), (.ifCond .ne 12, 146, [91], 0), (.aload_n 0, 149, [], 0), (.getfield 92, 150, [11, 58], 0), (.iload_n 2, 153, [], 0), (.baload, 154, [], 0), (.ifCond .eq 7, 155, [93], 0), (.iconst 1, 158, [], 0), (.goto 4, 159, [94], 0), (.iconst 0, 162, [], 0), (.bastore, 163, [], 0), (.goto 42, 164, [120], 0), (.aload_n 0, 167, [], 0), (.getfield 92, 168, [11, 58], 0), (.iload_n 2, 171, [], 0), (.aload_n 0, 172, [], 0), (.iload_n 1, 173, [], 0), (.aload_n 0, 174, [], 0), (.getfield 33, 175, [11, 6], 0), (.iload 4, 178, [], 0), (.iaload, 180, [], 0), (.aload_n 0, 181, [], 0), (.getfield 33, 182, [11, 6], 0), (.iload 4, 185, [], 0), (.iconst 1, 187, [], 0), (.iadd, 188, [], 0), (.iaload, 189, [], 0), (.aload_n 0, 190, [], 0), (.getfield 33, 191, [11, 6], 0), (.iload 4, 194, [], 0), (.iconst 2, 196, [], 0), (.iadd, 197, [], 0), (.iaload, 198, [], 0), (.invokevirtual 439, 199, [199, 4, 11], 0), (.bastore, 202, [], 0), (.iinc 2 1, 203, [], 0), (.iinc 3 1, 206, [], 0), (.goto (-205), 209, [4], 0), (.aload_n 0, 212, [], 0), (.getfield 92, 213, [11, 58], 0), (.iconst 0, 216, [], 0), (.baload, 217, [], 0), (.ireturn, 218, [], 1)], (0, 11, 1), (0, 0))
set_option maxRecDepth 100000 in
def mt_X12_isSign : mj_T := (yX12_isSign, cX12_isSign, 2, (some .boolean), [(.aload_n 0, 0, [], 0), (.getfield 163, 1, [11, 11], 0), (.iconst 3, 4, [], 0), (.if_icmp .ne 15, 5, [10], 0), (.aload_n 0, 8, [], 0), (.getfield 173, 9, [11, 14], 0), (.iload_n 1, 12, [], 0), (.if_icmp .ne 7, 13, [10], 0), (.iconst 1, 16, [], 0), (.goto 4, 17, [11], 0), (.iconst 0, 20, [], 0), (.ireturn, 21, [], 1)], (0, 11, 1), (0, 0))
set_option maxRecDepth 100000 in
def mt_X12_isSmall : mj_T := (yX12_isSmall, cX12_isSmall, 1, (some .boolean), [(.iload_n 0, 0, [], 0), (.bipush 97, 1, [], 0), (.if_icmp .lt 13, 3, [8], 0), (.iload_n 0, 6, [], 0), (.bipush 122, 7, [], 0), (.if_icmp .gt 7, 9, [8], 0), (.iconst 1, 12, [], 0), (.goto 4, 13, [9], 0), (.iconst 0, 16, [], 0), (.ireturn, 17, [], 1)], (1, 11, 1), (0, 0))
set_option maxRecDepth 100000 in
def mt_X12_isTown : mj_T := (yX12_isTown, cX12_isTown, 2, (some .boolean), [(.iload_n 1, 0, [], 0), (.iconst 0, 1, [], 0), (.aload_n 0, 2, [], 0), (.getfield 33, 3, [11, 6], 0), (.iconst 0, 6, [], 0), (.iaload, 7, [], 0), (.iconst 1, 8, [], 0), (.isub, 9, [], 0), (.invokestatic 195, 10, [198, 3, 11], 0), (.ireturn, 13, [], 1)], (0, 11, 1), (0, 0))
set_option maxRecDepth 100000 in
def mt_X12_isWord : mj_T := (yX12_isWord, cX12_isWord, 3, (some .boolean), [(.aload_n 0, 0, [], 0), (.getfield 163, 1, [11, 11], 0), (.iconst 1, 4, [], 0), (.if_icmp .ne 16, 5, [11], 0), (.aload_n 0, 8, [], 0), (.getfield 176, 9, [11, 17], 0), (.lload_n 1, 12, [], 0), (.lcmp, 13, [], 0), (.ifCond .ne 7, 14, [11], 0), (.iconst 1, 17, [], 0), (.goto 4, 18, [12], 0), (.iconst 0, 21, [], 0), (.ireturn, 22, [], 1)], (0, 11, 1), (0, 0))
set_option maxRecDepth 100000 in
def mt_X12_joins : mj_T := (yX12_joins, cX12_joins, 2, none, [(.aload_n 0, 0, [], 0), (.getfield 409, 1, [11, 55], 0), (.ifCond .le 69, 4, [40], 0), (.aload_n 0, 7, [], 0), (.getfield 89, 8, [11, 52], 0), (.aload_n 0, 11, [], 0), (.getfield 409, 12, [11, 55], 0), (.iconst 1, 15, [], 0), (.isub, 16, [], 0), (.iaload, 17, [], 0), (.bipush 11, 18, [], 0), (.if_icmp .eq 25, 20, [24], 0), (.aload_n 0, 23, [], 0), (.getfield 89, 24, [11, 52], 0), (.aload_n 0, 27, [], 0), (.getfield 409, 28, [11, 55], 0), (.iconst 1, 31, [], 0), (.isub, 32, [], 0), (.iaload, 33, [], 0), (.bipush 12, 34, [], 0), (.if_icmp .ne 37, 36, [40], 0), (.iload_n 1, 39, [], 0), (.bipush 12, 40, [], 0), (.if_icmp .ne 31, 42, [40], 0), (.aload_n 0, 45, [], 0), (.dup, 46, [], 0), (.getfield 409, 47, [11, 55], 0), (.iconst 1, 50, [], 0), (.isub, 51, [], 0), (.putfield 409, 52, [11, 55], 0), (.aload_n 0, 55, [], 0), (.aload_n 0, 56, [], 0), (.getfield 89, 57, [11, 52], 0), (.aload_n 0, 60, [], 0), (.getfield 409, 61, [11, 55], 0), (.iaload, 64, [], 0), (.iconst 0, 65, [], 0), (.iconst 0, 66, [], 0), (.invokevirtual 412, 67, [174, 3, 11], 0), (.goto (-70), 70, [0], 0), (.return_, 73, [], 0)], (0, 11, 1), (0, 0))
set_option maxRecDepth 100000 in
def mt_X12_leafOf : mj_T := (yX12_leafOf, cX12_leafOf, 1, (some .int), [(.aload_n 0, 0, [], 0), (.ldc2_w 135, 1, [], 495673373285), (.invokevirtual 202, 4, [206, 1, 11], 0), (.ifCond .eq 7, 7, [6], 0), (.iconst 0, 10, [], 0), (.goto 119, 11, [55], 0), (.aload_n 0, 14, [], 0), (.ldc2_w 137, 15, [], 32765899399459961), (.invokevirtual 202, 18, [206, 1, 11], 0), (.ifCond .eq 7, 21, [12], 0), (.iconst 1, 24, [], 0), (.goto 105, 25, [55], 0), (.aload_n 0, 28, [], 0), (.ldc2_w 139, 29, [], 1886350948), (.invokevirtual 202, 32, [206, 1, 11], 0), (.ifCond .eq 7, 35, [18], 0), (.iconst 2, 38, [], 0), (.goto 91, 39, [55], 0), (.aload_n 0, 42, [], 0), (.ldc2_w 141, 43, [], 483006772069), (.invokevirtual 202, 46, [206, 1, 11], 0), (.ifCond .eq 7, 49, [24], 0), (.iconst 3, 52, [], 0), (.goto 77, 53, [55], 0), (.aload_n 0, 56, [], 0), (.ldc2_w 143, 57, [], 1885432164), (.invokevirtual 202, 60, [206, 1, 11], 0), (.ifCond .eq 7, 63, [30], 0), (.iconst 4, 66, [], 0), (.goto 63, 67, [55], 0), (.aload_n 0, 70, [], 0), (.ldc2_w 145, 71, [], 6582905), (.invokevirtual 202, 74, [206, 1, 11], 0), (.ifCond .eq 7, 77, [36], 0), (.iconst 5, 80, [], 0), (.goto 49, 81, [55], 0), (.aload_n 0, 84, [], 0), (.ldc2_w 147, 85, [], 1818588275), (.invokevirtual 202, 88, [206, 1, 11], 0), (.ifCond .eq 8, 91, [42], 0), (.bipush 6, 94, [], 0), (.goto 34, 96, [55], 0), (.aload_n 0, 99, [], 0), (.ldc2_w 149, 100, [], 444300879214), (.invokevirtual 202, 103, [206, 1, 11], 0), (.ifCond .eq 8, 106, [48], 0), (.bipush 7, 109, [], 0), (.goto 19, 111, [55], 0), (.aload_n 0, 114, [], 0), (.ldc2_w 151, 115, [], 482854658917), (.invokevirtual 202, 118, [206, 1, 11], 0), (.ifCond .eq 8, 121, [54], 0), (.bipush 8, 124, [], 0), (.goto 4, 126, [55], 0), (.iconst (-1), 129, [], 0), (.ireturn, 130, [], 0)], (0, 11, 0), (0, 0))
set_option maxRecDepth 100000 in
def mt_X12_leak : mj_T := (yX12_leak, cX12_leak, 3, (some .int), [(.aload_n 0, 0, [], 0), (.iconst 0, 1, [], 0), (.putfield 1, 2, [11, 0], 0), (.iload_n 1, 5, [], 0), (.iconst 0, 6, [], 0), (.aload_n 0, 7, [], 0), (.getfield 378, 8, [11, 49], 0), (.iconst 1, 11, [], 0), (.isub, 12, [], 0), (.invokestatic 195, 13, [198, 3, 11], 0), (.ifCond .eq 25, 16, [25], 0), (.iload_n 2, 19, [], 0), (.iconst 0, 20, [], 0), (.iconst 2, 21, [], 0), (.invokestatic 195, 22, [198, 3, 11], 0), (.ifCond .eq 16, 25, [25], 0), (.aload_n 0, 28, [], 0), (.getfield 83, 29, [11, 48], 0), (.iconst 3, 32, [], 0), (.iload_n 1, 33, [], 0), (.imul, 34, [], 0), (.iload_n 2, 35, [], 0), (.iadd, 36, [], 0), (.iaload, 37, [], 0), (.goto 4, 38, [26], 0), (.iconst (-1), 41, [], 0), (.ireturn, 42, [], 0)], (0, 11, 2), (0, 0))
set_option maxRecDepth 100000 in
def mt_X12_leaks : mj_T := (yX12_leaks, cX12_leaks, 7, (some .int), [(.aload_n 0, 0, [], 0), (.iconst 0, 1, [], 0), (.putfield 1, 2, [11, 0], 0), (.aload_n 0, 5, [], 0), (.sipush 940, 6, [], 0), (.invokevirtual 242, 9, [245, 1, 11], 0), (.iconst 1, 12, [], 0), (.iconst 2, 13, [], 0), (.aload_n 0, 14, [], 0), (.getfield 33, 15, [11, 6], 0), (.iconst 0, 18, [], 0), (.iaload, 19, [], 0), (.imul, 20, [], 0), (.iadd, 21, [], 0), (.istore_n 1, 22, [], 0), (.aload_n 0, 23, [], 0), (.getfield 33, 24, [11, 6], 0), (.iconst 0, 27, [], 0), (.iaload, 28, [], 0), (.ifCond .eq 27, 29, [33], 0), (.aload_n 0, 32, [], 0), (.getfield 18, 33, [11, 3], 0), (.iload_n 1, 36, [], 0), (.irem, 37, [], 0), (.ifCond .ne 18, 38, [33], 0), (.aload_n 0, 41, [], 0), (.getfield 18, 42, [11, 3], 0), (.iload_n 1, 45, [], 0), (.idiv, 46, [], 0), (.iconst 1, 47, [], 0), (.bipush 12, 48, [], 0), (.invokestatic 195, 50, [198, 3, 11], 0), (.ifCond .ne 5, 53, [35], 0), (.iconst (-1), 56, [], 0), (.ireturn, 57, [], 0), (.aload_n 0, 58, [], 0), (.getfield 18, 59, [11, 3], 0), (.iload_n 1, 62, [], 0), (.idiv, 63, [], 0), (.istore_n 2, 64, [], 0), (.iconst 0, 65, [], 0), (.istore_n 3, 66, [], 0), (.iload_n 3, 67, [], 0), (.iload_n 2, 68, [], 0), (.if_icmp .ge 47, 69, [71], 0), (.aload_n 0, 72, [], 0), (.iload_n 1, 73, [], 0), (.iload_n 3, 74, [], 0), (.imul, 75, [], 0), (.invokevirtual 372, 76, [218, 1, 11], 0), (.invokestatic 273, 79, [200, 1, 11], 0), (.ifCond .eq 26, 82, [67], 0), (.iload_n 3, 85, [], 0), (.ifCond .le 24, 86, [69], 0), (.aload_n 0, 89, [], 0), (.iload_n 1, 90, [], 0), (.iload_n 3, 91, [], 0), (.imul, 92, [], 0), (.invokevirtual 372, 93, [218, 1, 11], 0), (.aload_n 0, 96, [], 0), (.iload_n 1, 97, [], 0), (.iload_n 3, 98, [], 0), (.imul, 99, [], 0), (.iload_n 1, 100, [], 0), (.isub, 101, [], 0), (.invokevirtual 372, 102, [218, 1, 11], 0), (.if_icmp .gt 5, 105, [69], 0), (.iconst (-1), 108, [], 0), (.ireturn, 109, [], 0), (.iinc 3 1, 110, [], 0), (.goto (-46), 113, [42], 0), (.aload_n 0, 116, [], 0), (.invokevirtual 375, 117, [247, 0, 11], 0), (.iconst 0, 120, [], 0), (.istore_n 3, 121, [], 0), (.aload_n 0, 122, [], 0), (.iconst 0, 123, [], 0), (.putfield 378, 124, [11, 49], 0), (.iconst 0, 127, [], 0), (.istore 4, 128, [], 0), (.iload 4, 130, [], 0), (.aload_n 0, 132, [], 0), (.getfield 33, 133, [11, 6], 0), (.iconst 0, 136, [], 0), (.iaload, 137, [], 0), (.if_icmp .ge 138, 138, [156], 0), (.iconst 0, 141, [], 0), (.istore 5, 142, [], 0), (.iload 5, 144, [], 0), (.bipush 12, 146, [], 0), (.if_icmp .ge 122, 148, [154], 0), (.iconst 1, 151, [], 0), (.istore 6, 152, [], 0), (.iload 6, 154, [], 0), (.bipush 10, 156, [], 0), (.if_icmp .ge 106, 158, [152], 0), (.aload_n 0, 161, [], 0), (.iload 4, 162, [], 0), (.putfield 56, 164, [11, 32], 0), (.aload_n 0, 167, [], 0), (.iload 5, 168, [], 0), (.putfield 327, 170, [11, 33], 0), (.aload_n 0, 173, [], 0), (.iload 6, 174, [], 0), (.putfield 330, 176, [11, 34], 0), (.aload_n 0, 179, [], 0), (.iload_n 2, 180, [], 0), (.invokevirtual 381, 181, [160, 1, 11], 0), (.ifCond .ne 6, 184, [110], 0), (.goto 71, 187, [150], 0), (.iinc 3 1, 190, [], 0), (.aload_n 0, 193, [], 0), (.getfield 378, 194, [11, 49], 0), (.bipush 40, 197, [], 0), (.if_icmp .ne 6, 199, [116], 0), (.goto 56, 202, [150], 0), (.aload_n 0, 205, [], 0), (.getfield 83, 206, [11, 48], 0), (.iconst 3, 209, [], 0), (.aload_n 0, 210, [], 0), (.getfield 378, 211, [11, 49], 0), (.imul, 214, [], 0), (.iload 4, 215, [], 0), (.iastore, 217, [], 0), (.aload_n 0, 218, [], 0), (.getfield 83, 219, [11, 48], 0), (.iconst 3, 222, [], 0), (.aload_n 0, 223, [], 0), (.getfield 378, 224, [11, 49], 0), (.imul, 227, [], 0), (.iconst 1, 228, [], 0), (.iadd, 229, [], 0), (.iload 5, 230, [], 0), (.iastore, 232, [], 0), (.aload_n 0, 233, [], 0), (.getfield 83, 234, [11, 48], 0), (.iconst 3, 237, [], 0), (.aload_n 0, 238, [], 0), (.getfield 378, 239, [11, 49], 0), (.imul, 242, [], 0), (.iconst 2, 243, [], 0), (.iadd, 244, [], 0), (.iload 6, 245, [], 0), (.iastore, 247, [], 0), (.aload_n 0, 248, [], 0), (.dup, 249, [], 0), (.getfield 378, 250, [11, 49], 0), (.iconst 1, 253, [], 0), (.iadd, 254, [], 0), (.putfield 378, 255, [11, 49], 0), (.iinc 6 1, 258, [], 0), (.goto (-107), 261, [93], 0), (.iinc 5 1, 264, [], 0), (.goto (-123), 267, [88], 0), (.iinc 4 1, 270, [], 0), (.goto (-143), 273, [80], 0), (.aload_n 0, 276, [], 0), (.iconst (-1), 277, [], 0), (.putfield 56, 278, [11, 32], 0), (.aload_n 0, 281, [], 0), (.invokevirtual 384, 282, [189, 0, 11], 0), (.iload_n 3, 285, [], 0), (.ireturn, 286, [], 0)], (0, 11, 0), (0, 0))
set_option maxRecDepth 100000 in
def mt_X12_let : mj_T := (yX12_let, cX12_let, 3, (some .int), [(.aload_n 0, 0, [], 0), (.iconst 0, 1, [], 0), (.putfield 1, 2, [11, 0], 0), (.aload_n 0, 5, [], 0), (.getfield 33, 6, [11, 6], 0), (.sipush 221, 9, [], 0), (.iaload, 12, [], 0), (.iconst 1, 13, [], 0), (.if_icmp .ne 47, 14, [35], 0), (.iload_n 1, 17, [], 0), (.iconst 0, 18, [], 0), (.aload_n 0, 19, [], 0), (.getfield 33, 20, [11, 6], 0), (.sipush 222, 23, [], 0), (.iaload, 26, [], 0), (.iconst 1, 27, [], 0), (.isub, 28, [], 0), (.invokestatic 195, 29, [198, 3, 11], 0), (.ifCond .eq 29, 32, [35], 0), (.iload_n 2, 35, [], 0), (.iconst 0, 36, [], 0), (.iconst 2, 37, [], 0), (.invokestatic 195, 38, [198, 3, 11], 0), (.ifCond .eq 20, 41, [35], 0), (.aload_n 0, 44, [], 0), (.getfield 33, 45, [11, 6], 0), (.sipush 320, 48, [], 0), (.iconst 3, 51, [], 0), (.iload_n 1, 52, [], 0), (.imul, 53, [], 0), (.iadd, 54, [], 0), (.iload_n 2, 55, [], 0), (.iadd, 56, [], 0), (.iaload, 57, [], 0), (.goto 4, 58, [36], 0), (.iconst (-1), 61, [], 0), (.ireturn, 62, [], 0)], (0, 11, 2), (0, 0))
set_option maxRecDepth 100000 in
def mt_X12_lets : mj_T := (yX12_lets, cX12_lets, 6, none, [(.aload_n 0, 0, [], 0), (.bipush 8, 1, [], 0), (.putfield 292, 3, [11, 29], 0), (.aload_n 0, 6, [], 0), (.iconst (-1), 7, [], 0), (.putfield 295, 8, [11, 30], 0), (.aload_n 0, 11, [], 0), (.iconst 0, 12, [], 0), (.putfield 298, 13, [11, 31], 0), (.sipush 184, 16, [], 0), (.iconst 3, 19, [], 0), (.iload_n 1, 20, [], 0), (.imul, 21, [], 0), (.iadd, 22, [], 0), (.istore_n 2, 23, [], 0), (.aload_n 0, 24, [], 0), (.getfield 33, 25, [11, 6], 0), (.iload_n 2, 28, [], 0), (.iaload, 29, [], 0), (.ifCond .le 137, 30, [99], 0), (.aload_n 0, 33, [], 0), (.getfield 33, 34, [11, 6], 0), (.iload_n 2, 37, [], 0), (.iaload, 38, [], 0), (.iconst 1, 39, [], 0), (.isub, 40, [], 0), (.istore_n 3, 41, [], 0), (.aload_n 0, 42, [], 0), (.getfield 33, 43, [11, 6], 0), (.iload_n 2, 46, [], 0), (.iconst 1, 47, [], 0), (.iadd, 48, [], 0), (.iaload, 49, [], 0), (.iconst 1, 50, [], 0), (.isub, 51, [], 0), (.istore 4, 52, [], 0), (.aload_n 0, 54, [], 0), (.getfield 33, 55, [11, 6], 0), (.iload_n 2, 58, [], 0), (.iconst 2, 59, [], 0), (.iadd, 60, [], 0), (.iaload, 61, [], 0), (.istore 5, 62, [], 0), (.iload_n 3, 64, [], 0), (.bipush 8, 65, [], 0), (.if_icmp .eq 45, 67, [68], 0), (.aload_n 0, 70, [], 0), (.iload_n 3, 71, [], 0), (.iload 4, 72, [], 0), (.ifCond .ge 8, 74, [52], 0), (.iload 5, 77, [], 0), (.goto 9, 79, [57], 0), (.iload 5, 82, [], 0), (.iconst 1, 84, [], 0), (.iadd, 85, [], 0), (.iconst 2, 86, [], 0), (.idiv, 87, [], 0), (.invokevirtual 301, 88, [172, 2, 11], 0), (.ifCond .eq 21, 91, [68], 0), (.iload 4, 94, [], 0), (.ifCond .lt 17, 96, [69], 0), (.aload_n 0, 99, [], 0), (.iload 4, 100, [], 0), (.iload 5, 102, [], 0), (.iconst 2, 104, [], 0), (.idiv, 105, [], 0), (.invokevirtual 301, 106, [172, 2, 11], 0), (.ifCond .ne 4, 109, [69], 0), (.return_, 112, [], 0), (.aload_n 0, 113, [], 0), (.iload_n 3, 114, [], 0), (.putfield 292, 115, [11, 29], 0), (.aload_n 0, 118, [], 0), (.iload 4, 119, [], 0), (.putfield 295, 121, [11, 30], 0), (.aload_n 0, 124, [], 0), (.iload 5, 125, [], 0), (.putfield 298, 127, [11, 31], 0), (.aload_n 0, 130, [], 0), (.iload_n 3, 131, [], 0), (.iload 4, 132, [], 0), (.ifCond .ge 8, 134, [84], 0), (.iload 5, 137, [], 0), (.goto 9, 139, [89], 0), (.iload 5, 142, [], 0), (.iconst 1, 144, [], 0), (.iadd, 145, [], 0), (.iconst 2, 146, [], 0), (.idiv, 147, [], 0), (.invokevirtual 304, 148, [223, 2, 11], 0), (.iload 4, 151, [], 0), (.ifCond .lt 13, 153, [98], 0), (.aload_n 0, 156, [], 0), (.iload 4, 157, [], 0), (.iload 5, 159, [], 0), (.iconst 2, 161, [], 0), (.idiv, 162, [], 0), (.invokevirtual 304, 163, [223, 2, 11], 0), (.return_, 166, [], 0), (.iconst 0, 167, [], 0), (.istore_n 3, 168, [], 0), (.iload_n 3, 169, [], 0), (.aload_n 0, 170, [], 0), (.getfield 33, 171, [11, 6], 0), (.iconst 0, 174, [], 0), (.iaload, 175, [], 0), (.if_icmp .ge 51, 176, [133], 0), (.aload_n 0, 179, [], 0), (.iload_n 3, 180, [], 0), (.iload_n 1, 181, [], 0), (.invokevirtual 276, 182, [167, 2, 11], 0), (.aload_n 0, 185, [], 0), (.getfield 298, 186, [11, 31], 0), (.if_icmp .le 32, 189, [131], 0), (.aload_n 0, 192, [], 0), (.iload_n 3, 193, [], 0), (.aload_n 0, 194, [], 0), (.iload_n 3, 195, [], 0), (.iload_n 1, 196, [], 0), (.invokevirtual 276, 197, [167, 2, 11], 0), (.invokevirtual 301, 200, [172, 2, 11], 0), (.ifCond .eq 18, 203, [131], 0), (.aload_n 0, 206, [], 0), (.iload_n 3, 207, [], 0), (.putfield 292, 208, [11, 29], 0), (.aload_n 0, 211, [], 0), (.aload_n 0, 212, [], 0), (.iload_n 3, 213, [], 0), (.iload_n 1, 214, [], 0), (.invokevirtual 276, 215, [167, 2, 11], 0), (.putfield 298, 218, [11, 31], 0), (.iinc 3 1, 221, [], 0), (.goto (-55), 224, [101], 0), (.aload_n 0, 227, [], 0), (.getfield 292, 228, [11, 29], 0), (.bipush 8, 231, [], 0), (.if_icmp .ge 15, 233, [143], 0), (.aload_n 0, 236, [], 0), (.aload_n 0, 237, [], 0), (.getfield 292, 238, [11, 29], 0), (.aload_n 0, 241, [], 0), (.getfield 298, 242, [11, 31], 0), (.invokevirtual 304, 245, [223, 2, 11], 0), (.return_, 248, [], 0)], (0, 11, 1), (0, 0))
set_option maxRecDepth 100000 in
def mt_X12_month : mj_T := (yX12_month, cX12_month, 7, none, [(.aload_n 0, 0, [], 0), (.getfield 33, 1, [11, 6], 0), (.sipush 222, 4, [], 0), (.iaload, 7, [], 0), (.istore_n 2, 8, [], 0), (.aload_n 0, 9, [], 0), (.iload_n 2, 10, [], 0), (.invokevirtual 308, 11, [212, 1, 11], 0), (.aload_n 0, 14, [], 0), (.aload_n 0, 15, [], 0), (.getfield 292, 16, [11, 29], 0), (.invokevirtual 311, 19, [225, 1, 11], 0), (.aload_n 0, 22, [], 0), (.aload_n 0, 23, [], 0), (.getfield 33, 24, [11, 6], 0), (.sipush 223, 27, [], 0), (.iaload, 30, [], 0), (.invokevirtual 311, 31, [225, 1, 11], 0), (.isub, 34, [], 0), (.invokestatic 315, 35, [243, 1, 11], 0), (.istore_n 3, 38, [], 0), (.aload_n 0, 39, [], 0), (.getfield 33, 40, [11, 6], 0), (.iconst 1, 43, [], 0), (.iaload, 44, [], 0), (.iload_n 3, 45, [], 0), (.imul, 46, [], 0), (.istore 4, 47, [], 0), (.iconst 0, 49, [], 0), (.istore 5, 50, [], 0), (.iload 5, 52, [], 0), (.aload_n 0, 54, [], 0), (.getfield 33, 55, [11, 6], 0), (.iconst 0, 58, [], 0), (.iaload, 59, [], 0), (.if_icmp .ge 50, 60, [58], 0), (.iload 5, 63, [], 0), (.aload_n 0, 65, [], 0), (.getfield 292, 66, [11, 29], 0), (.if_icmp .eq 12, 69, [44], 0), (.iload 5, 72, [], 0), (.aload_n 0, 74, [], 0), (.getfield 295, 75, [11, 30], 0), (.if_icmp .ne 26, 78, [56], 0), (.aload_n 0, 81, [], 0), (.iload 5, 82, [], 0), (.iload_n 2, 84, [], 0), (.invokevirtual 318, 85, [256, 2, 11], 0), (.ifCond .ne 16, 88, [56], 0), (.iload 4, 91, [], 0), (.aload_n 0, 93, [], 0), (.iload 5, 94, [], 0), (.bipush 6, 96, [], 0), (.invokevirtual 270, 98, [252, 2, 11], 0), (.iadd, 101, [], 0), (.istore 4, 102, [], 0), (.iinc 5 1, 104, [], 0), (.goto (-55), 107, [30], 0), (.aload_n 0, 110, [], 0), (.getfield 33, 111, [11, 6], 0), (.sipush 224, 114, [], 0), (.dup2, 117, [], 0), (.iaload, 118, [], 0), (.aload_n 0, 119, [], 0), (.getfield 298, 120, [11, 31], 0), (.iload 4, 123, [], 0), (.isub, 125, [], 0), (.iadd, 126, [], 0), (.iastore, 127, [], 0), (.aload_n 0, 128, [], 0), (.getfield 33, 129, [11, 6], 0), (.sipush 231, 132, [], 0), (.dup2, 135, [], 0), (.iaload, 136, [], 0), (.iload 4, 137, [], 0), (.iadd, 139, [], 0), (.iastore, 140, [], 0), (.aload_n 0, 141, [], 0), (.getfield 33, 142, [11, 6], 0), (.sipush 225, 145, [], 0), (.aload_n 0, 148, [], 0), (.getfield 33, 149, [11, 6], 0), (.sipush 225, 152, [], 0), (.iaload, 155, [], 0), (.iload_n 3, 156, [], 0), (.if_icmp .le 16, 157, [93], 0), (.aload_n 0, 160, [], 0), (.getfield 33, 161, [11, 6], 0), (.sipush 225, 164, [], 0), (.iaload, 167, [], 0), (.iload_n 3, 168, [], 0), (.isub, 169, [], 0), (.goto 4, 170, [94], 0), (.iconst 0, 173, [], 0), (.iastore, 174, [], 0), (.aload_n 0, 175, [], 0), (.getfield 33, 176, [11, 6], 0), (.sipush 223, 179, [], 0), (.aload_n 0, 182, [], 0), (.getfield 292, 183, [11, 29], 0), (.iastore, 186, [], 0), (.aload_n 0, 187, [], 0), (.getfield 33, 188, [11, 6], 0), (.bipush 76, 191, [], 0), (.iload_n 2, 193, [], 0), (.iadd, 194, [], 0), (.iaload, 195, [], 0), (.iload_n 1, 196, [], 0), (.iadd, 197, [], 0), (.istore 5, 198, [], 0), (.aload_n 0, 200, [], 0), (.getfield 33, 201, [11, 6], 0), (.sipush 226, 204, [], 0), (.dup2, 207, [], 0), (.iaload, 208, [], 0), (.iload 5, 209, [], 0), (.iadd, 211, [], 0), (.iastore, 212, [], 0), (.aload_n 0, 213, [], 0), (.getfield 292, 214, [11, 29], 0), (.bipush 8, 217, [], 0), (.if_icmp .ne 19, 219, [131], 0), (.aload_n 0, 222, [], 0), (.getfield 33, 223, [11, 6], 0), (.sipush 229, 226, [], 0), (.dup2, 229, [], 0), (.iaload, 230, [], 0), (.iload 5, 231, [], 0), (.iadd, 233, [], 0), (.iastore, 234, [], 0), (.goto 60, 235, [163], 0), (.aload_n 0, 238, [], 0), (.aload_n 0, 239, [], 0), (.getfield 292, 240, [11, 29], 0), (.aload_n 0, 243, [], 0), (.getfield 295, 244, [11, 30], 0), (.ifCond .ge 8, 247, [139], 0), (.iload 5, 250, [], 0), (.goto 9, 252, [144], 0), (.iload 5, 255, [], 0), (.iconst 1, 257, [], 0), (.iadd, 258, [], 0), (.iconst 2, 259, [], 0), (.idiv, 260, [], 0), (.invokevirtual 321, 261, [175, 2, 11], 0), (.aload_n 0, 264, [], 0), (.getfield 295, 265, [11, 30], 0), (.ifCond .lt 15, 268, [155], 0), (.aload_n 0, 271, [], 0), (.aload_n 0, 272, [], 0), (.getfield 295, 273, [11, 30], 0), (.iload 5, 276, [], 0), (.iconst 2, 278, [], 0), (.idiv, 279, [], 0), (.invokevirtual 321, 280, [175, 2, 11], 0), (.aload_n 0, 283, [], 0), (.getfield 33, 284, [11, 6], 0), (.sipush 230, 287, [], 0), (.dup2, 290, [], 0), (.iaload, 291, [], 0), (.iconst 1, 292, [], 0), (.iadd, 293, [], 0), (.iastore, 294, [], 0), (.aload_n 0, 295, [], 0), (.getfield 33, 296, [11, 6], 0), (.sipush 320, 299, [], 0), (.iconst 3, 302, [], 0), (.iload_n 2, 303, [], 0), (.imul, 304, [], 0), (.iadd, 305, [], 0), (.aload_n 0, 306, [], 0), (.getfield 292, 307, [11, 29], 0), (.iastore, 310, [], 0), (.aload_n 0, 311, [], 0), (.getfield 33, 312, [11, 6], 0), (.sipush 320, 315, [], 0), (.iconst 3, 318, [], 0), (.iload_n 2, 319, [], 0), (.imul, 320, [], 0), (.iadd, 321, [], 0), (.iconst 1, 322, [], 0), (.iadd, 323, [], 0), (.aload_n 0, 324, [], 0), (.getfield 295, 325, [11, 30], 0), (.iastore, 328, [], 0), (.aload_n 0, 329, [], 0), (.getfield 33, 330, [11, 6], 0), (.sipush 320, 333, [], 0), (.iconst 3, 336, [], 0), (.iload_n 2, 337, [], 0), (.imul, 338, [], 0), (.iadd, 339, [], 0), (.iconst 2, 340, [], 0), (.iadd, 341, [], 0), (.aload_n 0, 342, [], 0), (.getfield 298, 343, [11, 31], 0), (.iastore, 346, [], 0), (.iconst 0, 347, [], 0), (.istore 6, 348, [], 0), (.iload 6, 350, [], 0), (.aload_n 0, 352, [], 0), (.getfield 33, 353, [11, 6], 0), (.iconst 0, 356, [], 0), (.iaload, 357, [], 0), (.if_icmp .ge 108, 358, [258], 0), (.iload 6, 361, [], 0), (.aload_n 0, 363, [], 0), (.getfield 292, 364, [11, 29], 0), (.if_icmp .eq 12, 367, [213], 0), (.iload 6, 370, [], 0), (.aload_n 0, 372, [], 0), (.getfield 295, 373, [11, 30], 0), (.if_icmp .ne 25, 376, [226], 0), (.aload_n 0, 379, [], 0), (.iload 6, 380, [], 0), (.iconst 1, 382, [], 0), (.aload_n 0, 383, [], 0), (.iload 6, 384, [], 0), (.iconst 5, 386, [], 0), (.invokevirtual 270, 387, [252, 2, 11], 0), (.invokevirtual 288, 390, [214, 3, 11], 0), (.aload_n 0, 393, [], 0), (.iload 6, 394, [], 0), (.iconst 4, 396, [], 0), (.iconst 1, 397, [], 0), (.invokevirtual 288, 398, [214, 3, 11], 0), (.aload_n 0, 401, [], 0), (.iload 6, 402, [], 0), (.invokevirtual 324, 404, [255, 1, 11], 0), (.iload 6, 407, [], 0), (.aload_n 0, 409, [], 0), (.getfield 56, 410, [11, 32], 0), (.if_icmp .ne 47, 413, [256], 0), (.iload_n 2, 416, [], 0), (.aload_n 0, 417, [], 0), (.getfield 327, 418, [11, 33], 0), (.if_icmp .lt 39, 421, [256], 0), (.aload_n 0, 424, [], 0), (.iload 6, 425, [], 0), (.iconst 0, 427, [], 0), (.aload_n 0, 428, [], 0), (.iload 6, 429, [], 0), (.iconst 0, 431, [], 0), (.invokevirtual 285, 432, [219, 2, 11], 0), (.aload_n 0, 435, [], 0), (.getfield 330, 436, [11, 34], 0), (.if_icmp .ge 13, 439, [252], 0), (.aload_n 0, 442, [], 0), (.iload 6, 443, [], 0), (.iconst 0, 445, [], 0), (.invokevirtual 285, 446, [219, 2, 11], 0), (.goto 7, 449, [254], 0), (.aload_n 0, 452, [], 0), (.getfield 330, 453, [11, 34], 0), (.ineg, 456, [], 0), (.invokevirtual 288, 457, [214, 3, 11], 0), (.iinc 6 1, 460, [], 0), (.goto (-113), 463, [199], 0), (.aload_n 0, 466, [], 0), (.getfield 33, 467, [11, 6], 0), (.sipush 222, 470, [], 0), (.dup2, 473, [], 0), (.iaload, 474, [], 0), (.iconst 1, 475, [], 0), (.iadd, 476, [], 0), (.iastore, 477, [], 0), (.aload_n 0, 478, [], 0), (.getfield 33, 479, [11, 6], 0), (.sipush 222, 482, [], 0), (.iaload, 485, [], 0), (.bipush 12, 486, [], 0), (.if_icmp .ge 4, 488, [273], 0), (.return_, 491, [], 0), (.iconst 0, 492, [], 0), (.istore 6, 493, [], 0), (.iload 6, 495, [], 0), (.aload_n 0, 497, [], 0), (.getfield 33, 498, [11, 6], 0), (.iconst 0, 501, [], 0), (.iaload, 502, [], 0), (.if_icmp .ge 49, 503, [304], 0), (.aload_n 0, 506, [], 0), (.iload 6, 507, [], 0), (.bipush 9, 509, [], 0), (.aload_n 0, 511, [], 0), (.iload 6, 512, [], 0), (.bipush 8, 514, [], 0), (.invokevirtual 270, 516, [252, 2, 11], 0), (.aload_n 0, 519, [], 0), (.iload 6, 520, [], 0), (.bipush 8, 522, [], 0), (.invokevirtual 285, 524, [219, 2, 11], 0), (.imul, 527, [], 0), (.invokevirtual 288, 528, [214, 3, 11], 0), (.aload_n 0, 531, [], 0), (.iload 6, 532, [], 0), (.iconst 1, 534, [], 0), (.aload_n 0, 535, [], 0), (.iload 6, 536, [], 0), (.bipush 9, 538, [], 0), (.invokevirtual 285, 540, [219, 2, 11], 0), (.invokevirtual 288, 543, [214, 3, 11], 0), (.iinc 6 1, 546, [], 0), (.goto (-54), 549, [275], 0), (.return_, 552, [], 0)], (0, 11, 1), (0, 0))
set_option maxRecDepth 100000 in
def mt_X12_more : mj_T := (yX12_more, cX12_more, 4, none, [(.aload_n 0, 0, [], 0), (.getfield 33, 1, [11, 6], 0), (.sipush 232, 4, [], 0), (.bipush 11, 7, [], 0), (.iload_n 1, 9, [], 0), (.imul, 10, [], 0), (.iadd, 11, [], 0), (.iload_n 2, 12, [], 0), (.iadd, 13, [], 0), (.dup2, 14, [], 0), (.iaload, 15, [], 0), (.iload_n 3, 16, [], 0), (.iadd, 17, [], 0), (.iastore, 18, [], 0), (.return_, 19, [], 0)], (0, 11, 3), (0, 0))
set_option maxRecDepth 100000 in
def mt_X12_must : mj_T := (yX12_must, cX12_must, 7, (some .int), [(.aload_n 0, 0, [], 0), (.iconst 0, 1, [], 0), (.putfield 1, 2, [11, 0], 0), (.aload_n 0, 5, [], 0), (.iload_n 1, 6, [], 0), (.invokevirtual 263, 7, [205, 1, 11], 0), (.ifCond .eq 10, 10, [10], 0), (.iload_n 2, 13, [], 0), (.invokestatic 273, 14, [200, 1, 11], 0), (.ifCond .ne 5, 17, [12], 0), (.iconst (-1), 20, [], 0), (.ireturn, 21, [], 0), (.aload_n 0, 22, [], 0), (.invokevirtual 375, 23, [247, 0, 11], 0), (.aload_n 0, 26, [], 0), (.iload_n 1, 27, [], 0), (.iload_n 2, 28, [], 0), (.invokevirtual 276, 29, [167, 2, 11], 0), (.istore_n 3, 32, [], 0), (.iconst (-1), 33, [], 0), (.istore 4, 34, [], 0), (.iconst 1, 36, [], 0), (.istore 5, 37, [], 0), (.iload 5, 39, [], 0), (.sipush 1000, 41, [], 0), (.if_icmp .ge 91, 44, [76], 0), (.iload 4, 47, [], 0), (.ifCond .ge 86, 49, [76], 0), (.aload_n 0, 52, [], 0), (.getfield 33, 53, [11, 6], 0), (.bipush 88, 56, [], 0), (.bipush 12, 58, [], 0), (.iload_n 1, 60, [], 0), (.imul, 61, [], 0), (.iadd, 62, [], 0), (.iload_n 2, 63, [], 0), (.iadd, 64, [], 0), (.iload 5, 65, [], 0), (.iastore, 67, [], 0), (.aload_n 0, 68, [], 0), (.invokevirtual 333, 69, [163, 0, 11], 0), (.iconst 0, 72, [], 0), (.istore 6, 73, [], 0), (.iload 6, 75, [], 0), (.iload_n 2, 77, [], 0), (.if_icmp .gt 14, 78, [51], 0), (.aload_n 0, 81, [], 0), (.iconst 0, 82, [], 0), (.invokevirtual 336, 83, [213, 1, 11], 0), (.iinc 6 1, 86, [], 0), (.goto (-14), 89, [43], 0), (.aload_n 0, 92, [], 0), (.getfield 33, 93, [11, 6], 0), (.sipush 320, 96, [], 0), (.iconst 3, 99, [], 0), (.iload_n 2, 100, [], 0), (.imul, 101, [], 0), (.iadd, 102, [], 0), (.iaload, 103, [], 0), (.iload_n 1, 104, [], 0), (.if_icmp .ne 24, 105, [74], 0), (.aload_n 0, 108, [], 0), (.getfield 33, 109, [11, 6], 0), (.sipush 320, 112, [], 0), (.iconst 3, 115, [], 0), (.iload_n 2, 116, [], 0), (.imul, 117, [], 0), (.iadd, 118, [], 0), (.iconst 1, 119, [], 0), (.iadd, 120, [], 0), (.iaload, 121, [], 0), (.ifCond .ge 7, 122, [74], 0), (.iload 5, 125, [], 0), (.istore 4, 127, [], 0), (.iinc 5 1, 129, [], 0), (.goto (-93), 132, [23], 0), (.aload_n 0, 135, [], 0), (.getfield 33, 136, [11, 6], 0), (.bipush 88, 139, [], 0), (.bipush 12, 141, [], 0), (.iload_n 1, 143, [], 0), (.imul, 144, [], 0), (.iadd, 145, [], 0), (.iload_n 2, 146, [], 0), (.iadd, 147, [], 0), (.iload_n 3, 148, [], 0), (.iastore, 149, [], 0), (.aload_n 0, 150, [], 0), (.invokevirtual 384, 151, [189, 0, 11], 0), (.iload 4, 154, [], 0), (.ireturn, 156, [], 0)], (0, 11, 2), (0, 0))
set_option maxRecDepth 100000 in
def mt_X12_next : mj_T := (yX12_next, cX12_next, 4, none, [(.aload_n 0, 0, [], 0), (.invokevirtual 153, 1, [224, 0, 11], 0), (.bipush 32, 4, [], 0), (.if_icmp .eq 12, 6, [8], 0), (.aload_n 0, 9, [], 0), (.invokevirtual 153, 10, [224, 0, 11], 0), (.bipush 10, 13, [], 0), (.if_icmp .ne 16, 15, [15], 0), (.aload_n 0, 18, [], 0), (.dup, 19, [], 0), (.getfield 21, 20, [11, 4], 0), (.iconst 1, 23, [], 0), (.iadd, 24, [], 0), (.putfield 21, 25, [11, 4], 0), (.goto (-28), 28, [0], 0), (.aload_n 0, 31, [], 0), (.aload_n 0, 32, [], 0), (.getfield 21, 33, [11, 4], 0), (.putfield 157, 36, [11, 12], 0), (.aload_n 0, 39, [], 0), (.iconst 0, 40, [], 0), (.putfield 160, 41, [11, 13], 0), (.aload_n 0, 44, [], 0), (.getfield 18, 45, [11, 3], 0), (.aload_n 0, 48, [], 0), (.getfield 24, 49, [11, 5], 0), (.if_icmp .le 28, 52, [40], 0), (.aload_n 0, 55, [], 0), (.getfield 21, 56, [11, 4], 0), (.aload_n 0, 59, [], 0), (.getfield 24, 60, [11, 5], 0), (.if_icmp .lt 17, 63, [40], 0), (.aload_n 0, 66, [], 0), (.aload_n 0, 67, [], 0), (.getfield 24, 68, [11, 5], 0), (.putfield 157, 71, [11, 12], 0), (.aload_n 0, 74, [], 0), (.iconst 4, 75, [], 0), (.putfield 163, 76, [11, 11], 0), (.return_, 79, [], 0), (.aload_n 0, 80, [], 0), (.invokevirtual 153, 81, [224, 0, 11], 0), (.istore_n 1, 84, [], 0), (.iload_n 1, 85, [], 0), (.ifCond .ge 9, 86, [49], 0), (.aload_n 0, 89, [], 0), (.iconst 0, 90, [], 0), (.putfield 163, 91, [11, 11], 0), (.return_, 94, [], 0), (.iload_n 1, 95, [], 0), (.invokestatic 166, 96, [204, 1, 11], 0), (.ifCond .ne 65, 99, [85], 0), (.iload_n 1, 102, [], 0), (.invokestatic 170, 103, [197, 1, 11], 0), (.ifCond .ne 58, 106, [85], 0), (.aload_n 0, 109, [], 0), (.iload_n 1, 110, [], 0), (.bipush 59, 111, [], 0), (.if_icmp .eq 27, 113, [71], 0), (.iload_n 1, 116, [], 0), (.bipush 40, 117, [], 0), (.if_icmp .eq 21, 119, [71], 0), (.iload_n 1, 122, [], 0), (.bipush 41, 123, [], 0), (.if_icmp .eq 15, 125, [71], 0), (.iload_n 1, 128, [], 0), (.bipush 60, 129, [], 0), (.if_icmp .lt 13, 131, [73], 0), (.iload_n 1, 134, [], 0), (.bipush 62, 135, [], 0), (.if_icmp .gt 7, 137, [73], 0), (.iconst 3, 140, [], 0), (.goto 4, 141, [74], 0), (.iconst 4, 144, [], 0), (.putfield 163, 145, [11, 11], 0), (.aload_n 0, 148, [], 0), (.iload_n 1, 149, [], 0), (.putfield 173, 150, [11, 14], 0), (.aload_n 0, 153, [], 0), (.dup, 154, [], 0), (.getfield 21, 155, [11, 4], 0), (.iconst 1, 158, [], 0), (.iadd, 159, [], 0), (.putfield 21, 160, [11, 4], 0), (.return_, 163, [], 0), (.iload_n 1, 164, [], 0), (.invokestatic 166, 165, [204, 1, 11], 0), (.istore_n 2, 168, [], 0), (.iconst 1, 169, [], 0), (.istore_n 3, 170, [], 0), (.aload_n 0, 171, [], 0), (.lconst 0, 172, [], 0), (.putfield 176, 173, [11, 17], 0), (.aload_n 0, 176, [], 0), (.iconst 0, 177, [], 0), (.putfield 173, 178, [11, 14], 0), (.aload_n 0, 181, [], 0), (.invokevirtual 153, 182, [224, 0, 11], 0), (.invokestatic 166, 185, [204, 1, 11], 0), (.ifCond .ne 13, 188, [104], 0), (.aload_n 0, 191, [], 0), (.invokevirtual 153, 192, [224, 0, 11], 0), (.invokestatic 170, 195, [197, 1, 11], 0), (.ifCond .eq 100, 198, [157], 0), (.iload_n 3, 201, [], 0), (.ifCond .eq 18, 202, [113], 0), (.aload_n 0, 205, [], 0), (.invokevirtual 153, 206, [224, 0, 11], 0), (.invokestatic 166, 209, [204, 1, 11], 0), (.iload_n 2, 212, [], 0), (.if_icmp .ne 7, 213, [113], 0), (.iconst 1, 216, [], 0), (.goto 4, 217, [114], 0), (.iconst 0, 220, [], 0), (.istore_n 3, 221, [], 0), (.aload_n 0, 222, [], 0), (.getfield 160, 223, [11, 13], 0), (.bipush 8, 226, [], 0), (.if_icmp .ge 20, 228, [129], 0), (.aload_n 0, 231, [], 0), (.aload_n 0, 232, [], 0), (.getfield 176, 233, [11, 17], 0), (.bipush 8, 236, [], 0), (.lshl, 238, [], 0), (.aload_n 0, 239, [], 0), (.invokevirtual 153, 240, [224, 0, 11], 0), (.i2l, 243, [], 0), (.lor, 244, [], 0), (.putfield 176, 245, [11, 17], 0), (.aload_n 0, 248, [], 0), (.getfield 160, 249, [11, 13], 0), (.iconst 3, 252, [], 0), (.if_icmp .ge 22, 253, [144], 0), (.aload_n 0, 256, [], 0), (.bipush 10, 257, [], 0), (.aload_n 0, 259, [], 0), (.getfield 173, 260, [11, 14], 0), (.imul, 263, [], 0), (.aload_n 0, 264, [], 0), (.invokevirtual 153, 265, [224, 0, 11], 0), (.iadd, 268, [], 0), (.bipush 48, 269, [], 0), (.isub, 271, [], 0), (.putfield 173, 272, [11, 14], 0), (.aload_n 0, 275, [], 0), (.dup, 276, [], 0), (.getfield 160, 277, [11, 13], 0), (.iconst 1, 280, [], 0), (.iadd, 281, [], 0), (.putfield 160, 282, [11, 13], 0), (.aload_n 0, 285, [], 0), (.dup, 286, [], 0), (.getfield 21, 287, [11, 4], 0), (.iconst 1, 290, [], 0), (.iadd, 291, [], 0), (.putfield 21, 292, [11, 4], 0), (.goto (-114), 295, [96], 0), (.aload_n 0, 298, [], 0), (.iload_n 3, 299, [], 0), (.ifCond .eq 20, 300, [168], 0), (.aload_n 0, 303, [], 0), (.getfield 160, 304, [11, 13], 0), (.iload_n 2, 307, [], 0), (.ifCond .eq 8, 308, [166], 0), (.bipush 8, 311, [], 0), (.goto 4, 313, [167], 0), (.iconst 3, 316, [], 0), (.if_icmp .le 7, 317, [170], 0), (.iconst 4, 320, [], 0), (.goto 12, 321, [175], 0), (.iload_n 2, 324, [], 0), (.ifCond .eq 7, 325, [174], 0), (.iconst 1, 328, [], 0), (.goto 4, 329, [175], 0), (.iconst 2, 332, [], 0), (.putfield 163, 333, [11, 11], 0), (.return_, 336, [], 0)], (0, 11, 0), (0, 0))
set_option maxRecDepth 100000 in
def mt_X12_nots : mj_T := (yX12_nots, cX12_nots, 1, none, [(.aload_n 0, 0, [], 0), (.getfield 409, 1, [11, 55], 0), (.ifCond .le 50, 4, [30], 0), (.aload_n 0, 7, [], 0), (.getfield 89, 8, [11, 52], 0), (.aload_n 0, 11, [], 0), (.getfield 409, 12, [11, 55], 0), (.iconst 1, 15, [], 0), (.isub, 16, [], 0), (.iaload, 17, [], 0), (.bipush 10, 18, [], 0), (.if_icmp .ne 34, 20, [30], 0), (.aload_n 0, 23, [], 0), (.dup, 24, [], 0), (.getfield 409, 25, [11, 55], 0), (.iconst 1, 28, [], 0), (.isub, 29, [], 0), (.putfield 409, 30, [11, 55], 0), (.aload_n 0, 33, [], 0), (.dup, 34, [], 0), (.getfield 415, 35, [11, 56], 0), (.iconst 1, 38, [], 0), (.isub, 39, [], 0), (.putfield 415, 40, [11, 56], 0), (.aload_n 0, 43, [], 0), (.bipush 10, 44, [], 0), (.iconst 0, 46, [], 0), (.iconst 0, 47, [], 0), (.invokevirtual 412, 48, [174, 3, 11], 0), (.goto (-51), 51, [0], 0), (.return_, 54, [], 0)], (0, 11, 0), (0, 0))
set_option maxRecDepth 100000 in
def mt_X12_octet : mj_T := (yX12_octet, cX12_octet, 2, (some .int), [(.aload_n 0, 0, [], 0), (.getfield 14, 1, [11, 1], 0), (.iload_n 1, 4, [], 0), (.baload, 5, [], 0), (.sipush 255, 6, [], 0), (.iand, 9, [], 0), (.ireturn, 10, [], 0)], (0, 11, 1), (0, 0))
set_option maxRecDepth 100000 in
def mt_X12_of : mj_T := (yX12_of, cX12_of, 3, (some .int), [(.aload_n 0, 0, [], 0), (.getfield 33, 1, [11, 6], 0), (.sipush 232, 4, [], 0), (.bipush 11, 7, [], 0), (.iload_n 1, 9, [], 0), (.imul, 10, [], 0), (.iadd, 11, [], 0), (.iload_n 2, 12, [], 0), (.iadd, 13, [], 0), (.iaload, 14, [], 0), (.ireturn, 15, [], 0)], (0, 11, 2), (0, 0))
set_option maxRecDepth 100000 in
def mt_X12_offer : mj_T := (yX12_offer, cX12_offer, 5, (some .boolean), [(.aload_n 0, 0, [], 0), (.iconst 0, 1, [], 0), (.putfield 1, 2, [11, 0], 0), (.aload_n 0, 5, [], 0), (.iload_n 1, 6, [], 0), (.invokevirtual 263, 7, [205, 1, 11], 0), (.ifCond .eq 43, 10, [26], 0), (.iload_n 2, 13, [], 0), (.invokestatic 273, 14, [200, 1, 11], 0), (.ifCond .eq 36, 17, [26], 0), (.iload_n 3, 20, [], 0), (.iconst 0, 21, [], 0), (.sipush 999, 22, [], 0), (.invokestatic 195, 25, [198, 3, 11], 0), (.ifCond .eq 25, 28, [26], 0), (.iload_n 3, 31, [], 0), (.ifCond .le 23, 32, [28], 0), (.aload_n 0, 35, [], 0), (.iload_n 1, 36, [], 0), (.iload_n 2, 37, [], 0), (.invokevirtual 276, 38, [167, 2, 11], 0), (.ifCond .ne 14, 41, [28], 0), (.aload_n 0, 44, [], 0), (.invokevirtual 279, 45, [166, 0, 11], 0), (.bipush 40, 48, [], 0), (.if_icmp .ne 5, 50, [28], 0), (.iconst 0, 53, [], 0), (.ireturn, 54, [], 1), (.aload_n 0, 55, [], 0), (.getfield 254, 56, [11, 28], 0), (.bipush 8, 59, [], 0), (.if_icmp .ne 41, 61, [52], 0), (.iconst 0, 64, [], 0), (.istore 4, 65, [], 0), (.iload 4, 67, [], 0), (.bipush 21, 69, [], 0), (.if_icmp .ge 25, 71, [49], 0), (.aload_n 0, 74, [], 0), (.getfield 53, 75, [11, 27], 0), (.iload 4, 78, [], 0), (.aload_n 0, 80, [], 0), (.getfield 53, 81, [11, 27], 0), (.iload 4, 84, [], 0), (.iconst 3, 86, [], 0), (.iadd, 87, [], 0), (.iaload, 88, [], 0), (.iastore, 89, [], 0), (.iinc 4 1, 90, [], 0), (.goto (-26), 93, [34], 0), (.aload_n 0, 96, [], 0), (.bipush 7, 97, [], 0), (.putfield 254, 99, [11, 28], 0), (.aload_n 0, 102, [], 0), (.getfield 53, 103, [11, 27], 0), (.iconst 3, 106, [], 0), (.aload_n 0, 107, [], 0), (.getfield 254, 108, [11, 28], 0), (.imul, 111, [], 0), (.iload_n 1, 112, [], 0), (.iastore, 113, [], 0), (.aload_n 0, 114, [], 0), (.getfield 53, 115, [11, 27], 0), (.iconst 3, 118, [], 0), (.aload_n 0, 119, [], 0), (.getfield 254, 120, [11, 28], 0), (.imul, 123, [], 0), (.iconst 1, 124, [], 0), (.iadd, 125, [], 0), (.iload_n 2, 126, [], 0), (.iastore, 127, [], 0), (.aload_n 0, 128, [], 0), (.getfield 53, 129, [11, 27], 0), (.iconst 3, 132, [], 0), (.aload_n 0, 133, [], 0), (.getfield 254, 134, [11, 28], 0), (.imul, 137, [], 0), (.iconst 2, 138, [], 0), (.iadd, 139, [], 0), (.aload_n 0, 140, [], 0), (.iload_n 1, 141, [], 0), (.iload_n 2, 142, [], 0), (.invokevirtual 276, 143, [167, 2, 11], 0), (.iastore, 146, [], 0), (.aload_n 0, 147, [], 0), (.dup, 148, [], 0), (.getfield 254, 149, [11, 28], 0), (.iconst 1, 152, [], 0), (.iadd, 153, [], 0), (.putfield 254, 154, [11, 28], 0), (.aload_n 0, 157, [], 0), (.getfield 33, 158, [11, 6], 0), (.bipush 88, 161, [], 0), (.bipush 12, 163, [], 0), (.iload_n 1, 165, [], 0), (.imul, 166, [], 0), (.iadd, 167, [], 0), (.iload_n 2, 168, [], 0), (.iadd, 169, [], 0), (.iload_n 3, 170, [], 0), (.iastore, 171, [], 0), (.iconst 1, 172, [], 0), (.ireturn, 173, [], 1)], (0, 11, 3), (0, 0))
set_option maxRecDepth 100000 in
def mt_X12_on : mj_T := (yX12_on, cX12_on, 4, (some .int), [(.aload_n 0, 0, [], 0), (.iconst 0, 1, [], 0), (.putfield 1, 2, [11, 0], 0), (.aload_n 0, 5, [], 0), (.getfield 33, 6, [11, 6], 0), (.sipush 221, 9, [], 0), (.iaload, 12, [], 0), (.ifCond .eq 13, 13, [13], 0), (.iload_n 1, 16, [], 0), (.iconst 0, 17, [], 0), (.bipush 12, 18, [], 0), (.invokestatic 195, 20, [198, 3, 11], 0), (.ifCond .ne 5, 23, [15], 0), (.iconst (-1), 26, [], 0), (.ireturn, 27, [], 0), (.iload_n 1, 28, [], 0), (.bipush 12, 29, [], 0), (.aload_n 0, 31, [], 0), (.getfield 33, 32, [11, 6], 0), (.sipush 222, 35, [], 0), (.iaload, 38, [], 0), (.isub, 39, [], 0), (.if_icmp .ge 7, 40, [25], 0), (.iload_n 1, 43, [], 0), (.goto 14, 44, [31], 0), (.bipush 12, 47, [], 0), (.aload_n 0, 49, [], 0), (.getfield 33, 50, [11, 6], 0), (.sipush 222, 53, [], 0), (.iaload, 56, [], 0), (.isub, 57, [], 0), (.istore_n 2, 58, [], 0), (.iconst 0, 59, [], 0), (.istore_n 3, 60, [], 0), (.iload_n 3, 61, [], 0), (.iload_n 2, 62, [], 0), (.if_icmp .ge 14, 63, [42], 0), (.aload_n 0, 66, [], 0), (.iconst 0, 67, [], 0), (.invokevirtual 336, 68, [213, 1, 11], 0), (.iinc 3 1, 71, [], 0), (.goto (-13), 74, [34], 0), (.iload_n 2, 77, [], 0), (.ireturn, 78, [], 0)], (0, 11, 1), (0, 0))
set_option maxRecDepth 100000 in
def mt_X12_operand : mj_T := (yX12_operand, cX12_operand, 5, (some .boolean), [(.aload_n 0, 0, [], 0), (.ldc2_w 133, 1, [], 7237492), (.invokevirtual 202, 4, [206, 1, 11], 0), (.istore_n 1, 7, [], 0), (.aload_n 0, 8, [], 0), (.bipush 40, 9, [], 0), (.invokevirtual 186, 11, [203, 1, 11], 0), (.istore_n 2, 14, [], 0), (.aload_n 0, 15, [], 0), (.invokevirtual 418, 16, [208, 0, 11], 0), (.istore_n 3, 19, [], 0), (.iload_n 1, 20, [], 0), (.ifCond .ne 17, 21, [21], 0), (.iload_n 2, 24, [], 0), (.ifCond .ne 13, 25, [21], 0), (.iload_n 3, 28, [], 0), (.ifCond .ge 9, 29, [21], 0), (.aload_n 0, 32, [], 0), (.iconst 1, 33, [], 0), (.invokevirtual 189, 34, [161, 1, 11], 0), (.ireturn, 37, [], 1), (.aload_n 0, 38, [], 0), (.getfield 421, 39, [11, 54], 0), (.bipush 20, 42, [], 0), (.if_icmp .eq 12, 44, [29], 0), (.aload_n 0, 47, [], 0), (.getfield 415, 48, [11, 56], 0), (.bipush 8, 51, [], 0), (.if_icmp .le 9, 53, [33], 0), (.aload_n 0, 56, [], 0), (.iconst 4, 57, [], 0), (.invokevirtual 189, 58, [161, 1, 11], 0), (.ireturn, 61, [], 1), (.aload_n 0, 62, [], 0), (.dup, 63, [], 0), (.getfield 421, 64, [11, 54], 0), (.iconst 1, 67, [], 0), (.iadd, 68, [], 0), (.putfield 421, 69, [11, 54], 0), (.aload_n 0, 72, [], 0), (.invokevirtual 192, 73, [216, 0, 11], 0), (.iload_n 1, 76, [], 0), (.ifCond .ne 7, 77, [45], 0), (.iload_n 2, 80, [], 0), (.ifCond .eq 45, 81, [69], 0), (.aload_n 0, 84, [], 0), (.getfield 89, 85, [11, 52], 0), (.aload_n 0, 88, [], 0), (.getfield 409, 89, [11, 55], 0), (.iload_n 1, 92, [], 0), (.ifCond .eq 8, 93, [53], 0), (.bipush 10, 96, [], 0), (.goto 5, 98, [54], 0), (.bipush 13, 101, [], 0), (.iastore, 103, [], 0), (.aload_n 0, 104, [], 0), (.dup, 105, [], 0), (.getfield 409, 106, [11, 55], 0), (.iconst 1, 109, [], 0), (.iadd, 110, [], 0), (.putfield 409, 111, [11, 55], 0), (.aload_n 0, 114, [], 0), (.dup, 115, [], 0), (.getfield 415, 116, [11, 56], 0), (.iconst 1, 119, [], 0), (.iadd, 120, [], 0), (.putfield 415, 121, [11, 56], 0), (.iconst 1, 124, [], 0), (.ireturn, 125, [], 1), (.aload_n 0, 126, [], 0), (.iconst 1, 127, [], 0), (.putfield 424, 128, [11, 57], 0), (.iload_n 3, 131, [], 0), (.iconst 2, 132, [], 0), (.if_icmp .ge 12, 133, [82], 0), (.aload_n 0, 136, [], 0), (.iload_n 3, 137, [], 0), (.iconst 0, 138, [], 0), (.iconst 0, 139, [], 0), (.invokevirtual 412, 140, [174, 3, 11], 0), (.iconst 1, 143, [], 0), (.ireturn, 144, [], 1), (.aload_n 0, 145, [], 0), (.getfield 163, 146, [11, 11], 0), (.iconst 3, 149, [], 0), (.if_icmp .ne 21, 150, [94], 0), (.aload_n 0, 153, [], 0), (.getfield 173, 154, [11, 14], 0), (.bipush 60, 157, [], 0), (.if_icmp .lt 12, 159, [94], 0), (.aload_n 0, 162, [], 0), (.getfield 173, 163, [11, 14], 0), (.bipush 62, 166, [], 0), (.if_icmp .le 9, 168, [98], 0), (.aload_n 0, 171, [], 0), (.iconst 1, 172, [], 0), (.invokevirtual 189, 173, [161, 1, 11], 0), (.ireturn, 176, [], 1), (.aload_n 0, 177, [], 0), (.getfield 173, 178, [11, 14], 0), (.istore 4, 181, [], 0), (.aload_n 0, 183, [], 0), (.invokevirtual 192, 184, [216, 0, 11], 0), (.aload_n 0, 187, [], 0), (.getfield 163, 188, [11, 11], 0), (.iconst 2, 191, [], 0), (.if_icmp .eq 9, 192, [111], 0), (.aload_n 0, 195, [], 0), (.iconst 1, 196, [], 0), (.invokevirtual 189, 197, [161, 1, 11], 0), (.ireturn, 200, [], 1), (.aload_n 0, 201, [], 0), (.iload_n 3, 202, [], 0), (.iload 4, 203, [], 0), (.aload_n 0, 205, [], 0), (.getfield 173, 206, [11, 14], 0), (.invokevirtual 412, 209, [174, 3, 11], 0), (.aload_n 0, 212, [], 0), (.invokevirtual 192, 213, [216, 0, 11], 0), (.iconst 1, 216, [], 0), (.ireturn, 217, [], 1)], (0, 11, 0), (0, 0))
set_option maxRecDepth 100000 in
def mt_X12_pays : mj_T := (yX12_pays, cX12_pays, 3, none, [(.aload_n 0, 0, [], 0), (.iload_n 1, 1, [], 0), (.iconst 1, 2, [], 0), (.iload_n 2, 3, [], 0), (.ineg, 4, [], 0), (.invokevirtual 288, 5, [214, 3, 11], 0), (.aload_n 0, 8, [], 0), (.iload_n 1, 9, [], 0), (.iconst 5, 10, [], 0), (.iload_n 2, 11, [], 0), (.invokevirtual 288, 12, [214, 3, 11], 0), (.return_, 15, [], 0)], (0, 11, 2), (0, 0))
set_option maxRecDepth 100000 in
def mt_X12_peek : mj_T := (yX12_peek, cX12_peek, 1, (some .int), [(.aload_n 0, 0, [], 0), (.getfield 21, 1, [11, 4], 0), (.aload_n 0, 4, [], 0), (.getfield 18, 5, [11, 3], 0), (.if_icmp .ge 19, 8, [13], 0), (.aload_n 0, 11, [], 0), (.getfield 14, 12, [11, 1], 0), (.aload_n 0, 15, [], 0), (.getfield 21, 16, [11, 4], 0), (.baload, 19, [], 0), (.sipush 255, 20, [], 0), (.iand, 23, [], 0), (.goto 4, 24, [14], 0), (.iconst (-1), 27, [], 0), (.ireturn, 28, [], 0)], (0, 11, 0), (0, 0))
set_option maxRecDepth 100000 in
def mt_X12_placeOf : mj_T := (yX12_placeOf, cX12_placeOf, 2, (some .int), [(.iload_n 1, 0, [], 0), (.bipush 8, 1, [], 0), (.if_icmp .ne 12, 3, [8], 0), (.aload_n 0, 6, [], 0), (.getfield 33, 7, [11, 6], 0), (.iconst 0, 10, [], 0), (.iaload, 11, [], 0), (.goto 4, 12, [9], 0), (.iload_n 1, 15, [], 0), (.ireturn, 16, [], 0)], (0, 11, 1), (0, 0))
set_option maxRecDepth 100000 in
def mt_X12_plain : mj_T := (yX12_plain, cX12_plain, 2, (some .int), [(.aload_n 0, 0, [], 0), (.iconst 0, 1, [], 0), (.putfield 1, 2, [11, 0], 0), (.aload_n 0, 5, [], 0), (.sipush 900, 6, [], 0), (.invokevirtual 242, 9, [245, 1, 11], 0), (.aload_n 0, 12, [], 0), (.iconst 0, 13, [], 0), (.putfield 180, 14, [11, 15], 0), (.aload_n 0, 17, [], 0), (.iconst 0, 18, [], 0), (.putfield 245, 19, [11, 19], 0), (.aload_n 0, 22, [], 0), (.iconst 0, 23, [], 0), (.putfield 229, 24, [11, 20], 0), (.aload_n 0, 27, [], 0), (.iconst 0, 28, [], 0), (.putfield 239, 29, [11, 21], 0), (.aload_n 0, 32, [], 0), (.iconst 0, 33, [], 0), (.putfield 210, 34, [11, 22], 0), (.iconst 0, 37, [], 0), (.istore_n 1, 38, [], 0), (.iload_n 1, 39, [], 0), (.iconst 4, 40, [], 0), (.if_icmp .ge 16, 41, [33], 0), (.aload_n 0, 44, [], 0), (.getfield 50, 45, [11, 23], 0), (.iload_n 1, 48, [], 0), (.iconst 0, 49, [], 0), (.iastore, 50, [], 0), (.iinc 1 1, 51, [], 0), (.goto (-15), 54, [23], 0), (.iconst 0, 57, [], 0), (.istore_n 1, 58, [], 0), (.iload_n 1, 59, [], 0), (.sipush 221, 60, [], 0), (.if_icmp .ge 16, 63, [45], 0), (.aload_n 0, 66, [], 0), (.getfield 37, 67, [11, 7], 0), (.iload_n 1, 70, [], 0), (.iconst 0, 71, [], 0), (.iastore, 72, [], 0), (.iinc 1 1, 73, [], 0), (.goto (-17), 76, [35], 0), (.aload_n 0, 79, [], 0), (.getfield 37, 80, [11, 7], 0), (.iconst 3, 83, [], 0), (.iconst 3, 84, [], 0), (.iastore, 85, [], 0), (.aload_n 0, 86, [], 0), (.invokevirtual 192, 87, [216, 0, 11], 0), (.aload_n 0, 90, [], 0), (.getfield 163, 91, [11, 11], 0), (.ifCond .eq 39, 94, [74], 0), (.aload_n 0, 97, [], 0), (.invokevirtual 248, 98, [237, 0, 11], 0), (.ifCond .eq 12, 101, [62], 0), (.aload_n 0, 104, [], 0), (.bipush 59, 105, [], 0), (.invokevirtual 251, 107, [242, 1, 11], 0), (.ifCond .ne 10, 110, [67], 0), (.iconst (-1), 113, [], 0), (.aload_n 0, 114, [], 0), (.getfield 183, 115, [11, 16], 0), (.isub, 118, [], 0), (.ireturn, 119, [], 0), (.aload_n 0, 120, [], 0), (.dup, 121, [], 0), (.getfield 245, 122, [11, 19], 0), (.iconst 1, 125, [], 0), (.iadd, 126, [], 0), (.putfield 245, 127, [11, 19], 0), (.goto (-40), 130, [52], 0), (.iconst 0, 133, [], 0), (.istore_n 1, 134, [], 0), (.iload_n 1, 135, [], 0), (.sipush 537, 136, [], 0), (.if_icmp .ge 32, 139, [94], 0), (.aload_n 0, 142, [], 0), (.getfield 33, 143, [11, 6], 0), (.iload_n 1, 146, [], 0), (.iload_n 1, 147, [], 0), (.sipush 221, 148, [], 0), (.if_icmp .ge 12, 151, [90], 0), (.aload_n 0, 154, [], 0), (.getfield 37, 155, [11, 7], 0), (.iload_n 1, 158, [], 0), (.iaload, 159, [], 0), (.goto 4, 160, [91], 0), (.iconst 0, 163, [], 0), (.iastore, 164, [], 0), (.iinc 1 1, 165, [], 0), (.goto (-33), 168, [76], 0), (.iconst 0, 171, [], 0), (.istore_n 1, 172, [], 0), (.iload_n 1, 173, [], 0), (.bipush 8, 174, [], 0), (.if_icmp .ge 24, 176, [111], 0), (.aload_n 0, 179, [], 0), (.getfield 43, 180, [11, 9], 0), (.iload_n 1, 183, [], 0), (.aload_n 0, 184, [], 0), (.getfield 43, 185, [11, 9], 0), (.bipush 8, 188, [], 0), (.iload_n 1, 190, [], 0), (.iadd, 191, [], 0), (.laload, 192, [], 0), (.lastore, 193, [], 0), (.iinc 1 1, 194, [], 0), (.goto (-24), 197, [96], 0), (.aload_n 0, 200, [], 0), (.iconst 0, 201, [], 0), (.putfield 254, 202, [11, 28], 0), (.aload_n 0, 205, [], 0), (.dup, 206, [], 0), (.getfield 257, 207, [11, 26], 0), (.iconst 1, 210, [], 0), (.iadd, 211, [], 0), (.putfield 257, 212, [11, 26], 0), (.aload_n 0, 215, [], 0), (.aload_n 0, 216, [], 0), (.getfield 257, 217, [11, 26], 0), (.putfield 260, 220, [11, 25], 0), (.aload_n 0, 223, [], 0), (.getfield 245, 224, [11, 19], 0), (.ireturn, 227, [], 0)], (0, 11, 0), (0, 0))
set_option maxRecDepth 100000 in
def mt_X12_plan : mj_T := (yX12_plan, cX12_plan, 2, (some .int), [(.aload_n 0, 0, [], 0), (.iconst 0, 1, [], 0), (.putfield 1, 2, [11, 0], 0), (.aload_n 0, 5, [], 0), (.getfield 349, 6, [11, 39], 0), (.ifCond .eq 19, 9, [14], 0), (.iload_n 1, 12, [], 0), (.invokestatic 273, 13, [200, 1, 11], 0), (.ifCond .eq 12, 16, [14], 0), (.aload_n 0, 19, [], 0), (.getfield 68, 20, [11, 38], 0), (.iload_n 1, 23, [], 0), (.iaload, 24, [], 0), (.goto 4, 25, [15], 0), (.iconst (-1), 28, [], 0), (.ireturn, 29, [], 0)], (0, 11, 1), (0, 0))
set_option maxRecDepth 100000 in
def mt_X12_price : mj_T := (yX12_price, cX12_price, 2, (some .int), [(.aload_n 0, 0, [], 0), (.iconst 0, 1, [], 0), (.putfield 1, 2, [11, 0], 0), (.aload_n 0, 5, [], 0), (.getfield 356, 6, [11, 44], 0), (.ifCond .eq 19, 9, [14], 0), (.iload_n 1, 12, [], 0), (.invokestatic 273, 13, [200, 1, 11], 0), (.ifCond .eq 12, 16, [14], 0), (.aload_n 0, 19, [], 0), (.getfield 74, 20, [11, 42], 0), (.iload_n 1, 23, [], 0), (.iaload, 24, [], 0), (.goto 4, 25, [15], 0), (.iconst (-1), 28, [], 0), (.ireturn, 29, [], 0)], (0, 11, 1), (0, 0))
set_option maxRecDepth 100000 in
def mt_X12_put : mj_T := (yX12_put, cX12_put, 2, none, [(.aload_n 0, 0, [], 0), (.getfield 86, 1, [11, 50], 0), (.aload_n 0, 4, [], 0), (.getfield 391, 5, [11, 51], 0), (.iload_n 1, 8, [], 0), (.i2b, 9, [], 0), (.bastore, 10, [], 0), (.aload_n 0, 11, [], 0), (.dup, 12, [], 0), (.getfield 391, 13, [11, 51], 0), (.iconst 1, 16, [], 0), (.iadd, 17, [], 0), (.putfield 391, 18, [11, 51], 0), (.return_, 21, [], 0)], (0, 11, 1), (0, 0))
set_option maxRecDepth 100000 in
def mt_X12_putName : mj_T := (yX12_putName, cX12_putName, 4, none, [(.aload_n 0, 0, [], 0), (.bipush 32, 1, [], 0), (.invokevirtual 394, 3, [229, 1, 11], 0), (.bipush 56, 6, [], 0), (.istore_n 3, 8, [], 0), (.iload_n 3, 9, [], 0), (.ifCond .lt 33, 10, [25], 0), (.lload_n 1, 13, [], 0), (.iload_n 3, 14, [], 0), (.lshr, 15, [], 0), (.ldc2_w 397, 16, [], 255), (.land, 19, [], 0), (.lconst 0, 20, [], 0), (.lcmp, 21, [], 0), (.ifCond .eq 15, 22, [23], 0), (.aload_n 0, 25, [], 0), (.lload_n 1, 26, [], 0), (.iload_n 3, 27, [], 0), (.lshr, 28, [], 0), (.ldc2_w 397, 29, [], 255), (.land, 32, [], 0), (.l2i, 33, [], 0), (.invokevirtual 394, 34, [229, 1, 11], 0), (.iinc 3 (-8), 37, [], 0), (.goto (-31), 40, [5], 0), (.return_, 43, [], 0)], (0, 11, 1), (0, 0))
set_option maxRecDepth 100000 in
def mt_X12_putNumber : mj_T := (yX12_putNumber, cX12_putNumber, 2, none, [(.iload_n 1, 0, [], 0), (.bipush 100, 1, [], 0), (.if_icmp .lt 14, 3, [10], 0), (.aload_n 0, 6, [], 0), (.bipush 48, 7, [], 0), (.iload_n 1, 9, [], 0), (.bipush 100, 10, [], 0), (.idiv, 12, [], 0), (.iadd, 13, [], 0), (.invokevirtual 394, 14, [229, 1, 11], 0), (.iload_n 1, 17, [], 0), (.bipush 10, 18, [], 0), (.if_icmp .lt 17, 20, [22], 0), (.aload_n 0, 23, [], 0), (.bipush 48, 24, [], 0), (.iload_n 1, 26, [], 0), (.bipush 10, 27, [], 0), (.idiv, 29, [], 0), (.bipush 10, 30, [], 0), (.irem, 32, [], 0), (.iadd, 33, [], 0), (.invokevirtual 394, 34, [229, 1, 11], 0), (.aload_n 0, 37, [], 0), (.bipush 48, 38, [], 0), (.iload_n 1, 40, [], 0), (.bipush 10, 41, [], 0), (.irem, 43, [], 0), (.iadd, 44, [], 0), (.invokevirtual 394, 45, [229, 1, 11], 0), (.return_, 48, [], 0)], (0, 11, 1), (0, 0))
set_option maxRecDepth 100000 in
def mt_X12_readBid : mj_T := (yX12_readBid, cX12_readBid, 3, (some .boolean), [(.aload_n 0, 0, [], 0), (.getfield 239, 1, [11, 21], 0), (.bipush 40, 4, [], 0), (.if_icmp .ne 9, 6, [8], 0), (.aload_n 0, 9, [], 0), (.iconst 4, 10, [], 0), (.invokevirtual 189, 11, [161, 1, 11], 0), (.ireturn, 14, [], 1), (.aload_n 0, 15, [], 0), (.invokevirtual 192, 16, [216, 0, 11], 0), (.aload_n 0, 19, [], 0), (.invokevirtual 232, 20, [201, 0, 11], 0), (.ifCond .ne 9, 23, [17], 0), (.aload_n 0, 26, [], 0), (.iconst 1, 27, [], 0), (.invokevirtual 189, 28, [161, 1, 11], 0), (.ireturn, 31, [], 1), (.aload_n 0, 32, [], 0), (.bipush 8, 33, [], 0), (.aload_n 0, 35, [], 0), (.getfield 37, 36, [11, 7], 0), (.iconst 0, 39, [], 0), (.iaload, 40, [], 0), (.invokevirtual 235, 41, [188, 2, 11], 0), (.istore_n 1, 44, [], 0), (.iload_n 1, 45, [], 0), (.ifCond .ge 9, 46, [31], 0), (.aload_n 0, 49, [], 0), (.iconst 3, 50, [], 0), (.invokevirtual 189, 51, [161, 1, 11], 0), (.ireturn, 54, [], 1), (.aload_n 0, 55, [], 0), (.invokevirtual 192, 56, [216, 0, 11], 0), (.aload_n 0, 59, [], 0), (.getfield 163, 60, [11, 11], 0), (.iconst 2, 63, [], 0), (.if_icmp .eq 9, 64, [41], 0), (.aload_n 0, 67, [], 0), (.iconst 1, 68, [], 0), (.invokevirtual 189, 69, [161, 1, 11], 0), (.ireturn, 72, [], 1), (.aload_n 0, 73, [], 0), (.getfield 173, 74, [11, 14], 0), (.bipush 11, 77, [], 0), (.if_icmp .le 9, 79, [49], 0), (.aload_n 0, 82, [], 0), (.iconst 2, 83, [], 0), (.invokevirtual 189, 84, [161, 1, 11], 0), (.ireturn, 87, [], 1), (.aload_n 0, 88, [], 0), (.getfield 173, 89, [11, 14], 0), (.istore_n 2, 92, [], 0), (.aload_n 0, 93, [], 0), (.getfield 37, 94, [11, 7], 0), (.bipush 88, 97, [], 0), (.bipush 12, 99, [], 0), (.iload_n 1, 101, [], 0), (.imul, 102, [], 0), (.iadd, 103, [], 0), (.iload_n 2, 104, [], 0), (.iadd, 105, [], 0), (.iaload, 106, [], 0), (.ifCond .le 9, 107, [67], 0), (.aload_n 0, 110, [], 0), (.iconst 3, 111, [], 0), (.invokevirtual 189, 112, [161, 1, 11], 0), (.ireturn, 115, [], 1), (.aload_n 0, 116, [], 0), (.invokevirtual 192, 117, [216, 0, 11], 0), (.aload_n 0, 120, [], 0), (.iconst 1, 121, [], 0), (.sipush 999, 122, [], 0), (.invokevirtual 217, 125, [246, 2, 11], 0), (.ifCond .ne 5, 128, [76], 0), (.iconst 0, 131, [], 0), (.ireturn, 132, [], 1), (.aload_n 0, 133, [], 0), (.getfield 37, 134, [11, 7], 0), (.bipush 88, 137, [], 0), (.bipush 12, 139, [], 0), (.iload_n 1, 141, [], 0), (.imul, 142, [], 0), (.iadd, 143, [], 0), (.iload_n 2, 144, [], 0), (.iadd, 145, [], 0), (.aload_n 0, 146, [], 0), (.getfield 199, 147, [11, 18], 0), (.iastore, 150, [], 0), (.aload_n 0, 151, [], 0), (.dup, 152, [], 0), (.getfield 239, 153, [11, 21], 0), (.iconst 1, 156, [], 0), (.iadd, 157, [], 0), (.putfield 239, 158, [11, 21], 0), (.iconst 1, 161, [], 0), (.ireturn, 162, [], 1)], (0, 11, 0), (0, 0))
set_option maxRecDepth 100000 in
def mt_X12_readOf : mj_T := (yX12_readOf, cX12_readOf, 5, (some .boolean), [(.aload_n 0, 0, [], 0), (.invokevirtual 192, 1, [216, 0, 11], 0), (.aload_n 0, 4, [], 0), (.invokevirtual 232, 5, [201, 0, 11], 0), (.ifCond .ne 9, 8, [9], 0), (.aload_n 0, 11, [], 0), (.iconst 1, 12, [], 0), (.invokevirtual 189, 13, [161, 1, 11], 0), (.ireturn, 16, [], 1), (.aload_n 0, 17, [], 0), (.bipush 8, 18, [], 0), (.aload_n 0, 20, [], 0), (.getfield 37, 21, [11, 7], 0), (.iconst 0, 24, [], 0), (.iaload, 25, [], 0), (.invokevirtual 235, 26, [188, 2, 11], 0), (.istore 4, 29, [], 0), (.iload 4, 31, [], 0), (.ifCond .lt 17, 33, [26], 0), (.aload_n 0, 36, [], 0), (.getfield 50, 37, [11, 23], 0), (.iload_n 1, 40, [], 0), (.iaload, 41, [], 0), (.iload 4, 42, [], 0), (.invokestatic 213, 44, [169, 2, 11], 0), (.ifCond .eq 9, 47, [30], 0), (.aload_n 0, 50, [], 0), (.iconst 3, 51, [], 0), (.invokevirtual 189, 52, [161, 1, 11], 0), (.ireturn, 55, [], 1), (.aload_n 0, 56, [], 0), (.getfield 50, 57, [11, 23], 0), (.iload_n 1, 60, [], 0), (.dup2, 61, [], 0), (.iaload, 62, [], 0), (.iconst 1, 63, [], 0), (.iload 4, 64, [], 0), (.ishl, 66, [], 0), (.ior, 67, [], 0), (.iastore, 68, [], 0), (.aload_n 0, 69, [], 0), (.iload 4, 70, [], 0), (.putfield 226, 72, [11, 24], 0), (.aload_n 0, 75, [], 0), (.invokevirtual 192, 76, [216, 0, 11], 0), (.aload_n 0, 79, [], 0), (.iconst 0, 80, [], 0), (.iload_n 3, 81, [], 0), (.invokevirtual 217, 82, [246, 2, 11], 0), (.ifCond .ne 5, 85, [52], 0), (.iconst 0, 88, [], 0), (.ireturn, 89, [], 1), (.aload_n 0, 90, [], 0), (.getfield 37, 91, [11, 7], 0), (.iconst 4, 94, [], 0), (.bipush 9, 95, [], 0), (.iload 4, 97, [], 0), (.imul, 99, [], 0), (.iadd, 100, [], 0), (.iload_n 2, 101, [], 0), (.iadd, 102, [], 0), (.aload_n 0, 103, [], 0), (.getfield 199, 104, [11, 18], 0), (.iastore, 107, [], 0), (.iconst 1, 108, [], 0), (.ireturn, 109, [], 1)], (0, 11, 3), (0, 0))
set_option maxRecDepth 100000 in
def mt_X12_readTown : mj_T := (yX12_readTown, cX12_readTown, 3, (some .boolean), [(.aload_n 0, 0, [], 0), (.getfield 37, 1, [11, 7], 0), (.iconst 0, 4, [], 0), (.iaload, 5, [], 0), (.istore_n 1, 6, [], 0), (.iload_n 1, 7, [], 0), (.bipush 8, 8, [], 0), (.if_icmp .ne 9, 10, [12], 0), (.aload_n 0, 13, [], 0), (.iconst 4, 14, [], 0), (.invokevirtual 189, 15, [161, 1, 11], 0), (.ireturn, 18, [], 1), (.aload_n 0, 19, [], 0), (.invokevirtual 192, 20, [216, 0, 11], 0), (.aload_n 0, 23, [], 0), (.invokevirtual 232, 24, [201, 0, 11], 0), (.ifCond .ne 9, 27, [21], 0), (.aload_n 0, 30, [], 0), (.iconst 1, 31, [], 0), (.invokevirtual 189, 32, [161, 1, 11], 0), (.ireturn, 35, [], 1), (.aload_n 0, 36, [], 0), (.bipush 8, 37, [], 0), (.iload_n 1, 39, [], 0), (.invokevirtual 235, 40, [188, 2, 11], 0), (.ifCond .lt 9, 43, [30], 0), (.aload_n 0, 46, [], 0), (.iconst 3, 47, [], 0), (.invokevirtual 189, 48, [161, 1, 11], 0), (.ireturn, 51, [], 1), (.aload_n 0, 52, [], 0), (.getfield 43, 53, [11, 9], 0), (.bipush 8, 56, [], 0), (.iload_n 1, 58, [], 0), (.iadd, 59, [], 0), (.aload_n 0, 60, [], 0), (.getfield 176, 61, [11, 17], 0), (.lastore, 64, [], 0), (.aload_n 0, 65, [], 0), (.invokevirtual 192, 66, [216, 0, 11], 0), (.iconst 0, 69, [], 0), (.istore_n 2, 70, [], 0), (.iload_n 2, 71, [], 0), (.iconst 4, 72, [], 0), (.if_icmp .ge 50, 73, [72], 0), (.aload_n 0, 76, [], 0), (.iconst 0, 77, [], 0), (.iload_n 2, 78, [], 0), (.iconst 2, 79, [], 0), (.irem, 80, [], 0), (.ifCond .ne 8, 81, [53], 0), (.bipush 99, 84, [], 0), (.goto 6, 86, [54], 0), (.sipush 999, 89, [], 0), (.invokevirtual 217, 92, [246, 2, 11], 0), (.ifCond .ne 5, 95, [58], 0), (.iconst 0, 98, [], 0), (.ireturn, 99, [], 1), (.aload_n 0, 100, [], 0), (.getfield 37, 101, [11, 7], 0), (.iconst 4, 104, [], 0), (.bipush 9, 105, [], 0), (.iload_n 1, 107, [], 0), (.imul, 108, [], 0), (.iadd, 109, [], 0), (.iload_n 2, 110, [], 0), (.iadd, 111, [], 0), (.aload_n 0, 112, [], 0), (.getfield 199, 113, [11, 18], 0), (.iastore, 116, [], 0), (.iinc 2 1, 117, [], 0), (.goto (-49), 120, [42], 0), (.aload_n 0, 123, [], 0), (.getfield 37, 124, [11, 7], 0), (.iconst 0, 127, [], 0), (.dup2, 128, [], 0), (.iaload, 129, [], 0), (.iconst 1, 130, [], 0), (.iadd, 131, [], 0), (.iastore, 132, [], 0), (.iconst 1, 133, [], 0), (.ireturn, 134, [], 1)], (0, 11, 0), (0, 0))
set_option maxRecDepth 100000 in
def mt_X12_restore : mj_T := (yX12_restore, cX12_restore, 3, (some .boolean), [(.aload_n 0, 0, [], 0), (.iconst 0, 1, [], 0), (.putfield 1, 2, [11, 0], 0), (.iload_n 1, 5, [], 0), (.iconst 0, 6, [], 0), (.iconst 1, 7, [], 0), (.invokestatic 195, 8, [198, 3, 11], 0), (.ifCond .eq 12, 11, [13], 0), (.aload_n 0, 14, [], 0), (.getfield 102, 15, [11, 61], 0), (.iload_n 1, 18, [], 0), (.baload, 19, [], 0), (.ifCond .ne 5, 20, [15], 0), (.iconst 0, 23, [], 0), (.ireturn, 24, [], 1), (.iconst 0, 25, [], 0), (.istore_n 2, 26, [], 0), (.iload_n 2, 27, [], 0), (.sipush 537, 28, [], 0), (.if_icmp .ge 27, 31, [34], 0), (.aload_n 0, 34, [], 0), (.getfield 33, 35, [11, 6], 0), (.iload_n 2, 38, [], 0), (.aload_n 0, 39, [], 0), (.getfield 96, 40, [11, 59], 0), (.sipush 538, 43, [], 0), (.iload_n 1, 46, [], 0), (.imul, 47, [], 0), (.iload_n 2, 48, [], 0), (.iadd, 49, [], 0), (.iaload, 50, [], 0), (.iastore, 51, [], 0), (.iinc 2 1, 52, [], 0), (.goto (-28), 55, [17], 0), (.aload_n 0, 58, [], 0), (.aload_n 0, 59, [], 0), (.getfield 96, 60, [11, 59], 0), (.sipush 538, 63, [], 0), (.iload_n 1, 66, [], 0), (.imul, 67, [], 0), (.sipush 537, 68, [], 0), (.iadd, 71, [], 0), (.iaload, 72, [], 0), (.putfield 260, 73, [11, 25], 0), (.iconst 0, 76, [], 0), (.istore_n 2, 77, [], 0), (.iload_n 2, 78, [], 0), (.bipush 8, 79, [], 0), (.if_icmp .ge 26, 81, [63], 0), (.aload_n 0, 84, [], 0), (.getfield 43, 85, [11, 9], 0), (.iload_n 2, 88, [], 0), (.aload_n 0, 89, [], 0), (.getfield 99, 90, [11, 60], 0), (.bipush 8, 93, [], 0), (.iload_n 1, 95, [], 0), (.imul, 96, [], 0), (.iload_n 2, 97, [], 0), (.iadd, 98, [], 0), (.laload, 99, [], 0), (.lastore, 100, [], 0), (.iinc 2 1, 101, [], 0), (.goto (-26), 104, [46], 0), (.aload_n 0, 107, [], 0), (.iconst 0, 108, [], 0), (.putfield 254, 109, [11, 28], 0), (.iconst 1, 112, [], 0), (.ireturn, 113, [], 1)], (0, 11, 1), (0, 0))
set_option maxRecDepth 100000 in
def mt_X12_rounds : mj_T := (yX12_rounds, cX12_rounds, 9, (some .int), [(.aload_n 0, 0, [], 0), (.iconst 0, 1, [], 0), (.putfield 1, 2, [11, 0], 0), (.iload_n 1, 5, [], 0), (.iconst 1, 6, [], 0), (.bipush 99, 7, [], 0), (.invokestatic 195, 9, [198, 3, 11], 0), (.ifCond .eq 12, 12, [13], 0), (.aload_n 0, 15, [], 0), (.getfield 33, 16, [11, 6], 0), (.iconst 0, 19, [], 0), (.iaload, 20, [], 0), (.ifCond .ne 5, 21, [15], 0), (.iconst (-1), 24, [], 0), (.ireturn, 25, [], 0), (.iconst 0, 26, [], 0), (.istore_n 2, 27, [], 0), (.iload_n 2, 28, [], 0), (.bipush 8, 29, [], 0), (.if_icmp .ge 16, 31, [27], 0), (.aload_n 0, 34, [], 0), (.getfield 71, 35, [11, 41], 0), (.iload_n 2, 38, [], 0), (.iconst (-1), 39, [], 0), (.iastore, 40, [], 0), (.iinc 2 1, 41, [], 0), (.goto (-16), 44, [17], 0), (.iconst 0, 47, [], 0), (.istore_n 2, 48, [], 0), (.iload_n 2, 49, [], 0), (.bipush 12, 50, [], 0), (.if_icmp .ge 16, 52, [39], 0), (.aload_n 0, 55, [], 0), (.getfield 74, 56, [11, 42], 0), (.iload_n 2, 59, [], 0), (.iconst 0, 60, [], 0), (.iastore, 61, [], 0), (.iinc 2 1, 62, [], 0), (.goto (-16), 65, [29], 0), (.aload_n 0, 68, [], 0), (.iconst 1, 69, [], 0), (.putfield 356, 70, [11, 44], 0), (.aload_n 0, 73, [], 0), (.aload_n 0, 74, [], 0), (.getfield 33, 75, [11, 6], 0), (.iconst 0, 78, [], 0), (.iaload, 79, [], 0), (.putfield 359, 80, [11, 43], 0), (.iconst 0, 83, [], 0), (.istore_n 2, 84, [], 0), (.iconst 1, 85, [], 0), (.istore_n 3, 86, [], 0), (.iload_n 3, 87, [], 0), (.ifCond .eq 175, 88, [143], 0), (.iload_n 2, 91, [], 0), (.sipush 1000, 92, [], 0), (.if_icmp .ge 168, 95, [143], 0), (.iconst 0, 98, [], 0), (.istore_n 3, 99, [], 0), (.iinc 2 1, 100, [], 0), (.iconst 0, 103, [], 0), (.istore 4, 104, [], 0), (.iload 4, 106, [], 0), (.aload_n 0, 108, [], 0), (.getfield 33, 109, [11, 6], 0), (.iconst 0, 112, [], 0), (.iaload, 113, [], 0), (.if_icmp .ge 146, 114, [142], 0), (.aload_n 0, 117, [], 0), (.getfield 71, 118, [11, 41], 0), (.iload 4, 121, [], 0), (.iaload, 123, [], 0), (.ifCond .lt 6, 124, [74], 0), (.goto 127, 127, [140], 0), (.iconst (-1), 130, [], 0), (.istore 5, 131, [], 0), (.iconst 0, 133, [], 0), (.istore 6, 134, [], 0), (.iconst 0, 136, [], 0), (.istore 7, 137, [], 0), (.iload 7, 139, [], 0), (.bipush 12, 141, [], 0), (.if_icmp .ge 60, 143, [111], 0), (.aload_n 0, 146, [], 0), (.iload 4, 147, [], 0), (.iload 7, 149, [], 0), (.invokevirtual 276, 151, [167, 2, 11], 0), (.aload_n 0, 154, [], 0), (.getfield 74, 155, [11, 42], 0), (.iload 7, 158, [], 0), (.iaload, 160, [], 0), (.isub, 161, [], 0), (.aload_n 0, 162, [], 0), (.iload 7, 163, [], 0), (.invokevirtual 362, 165, [194, 1, 11], 0), (.ifCond .lt 7, 168, [98], 0), (.iload_n 1, 171, [], 0), (.goto 4, 172, [99], 0), (.iconst 0, 175, [], 0), (.isub, 176, [], 0), (.istore 8, 177, [], 0), (.iload 8, 179, [], 0), (.iload 6, 181, [], 0), (.if_icmp .gt 6, 183, [105], 0), (.goto 11, 186, [109], 0), (.iload 8, 189, [], 0), (.istore 6, 191, [], 0), (.iload 7, 193, [], 0), (.istore 5, 195, [], 0), (.iinc 7 1, 197, [], 0), (.goto (-61), 200, [80], 0), (.iload 5, 203, [], 0), (.ifCond .ge 6, 205, [114], 0), (.goto 46, 208, [140], 0), (.aload_n 0, 211, [], 0), (.iload 5, 212, [], 0), (.invokevirtual 362, 214, [194, 1, 11], 0), (.istore 7, 217, [], 0), (.iload 7, 219, [], 0), (.ifCond .lt 22, 221, [133], 0), (.aload_n 0, 224, [], 0), (.getfield 74, 225, [11, 42], 0), (.iload 5, 228, [], 0), (.dup2, 230, [], 0), (.iaload, 231, [], 0), (.iload_n 1, 232, [], 0), (.iadd, 233, [], 0), (.iastore, 234, [], 0), (.aload_n 0, 235, [], 0), (.getfield 71, 236, [11, 41], 0), (.iload 7, 239, [], 0), (.iconst (-1), 241, [], 0), (.iastore, 242, [], 0), (.aload_n 0, 243, [], 0), (.getfield 71, 244, [11, 41], 0), (.iload 4, 247, [], 0), (.iload 5, 249, [], 0), (.iastore, 251, [], 0), (.iconst 1, 252, [], 0), (.istore_n 3, 253, [], 0), (.iinc 4 1, 254, [], 0), (.goto (-151), 257, [62], 0), (.goto (-173), 260, [52], 0), (.iload_n 2, 263, [], 0), (.ireturn, 264, [], 0)], (0, 11, 1), (0, 0))
set_option maxRecDepth 100000 in
def mt_X12_row : mj_T := (yX12_row, cX12_row, 2, (some .boolean), [(.aload_n 0, 0, [], 0), (.ldc2_w 105, 1, [], 1953462126), (.invokevirtual 202, 4, [206, 1, 11], 0), (.ifCond .eq 8, 7, [7], 0), (.aload_n 0, 10, [], 0), (.invokevirtual 206, 11, [234, 0, 11], 0), (.ireturn, 14, [], 1), (.aload_n 0, 15, [], 0), (.ldc2_w 107, 16, [], 512736126322), (.invokevirtual 202, 19, [206, 1, 11], 0), (.ifCond .eq 108, 22, [70], 0), (.aload_n 0, 25, [], 0), (.invokevirtual 192, 26, [216, 0, 11], 0), (.aload_n 0, 29, [], 0), (.getfield 163, 30, [11, 11], 0), (.iconst 2, 33, [], 0), (.if_icmp .eq 9, 34, [21], 0), (.aload_n 0, 37, [], 0), (.iconst 1, 38, [], 0), (.invokevirtual 189, 39, [161, 1, 11], 0), (.ireturn, 42, [], 1), (.aload_n 0, 43, [], 0), (.getfield 173, 44, [11, 14], 0), (.bipush 11, 47, [], 0), (.if_icmp .le 9, 49, [29], 0), (.aload_n 0, 52, [], 0), (.iconst 2, 53, [], 0), (.invokevirtual 189, 54, [161, 1, 11], 0), (.ireturn, 57, [], 1), (.aload_n 0, 58, [], 0), (.getfield 210, 59, [11, 22], 0), (.aload_n 0, 62, [], 0), (.getfield 173, 63, [11, 14], 0), (.invokestatic 213, 66, [169, 2, 11], 0), (.ifCond .eq 9, 69, [39], 0), (.aload_n 0, 72, [], 0), (.iconst 3, 73, [], 0), (.invokevirtual 189, 74, [161, 1, 11], 0), (.ireturn, 77, [], 1), (.aload_n 0, 78, [], 0), (.dup, 79, [], 0), (.getfield 210, 80, [11, 22], 0), (.iconst 1, 83, [], 0), (.aload_n 0, 84, [], 0), (.getfield 173, 85, [11, 14], 0), (.ishl, 88, [], 0), (.ior, 89, [], 0), (.putfield 210, 90, [11, 22], 0), (.aload_n 0, 93, [], 0), (.getfield 173, 94, [11, 14], 0), (.istore_n 1, 97, [], 0), (.aload_n 0, 98, [], 0), (.invokevirtual 192, 99, [216, 0, 11], 0), (.aload_n 0, 102, [], 0), (.iconst 0, 103, [], 0), (.sipush 999, 104, [], 0), (.invokevirtual 217, 107, [246, 2, 11], 0), (.ifCond .ne 5, 110, [60], 0), (.iconst 0, 113, [], 0), (.ireturn, 114, [], 1), (.aload_n 0, 115, [], 0), (.getfield 37, 116, [11, 7], 0), (.bipush 76, 119, [], 0), (.iload_n 1, 121, [], 0), (.iadd, 122, [], 0), (.aload_n 0, 123, [], 0), (.getfield 199, 124, [11, 18], 0), (.iastore, 127, [], 0), (.iconst 1, 128, [], 0), (.ireturn, 129, [], 1), (.aload_n 0, 130, [], 0), (.ldc2_w 109, 131, [], 6449508), (.invokevirtual 202, 134, [206, 1, 11], 0), (.ifCond .eq 8, 137, [77], 0), (.aload_n 0, 140, [], 0), (.invokevirtual 220, 141, [232, 0, 11], 0), (.ireturn, 144, [], 1), (.aload_n 0, 145, [], 0), (.ldc2_w 111, 146, [], 1852138852), (.invokevirtual 202, 149, [206, 1, 11], 0), (.ifCond .eq 13, 152, [87], 0), (.aload_n 0, 155, [], 0), (.iconst 0, 156, [], 0), (.iconst 4, 157, [], 0), (.sipush 999, 158, [], 0), (.invokevirtual 223, 161, [233, 3, 11], 0), (.ireturn, 164, [], 1), (.aload_n 0, 165, [], 0), (.ldc2_w 113, 166, [], 1835625580), (.invokevirtual 202, 169, [206, 1, 11], 0), (.ifCond .eq 12, 172, [97], 0), (.aload_n 0, 175, [], 0), (.iconst 1, 176, [], 0), (.iconst 5, 177, [], 0), (.bipush 99, 178, [], 0), (.invokevirtual 223, 180, [233, 3, 11], 0), (.ireturn, 183, [], 1), (.aload_n 0, 184, [], 0), (.ldc2_w 115, 185, [], 108243533981541), (.invokevirtual 202, 188, [206, 1, 11], 0), (.ifCond .eq 13, 191, [107], 0), (.aload_n 0, 194, [], 0), (.iconst 2, 195, [], 0), (.bipush 6, 196, [], 0), (.bipush 99, 198, [], 0), (.invokevirtual 223, 200, [233, 3, 11], 0), (.ireturn, 203, [], 1), (.aload_n 0, 204, [], 0), (.ldc2_w 117, 205, [], 439854918756), (.invokevirtual 202, 208, [206, 1, 11], 0), (.ifCond .eq 54, 211, [143], 0), (.aload_n 0, 214, [], 0), (.iconst 3, 215, [], 0), (.bipush 7, 216, [], 0), (.bipush 99, 218, [], 0), (.invokevirtual 223, 220, [233, 3, 11], 0), (.ifCond .ne 5, 223, [119], 0), (.iconst 0, 226, [], 0), (.ireturn, 227, [], 1), (.aload_n 0, 228, [], 0), (.getfield 226, 229, [11, 24], 0), (.istore_n 1, 232, [], 0), (.aload_n 0, 233, [], 0), (.iconst 0, 234, [], 0), (.bipush 99, 235, [], 0), (.invokevirtual 217, 237, [246, 2, 11], 0), (.ifCond .ne 5, 240, [129], 0), (.iconst 0, 243, [], 0), (.ireturn, 244, [], 1), (.aload_n 0, 245, [], 0), (.getfield 37, 246, [11, 7], 0), (.iconst 4, 249, [], 0), (.bipush 9, 250, [], 0), (.iload_n 1, 252, [], 0), (.imul, 253, [], 0), (.iadd, 254, [], 0), (.bipush 8, 255, [], 0), (.iadd, 257, [], 0), (.aload_n 0, 258, [], 0), (.getfield 199, 259, [11, 18], 0), (.iastore, 262, [], 0), (.iconst 1, 263, [], 0), (.ireturn, 264, [], 1), (.aload_n 0, 265, [], 0), (.ldc2_w 119, 266, [], 1836021349), (.invokevirtual 202, 269, [206, 1, 11], 0), (.ifCond .eq 7, 272, [149], 0), (.iconst 0, 275, [], 0), (.goto 32, 276, [162], 0), (.aload_n 0, 279, [], 0), (.ldc2_w 121, 280, [], 1718186856), (.invokevirtual 202, 283, [206, 1, 11], 0), (.ifCond .eq 7, 286, [155], 0), (.iconst 1, 289, [], 0), (.goto 18, 290, [162], 0), (.aload_n 0, 293, [], 0), (.ldc2_w 123, 294, [], 8097881601010983781), (.invokevirtual 202, 297, [206, 1, 11], 0), (.ifCond .eq 7, 300, [161], 0), (.iconst 2, 303, [], 0), (.goto 4, 304, [162], 0), (.iconst (-1), 307, [], 0), (.istore_n 1, 308, [], 0), (.iload_n 1, 309, [], 0), (.ifCond .ge 9, 310, [169], 0), (.aload_n 0, 313, [], 0), (.iconst 1, 314, [], 0), (.invokevirtual 189, 315, [161, 1, 11], 0), (.ireturn, 318, [], 1), (.aload_n 0, 319, [], 0), (.getfield 229, 320, [11, 20], 0), (.iload_n 1, 323, [], 0), (.invokestatic 213, 324, [169, 2, 11], 0), (.ifCond .eq 9, 327, [178], 0), (.aload_n 0, 330, [], 0), (.iconst 3, 331, [], 0), (.invokevirtual 189, 332, [161, 1, 11], 0), (.ireturn, 335, [], 1), (.aload_n 0, 336, [], 0), (.dup, 337, [], 0), (.getfield 229, 338, [11, 20], 0), (.iconst 1, 341, [], 0), (.iload_n 1, 342, [], 0), (.ishl, 343, [], 0), (.ior, 344, [], 0), (.putfield 229, 345, [11, 20], 0), (.aload_n 0, 348, [], 0), (.invokevirtual 192, 349, [216, 0, 11], 0), (.aload_n 0, 352, [], 0), (.iload_n 1, 353, [], 0), (.iconst 2, 354, [], 0), (.if_icmp .ne 7, 355, [194], 0), (.iconst 1, 358, [], 0), (.goto 4, 359, [195], 0), (.iconst 0, 362, [], 0), (.iload_n 1, 363, [], 0), (.ifCond .ne 8, 364, [199], 0), (.bipush 99, 367, [], 0), (.goto 16, 369, [205], 0), (.iload_n 1, 372, [], 0), (.iconst 1, 373, [], 0), (.if_icmp .ne 9, 374, [204], 0), (.sipush 999, 377, [], 0), (.goto 5, 380, [205], 0), (.bipush 12, 383, [], 0), (.invokevirtual 217, 385, [246, 2, 11], 0), (.ifCond .ne 5, 388, [209], 0), (.iconst 0, 391, [], 0), (.ireturn, 392, [], 1), (.aload_n 0, 393, [], 0), (.getfield 37, 394, [11, 7], 0), (.iconst 1, 397, [], 0), (.iload_n 1, 398, [], 0), (.iadd, 399, [], 0), (.aload_n 0, 400, [], 0), (.getfield 199, 401, [11, 18], 0), (.iastore, 404, [], 0), (.iconst 1, 405, [], 0), (.ireturn, 406, [], 1)], (0, 11, 0), (0, 0))
set_option maxRecDepth 100000 in
def mt_X12_said : mj_T := (yX12_said, cX12_said, 4, (some .int), [(.aload_n 0, 0, [], 0), (.iconst 0, 1, [], 0), (.putfield 1, 2, [11, 0], 0), (.aload_n 0, 5, [], 0), (.getfield 33, 6, [11, 6], 0), (.sipush 356, 9, [], 0), (.iaload, 12, [], 0), (.ifCond .eq 19, 13, [16], 0), (.aload_n 0, 16, [], 0), (.getfield 33, 17, [11, 6], 0), (.sipush 221, 20, [], 0), (.iaload, 23, [], 0), (.ifCond .eq 8, 24, [16], 0), (.iload_n 1, 27, [], 0), (.iconst (-1), 28, [], 0), (.if_icmp .ge 5, 29, [18], 0), (.iconst (-1), 32, [], 0), (.ireturn, 33, [], 0), (.iconst 0, 34, [], 0), (.istore_n 2, 35, [], 0), (.iconst 0, 36, [], 0), (.istore_n 3, 37, [], 0), (.iload_n 3, 38, [], 0), (.aload_n 0, 39, [], 0), (.getfield 33, 40, [11, 6], 0), (.iconst 0, 43, [], 0), (.iaload, 44, [], 0), (.if_icmp .ge 30, 45, [41], 0), (.aload_n 0, 48, [], 0), (.iload_n 3, 49, [], 0), (.invokevirtual 443, 50, [202, 1, 11], 0), (.ifCond .ne 6, 53, [33], 0), (.goto 13, 56, [39], 0), (.iload_n 2, 59, [], 0), (.iload_n 1, 60, [], 0), (.if_icmp .ne 5, 61, [38], 0), (.iload_n 3, 64, [], 0), (.ireturn, 65, [], 0), (.iinc 2 1, 66, [], 0), (.iinc 3 1, 69, [], 0), (.goto (-34), 72, [22], 0), (.iload_n 1, 75, [], 0), (.iconst (-1), 76, [], 0), (.if_icmp .ne 7, 77, [46], 0), (.iload_n 2, 80, [], 0), (.goto 4, 81, [47], 0), (.iconst (-1), 84, [], 0), (.ireturn, 85, [], 0)], (0, 11, 1), (0, 0))
set_option maxRecDepth 100000 in
def mt_X12_sentence : mj_T := (yX12_sentence, cX12_sentence, 3, (some .int), [(.aload_n 0, 0, [], 0), (.iconst 0, 1, [], 0), (.putfield 1, 2, [11, 0], 0), (.aload_n 0, 5, [], 0), (.sipush 200, 6, [], 0), (.invokevirtual 242, 9, [245, 1, 11], 0), (.aload_n 0, 12, [], 0), (.iconst 0, 13, [], 0), (.putfield 180, 14, [11, 15], 0), (.aload_n 0, 17, [], 0), (.iconst 0, 18, [], 0), (.putfield 406, 19, [11, 53], 0), (.aload_n 0, 22, [], 0), (.iconst 0, 23, [], 0), (.putfield 421, 24, [11, 54], 0), (.aload_n 0, 27, [], 0), (.iconst 0, 28, [], 0), (.putfield 409, 29, [11, 55], 0), (.aload_n 0, 32, [], 0), (.iconst 1, 33, [], 0), (.putfield 415, 34, [11, 56], 0), (.aload_n 0, 37, [], 0), (.iconst 0, 38, [], 0), (.putfield 424, 39, [11, 57], 0), (.aload_n 0, 42, [], 0), (.invokevirtual 192, 43, [216, 0, 11], 0), (.iconst 1, 46, [], 0), (.istore_n 1, 47, [], 0), (.iload_n 1, 48, [], 0), (.ifCond .eq 83, 49, [71], 0), (.aload_n 0, 52, [], 0), (.getfield 424, 53, [11, 57], 0), (.ifCond .eq 45, 56, [56], 0), (.aload_n 0, 59, [], 0), (.getfield 163, 60, [11, 11], 0), (.ifCond .ne 38, 63, [56], 0), (.aload_n 0, 66, [], 0), (.invokevirtual 427, 67, [217, 0, 11], 0), (.aload_n 0, 70, [], 0), (.bipush 12, 71, [], 0), (.invokevirtual 430, 73, [207, 1, 11], 0), (.aload_n 0, 76, [], 0), (.getfield 409, 77, [11, 55], 0), (.ifCond .le 16, 80, [53], 0), (.aload_n 0, 83, [], 0), (.iconst 1, 84, [], 0), (.invokevirtual 189, 85, [161, 1, 11], 0), (.pop, 88, [], 0), (.iconst (-1), 89, [], 0), (.aload_n 0, 90, [], 0), (.getfield 183, 91, [11, 16], 0), (.isub, 94, [], 0), (.ireturn, 95, [], 0), (.iconst 0, 96, [], 0), (.istore_n 1, 97, [], 0), (.goto (-50), 98, [28], 0), (.aload_n 0, 101, [], 0), (.getfield 424, 102, [11, 57], 0), (.ifCond .eq 13, 105, [63], 0), (.aload_n 0, 108, [], 0), (.invokevirtual 433, 109, [164, 0, 11], 0), (.ifCond .ne (-64), 112, [28], 0), (.goto 10, 115, [66], 0), (.aload_n 0, 118, [], 0), (.invokevirtual 436, 119, [222, 0, 11], 0), (.ifCond .ne (-74), 122, [28], 0), (.iconst (-1), 125, [], 0), (.aload_n 0, 126, [], 0), (.getfield 183, 127, [11, 16], 0), (.isub, 130, [], 0), (.ireturn, 131, [], 0), (.aload_n 0, 132, [], 0), (.getfield 33, 133, [11, 6], 0), (.sipush 356, 136, [], 0), (.aload_n 0, 139, [], 0), (.getfield 406, 140, [11, 53], 0), (.iastore, 143, [], 0), (.iconst 0, 144, [], 0), (.istore_n 2, 145, [], 0), (.iload_n 2, 146, [], 0), (.iconst 3, 147, [], 0), (.aload_n 0, 148, [], 0), (.getfield 406, 149, [11, 53], 0), (.imul, 152, [], 0), (.if_icmp .ge 25, 153, [97], 0), (.aload_n 0, 156, [], 0), (.getfield 33, 157, [11, 6], 0), (.sipush 357, 160, [], 0), (.iload_n 2, 163, [], 0), (.iadd, 164, [], 0), (.aload_n 0, 165, [], 0), (.getfield 40, 166, [11, 8], 0), (.iload_n 2, 169, [], 0), (.iaload, 170, [], 0), (.iastore, 171, [], 0), (.iinc 2 1, 172, [], 0), (.goto (-29), 175, [79], 0), (.aload_n 0, 178, [], 0), (.getfield 421, 179, [11, 54], 0), (.ireturn, 182, [], 0)], (0, 11, 0), (0, 0))
set_option maxRecDepth 100000 in
def mt_X12_shores : mj_T := (yX12_shores, cX12_shores, 6, (some .int), [(.aload_n 0, 0, [], 0), (.iconst 0, 1, [], 0), (.putfield 1, 2, [11, 0], 0), (.aload_n 0, 5, [], 0), (.iload_n 1, 6, [], 0), (.invokevirtual 263, 7, [205, 1, 11], 0), (.ifCond .eq 13, 10, [12], 0), (.iload_n 2, 13, [], 0), (.iconst 1, 14, [], 0), (.bipush 100, 15, [], 0), (.invokestatic 195, 17, [198, 3, 11], 0), (.ifCond .ne 5, 20, [14], 0), (.iconst (-1), 23, [], 0), (.ireturn, 24, [], 0), (.aload_n 0, 25, [], 0), (.invokevirtual 375, 26, [247, 0, 11], 0), (.iconst 0, 29, [], 0), (.istore 4, 30, [], 0), (.iconst 0, 32, [], 0), (.istore 5, 33, [], 0), (.iload 5, 35, [], 0), (.iload_n 2, 37, [], 0), (.if_icmp .ge 33, 38, [40], 0), (.aload_n 0, 41, [], 0), (.iload_n 3, 42, [], 0), (.iload 5, 43, [], 0), (.iadd, 45, [], 0), (.putfield 368, 46, [11, 47], 0), (.aload_n 0, 49, [], 0), (.iconst 1, 50, [], 0), (.invokevirtual 387, 51, [259, 1, 11], 0), (.iload 4, 54, [], 0), (.aload_n 0, 56, [], 0), (.iload_n 1, 57, [], 0), (.iconst 3, 58, [], 0), (.invokevirtual 285, 59, [219, 2, 11], 0), (.iadd, 62, [], 0), (.istore 4, 63, [], 0), (.iinc 5 1, 65, [], 0), (.goto (-33), 68, [20], 0), (.aload_n 0, 71, [], 0), (.invokevirtual 384, 72, [189, 0, 11], 0), (.iload 4, 75, [], 0), (.ireturn, 77, [], 0)], (0, 11, 3), (0, 0))
set_option maxRecDepth 100000 in
def mt_X12_shoresOf : mj_T := (yX12_shoresOf, cX12_shoresOf, 3, (some .int), [(.aload_n 0, 0, [], 0), (.iconst 0, 1, [], 0), (.putfield 1, 2, [11, 0], 0), (.aload_n 0, 5, [], 0), (.getfield 33, 6, [11, 6], 0), (.iconst 0, 9, [], 0), (.iaload, 10, [], 0), (.ifCond .ne 5, 11, [10], 0), (.iconst (-1), 14, [], 0), (.ireturn, 15, [], 0), (.aload_n 0, 16, [], 0), (.invokevirtual 375, 17, [247, 0, 11], 0), (.aload_n 0, 20, [], 0), (.iconst 0, 21, [], 0), (.invokevirtual 387, 22, [259, 1, 11], 0), (.iconst 0, 25, [], 0), (.istore_n 1, 26, [], 0), (.iconst 0, 27, [], 0), (.istore_n 2, 28, [], 0), (.iload_n 2, 29, [], 0), (.aload_n 0, 30, [], 0), (.getfield 33, 31, [11, 6], 0), (.iconst 0, 34, [], 0), (.iaload, 35, [], 0), (.if_icmp .ge 20, 36, [36], 0), (.iload_n 1, 39, [], 0), (.aload_n 0, 40, [], 0), (.iload_n 2, 41, [], 0), (.iconst 3, 42, [], 0), (.invokevirtual 285, 43, [219, 2, 11], 0), (.iload_n 2, 46, [], 0), (.ishl, 47, [], 0), (.ior, 48, [], 0), (.istore_n 1, 49, [], 0), (.iinc 2 1, 50, [], 0), (.goto (-24), 53, [19], 0), (.aload_n 0, 56, [], 0), (.invokevirtual 384, 57, [189, 0, 11], 0), (.iload_n 1, 60, [], 0), (.ireturn, 61, [], 0)], (0, 11, 0), (0, 0))
set_option maxRecDepth 100000 in
def mt_X12_sign : mj_T := (yX12_sign, cX12_sign, 2, (some .boolean), [(.aload_n 0, 0, [], 0), (.iload_n 1, 1, [], 0), (.invokevirtual 186, 2, [203, 1, 11], 0), (.ifCond .ne 9, 5, [8], 0), (.aload_n 0, 8, [], 0), (.iconst 1, 9, [], 0), (.invokevirtual 189, 10, [161, 1, 11], 0), (.ireturn, 13, [], 1), (.aload_n 0, 14, [], 0), (.invokevirtual 192, 15, [216, 0, 11], 0), (.iconst 1, 18, [], 0), (.ireturn, 19, [], 1)], (0, 11, 1), (0, 0))
set_option maxRecDepth 100000 in
def mt_X12_sizeOf : mj_T := (yX12_sizeOf, cX12_sizeOf, 1, (some .int), [(.iload_n 0, 0, [], 0), (.ifCond .ge 8, 1, [5], 0), (.iload_n 0, 4, [], 0), (.ineg, 5, [], 0), (.goto 4, 6, [6], 0), (.iload_n 0, 9, [], 0), (.ireturn, 10, [], 0)], (1, 11, 1), (0, 0))
set_option maxRecDepth 100000 in
def mt_X12_take : mj_T := (yX12_take, cX12_take, 2, (some .boolean), [(.aload_n 0, 0, [], 0), (.iconst 0, 1, [], 0), (.putfield 1, 2, [11, 0], 0), (.aload_n 0, 5, [], 0), (.getfield 349, 6, [11, 39], 0), (.ifCond .eq 14, 9, [11], 0), (.aload_n 0, 12, [], 0), (.getfield 353, 13, [11, 40], 0), (.aload_n 0, 16, [], 0), (.getfield 260, 17, [11, 25], 0), (.if_icmp .eq 5, 20, [13], 0), (.iconst 0, 23, [], 0), (.ireturn, 24, [], 1), (.iconst 0, 25, [], 0), (.istore_n 1, 26, [], 0), (.iload_n 1, 27, [], 0), (.bipush 12, 28, [], 0), (.if_icmp .ge 84, 30, [70], 0), (.aload_n 0, 33, [], 0), (.getfield 33, 34, [11, 6], 0), (.sipush 184, 37, [], 0), (.iconst 3, 40, [], 0), (.iload_n 1, 41, [], 0), (.imul, 42, [], 0), (.iadd, 43, [], 0), (.aload_n 0, 44, [], 0), (.getfield 68, 45, [11, 38], 0), (.iload_n 1, 48, [], 0), (.iaload, 49, [], 0), (.iconst 1, 50, [], 0), (.iadd, 51, [], 0), (.iastore, 52, [], 0), (.aload_n 0, 53, [], 0), (.getfield 33, 54, [11, 6], 0), (.sipush 184, 57, [], 0), (.iconst 3, 60, [], 0), (.iload_n 1, 61, [], 0), (.imul, 62, [], 0), (.iadd, 63, [], 0), (.iconst 1, 64, [], 0), (.iadd, 65, [], 0), (.iconst 0, 66, [], 0), (.iastore, 67, [], 0), (.aload_n 0, 68, [], 0), (.getfield 33, 69, [11, 6], 0), (.sipush 184, 72, [], 0), (.iconst 3, 75, [], 0), (.iload_n 1, 76, [], 0), (.imul, 77, [], 0), (.iadd, 78, [], 0), (.iconst 2, 79, [], 0), (.iadd, 80, [], 0), (.aload_n 0, 81, [], 0), (.getfield 68, 82, [11, 38], 0), (.iload_n 1, 85, [], 0), (.iaload, 86, [], 0), (.bipush 8, 87, [], 0), (.if_icmp .ge 17, 89, [66], 0), (.aload_n 0, 92, [], 0), (.aload_n 0, 93, [], 0), (.getfield 68, 94, [11, 38], 0), (.iload_n 1, 97, [], 0), (.iaload, 98, [], 0), (.iload_n 1, 99, [], 0), (.invokevirtual 276, 100, [167, 2, 11], 0), (.goto 4, 103, [67], 0), (.iconst 0, 106, [], 0), (.iastore, 107, [], 0), (.iinc 1 1, 108, [], 0), (.goto (-84), 111, [15], 0), (.aload_n 0, 114, [], 0), (.getfield 33, 115, [11, 6], 0), (.sipush 220, 118, [], 0), (.bipush 12, 121, [], 0), (.iastore, 123, [], 0), (.iconst 1, 124, [], 0), (.ireturn, 125, [], 1)], (0, 11, 0), (0, 0))
set_option maxRecDepth 100000 in
def mt_X12_taken : mj_T := (yX12_taken, cX12_taken, 2, none, [(.aload_n 0, 0, [], 0), (.aload_n 0, 1, [], 0), (.getfield 7, 2, [11, 2], 0), (.putfield 18, 5, [11, 3], 0), (.aload_n 0, 8, [], 0), (.iconst 0, 9, [], 0), (.putfield 7, 10, [11, 2], 0), (.aload_n 0, 13, [], 0), (.iconst 0, 14, [], 0), (.putfield 21, 15, [11, 4], 0), (.aload_n 0, 18, [], 0), (.iload_n 1, 19, [], 0), (.putfield 24, 20, [11, 5], 0), (.return_, 23, [], 0)], (0, 11, 1), (0, 0))
set_option maxRecDepth 100000 in
def mt_X12_takes : mj_T := (yX12_takes, cX12_takes, 3, (some .boolean), [(.aload_n 0, 0, [], 0), (.getfield 163, 1, [11, 11], 0), (.iconst 2, 4, [], 0), (.if_icmp .eq 9, 5, [8], 0), (.aload_n 0, 8, [], 0), (.iconst 1, 9, [], 0), (.invokevirtual 189, 10, [161, 1, 11], 0), (.ireturn, 13, [], 1), (.aload_n 0, 14, [], 0), (.getfield 173, 15, [11, 14], 0), (.iload_n 1, 18, [], 0), (.iload_n 2, 19, [], 0), (.invokestatic 195, 20, [198, 3, 11], 0), (.ifCond .ne 9, 23, [18], 0), (.aload_n 0, 26, [], 0), (.iconst 2, 27, [], 0), (.invokevirtual 189, 28, [161, 1, 11], 0), (.ireturn, 31, [], 1), (.aload_n 0, 32, [], 0), (.aload_n 0, 33, [], 0), (.getfield 173, 34, [11, 14], 0), (.putfield 199, 37, [11, 18], 0), (.aload_n 0, 40, [], 0), (.invokevirtual 192, 41, [216, 0, 11], 0), (.iconst 1, 44, [], 0), (.ireturn, 45, [], 1)], (0, 11, 2), (0, 0))
set_option maxRecDepth 100000 in
def mt_X12_thinks : mj_T := (yX12_thinks, cX12_thinks, 2, none, [(.iconst 0, 0, [], 0), (.istore_n 1, 1, [], 0), (.iload_n 1, 2, [], 0), (.sipush 135, 3, [], 0), (.if_icmp .ge 25, 6, [17], 0), (.aload_n 0, 9, [], 0), (.getfield 77, 10, [11, 45], 0), (.iload_n 1, 13, [], 0), (.aload_n 0, 14, [], 0), (.getfield 33, 15, [11, 6], 0), (.sipush 221, 18, [], 0), (.iload_n 1, 21, [], 0), (.iadd, 22, [], 0), (.iaload, 23, [], 0), (.iastore, 24, [], 0), (.iinc 1 1, 25, [], 0), (.goto (-26), 28, [2], 0), (.return_, 31, [], 0)], (0, 11, 0), (0, 0))
set_option maxRecDepth 100000 in
def mt_X12_thirsty : mj_T := (yX12_thirsty, cX12_thirsty, 3, (some .int), [(.aload_n 0, 0, [], 0), (.iconst 0, 1, [], 0), (.putfield 1, 2, [11, 0], 0), (.aload_n 0, 5, [], 0), (.getfield 33, 6, [11, 6], 0), (.iconst 0, 9, [], 0), (.iaload, 10, [], 0), (.ifCond .ne 5, 11, [10], 0), (.iconst (-1), 14, [], 0), (.ireturn, 15, [], 0), (.aload_n 0, 16, [], 0), (.invokevirtual 375, 17, [247, 0, 11], 0), (.aload_n 0, 20, [], 0), (.iconst 0, 21, [], 0), (.invokevirtual 387, 22, [259, 1, 11], 0), (.iconst 0, 25, [], 0), (.istore_n 1, 26, [], 0), (.iconst 0, 27, [], 0), (.istore_n 2, 28, [], 0), (.iload_n 2, 29, [], 0), (.aload_n 0, 30, [], 0), (.getfield 33, 31, [11, 6], 0), (.iconst 0, 34, [], 0), (.iaload, 35, [], 0), (.if_icmp .ge 35, 36, [44], 0), (.iload_n 1, 39, [], 0), (.aload_n 0, 40, [], 0), (.iload_n 2, 41, [], 0), (.bipush 6, 42, [], 0), (.invokevirtual 285, 44, [219, 2, 11], 0), (.aload_n 0, 47, [], 0), (.iload_n 2, 48, [], 0), (.iconst 4, 49, [], 0), (.invokevirtual 270, 50, [252, 2, 11], 0), (.if_icmp .ge 9, 53, [39], 0), (.iconst 1, 56, [], 0), (.iload_n 2, 57, [], 0), (.ishl, 58, [], 0), (.goto 4, 59, [40], 0), (.iconst 0, 62, [], 0), (.ior, 63, [], 0), (.istore_n 1, 64, [], 0), (.iinc 2 1, 65, [], 0), (.goto (-39), 68, [19], 0), (.aload_n 0, 71, [], 0), (.invokevirtual 384, 72, [189, 0, 11], 0), (.iload_n 1, 75, [], 0), (.ireturn, 76, [], 0)], (0, 11, 0), (0, 0))
set_option maxRecDepth 100000 in
def mt_X12_thrown : mj_T := (yX12_thrown, cX12_thrown, 1, (some .int), [(.aload_n 0, 0, [], 0), (.getfield 1, 1, [11, 0], 0), (.ireturn, 4, [], 0)], (0, 11, 0), (0, 0))
set_option maxRecDepth 100000 in
def mt_X12_throwsIf : mj_T := (yX12_throwsIf, cX12_throwsIf, 2, (some .boolean), [(.aload_n 0, 0, [], 0), (.iload_n 1, 1, [], 0), (.ifCond .eq 7, 2, [5], 0), (.iconst 1, 5, [], 0), (.goto 4, 6, [6], 0), (.iconst 0, 9, [], 0), (.putfield 1, 10, [11, 0], 0), (.iload_n 1, 13, [], 0), (.ireturn, 14, [], 1)], (0, 11, 1), (0, 0))
set_option maxRecDepth 100000 in
def mt_X12_told : mj_T := (yX12_told, cX12_told, 3, (some .int), [(.aload_n 0, 0, [], 0), (.aload_n 0, 1, [], 0), (.iload_n 1, 2, [], 0), (.invokevirtual 263, 3, [205, 1, 11], 0), (.ifCond .eq 13, 6, [10], 0), (.iload_n 2, 9, [], 0), (.iconst 0, 10, [], 0), (.bipush 8, 11, [], 0), (.invokestatic 195, 13, [198, 3, 11], 0), (.ifCond .ne 7, 16, [12], 0), (.iconst 1, 19, [], 0), (.goto 4, 20, [13], 0), (.iconst 0, 23, [], 0), (.invokevirtual 266, 24, [250, 1, 11], 0), (.ifCond .eq 7, 27, [17], 0), (.iconst 0, 30, [], 0), (.goto 9, 31, [21], 0), (.aload_n 0, 34, [], 0), (.iload_n 1, 35, [], 0), (.iload_n 2, 36, [], 0), (.invokevirtual 270, 37, [252, 2, 11], 0), (.ireturn, 40, [], 0)], (0, 11, 2), (0, 0))
set_option maxRecDepth 100000 in
def mt_X12_toldOf : mj_T := (yX12_toldOf, cX12_toldOf, 3, (some .int), [(.aload_n 0, 0, [], 0), (.getfield 33, 1, [11, 6], 0), (.iconst 4, 4, [], 0), (.bipush 9, 5, [], 0), (.iload_n 1, 7, [], 0), (.imul, 8, [], 0), (.iadd, 9, [], 0), (.iload_n 2, 10, [], 0), (.iadd, 11, [], 0), (.iaload, 12, [], 0), (.ireturn, 13, [], 0)], (0, 11, 2), (0, 0))
set_option maxRecDepth 100000 in
def mt_X12_town : mj_T := (yX12_town, cX12_town, 3, (some .int), [(.aload_n 0, 0, [], 0), (.iconst 0, 1, [], 0), (.putfield 1, 2, [11, 0], 0), (.aload_n 0, 5, [], 0), (.getfield 33, 6, [11, 6], 0), (.sipush 221, 9, [], 0), (.iaload, 12, [], 0), (.iconst 1, 13, [], 0), (.if_icmp .ne 30, 14, [23], 0), (.aload_n 0, 17, [], 0), (.iload_n 1, 18, [], 0), (.invokevirtual 263, 19, [205, 1, 11], 0), (.ifCond .eq 22, 22, [23], 0), (.iload_n 2, 25, [], 0), (.iconst 0, 26, [], 0), (.bipush 9, 27, [], 0), (.invokestatic 195, 29, [198, 3, 11], 0), (.ifCond .eq 12, 32, [23], 0), (.aload_n 0, 35, [], 0), (.iload_n 1, 36, [], 0), (.iload_n 2, 37, [], 0), (.invokevirtual 285, 38, [219, 2, 11], 0), (.goto 4, 41, [24], 0), (.iconst (-1), 44, [], 0), (.ireturn, 45, [], 0)], (0, 11, 2), (0, 0))
set_option maxRecDepth 100000 in
def mt_X12_undo : mj_T := (yX12_undo, cX12_undo, 1, (some .int), [(.aload_n 0, 0, [], 0), (.iconst 0, 1, [], 0), (.putfield 1, 2, [11, 0], 0), (.aload_n 0, 5, [], 0), (.getfield 254, 6, [11, 28], 0), (.ifCond .ne 5, 9, [8], 0), (.iconst (-1), 12, [], 0), (.ireturn, 13, [], 0), (.aload_n 0, 14, [], 0), (.dup, 15, [], 0), (.getfield 254, 16, [11, 28], 0), (.iconst 1, 19, [], 0), (.isub, 20, [], 0), (.putfield 254, 21, [11, 28], 0), (.aload_n 0, 24, [], 0), (.getfield 33, 25, [11, 6], 0), (.bipush 88, 28, [], 0), (.bipush 12, 30, [], 0), (.aload_n 0, 32, [], 0), (.getfield 53, 33, [11, 27], 0), (.iconst 3, 36, [], 0), (.aload_n 0, 37, [], 0), (.getfield 254, 38, [11, 28], 0), (.imul, 41, [], 0), (.iaload, 42, [], 0), (.imul, 43, [], 0), (.iadd, 44, [], 0), (.aload_n 0, 45, [], 0), (.getfield 53, 46, [11, 27], 0), (.iconst 3, 49, [], 0), (.aload_n 0, 50, [], 0), (.getfield 254, 51, [11, 28], 0), (.imul, 54, [], 0), (.iconst 1, 55, [], 0), (.iadd, 56, [], 0), (.iaload, 57, [], 0), (.iadd, 58, [], 0), (.aload_n 0, 59, [], 0), (.getfield 53, 60, [11, 27], 0), (.iconst 3, 63, [], 0), (.aload_n 0, 64, [], 0), (.getfield 254, 65, [11, 28], 0), (.imul, 68, [], 0), (.iconst 2, 69, [], 0), (.iadd, 70, [], 0), (.iaload, 71, [], 0), (.iastore, 72, [], 0), (.aload_n 0, 73, [], 0), (.getfield 254, 74, [11, 28], 0), (.ireturn, 77, [], 0)], (0, 11, 0), (0, 0))
set_option maxRecDepth 100000 in
def mt_X12_uses : mj_T := (yX12_uses, cX12_uses, 5, none, [(.aload_n 0, 0, [], 0), (.iload_n 1, 1, [], 0), (.iconst 0, 2, [], 0), (.invokevirtual 285, 3, [219, 2, 11], 0), (.aload_n 0, 6, [], 0), (.iload_n 1, 7, [], 0), (.iconst 2, 8, [], 0), (.invokevirtual 270, 9, [252, 2, 11], 0), (.if_icmp .ge 12, 12, [14], 0), (.aload_n 0, 15, [], 0), (.iload_n 1, 16, [], 0), (.iconst 0, 17, [], 0), (.invokevirtual 285, 18, [219, 2, 11], 0), (.goto 9, 21, [18], 0), (.aload_n 0, 24, [], 0), (.iload_n 1, 25, [], 0), (.iconst 2, 26, [], 0), (.invokevirtual 270, 27, [252, 2, 11], 0), (.istore_n 2, 30, [], 0), (.aload_n 0, 31, [], 0), (.iload_n 1, 32, [], 0), (.iconst 0, 33, [], 0), (.iload_n 2, 34, [], 0), (.ineg, 35, [], 0), (.invokevirtual 288, 36, [214, 3, 11], 0), (.aload_n 0, 39, [], 0), (.getfield 33, 40, [11, 6], 0), (.sipush 227, 43, [], 0), (.dup2, 46, [], 0), (.iaload, 47, [], 0), (.iload_n 2, 48, [], 0), (.iadd, 49, [], 0), (.iastore, 50, [], 0), (.iload_n 2, 51, [], 0), (.aload_n 0, 52, [], 0), (.iload_n 1, 53, [], 0), (.iconst 2, 54, [], 0), (.invokevirtual 270, 55, [252, 2, 11], 0), (.if_icmp .ge 7, 58, [41], 0), (.iconst 1, 61, [], 0), (.goto 4, 62, [42], 0), (.iconst 0, 65, [], 0), (.istore_n 3, 66, [], 0), (.iload_n 3, 67, [], 0), (.ifCond .eq 21, 68, [56], 0), (.aload_n 0, 71, [], 0), (.iload_n 1, 72, [], 0), (.iconst 2, 73, [], 0), (.iconst 1, 74, [], 0), (.invokevirtual 288, 75, [214, 3, 11], 0), (.aload_n 0, 78, [], 0), (.iload_n 1, 79, [], 0), (.bipush 7, 80, [], 0), (.iconst 1, 82, [], 0), (.invokevirtual 288, 83, [214, 3, 11], 0), (.goto 16, 86, [65], 0), (.aload_n 0, 89, [], 0), (.iload_n 1, 90, [], 0), (.iconst 2, 91, [], 0), (.aload_n 0, 92, [], 0), (.iload_n 1, 93, [], 0), (.iconst 2, 94, [], 0), (.invokevirtual 285, 95, [219, 2, 11], 0), (.ineg, 98, [], 0), (.invokevirtual 288, 99, [214, 3, 11], 0), (.aload_n 0, 102, [], 0), (.iload_n 1, 103, [], 0), (.iconst 2, 104, [], 0), (.invokevirtual 285, 105, [219, 2, 11], 0), (.aload_n 0, 108, [], 0), (.getfield 33, 109, [11, 6], 0), (.iconst 3, 112, [], 0), (.iaload, 113, [], 0), (.if_icmp .lt 49, 114, [104], 0), (.aload_n 0, 117, [], 0), (.iload_n 1, 118, [], 0), (.iconst 3, 119, [], 0), (.invokevirtual 285, 120, [219, 2, 11], 0), (.ifCond .ne 40, 123, [104], 0), (.aload_n 0, 126, [], 0), (.iload_n 1, 127, [], 0), (.iconst 3, 128, [], 0), (.iconst 1, 129, [], 0), (.invokevirtual 288, 130, [214, 3, 11], 0), (.aload_n 0, 133, [], 0), (.getfield 33, 134, [11, 6], 0), (.sipush 229, 137, [], 0), (.dup2, 140, [], 0), (.iaload, 141, [], 0), (.aload_n 0, 142, [], 0), (.iload_n 1, 143, [], 0), (.iconst 0, 144, [], 0), (.invokevirtual 285, 145, [219, 2, 11], 0), (.iadd, 148, [], 0), (.iastore, 149, [], 0), (.aload_n 0, 150, [], 0), (.iload_n 1, 151, [], 0), (.iconst 0, 152, [], 0), (.aload_n 0, 153, [], 0), (.iload_n 1, 154, [], 0), (.iconst 0, 155, [], 0), (.invokevirtual 285, 156, [219, 2, 11], 0), (.ineg, 159, [], 0), (.invokevirtual 288, 160, [214, 3, 11], 0), (.aload_n 0, 163, [], 0), (.iload_n 1, 164, [], 0), (.bipush 7, 165, [], 0), (.invokevirtual 270, 167, [252, 2, 11], 0), (.istore 4, 170, [], 0), (.iload 4, 172, [], 0), (.ifCond .le 72, 174, [151], 0), (.aload_n 0, 177, [], 0), (.iload_n 1, 178, [], 0), (.iconst 0, 179, [], 0), (.invokevirtual 285, 180, [219, 2, 11], 0), (.iload 4, 183, [], 0), (.if_icmp .lt 61, 185, [151], 0), (.aload_n 0, 188, [], 0), (.iload_n 1, 189, [], 0), (.iconst 0, 190, [], 0), (.iload 4, 191, [], 0), (.ineg, 193, [], 0), (.invokevirtual 288, 194, [214, 3, 11], 0), (.aload_n 0, 197, [], 0), (.getfield 33, 198, [11, 6], 0), (.sipush 227, 201, [], 0), (.dup2, 204, [], 0), (.iaload, 205, [], 0), (.iload 4, 206, [], 0), (.iadd, 208, [], 0), (.iastore, 209, [], 0), (.aload_n 0, 210, [], 0), (.iload_n 1, 211, [], 0), (.bipush 10, 212, [], 0), (.iconst 1, 214, [], 0), (.invokevirtual 288, 215, [214, 3, 11], 0), (.aload_n 0, 218, [], 0), (.iload_n 1, 219, [], 0), (.bipush 10, 220, [], 0), (.invokevirtual 285, 222, [219, 2, 11], 0), (.aload_n 0, 225, [], 0), (.iload_n 1, 226, [], 0), (.bipush 8, 227, [], 0), (.invokevirtual 285, 229, [219, 2, 11], 0), (.if_icmp .le 29, 232, [160], 0), (.aload_n 0, 235, [], 0), (.iload_n 1, 236, [], 0), (.bipush 8, 237, [], 0), (.iconst 1, 239, [], 0), (.invokevirtual 288, 240, [214, 3, 11], 0), (.goto 18, 243, [160], 0), (.aload_n 0, 246, [], 0), (.iload_n 1, 247, [], 0), (.bipush 10, 248, [], 0), (.aload_n 0, 250, [], 0), (.iload_n 1, 251, [], 0), (.bipush 10, 252, [], 0), (.invokevirtual 285, 254, [219, 2, 11], 0), (.ineg, 257, [], 0), (.invokevirtual 288, 258, [214, 3, 11], 0), (.return_, 261, [], 0)], (0, 11, 1), (0, 0))
set_option maxRecDepth 100000 in
def mt_X12_wasLet : mj_T := (yX12_wasLet, cX12_wasLet, 3, (some .boolean), [(.iload_n 2, 0, [], 0), (.ifCond .le 43, 1, [28], 0), (.aload_n 0, 4, [], 0), (.getfield 33, 5, [11, 6], 0), (.sipush 320, 8, [], 0), (.iconst 3, 11, [], 0), (.iload_n 2, 12, [], 0), (.imul, 13, [], 0), (.iadd, 14, [], 0), (.iconst 3, 15, [], 0), (.isub, 16, [], 0), (.iaload, 17, [], 0), (.iload_n 1, 18, [], 0), (.if_icmp .eq 21, 19, [26], 0), (.aload_n 0, 22, [], 0), (.getfield 33, 23, [11, 6], 0), (.sipush 320, 26, [], 0), (.iconst 3, 29, [], 0), (.iload_n 2, 30, [], 0), (.imul, 31, [], 0), (.iadd, 32, [], 0), (.iconst 2, 33, [], 0), (.isub, 34, [], 0), (.iaload, 35, [], 0), (.iload_n 1, 36, [], 0), (.if_icmp .ne 7, 37, [28], 0), (.iconst 1, 40, [], 0), (.goto 4, 41, [29], 0), (.iconst 0, 44, [], 0), (.ireturn, 45, [], 1)], (0, 11, 2), (0, 0))
set_option maxRecDepth 100000 in
def mt_X12_water : mj_T := (yX12_water, cX12_water, 2, (some .int), [(.aload_n 0, 0, [], 0), (.iconst 0, 1, [], 0), (.putfield 1, 2, [11, 0], 0), (.iload_n 1, 5, [], 0), (.invokestatic 273, 6, [200, 1, 11], 0), (.ifCond .eq 15, 9, [13], 0), (.aload_n 0, 12, [], 0), (.getfield 33, 13, [11, 6], 0), (.bipush 76, 16, [], 0), (.iload_n 1, 18, [], 0), (.iadd, 19, [], 0), (.iaload, 20, [], 0), (.goto 4, 21, [14], 0), (.iconst (-1), 24, [], 0), (.ireturn, 25, [], 0)], (0, 11, 1), (0, 0))
set_option maxRecDepth 100000 in
def mt_X12_wettest : mj_T := (yX12_wettest, cX12_wettest, 4, (some .int), [(.aload_n 0, 0, [], 0), (.iconst 0, 1, [], 0), (.putfield 1, 2, [11, 0], 0), (.aload_n 0, 5, [], 0), (.iload_n 1, 6, [], 0), (.invokevirtual 263, 7, [205, 1, 11], 0), (.ifCond .ne 5, 10, [9], 0), (.iconst (-1), 13, [], 0), (.ireturn, 14, [], 0), (.iconst 0, 15, [], 0), (.istore_n 2, 16, [], 0), (.iconst 1, 17, [], 0), (.istore_n 3, 18, [], 0), (.iload_n 3, 19, [], 0), (.bipush 12, 20, [], 0), (.if_icmp .ge 26, 22, [29], 0), (.aload_n 0, 25, [], 0), (.iload_n 1, 26, [], 0), (.iload_n 3, 27, [], 0), (.invokevirtual 339, 28, [191, 2, 11], 0), (.aload_n 0, 31, [], 0), (.iload_n 1, 32, [], 0), (.iload_n 2, 33, [], 0), (.invokevirtual 339, 34, [191, 2, 11], 0), (.if_icmp .le 5, 37, [27], 0), (.iload_n 3, 40, [], 0), (.istore_n 2, 41, [], 0), (.iinc 3 1, 42, [], 0), (.goto (-26), 45, [13], 0), (.iload_n 2, 48, [], 0), (.ireturn, 49, [], 0)], (0, 11, 1), (0, 0))
set_option maxRecDepth 100000 in
def mt_X12_wholeYear : mj_T := (yX12_wholeYear, cX12_wholeYear, 3, none, [(.aload_n 0, 0, [], 0), (.invokevirtual 333, 1, [163, 0, 11], 0), (.iconst 0, 4, [], 0), (.istore_n 2, 5, [], 0), (.iload_n 2, 6, [], 0), (.bipush 12, 7, [], 0), (.if_icmp .ge 27, 9, [18], 0), (.aload_n 0, 12, [], 0), (.iload_n 1, 13, [], 0), (.ifCond .eq 12, 14, [14], 0), (.aload_n 0, 17, [], 0), (.bipush 100, 18, [], 0), (.invokevirtual 365, 20, [181, 1, 11], 0), (.goto 4, 23, [15], 0), (.iconst 0, 26, [], 0), (.invokevirtual 336, 27, [213, 1, 11], 0), (.iinc 2 1, 30, [], 0), (.goto (-27), 33, [4], 0), (.return_, 36, [], 0)], (0, 11, 1), (0, 0))
set_option maxRecDepth 100000 in
def mt_X12_worth : mj_T := (yX12_worth, cX12_worth, 5, (some .int), [(.aload_n 0, 0, [], 0), (.iconst 0, 1, [], 0), (.putfield 1, 2, [11, 0], 0), (.aload_n 0, 5, [], 0), (.iload_n 1, 6, [], 0), (.invokevirtual 263, 7, [205, 1, 11], 0), (.ifCond .ne 7, 10, [9], 0), (.sipush (-10001), 13, [], 0), (.ireturn, 16, [], 0), (.aload_n 0, 17, [], 0), (.invokevirtual 375, 18, [247, 0, 11], 0), (.aload_n 0, 21, [], 0), (.iconst 0, 22, [], 0), (.invokevirtual 387, 23, [259, 1, 11], 0), (.aload_n 0, 26, [], 0), (.getfield 33, 27, [11, 6], 0), (.sipush 224, 30, [], 0), (.iaload, 33, [], 0), (.istore_n 2, 34, [], 0), (.iconst 0, 35, [], 0), (.istore_n 3, 36, [], 0), (.iload_n 3, 37, [], 0), (.bipush 12, 38, [], 0), (.if_icmp .ge 36, 40, [45], 0), (.aload_n 0, 43, [], 0), (.getfield 80, 44, [11, 46], 0), (.iload_n 3, 47, [], 0), (.aload_n 0, 48, [], 0), (.iload_n 1, 49, [], 0), (.iload_n 3, 50, [], 0), (.invokevirtual 276, 51, [167, 2, 11], 0), (.iastore, 54, [], 0), (.aload_n 0, 55, [], 0), (.getfield 33, 56, [11, 6], 0), (.bipush 88, 59, [], 0), (.bipush 12, 61, [], 0), (.iload_n 1, 63, [], 0), (.imul, 64, [], 0), (.iadd, 65, [], 0), (.iload_n 3, 66, [], 0), (.iadd, 67, [], 0), (.iconst 0, 68, [], 0), (.iastore, 69, [], 0), (.iinc 3 1, 70, [], 0), (.goto (-36), 73, [21], 0), (.aload_n 0, 76, [], 0), (.iconst 0, 77, [], 0), (.invokevirtual 387, 78, [259, 1, 11], 0), (.aload_n 0, 81, [], 0), (.getfield 33, 82, [11, 6], 0), (.sipush 224, 85, [], 0), (.iaload, 88, [], 0), (.istore_n 3, 89, [], 0), (.iconst 0, 90, [], 0), (.istore 4, 91, [], 0), (.iload 4, 93, [], 0), (.bipush 12, 95, [], 0), (.if_icmp .ge 31, 97, [74], 0), (.aload_n 0, 100, [], 0), (.getfield 33, 101, [11, 6], 0), (.bipush 88, 104, [], 0), (.bipush 12, 106, [], 0), (.iload_n 1, 108, [], 0), (.imul, 109, [], 0), (.iadd, 110, [], 0), (.iload 4, 111, [], 0), (.iadd, 113, [], 0), (.aload_n 0, 114, [], 0), (.getfield 80, 115, [11, 46], 0), (.iload 4, 118, [], 0), (.iaload, 120, [], 0), (.iastore, 121, [], 0), (.iinc 4 1, 122, [], 0), (.goto (-32), 125, [55], 0), (.aload_n 0, 128, [], 0), (.invokevirtual 384, 129, [189, 0, 11], 0), (.iload_n 2, 132, [], 0), (.iload_n 3, 133, [], 0), (.isub, 134, [], 0), (.ireturn, 135, [], 0)], (0, 11, 1), (0, 0))
set_option maxRecDepth 100000 in
def mt_X12_write : mj_T := (yX12_write, cX12_write, 2, (some .int), [(.aload_n 0, 0, [], 0), (.iconst 0, 1, [], 0), (.putfield 1, 2, [11, 0], 0), (.aload_n 0, 5, [], 0), (.getfield 33, 6, [11, 6], 0), (.sipush 221, 9, [], 0), (.iaload, 12, [], 0), (.ifCond .ne 5, 13, [10], 0), (.iconst (-1), 16, [], 0), (.ireturn, 17, [], 0), (.aload_n 0, 18, [], 0), (.iconst 0, 19, [], 0), (.putfield 391, 20, [11, 51], 0), (.iconst 0, 23, [], 0), (.istore_n 1, 24, [], 0), (.iload_n 1, 25, [], 0), (.aload_n 0, 26, [], 0), (.getfield 33, 27, [11, 6], 0), (.sipush 222, 30, [], 0), (.iaload, 33, [], 0), (.if_icmp .ge 128, 34, [95], 0), (.aload_n 0, 37, [], 0), (.iload_n 1, 38, [], 0), (.invokevirtual 399, 39, [231, 1, 11], 0), (.aload_n 0, 42, [], 0), (.aload_n 0, 43, [], 0), (.getfield 33, 44, [11, 6], 0), (.sipush 320, 47, [], 0), (.iconst 3, 50, [], 0), (.iload_n 1, 51, [], 0), (.imul, 52, [], 0), (.iadd, 53, [], 0), (.iaload, 54, [], 0), (.bipush 8, 55, [], 0), (.if_icmp .ne 9, 57, [37], 0), (.ldc2_w 127, 60, [], 7562593), (.goto 20, 63, [48], 0), (.aload_n 0, 66, [], 0), (.getfield 43, 67, [11, 9], 0), (.aload_n 0, 70, [], 0), (.getfield 33, 71, [11, 6], 0), (.sipush 320, 74, [], 0), (.iconst 3, 77, [], 0), (.iload_n 1, 78, [], 0), (.imul, 79, [], 0), (.iadd, 80, [], 0), (.iaload, 81, [], 0), (.laload, 82, [], 0), (.invokevirtual 402, 83, [230, 1, 11], 0), (.aload_n 0, 86, [], 0), (.getfield 33, 87, [11, 6], 0), (.sipush 320, 90, [], 0), (.iconst 3, 93, [], 0), (.iload_n 1, 94, [], 0), (.imul, 95, [], 0), (.iadd, 96, [], 0), (.iconst 1, 97, [], 0), (.iadd, 98, [], 0), (.iaload, 99, [], 0), (.ifCond .lt 26, 100, [75], 0), (.aload_n 0, 103, [], 0), (.aload_n 0, 104, [], 0), (.getfield 43, 105, [11, 9], 0), (.aload_n 0, 108, [], 0), (.getfield 33, 109, [11, 6], 0), (.sipush 320, 112, [], 0), (.iconst 3, 115, [], 0), (.iload_n 1, 116, [], 0), (.imul, 117, [], 0), (.iadd, 118, [], 0), (.iconst 1, 119, [], 0), (.iadd, 120, [], 0), (.iaload, 121, [], 0), (.laload, 122, [], 0), (.invokevirtual 402, 123, [230, 1, 11], 0), (.aload_n 0, 126, [], 0), (.bipush 32, 127, [], 0), (.invokevirtual 394, 129, [229, 1, 11], 0), (.aload_n 0, 132, [], 0), (.aload_n 0, 133, [], 0), (.getfield 33, 134, [11, 6], 0), (.sipush 320, 137, [], 0), (.iconst 3, 140, [], 0), (.iload_n 1, 141, [], 0), (.imul, 142, [], 0), (.iadd, 143, [], 0), (.iconst 2, 144, [], 0), (.iadd, 145, [], 0), (.iaload, 146, [], 0), (.invokevirtual 399, 147, [231, 1, 11], 0), (.aload_n 0, 150, [], 0), (.bipush 59, 151, [], 0), (.invokevirtual 394, 153, [229, 1, 11], 0), (.iinc 1 1, 156, [], 0), (.goto (-134), 159, [15], 0), (.aload_n 0, 162, [], 0), (.getfield 391, 163, [11, 51], 0), (.ireturn, 166, [], 0)], (0, 11, 0), (0, 0))
set_option maxRecDepth 100000 in
def mt_X12_year : mj_T := (yX12_year, cX12_year, 4, (some .int), [(.aload_n 0, 0, [], 0), (.iconst 0, 1, [], 0), (.putfield 1, 2, [11, 0], 0), (.aload_n 0, 5, [], 0), (.getfield 33, 6, [11, 6], 0), (.sipush 221, 9, [], 0), (.iaload, 12, [], 0), (.ifCond .eq 13, 13, [13], 0), (.iload_n 1, 16, [], 0), (.iconst 0, 17, [], 0), (.bipush 10, 18, [], 0), (.invokestatic 195, 20, [198, 3, 11], 0), (.ifCond .ne 7, 23, [15], 0), (.sipush (-1001), 26, [], 0), (.ireturn, 29, [], 0), (.iconst 0, 30, [], 0), (.istore_n 2, 31, [], 0), (.iconst 0, 32, [], 0), (.istore_n 3, 33, [], 0), (.iload_n 3, 34, [], 0), (.aload_n 0, 35, [], 0), (.getfield 33, 36, [11, 6], 0), (.iconst 0, 39, [], 0), (.iaload, 40, [], 0), (.if_icmp .ge 18, 41, [34], 0), (.iload_n 2, 44, [], 0), (.aload_n 0, 45, [], 0), (.iload_n 3, 46, [], 0), (.iconst 0, 47, [], 0), (.invokevirtual 285, 48, [219, 2, 11], 0), (.iadd, 51, [], 0), (.istore_n 2, 52, [], 0), (.iinc 3 1, 53, [], 0), (.goto (-22), 56, [19], 0), (.iload_n 1, 59, [], 0), (.bipush 8, 60, [], 0), (.if_icmp .ge 16, 62, [44], 0), (.aload_n 0, 65, [], 0), (.getfield 33, 66, [11, 6], 0), (.sipush 222, 69, [], 0), (.iload_n 1, 72, [], 0), (.iadd, 73, [], 0), (.iaload, 74, [], 0), (.goto 38, 75, [61], 0), (.iload_n 1, 78, [], 0), (.bipush 8, 79, [], 0), (.if_icmp .ne 7, 81, [49], 0), (.iload_n 2, 84, [], 0), (.goto 28, 85, [61], 0), (.iload_n 1, 88, [], 0), (.bipush 9, 89, [], 0), (.if_icmp .ne 14, 91, [57], 0), (.aload_n 0, 94, [], 0), (.getfield 33, 95, [11, 6], 0), (.sipush 230, 98, [], 0), (.iaload, 101, [], 0), (.goto 11, 102, [61], 0), (.aload_n 0, 105, [], 0), (.getfield 33, 106, [11, 6], 0), (.sipush 231, 109, [], 0), (.iaload, 112, [], 0), (.ireturn, 113, [], 0)], (0, 11, 1), (0, 0))
def mj_tab (y : Nat) : mj_T := (cond (Nat.blt y 131) (cond (Nat.blt y 65) (cond (Nat.blt y 32) (cond (Nat.blt y 16) (cond (Nat.blt y 8) (cond (Nat.blt y 4) (cond (Nat.blt y 2) (cond (Nat.blt y 1) mt_X0_canBe mt_X0_costOf) (cond (Nat.blt y 3) mt_X0_firstForNothing mt_X0_init)) (cond (Nat.blt y 6) (cond (Nat.blt y 5) mt_X0_keepPath mt_X0_keepTail) (cond (Nat.blt y 7) mt_X0_lacksAny mt_X0_leastToCome))) (cond (Nat.blt y 12) (cond (Nat.blt y 10) (cond (Nat.blt y 9) mt_X0_listTails mt_X0_meetsNeeds) (cond (Nat.blt y 11) mt_X0_prepare mt_X0_putAhead)) (cond (Nat.blt y 14) (cond (Nat.blt y 13) mt_X0_searchPlan mt_X0_solve) (cond (Nat.blt y 15) mt_X0_stayFrom mt_X0_tryMonth)))) (cond (Nat.blt y 24) (cond (Nat.blt y 20) (cond (Nat.blt y 18) (cond (Nat.blt y 17) mt_X0_tryTails mt_X1_clear) (cond (Nat.blt y 19) mt_X1_copy mt_X1_init)) (cond (Nat.blt y 22) (cond (Nat.blt y 21) mt_X1_readLet mt_X1_readRow) (cond (Nat.blt y 23) mt_X1_readRows mt_X1_tell))) (cond (Nat.blt y 28) (cond (Nat.blt y 26) (cond (Nat.blt y 25) mt_X1_tells mt_X2_asTold) (cond (Nat.blt y 27) mt_X2_comesBy mt_X2_init)) (cond (Nat.blt y 30) (cond (Nat.blt y 29) mt_X2_keep mt_X2_readLevels) (cond (Nat.blt y 31) mt_X2_run mt_X3_clear))))) (cond (Nat.blt y 48) (cond (Nat.blt y 40) (cond (Nat.blt y 36) (cond (Nat.blt y 34) (cond (Nat.blt y 33) mt_X3_copy mt_X3_find) (cond (Nat.blt y 35) mt_X3_gain mt_X3_init)) (cond (Nat.blt y 38) (cond (Nat.blt y 37) mt_X3_nextTown mt_X3_placeOf) (cond (Nat.blt y 39) mt_X3_readAboutTown mt_X3_readBid))) (cond (Nat.blt y 44) (cond (Nat.blt y 42) (cond (Nat.blt y 41) mt_X3_readFish mt_X3_readMove) (cond (Nat.blt y 43) mt_X3_readPatience mt_X3_readRow)) (cond (Nat.blt y 46) (cond (Nat.blt y 45) mt_X3_readRows mt_X3_readTown) (cond (Nat.blt y 47) mt_X3_readWater mt_X3_setBid)))) (cond (Nat.blt y 56) (cond (Nat.blt y 52) (cond (Nat.blt y 50) (cond (Nat.blt y 49) mt_X3_townHere mt_X4_clear) (cond (Nat.blt y 51) mt_X4_init mt_X4_priceNow)) (cond (Nat.blt y 54) (cond (Nat.blt y 53) mt_X4_run mt_X4_takeBest) (cond (Nat.blt y 55) mt_X5_add mt_X5_begins))) (cond (Nat.blt y 60) (cond (Nat.blt y 58) (cond (Nat.blt y 57) mt_X5_clear mt_X5_copy) (cond (Nat.blt y 59) mt_X5_holds mt_X5_holdsOne)) (cond (Nat.blt y 62) (cond (Nat.blt y 61) mt_X5_init mt_X5_readAll) (cond (Nat.blt y 63) mt_X5_readClosing (cond (Nat.blt y 64) mt_X5_readCond mt_X5_readMeasure))))))) (cond (Nat.blt y 98) (cond (Nat.blt y 81) (cond (Nat.blt y 73) (cond (Nat.blt y 69) (cond (Nat.blt y 67) (cond (Nat.blt y 66) mt_X5_readOne mt_X5_readText) (cond (Nat.blt y 68) mt_X6_copy mt_X6_init)) (cond (Nat.blt y 71) (cond (Nat.blt y 70) mt_X7_advance mt_X7_finish) (cond (Nat.blt y 72) mt_X7_hasRoom mt_X7_init))) (cond (Nat.blt y 77) (cond (Nat.blt y 75) (cond (Nat.blt y 74) mt_X7_isDigit mt_X7_isLetter) (cond (Nat.blt y 76) mt_X7_isSign mt_X7_nameHere)) (cond (Nat.blt y 79) (cond (Nat.blt y 78) mt_X7_nextNumber mt_X7_nextSign) (cond (Nat.blt y 80) mt_X7_numberHere mt_X7_open)))) (cond (Nat.blt y 89) (cond (Nat.blt y 85) (cond (Nat.blt y 83) (cond (Nat.blt y 82) mt_X7_put mt_X7_readRun) (cond (Nat.blt y 84) mt_X7_refuse mt_X7_valueAt)) (cond (Nat.blt y 87) (cond (Nat.blt y 86) mt_X8_back mt_X8_init) (cond (Nat.blt y 88) mt_X8_keep mt_X10_bridgeTo))) (cond (Nat.blt y 93) (cond (Nat.blt y 91) (cond (Nat.blt y 90) mt_X10_canPay mt_X10_copy) (cond (Nat.blt y 92) mt_X10_draw mt_X10_drink)) (cond (Nat.blt y 95) (cond (Nat.blt y 94) mt_X10_goOn mt_X10_harvest) (cond (Nat.blt y 96) mt_X10_inPonds (cond (Nat.blt y 97) mt_X10_init mt_X10_lacks)))))) (cond (Nat.blt y 114) (cond (Nat.blt y 106) (cond (Nat.blt y 102) (cond (Nat.blt y 100) (cond (Nat.blt y 99) mt_X10_leakFrom mt_X10_leastBid) (cond (Nat.blt y 101) mt_X10_letByBids mt_X10_letByContract)) (cond (Nat.blt y 104) (cond (Nat.blt y 103) mt_X10_moveRiver mt_X10_nextMonth) (cond (Nat.blt y 105) mt_X10_number mt_X10_pay))) (cond (Nat.blt y 110) (cond (Nat.blt y 108) (cond (Nat.blt y 107) mt_X10_pour mt_X10_pourTo) (cond (Nat.blt y 109) mt_X10_start mt_X10_waterField)) (cond (Nat.blt y 112) (cond (Nat.blt y 111) mt_X11_begin mt_X11_bid) (cond (Nat.blt y 113) mt_X11_bidsOf mt_X11_byteAt)))) (cond (Nat.blt y 122) (cond (Nat.blt y 118) (cond (Nat.blt y 116) (cond (Nat.blt y 115) mt_X11_cheapest mt_X11_closeTape) (cond (Nat.blt y 117) mt_X11_contract mt_X11_contracts)) (cond (Nat.blt y 120) (cond (Nat.blt y 119) mt_X11_count mt_X11_drawn) (cond (Nat.blt y 121) mt_X11_droughts mt_X11_end))) (cond (Nat.blt y 126) (cond (Nat.blt y 124) (cond (Nat.blt y 123) mt_X11_enough mt_X11_fault) (cond (Nat.blt y 125) mt_X11_feed mt_X11_greatest)) (cond (Nat.blt y 128) (cond (Nat.blt y 127) mt_X11_has mt_X11_image) (cond (Nat.blt y 129) mt_X11_init (cond (Nat.blt y 130) mt_X11_isMonth mt_X11_isTown)))))))) (cond (Nat.blt y 197) (cond (Nat.blt y 164) (cond (Nat.blt y 147) (cond (Nat.blt y 139) (cond (Nat.blt y 135) (cond (Nat.blt y 133) (cond (Nat.blt y 132) mt_X11_leak mt_X11_leaks) (cond (Nat.blt y 134) mt_X11_let mt_X11_mostGain)) (cond (Nat.blt y 137) (cond (Nat.blt y 136) mt_X11_must mt_X11_offer) (cond (Nat.blt y 138) mt_X11_on mt_X11_plain))) (cond (Nat.blt y 143) (cond (Nat.blt y 141) (cond (Nat.blt y 140) mt_X11_plan mt_X11_price) (cond (Nat.blt y 142) mt_X11_putByte mt_X11_putNumber)) (cond (Nat.blt y 145) (cond (Nat.blt y 144) mt_X11_putTenant mt_X11_restore) (cond (Nat.blt y 146) mt_X11_rounds mt_X11_said)))) (cond (Nat.blt y 155) (cond (Nat.blt y 151) (cond (Nat.blt y 149) (cond (Nat.blt y 148) mt_X11_sentence mt_X11_shores) (cond (Nat.blt y 150) mt_X11_shoresOf mt_X11_take)) (cond (Nat.blt y 153) (cond (Nat.blt y 152) mt_X11_thirsty mt_X11_town) (cond (Nat.blt y 154) mt_X11_tryYear mt_X11_undo))) (cond (Nat.blt y 159) (cond (Nat.blt y 157) (cond (Nat.blt y 156) mt_X11_water mt_X11_wettest) (cond (Nat.blt y 158) mt_X11_worth mt_X11_write)) (cond (Nat.blt y 161) (cond (Nat.blt y 160) mt_X11_year mt_X12_areLevels) (cond (Nat.blt y 162) mt_X12_bad (cond (Nat.blt y 163) mt_X12_begin mt_X12_begins)))))) (cond (Nat.blt y 180) (cond (Nat.blt y 172) (cond (Nat.blt y 168) (cond (Nat.blt y 166) (cond (Nat.blt y 165) mt_X12_behind mt_X12_bid) (cond (Nat.blt y 167) mt_X12_bidMany mt_X12_bidOf)) (cond (Nat.blt y 170) (cond (Nat.blt y 169) mt_X12_bidsOf mt_X12_bitOf) (cond (Nat.blt y 171) mt_X12_byteAt mt_X12_canBe))) (cond (Nat.blt y 176) (cond (Nat.blt y 174) (cond (Nat.blt y 173) mt_X12_canPay mt_X12_cheapest) (cond (Nat.blt y 175) mt_X12_code mt_X12_comes)) (cond (Nat.blt y 178) (cond (Nat.blt y 177) mt_X12_contract mt_X12_contracts) (cond (Nat.blt y 179) mt_X12_costOf mt_X12_count)))) (cond (Nat.blt y 188) (cond (Nat.blt y 184) (cond (Nat.blt y 182) (cond (Nat.blt y 181) mt_X12_dealRow mt_X12_draw) (cond (Nat.blt y 183) mt_X12_drawn mt_X12_droughts)) (cond (Nat.blt y 186) (cond (Nat.blt y 185) mt_X12_end mt_X12_enough) (cond (Nat.blt y 187) mt_X12_fault mt_X12_feed))) (cond (Nat.blt y 192) (cond (Nat.blt y 190) (cond (Nat.blt y 189) mt_X12_find mt_X12_forgets) (cond (Nat.blt y 191) mt_X12_four mt_X12_gains)) (cond (Nat.blt y 194) (cond (Nat.blt y 193) mt_X12_greatest mt_X12_has) (cond (Nat.blt y 195) mt_X12_holderOf (cond (Nat.blt y 196) mt_X12_image mt_X12_init))))))) (cond (Nat.blt y 230) (cond (Nat.blt y 213) (cond (Nat.blt y 205) (cond (Nat.blt y 201) (cond (Nat.blt y 199) (cond (Nat.blt y 198) mt_X12_isDigit mt_X12_isIn) (cond (Nat.blt y 200) mt_X12_isLeaf mt_X12_isMonth)) (cond (Nat.blt y 203) (cond (Nat.blt y 202) mt_X12_isName mt_X12_isSaid) (cond (Nat.blt y 204) mt_X12_isSign mt_X12_isSmall))) (cond (Nat.blt y 209) (cond (Nat.blt y 207) (cond (Nat.blt y 206) mt_X12_isTown mt_X12_isWord) (cond (Nat.blt y 208) mt_X12_joins mt_X12_leafOf)) (cond (Nat.blt y 211) (cond (Nat.blt y 210) mt_X12_leak mt_X12_leaks) (cond (Nat.blt y 212) mt_X12_let mt_X12_lets)))) (cond (Nat.blt y 221) (cond (Nat.blt y 217) (cond (Nat.blt y 215) (cond (Nat.blt y 214) mt_X12_month mt_X12_more) (cond (Nat.blt y 216) mt_X12_must mt_X12_next)) (cond (Nat.blt y 219) (cond (Nat.blt y 218) mt_X12_nots mt_X12_octet) (cond (Nat.blt y 220) mt_X12_of mt_X12_offer))) (cond (Nat.blt y 225) (cond (Nat.blt y 223) (cond (Nat.blt y 222) mt_X12_on mt_X12_operand) (cond (Nat.blt y 224) mt_X12_pays mt_X12_peek)) (cond (Nat.blt y 227) (cond (Nat.blt y 226) mt_X12_placeOf mt_X12_plain) (cond (Nat.blt y 228) mt_X12_plan (cond (Nat.blt y 229) mt_X12_price mt_X12_put)))))) (cond (Nat.blt y 246) (cond (Nat.blt y 238) (cond (Nat.blt y 234) (cond (Nat.blt y 232) (cond (Nat.blt y 231) mt_X12_putName mt_X12_putNumber) (cond (Nat.blt y 233) mt_X12_readBid mt_X12_readOf)) (cond (Nat.blt y 236) (cond (Nat.blt y 235) mt_X12_readTown mt_X12_restore) (cond (Nat.blt y 237) mt_X12_rounds mt_X12_row))) (cond (Nat.blt y 242) (cond (Nat.blt y 240) (cond (Nat.blt y 239) mt_X12_said mt_X12_sentence) (cond (Nat.blt y 241) mt_X12_shores mt_X12_shoresOf)) (cond (Nat.blt y 244) (cond (Nat.blt y 243) mt_X12_sign mt_X12_sizeOf) (cond (Nat.blt y 245) mt_X12_take mt_X12_taken)))) (cond (Nat.blt y 254) (cond (Nat.blt y 250) (cond (Nat.blt y 248) (cond (Nat.blt y 247) mt_X12_takes mt_X12_thinks) (cond (Nat.blt y 249) mt_X12_thirsty mt_X12_thrown)) (cond (Nat.blt y 252) (cond (Nat.blt y 251) mt_X12_throwsIf mt_X12_told) (cond (Nat.blt y 253) mt_X12_toldOf mt_X12_town))) (cond (Nat.blt y 258) (cond (Nat.blt y 256) (cond (Nat.blt y 255) mt_X12_undo mt_X12_uses) (cond (Nat.blt y 257) mt_X12_wasLet mt_X12_water)) (cond (Nat.blt y 260) (cond (Nat.blt y 259) mt_X12_wettest mt_X12_wholeYear) (cond (Nat.blt y 261) mt_X12_worth (cond (Nat.blt y 262) mt_X12_write mt_X12_year)))))))))
end
section
/-! ===== what is checked of them ===== -/
theorem mj_cond {P : mj_T → Prop} {b : Bool} {x z : mj_T} (h1 : P x) (h2 : P z) : P (cond b x z) := by cases b <;> assumption
set_option maxRecDepth 100000 in
theorem ok_X0_canBe : mj_ok1 mj_tab mt_X0_canBe = true := by decide +kernel
set_option maxRecDepth 100000 in
theorem ok_X0_costOf : mj_ok1 mj_tab mt_X0_costOf = true := by decide +kernel
set_option maxRecDepth 100000 in
theorem ok_X0_firstForNothing : mj_ok1 mj_tab mt_X0_firstForNothing = true := by decide +kernel
set_option maxRecDepth 100000 in
theorem ok_X0_init : mj_ok1 mj_tab mt_X0_init = true := by decide +kernel
set_option maxRecDepth 100000 in
theorem ok_X0_keepPath : mj_ok1 mj_tab mt_X0_keepPath = true := by decide +kernel
set_option maxRecDepth 100000 in
theorem ok_X0_keepTail : mj_ok1 mj_tab mt_X0_keepTail = true := by decide +kernel
set_option maxRecDepth 100000 in
theorem ok_X0_lacksAny : mj_ok1 mj_tab mt_X0_lacksAny = true := by decide +kernel
set_option maxRecDepth 100000 in
theorem ok_X0_leastToCome : mj_ok1 mj_tab mt_X0_leastToCome = true := by decide +kernel
set_option maxRecDepth 100000 in
theorem ok_X0_listTails : mj_ok1 mj_tab mt_X0_listTails = true := by decide +kernel
set_option maxRecDepth 100000 in
theorem ok_X0_meetsNeeds : mj_ok1 mj_tab mt_X0_meetsNeeds = true := by decide +kernel
set_option maxRecDepth 100000 in
theorem ok_X0_prepare : mj_ok1 mj_tab mt_X0_prepare = true := by decide +kernel
set_option maxRecDepth 100000 in
theorem ok_X0_putAhead : mj_ok1 mj_tab mt_X0_putAhead = true := by decide +kernel
set_option maxRecDepth 100000 in
theorem ok_X0_searchPlan : mj_ok1 mj_tab mt_X0_searchPlan = true := by decide +kernel
set_option maxRecDepth 100000 in
theorem ok_X0_solve : mj_ok1 mj_tab mt_X0_solve = true := by decide +kernel
set_option maxRecDepth 100000 in
theorem ok_X0_stayFrom : mj_ok1 mj_tab mt_X0_stayFrom = true := by decide +kernel
set_option maxRecDepth 100000 in
theorem ok_X0_tryMonth : mj_ok1 mj_tab mt_X0_tryMonth = true := by decide +kernel
set_option maxRecDepth 100000 in
theorem ok_X0_tryTails : mj_ok1 mj_tab mt_X0_tryTails = true := by decide +kernel
set_option maxRecDepth 100000 in
theorem ok_X1_clear : mj_ok1 mj_tab mt_X1_clear = true := by decide +kernel
set_option maxRecDepth 100000 in
theorem ok_X1_copy : mj_ok1 mj_tab mt_X1_copy = true := by decide +kernel
set_option maxRecDepth 100000 in
theorem ok_X1_init : mj_ok1 mj_tab mt_X1_init = true := by decide +kernel
set_option maxRecDepth 100000 in
theorem ok_X1_readLet : mj_ok1 mj_tab mt_X1_readLet = true := by decide +kernel
set_option maxRecDepth 100000 in
theorem ok_X1_readRow : mj_ok1 mj_tab mt_X1_readRow = true := by decide +kernel
set_option maxRecDepth 100000 in
theorem ok_X1_readRows : mj_ok1 mj_tab mt_X1_readRows = true := by decide +kernel
set_option maxRecDepth 100000 in
theorem ok_X1_tell : mj_ok1 mj_tab mt_X1_tell = true := by decide +kernel
set_option maxRecDepth 100000 in
theorem ok_X1_tells : mj_ok1 mj_tab mt_X1_tells = true := by decide +kernel
set_option maxRecDepth 100000 in
theorem ok_X2_asTold : mj_ok1 mj_tab mt_X2_asTold = true := by decide +kernel
set_option maxRecDepth 100000 in
theorem ok_X2_comesBy : mj_ok1 mj_tab mt_X2_comesBy = true := by decide +kernel
set_option maxRecDepth 100000 in
theorem ok_X2_init : mj_ok1 mj_tab mt_X2_init = true := by decide +kernel
set_option maxRecDepth 100000 in
theorem ok_X2_keep : mj_ok1 mj_tab mt_X2_keep = true := by decide +kernel
set_option maxRecDepth 100000 in
theorem ok_X2_readLevels : mj_ok1 mj_tab mt_X2_readLevels = true := by decide +kernel
set_option maxRecDepth 100000 in
theorem ok_X2_run : mj_ok1 mj_tab mt_X2_run = true := by decide +kernel
set_option maxRecDepth 100000 in
theorem ok_X3_clear : mj_ok1 mj_tab mt_X3_clear = true := by decide +kernel
set_option maxRecDepth 100000 in
theorem ok_X3_copy : mj_ok1 mj_tab mt_X3_copy = true := by decide +kernel
set_option maxRecDepth 100000 in
theorem ok_X3_find : mj_ok1 mj_tab mt_X3_find = true := by decide +kernel
set_option maxRecDepth 100000 in
theorem ok_X3_gain : mj_ok1 mj_tab mt_X3_gain = true := by decide +kernel
set_option maxRecDepth 100000 in
theorem ok_X3_init : mj_ok1 mj_tab mt_X3_init = true := by decide +kernel
set_option maxRecDepth 100000 in
theorem ok_X3_nextTown : mj_ok1 mj_tab mt_X3_nextTown = true := by decide +kernel
set_option maxRecDepth 100000 in
theorem ok_X3_placeOf : mj_ok1 mj_tab mt_X3_placeOf = true := by decide +kernel
set_option maxRecDepth 100000 in
theorem ok_X3_readAboutTown : mj_ok1 mj_tab mt_X3_readAboutTown = true := by decide +kernel
set_option maxRecDepth 100000 in
theorem ok_X3_readBid : mj_ok1 mj_tab mt_X3_readBid = true := by decide +kernel
set_option maxRecDepth 100000 in
theorem ok_X3_readFish : mj_ok1 mj_tab mt_X3_readFish = true := by decide +kernel
set_option maxRecDepth 100000 in
theorem ok_X3_readMove : mj_ok1 mj_tab mt_X3_readMove = true := by decide +kernel
set_option maxRecDepth 100000 in
theorem ok_X3_readPatience : mj_ok1 mj_tab mt_X3_readPatience = true := by decide +kernel
set_option maxRecDepth 100000 in
theorem ok_X3_readRow : mj_ok1 mj_tab mt_X3_readRow = true := by decide +kernel
set_option maxRecDepth 100000 in
theorem ok_X3_readRows : mj_ok1 mj_tab mt_X3_readRows = true := by decide +kernel
set_option maxRecDepth 100000 in
theorem ok_X3_readTown : mj_ok1 mj_tab mt_X3_readTown = true := by decide +kernel
set_option maxRecDepth 100000 in
theorem ok_X3_readWater : mj_ok1 mj_tab mt_X3_readWater = true := by decide +kernel
set_option maxRecDepth 100000 in
theorem ok_X3_setBid : mj_ok1 mj_tab mt_X3_setBid = true := by decide +kernel
set_option maxRecDepth 100000 in
theorem ok_X3_townHere : mj_ok1 mj_tab mt_X3_townHere = true := by decide +kernel
set_option maxRecDepth 100000 in
theorem ok_X4_clear : mj_ok1 mj_tab mt_X4_clear = true := by decide +kernel
set_option maxRecDepth 100000 in
theorem ok_X4_init : mj_ok1 mj_tab mt_X4_init = true := by decide +kernel
set_option maxRecDepth 100000 in
theorem ok_X4_priceNow : mj_ok1 mj_tab mt_X4_priceNow = true := by decide +kernel
set_option maxRecDepth 100000 in
theorem ok_X4_run : mj_ok1 mj_tab mt_X4_run = true := by decide +kernel
set_option maxRecDepth 100000 in
theorem ok_X4_takeBest : mj_ok1 mj_tab mt_X4_takeBest = true := by decide +kernel
set_option maxRecDepth 100000 in
theorem ok_X5_add : mj_ok1 mj_tab mt_X5_add = true := by decide +kernel
set_option maxRecDepth 100000 in
theorem ok_X5_begins : mj_ok1 mj_tab mt_X5_begins = true := by decide +kernel
set_option maxRecDepth 100000 in
theorem ok_X5_clear : mj_ok1 mj_tab mt_X5_clear = true := by decide +kernel
set_option maxRecDepth 100000 in
theorem ok_X5_copy : mj_ok1 mj_tab mt_X5_copy = true := by decide +kernel
set_option maxRecDepth 100000 in
theorem ok_X5_holds : mj_ok1 mj_tab mt_X5_holds = true := by decide +kernel
set_option maxRecDepth 100000 in
theorem ok_X5_holdsOne : mj_ok1 mj_tab mt_X5_holdsOne = true := by decide +kernel
set_option maxRecDepth 100000 in
theorem ok_X5_init : mj_ok1 mj_tab mt_X5_init = true := by decide +kernel
set_option maxRecDepth 100000 in
theorem ok_X5_readAll : mj_ok1 mj_tab mt_X5_readAll = true := by decide +kernel
set_option maxRecDepth 100000 in
theorem ok_X5_readClosing : mj_ok1 mj_tab mt_X5_readClosing = true := by decide +kernel
set_option maxRecDepth 100000 in
theorem ok_X5_readCond : mj_ok1 mj_tab mt_X5_readCond = true := by decide +kernel
set_option maxRecDepth 100000 in
theorem ok_X5_readMeasure : mj_ok1 mj_tab mt_X5_readMeasure = true := by decide +kernel
set_option maxRecDepth 100000 in
theorem ok_X5_readOne : mj_ok1 mj_tab mt_X5_readOne = true := by decide +kernel
set_option maxRecDepth 100000 in
theorem ok_X5_readText : mj_ok1 mj_tab mt_X5_readText = true := by decide +kernel
set_option maxRecDepth 100000 in
theorem ok_X6_copy : mj_ok1 mj_tab mt_X6_copy = true := by decide +kernel
set_option maxRecDepth 100000 in
theorem ok_X6_init : mj_ok1 mj_tab mt_X6_init = true := by decide +kernel
set_option maxRecDepth 100000 in
theorem ok_X7_advance : mj_ok1 mj_tab mt_X7_advance = true := by decide +kernel
set_option maxRecDepth 100000 in
theorem ok_X7_finish : mj_ok1 mj_tab mt_X7_finish = true := by decide +kernel
set_option maxRecDepth 100000 in
theorem ok_X7_hasRoom : mj_ok1 mj_tab mt_X7_hasRoom = true := by decide +kernel
set_option maxRecDepth 100000 in
theorem ok_X7_init : mj_ok1 mj_tab mt_X7_init = true := by decide +kernel
set_option maxRecDepth 100000 in
theorem ok_X7_isDigit : mj_ok1 mj_tab mt_X7_isDigit = true := by decide +kernel
set_option maxRecDepth 100000 in
theorem ok_X7_isLetter : mj_ok1 mj_tab mt_X7_isLetter = true := by decide +kernel
set_option maxRecDepth 100000 in
theorem ok_X7_isSign : mj_ok1 mj_tab mt_X7_isSign = true := by decide +kernel
set_option maxRecDepth 100000 in
theorem ok_X7_nameHere : mj_ok1 mj_tab mt_X7_nameHere = true := by decide +kernel
set_option maxRecDepth 100000 in
theorem ok_X7_nextNumber : mj_ok1 mj_tab mt_X7_nextNumber = true := by decide +kernel
set_option maxRecDepth 100000 in
theorem ok_X7_nextSign : mj_ok1 mj_tab mt_X7_nextSign = true := by decide +kernel
set_option maxRecDepth 100000 in
theorem ok_X7_numberHere : mj_ok1 mj_tab mt_X7_numberHere = true := by decide +kernel
set_option maxRecDepth 100000 in
theorem ok_X7_open : mj_ok1 mj_tab mt_X7_open = true := by decide +kernel
set_option maxRecDepth 100000 in
theorem ok_X7_put : mj_ok1 mj_tab mt_X7_put = true := by decide +kernel
set_option maxRecDepth 100000 in
theorem ok_X7_readRun : mj_ok1 mj_tab mt_X7_readRun = true := by decide +kernel
set_option maxRecDepth 100000 in
theorem ok_X7_refuse : mj_ok1 mj_tab mt_X7_refuse = true := by decide +kernel
set_option maxRecDepth 100000 in
theorem ok_X7_valueAt : mj_ok1 mj_tab mt_X7_valueAt = true := by decide +kernel
set_option maxRecDepth 100000 in
theorem ok_X8_back : mj_ok1 mj_tab mt_X8_back = true := by decide +kernel
set_option maxRecDepth 100000 in
theorem ok_X8_init : mj_ok1 mj_tab mt_X8_init = true := by decide +kernel
set_option maxRecDepth 100000 in
theorem ok_X8_keep : mj_ok1 mj_tab mt_X8_keep = true := by decide +kernel
set_option maxRecDepth 100000 in
theorem ok_X10_bridgeTo : mj_ok1 mj_tab mt_X10_bridgeTo = true := by decide +kernel
set_option maxRecDepth 100000 in
theorem ok_X10_canPay : mj_ok1 mj_tab mt_X10_canPay = true := by decide +kernel
set_option maxRecDepth 100000 in
theorem ok_X10_copy : mj_ok1 mj_tab mt_X10_copy = true := by decide +kernel
set_option maxRecDepth 100000 in
theorem ok_X10_draw : mj_ok1 mj_tab mt_X10_draw = true := by decide +kernel
set_option maxRecDepth 100000 in
theorem ok_X10_drink : mj_ok1 mj_tab mt_X10_drink = true := by decide +kernel
set_option maxRecDepth 100000 in
theorem ok_X10_goOn : mj_ok1 mj_tab mt_X10_goOn = true := by decide +kernel
set_option maxRecDepth 100000 in
theorem ok_X10_harvest : mj_ok1 mj_tab mt_X10_harvest = true := by decide +kernel
set_option maxRecDepth 100000 in
theorem ok_X10_inPonds : mj_ok1 mj_tab mt_X10_inPonds = true := by decide +kernel
set_option maxRecDepth 100000 in
theorem ok_X10_init : mj_ok1 mj_tab mt_X10_init = true := by decide +kernel
set_option maxRecDepth 100000 in
theorem ok_X10_lacks : mj_ok1 mj_tab mt_X10_lacks = true := by decide +kernel
set_option maxRecDepth 100000 in
theorem ok_X10_leakFrom : mj_ok1 mj_tab mt_X10_leakFrom = true := by decide +kernel
set_option maxRecDepth 100000 in
theorem ok_X10_leastBid : mj_ok1 mj_tab mt_X10_leastBid = true := by decide +kernel
set_option maxRecDepth 100000 in
theorem ok_X10_letByBids : mj_ok1 mj_tab mt_X10_letByBids = true := by decide +kernel
set_option maxRecDepth 100000 in
theorem ok_X10_letByContract : mj_ok1 mj_tab mt_X10_letByContract = true := by decide +kernel
set_option maxRecDepth 100000 in
theorem ok_X10_moveRiver : mj_ok1 mj_tab mt_X10_moveRiver = true := by decide +kernel
set_option maxRecDepth 100000 in
theorem ok_X10_nextMonth : mj_ok1 mj_tab mt_X10_nextMonth = true := by decide +kernel
set_option maxRecDepth 100000 in
theorem ok_X10_number : mj_ok1 mj_tab mt_X10_number = true := by decide +kernel
set_option maxRecDepth 100000 in
theorem ok_X10_pay : mj_ok1 mj_tab mt_X10_pay = true := by decide +kernel
set_option maxRecDepth 100000 in
theorem ok_X10_pour : mj_ok1 mj_tab mt_X10_pour = true := by decide +kernel
set_option maxRecDepth 100000 in
theorem ok_X10_pourTo : mj_ok1 mj_tab mt_X10_pourTo = true := by decide +kernel
set_option maxRecDepth 100000 in
theorem ok_X10_start : mj_ok1 mj_tab mt_X10_start = true := by decide +kernel
set_option maxRecDepth 100000 in
theorem ok_X10_waterField : mj_ok1 mj_tab mt_X10_waterField = true := by decide +kernel
set_option maxRecDepth 100000 in
theorem ok_X11_begin : mj_ok1 mj_tab mt_X11_begin = true := by decide +kernel
set_option maxRecDepth 100000 in
theorem ok_X11_bid : mj_ok1 mj_tab mt_X11_bid = true := by decide +kernel
set_option maxRecDepth 100000 in
theorem ok_X11_bidsOf : mj_ok1 mj_tab mt_X11_bidsOf = true := by decide +kernel
set_option maxRecDepth 100000 in
theorem ok_X11_byteAt : mj_ok1 mj_tab mt_X11_byteAt = true := by decide +kernel
set_option maxRecDepth 100000 in
theorem ok_X11_cheapest : mj_ok1 mj_tab mt_X11_cheapest = true := by decide +kernel
set_option maxRecDepth 100000 in
theorem ok_X11_closeTape : mj_ok1 mj_tab mt_X11_closeTape = true := by decide +kernel
set_option maxRecDepth 100000 in
theorem ok_X11_contract : mj_ok1 mj_tab mt_X11_contract = true := by decide +kernel
set_option maxRecDepth 100000 in
theorem ok_X11_contracts : mj_ok1 mj_tab mt_X11_contracts = true := by decide +kernel
set_option maxRecDepth 100000 in
theorem ok_X11_count : mj_ok1 mj_tab mt_X11_count = true := by decide +kernel
set_option maxRecDepth 100000 in
theorem ok_X11_drawn : mj_ok1 mj_tab mt_X11_drawn = true := by decide +kernel
set_option maxRecDepth 100000 in
theorem ok_X11_droughts : mj_ok1 mj_tab mt_X11_droughts = true := by decide +kernel
set_option maxRecDepth 100000 in
theorem ok_X11_end : mj_ok1 mj_tab mt_X11_end = true := by decide +kernel
set_option maxRecDepth 100000 in
theorem ok_X11_enough : mj_ok1 mj_tab mt_X11_enough = true := by decide +kernel
set_option maxRecDepth 100000 in
theorem ok_X11_fault : mj_ok1 mj_tab mt_X11_fault = true := by decide +kernel
set_option maxRecDepth 100000 in
theorem ok_X11_feed : mj_ok1 mj_tab mt_X11_feed = true := by decide +kernel
set_option maxRecDepth 100000 in
theorem ok_X11_greatest : mj_ok1 mj_tab mt_X11_greatest = true := by decide +kernel
set_option maxRecDepth 100000 in
theorem ok_X11_has : mj_ok1 mj_tab mt_X11_has = true := by decide +kernel
set_option maxRecDepth 100000 in
theorem ok_X11_image : mj_ok1 mj_tab mt_X11_image = true := by decide +kernel
set_option maxRecDepth 100000 in
theorem ok_X11_init : mj_ok1 mj_tab mt_X11_init = true := by decide +kernel
set_option maxRecDepth 100000 in
theorem ok_X11_isMonth : mj_ok1 mj_tab mt_X11_isMonth = true := by decide +kernel
set_option maxRecDepth 100000 in
theorem ok_X11_isTown : mj_ok1 mj_tab mt_X11_isTown = true := by decide +kernel
set_option maxRecDepth 100000 in
theorem ok_X11_leak : mj_ok1 mj_tab mt_X11_leak = true := by decide +kernel
set_option maxRecDepth 100000 in
theorem ok_X11_leaks : mj_ok1 mj_tab mt_X11_leaks = true := by decide +kernel
set_option maxRecDepth 100000 in
theorem ok_X11_let : mj_ok1 mj_tab mt_X11_let = true := by decide +kernel
set_option maxRecDepth 100000 in
theorem ok_X11_mostGain : mj_ok1 mj_tab mt_X11_mostGain = true := by decide +kernel
set_option maxRecDepth 100000 in
theorem ok_X11_must : mj_ok1 mj_tab mt_X11_must = true := by decide +kernel
set_option maxRecDepth 100000 in
theorem ok_X11_offer : mj_ok1 mj_tab mt_X11_offer = true := by decide +kernel
set_option maxRecDepth 100000 in
theorem ok_X11_on : mj_ok1 mj_tab mt_X11_on = true := by decide +kernel
set_option maxRecDepth 100000 in
theorem ok_X11_plain : mj_ok1 mj_tab mt_X11_plain = true := by decide +kernel
set_option maxRecDepth 100000 in
theorem ok_X11_plan : mj_ok1 mj_tab mt_X11_plan = true := by decide +kernel
set_option maxRecDepth 100000 in
theorem ok_X11_price : mj_ok1 mj_tab mt_X11_price = true := by decide +kernel
set_option maxRecDepth 100000 in
theorem ok_X11_putByte : mj_ok1 mj_tab mt_X11_putByte = true := by decide +kernel
set_option maxRecDepth 100000 in
theorem ok_X11_putNumber : mj_ok1 mj_tab mt_X11_putNumber = true := by decide +kernel
set_option maxRecDepth 100000 in
theorem ok_X11_putTenant : mj_ok1 mj_tab mt_X11_putTenant = true := by decide +kernel
set_option maxRecDepth 100000 in
theorem ok_X11_restore : mj_ok1 mj_tab mt_X11_restore = true := by decide +kernel
set_option maxRecDepth 100000 in
theorem ok_X11_rounds : mj_ok1 mj_tab mt_X11_rounds = true := by decide +kernel
set_option maxRecDepth 100000 in
theorem ok_X11_said : mj_ok1 mj_tab mt_X11_said = true := by decide +kernel
set_option maxRecDepth 100000 in
theorem ok_X11_sentence : mj_ok1 mj_tab mt_X11_sentence = true := by decide +kernel
set_option maxRecDepth 100000 in
theorem ok_X11_shores : mj_ok1 mj_tab mt_X11_shores = true := by decide +kernel
set_option maxRecDepth 100000 in
theorem ok_X11_shoresOf : mj_ok1 mj_tab mt_X11_shoresOf = true := by decide +kernel
set_option maxRecDepth 100000 in
theorem ok_X11_take : mj_ok1 mj_tab mt_X11_take = true := by decide +kernel
set_option maxRecDepth 100000 in
theorem ok_X11_thirsty : mj_ok1 mj_tab mt_X11_thirsty = true := by decide +kernel
set_option maxRecDepth 100000 in
theorem ok_X11_town : mj_ok1 mj_tab mt_X11_town = true := by decide +kernel
set_option maxRecDepth 100000 in
theorem ok_X11_tryYear : mj_ok1 mj_tab mt_X11_tryYear = true := by decide +kernel
set_option maxRecDepth 100000 in
theorem ok_X11_undo : mj_ok1 mj_tab mt_X11_undo = true := by decide +kernel
set_option maxRecDepth 100000 in
theorem ok_X11_water : mj_ok1 mj_tab mt_X11_water = true := by decide +kernel
set_option maxRecDepth 100000 in
theorem ok_X11_wettest : mj_ok1 mj_tab mt_X11_wettest = true := by decide +kernel
set_option maxRecDepth 100000 in
theorem ok_X11_worth : mj_ok1 mj_tab mt_X11_worth = true := by decide +kernel
set_option maxRecDepth 100000 in
theorem ok_X11_write : mj_ok1 mj_tab mt_X11_write = true := by decide +kernel
set_option maxRecDepth 100000 in
theorem ok_X11_year : mj_ok1 mj_tab mt_X11_year = true := by decide +kernel
set_option maxRecDepth 100000 in
theorem ok_X12_areLevels : mj_ok1 mj_tab mt_X12_areLevels = true := by decide +kernel
set_option maxRecDepth 100000 in
theorem ok_X12_bad : mj_ok1 mj_tab mt_X12_bad = true := by decide +kernel
set_option maxRecDepth 100000 in
theorem ok_X12_begin : mj_ok1 mj_tab mt_X12_begin = true := by decide +kernel
set_option maxRecDepth 100000 in
theorem ok_X12_begins : mj_ok1 mj_tab mt_X12_begins = true := by decide +kernel
set_option maxRecDepth 100000 in
theorem ok_X12_behind : mj_ok1 mj_tab mt_X12_behind = true := by decide +kernel
set_option maxRecDepth 100000 in
theorem ok_X12_bid : mj_ok1 mj_tab mt_X12_bid = true := by decide +kernel
set_option maxRecDepth 100000 in
theorem ok_X12_bidMany : mj_ok1 mj_tab mt_X12_bidMany = true := by decide +kernel
set_option maxRecDepth 100000 in
theorem ok_X12_bidOf : mj_ok1 mj_tab mt_X12_bidOf = true := by decide +kernel
set_option maxRecDepth 100000 in
theorem ok_X12_bidsOf : mj_ok1 mj_tab mt_X12_bidsOf = true := by decide +kernel
set_option maxRecDepth 100000 in
theorem ok_X12_bitOf : mj_ok1 mj_tab mt_X12_bitOf = true := by decide +kernel
set_option maxRecDepth 100000 in
theorem ok_X12_byteAt : mj_ok1 mj_tab mt_X12_byteAt = true := by decide +kernel
set_option maxRecDepth 100000 in
theorem ok_X12_canBe : mj_ok1 mj_tab mt_X12_canBe = true := by decide +kernel
set_option maxRecDepth 100000 in
theorem ok_X12_canPay : mj_ok1 mj_tab mt_X12_canPay = true := by decide +kernel
set_option maxRecDepth 100000 in
theorem ok_X12_cheapest : mj_ok1 mj_tab mt_X12_cheapest = true := by decide +kernel
set_option maxRecDepth 100000 in
theorem ok_X12_code : mj_ok1 mj_tab mt_X12_code = true := by decide +kernel
set_option maxRecDepth 100000 in
theorem ok_X12_comes : mj_ok1 mj_tab mt_X12_comes = true := by decide +kernel
set_option maxRecDepth 100000 in
theorem ok_X12_contract : mj_ok1 mj_tab mt_X12_contract = true := by decide +kernel
set_option maxRecDepth 100000 in
theorem ok_X12_contracts : mj_ok1 mj_tab mt_X12_contracts = true := by decide +kernel
set_option maxRecDepth 100000 in
theorem ok_X12_costOf : mj_ok1 mj_tab mt_X12_costOf = true := by decide +kernel
set_option maxRecDepth 100000 in
theorem ok_X12_count : mj_ok1 mj_tab mt_X12_count = true := by decide +kernel
set_option maxRecDepth 100000 in
theorem ok_X12_dealRow : mj_ok1 mj_tab mt_X12_dealRow = true := by decide +kernel
set_option maxRecDepth 100000 in
theorem ok_X12_draw : mj_ok1 mj_tab mt_X12_draw = true := by decide +kernel
set_option maxRecDepth 100000 in
theorem ok_X12_drawn : mj_ok1 mj_tab mt_X12_drawn = true := by decide +kernel
set_option maxRecDepth 100000 in
theorem ok_X12_droughts : mj_ok1 mj_tab mt_X12_droughts = true := by decide +kernel
set_option maxRecDepth 100000 in
theorem ok_X12_end : mj_ok1 mj_tab mt_X12_end = true := by decide +kernel
set_option maxRecDepth 100000 in
theorem ok_X12_enough : mj_ok1 mj_tab mt_X12_enough = true := by decide +kernel
set_option maxRecDepth 100000 in
theorem ok_X12_fault : mj_ok1 mj_tab mt_X12_fault = true := by decide +kernel
set_option maxRecDepth 100000 in
theorem ok_X12_feed : mj_ok1 mj_tab mt_X12_feed = true := by decide +kernel
set_option maxRecDepth 100000 in
theorem ok_X12_find : mj_ok1 mj_tab mt_X12_find = true := by decide +kernel
set_option maxRecDepth 100000 in
theorem ok_X12_forgets : mj_ok1 mj_tab mt_X12_forgets = true := by decide +kernel
set_option maxRecDepth 100000 in
theorem ok_X12_four : mj_ok1 mj_tab mt_X12_four = true := by decide +kernel
set_option maxRecDepth 100000 in
theorem ok_X12_gains : mj_ok1 mj_tab mt_X12_gains = true := by decide +kernel
set_option maxRecDepth 100000 in
theorem ok_X12_greatest : mj_ok1 mj_tab mt_X12_greatest = true := by decide +kernel
set_option maxRecDepth 100000 in
theorem ok_X12_has : mj_ok1 mj_tab mt_X12_has = true := by decide +kernel
set_option maxRecDepth 100000 in
theorem ok_X12_holderOf : mj_ok1 mj_tab mt_X12_holderOf = true := by decide +kernel
set_option maxRecDepth 100000 in
theorem ok_X12_image : mj_ok1 mj_tab mt_X12_image = true := by decide +kernel
set_option maxRecDepth 100000 in
theorem ok_X12_init : mj_ok1 mj_tab mt_X12_init = true := by decide +kernel
set_option maxRecDepth 100000 in
theorem ok_X12_isDigit : mj_ok1 mj_tab mt_X12_isDigit = true := by decide +kernel
set_option maxRecDepth 100000 in
theorem ok_X12_isIn : mj_ok1 mj_tab mt_X12_isIn = true := by decide +kernel
set_option maxRecDepth 100000 in
theorem ok_X12_isLeaf : mj_ok1 mj_tab mt_X12_isLeaf = true := by decide +kernel
set_option maxRecDepth 100000 in
theorem ok_X12_isMonth : mj_ok1 mj_tab mt_X12_isMonth = true := by decide +kernel
set_option maxRecDepth 100000 in
theorem ok_X12_isName : mj_ok1 mj_tab mt_X12_isName = true := by decide +kernel
set_option maxRecDepth 100000 in
theorem ok_X12_isSaid : mj_ok1 mj_tab mt_X12_isSaid = true := by decide +kernel
set_option maxRecDepth 100000 in
theorem ok_X12_isSign : mj_ok1 mj_tab mt_X12_isSign = true := by decide +kernel
set_option maxRecDepth 100000 in
theorem ok_X12_isSmall : mj_ok1 mj_tab mt_X12_isSmall = true := by decide +kernel
set_option maxRecDepth 100000 in
theorem ok_X12_isTown : mj_ok1 mj_tab mt_X12_isTown = true := by decide +kernel
set_option maxRecDepth 100000 in
theorem ok_X12_isWord : mj_ok1 mj_tab mt_X12_isWord = true := by decide +kernel
set_option maxRecDepth 100000 in
theorem ok_X12_joins : mj_ok1 mj_tab mt_X12_joins = true := by decide +kernel
set_option maxRecDepth 100000 in
theorem ok_X12_leafOf : mj_ok1 mj_tab mt_X12_leafOf = true := by decide +kernel
set_option maxRecDepth 100000 in
theorem ok_X12_leak : mj_ok1 mj_tab mt_X12_leak = true := by decide +kernel
set_option maxRecDepth 100000 in
theorem ok_X12_leaks : mj_ok1 mj_tab mt_X12_leaks = true := by decide +kernel
set_option maxRecDepth 100000 in
theorem ok_X12_let : mj_ok1 mj_tab mt_X12_let = true := by decide +kernel
set_option maxRecDepth 100000 in
theorem ok_X12_lets : mj_ok1 mj_tab mt_X12_lets = true := by decide +kernel
set_option maxRecDepth 100000 in
theorem ok_X12_month : mj_ok1 mj_tab mt_X12_month = true := by decide +kernel
set_option maxRecDepth 100000 in
theorem ok_X12_more : mj_ok1 mj_tab mt_X12_more = true := by decide +kernel
set_option maxRecDepth 100000 in
theorem ok_X12_must : mj_ok1 mj_tab mt_X12_must = true := by decide +kernel
set_option maxRecDepth 100000 in
theorem ok_X12_next : mj_ok1 mj_tab mt_X12_next = true := by decide +kernel
set_option maxRecDepth 100000 in
theorem ok_X12_nots : mj_ok1 mj_tab mt_X12_nots = true := by decide +kernel
set_option maxRecDepth 100000 in
theorem ok_X12_octet : mj_ok1 mj_tab mt_X12_octet = true := by decide +kernel
set_option maxRecDepth 100000 in
theorem ok_X12_of : mj_ok1 mj_tab mt_X12_of = true := by decide +kernel
set_option maxRecDepth 100000 in
theorem ok_X12_offer : mj_ok1 mj_tab mt_X12_offer = true := by decide +kernel
set_option maxRecDepth 100000 in
theorem ok_X12_on : mj_ok1 mj_tab mt_X12_on = true := by decide +kernel
set_option maxRecDepth 100000 in
theorem ok_X12_operand : mj_ok1 mj_tab mt_X12_operand = true := by decide +kernel
set_option maxRecDepth 100000 in
theorem ok_X12_pays : mj_ok1 mj_tab mt_X12_pays = true := by decide +kernel
set_option maxRecDepth 100000 in
theorem ok_X12_peek : mj_ok1 mj_tab mt_X12_peek = true := by decide +kernel
set_option maxRecDepth 100000 in
theorem ok_X12_placeOf : mj_ok1 mj_tab mt_X12_placeOf = true := by decide +kernel
set_option maxRecDepth 100000 in
theorem ok_X12_plain : mj_ok1 mj_tab mt_X12_plain = true := by decide +kernel
set_option maxRecDepth 100000 in
theorem ok_X12_plan : mj_ok1 mj_tab mt_X12_plan = true := by decide +kernel
set_option maxRecDepth 100000 in
theorem ok_X12_price : mj_ok1 mj_tab mt_X12_price = true := by decide +kernel
set_option maxRecDepth 100000 in
theorem ok_X12_put : mj_ok1 mj_tab mt_X12_put = true := by decide +kernel
set_option maxRecDepth 100000 in
theorem ok_X12_putName : mj_ok1 mj_tab mt_X12_putName = true := by decide +kernel
set_option maxRecDepth 100000 in
theorem ok_X12_putNumber : mj_ok1 mj_tab mt_X12_putNumber = true := by decide +kernel
set_option maxRecDepth 100000 in
theorem ok_X12_readBid : mj_ok1 mj_tab mt_X12_readBid = true := by decide +kernel
set_option maxRecDepth 100000 in
theorem ok_X12_readOf : mj_ok1 mj_tab mt_X12_readOf = true := by decide +kernel
set_option maxRecDepth 100000 in
theorem ok_X12_readTown : mj_ok1 mj_tab mt_X12_readTown = true := by decide +kernel
set_option maxRecDepth 100000 in
theorem ok_X12_restore : mj_ok1 mj_tab mt_X12_restore = true := by decide +kernel
set_option maxRecDepth 100000 in
theorem ok_X12_rounds : mj_ok1 mj_tab mt_X12_rounds = true := by decide +kernel
set_option maxRecDepth 100000 in
theorem ok_X12_row : mj_ok1 mj_tab mt_X12_row = true := by decide +kernel
set_option maxRecDepth 100000 in
theorem ok_X12_said : mj_ok1 mj_tab mt_X12_said = true := by decide +kernel
set_option maxRecDepth 100000 in
theorem ok_X12_sentence : mj_ok1 mj_tab mt_X12_sentence = true := by decide +kernel
set_option maxRecDepth 100000 in
theorem ok_X12_shores : mj_ok1 mj_tab mt_X12_shores = true := by decide +kernel
set_option maxRecDepth 100000 in
theorem ok_X12_shoresOf : mj_ok1 mj_tab mt_X12_shoresOf = true := by decide +kernel
set_option maxRecDepth 100000 in
theorem ok_X12_sign : mj_ok1 mj_tab mt_X12_sign = true := by decide +kernel
set_option maxRecDepth 100000 in
theorem ok_X12_sizeOf : mj_ok1 mj_tab mt_X12_sizeOf = true := by decide +kernel
set_option maxRecDepth 100000 in
theorem ok_X12_take : mj_ok1 mj_tab mt_X12_take = true := by decide +kernel
set_option maxRecDepth 100000 in
theorem ok_X12_taken : mj_ok1 mj_tab mt_X12_taken = true := by decide +kernel
set_option maxRecDepth 100000 in
theorem ok_X12_takes : mj_ok1 mj_tab mt_X12_takes = true := by decide +kernel
set_option maxRecDepth 100000 in
theorem ok_X12_thinks : mj_ok1 mj_tab mt_X12_thinks = true := by decide +kernel
set_option maxRecDepth 100000 in
theorem ok_X12_thirsty : mj_ok1 mj_tab mt_X12_thirsty = true := by decide +kernel
set_option maxRecDepth 100000 in
theorem ok_X12_thrown : mj_ok1 mj_tab mt_X12_thrown = true := by decide +kernel
set_option maxRecDepth 100000 in
theorem ok_X12_throwsIf : mj_ok1 mj_tab mt_X12_throwsIf = true := by decide +kernel
set_option maxRecDepth 100000 in
theorem ok_X12_told : mj_ok1 mj_tab mt_X12_told = true := by decide +kernel
set_option maxRecDepth 100000 in
theorem ok_X12_toldOf : mj_ok1 mj_tab mt_X12_toldOf = true := by decide +kernel
set_option maxRecDepth 100000 in
theorem ok_X12_town : mj_ok1 mj_tab mt_X12_town = true := by decide +kernel
set_option maxRecDepth 100000 in
theorem ok_X12_undo : mj_ok1 mj_tab mt_X12_undo = true := by decide +kernel
set_option maxRecDepth 100000 in
theorem ok_X12_uses : mj_ok1 mj_tab mt_X12_uses = true := by decide +kernel
set_option maxRecDepth 100000 in
theorem ok_X12_wasLet : mj_ok1 mj_tab mt_X12_wasLet = true := by decide +kernel
set_option maxRecDepth 100000 in
theorem ok_X12_water : mj_ok1 mj_tab mt_X12_water = true := by decide +kernel
set_option maxRecDepth 100000 in
theorem ok_X12_wettest : mj_ok1 mj_tab mt_X12_wettest = true := by decide +kernel
set_option maxRecDepth 100000 in
theorem ok_X12_wholeYear : mj_ok1 mj_tab mt_X12_wholeYear = true := by decide +kernel
set_option maxRecDepth 100000 in
theorem ok_X12_worth : mj_ok1 mj_tab mt_X12_worth = true := by decide +kernel
set_option maxRecDepth 100000 in
theorem ok_X12_write : mj_ok1 mj_tab mt_X12_write = true := by decide +kernel
set_option maxRecDepth 100000 in
theorem ok_X12_year : mj_ok1 mj_tab mt_X12_year = true := by decide +kernel
theorem mj_all (y : Nat) : mj_ok1 mj_tab (mj_tab y) = true := by
  show (fun q => mj_ok1 mj_tab q = true) (mj_tab y)
  unfold mj_tab
  exact (mj_cond (mj_cond (mj_cond (mj_cond (mj_cond (mj_cond (mj_cond (mj_cond ok_X0_canBe ok_X0_costOf) (mj_cond ok_X0_firstForNothing ok_X0_init)) (mj_cond (mj_cond ok_X0_keepPath ok_X0_keepTail) (mj_cond ok_X0_lacksAny ok_X0_leastToCome))) (mj_cond (mj_cond (mj_cond ok_X0_listTails ok_X0_meetsNeeds) (mj_cond ok_X0_prepare ok_X0_putAhead)) (mj_cond (mj_cond ok_X0_searchPlan ok_X0_solve) (mj_cond ok_X0_stayFrom ok_X0_tryMonth)))) (mj_cond (mj_cond (mj_cond (mj_cond ok_X0_tryTails ok_X1_clear) (mj_cond ok_X1_copy ok_X1_init)) (mj_cond (mj_cond ok_X1_readLet ok_X1_readRow) (mj_cond ok_X1_readRows ok_X1_tell))) (mj_cond (mj_cond (mj_cond ok_X1_tells ok_X2_asTold) (mj_cond ok_X2_comesBy ok_X2_init)) (mj_cond (mj_cond ok_X2_keep ok_X2_readLevels) (mj_cond ok_X2_run ok_X3_clear))))) (mj_cond (mj_cond (mj_cond (mj_cond (mj_cond ok_X3_copy ok_X3_find) (mj_cond ok_X3_gain ok_X3_init)) (mj_cond (mj_cond ok_X3_nextTown ok_X3_placeOf) (mj_cond ok_X3_readAboutTown ok_X3_readBid))) (mj_cond (mj_cond (mj_cond ok_X3_readFish ok_X3_readMove) (mj_cond ok_X3_readPatience ok_X3_readRow)) (mj_cond (mj_cond ok_X3_readRows ok_X3_readTown) (mj_cond ok_X3_readWater ok_X3_setBid)))) (mj_cond (mj_cond (mj_cond (mj_cond ok_X3_townHere ok_X4_clear) (mj_cond ok_X4_init ok_X4_priceNow)) (mj_cond (mj_cond ok_X4_run ok_X4_takeBest) (mj_cond ok_X5_add ok_X5_begins))) (mj_cond (mj_cond (mj_cond ok_X5_clear ok_X5_copy) (mj_cond ok_X5_holds ok_X5_holdsOne)) (mj_cond (mj_cond ok_X5_init ok_X5_readAll) (mj_cond ok_X5_readClosing (mj_cond ok_X5_readCond ok_X5_readMeasure))))))) (mj_cond (mj_cond (mj_cond (mj_cond (mj_cond (mj_cond ok_X5_readOne ok_X5_readText) (mj_cond ok_X6_copy ok_X6_init)) (mj_cond (mj_cond ok_X7_advance ok_X7_finish) (mj_cond ok_X7_hasRoom ok_X7_init))) (mj_cond (mj_cond (mj_cond ok_X7_isDigit ok_X7_isLetter) (mj_cond ok_X7_isSign ok_X7_nameHere)) (mj_cond (mj_cond ok_X7_nextNumber ok_X7_nextSign) (mj_cond ok_X7_numberHere ok_X7_open)))) (mj_cond (mj_cond (mj_cond (mj_cond ok_X7_put ok_X7_readRun) (mj_cond ok_X7_refuse ok_X7_valueAt)) (mj_cond (mj_cond ok_X8_back ok_X8_init) (mj_cond ok_X8_keep ok_X10_bridgeTo))) (mj_cond (mj_cond (mj_cond ok_X10_canPay ok_X10_copy) (mj_cond ok_X10_draw ok_X10_drink)) (mj_cond (mj_cond ok_X10_goOn ok_X10_harvest) (mj_cond ok_X10_inPonds (mj_cond ok_X10_init ok_X10_lacks)))))) (mj_cond (mj_cond (mj_cond (mj_cond (mj_cond ok_X10_leakFrom ok_X10_leastBid) (mj_cond ok_X10_letByBids ok_X10_letByContract)) (mj_cond (mj_cond ok_X10_moveRiver ok_X10_nextMonth) (mj_cond ok_X10_number ok_X10_pay))) (mj_cond (mj_cond (mj_cond ok_X10_pour ok_X10_pourTo) (mj_cond ok_X10_start ok_X10_waterField)) (mj_cond (mj_cond ok_X11_begin ok_X11_bid) (mj_cond ok_X11_bidsOf ok_X11_byteAt)))) (mj_cond (mj_cond (mj_cond (mj_cond ok_X11_cheapest ok_X11_closeTape) (mj_cond ok_X11_contract ok_X11_contracts)) (mj_cond (mj_cond ok_X11_count ok_X11_drawn) (mj_cond ok_X11_droughts ok_X11_end))) (mj_cond (mj_cond (mj_cond ok_X11_enough ok_X11_fault) (mj_cond ok_X11_feed ok_X11_greatest)) (mj_cond (mj_cond ok_X11_has ok_X11_image) (mj_cond ok_X11_init (mj_cond ok_X11_isMonth ok_X11_isTown)))))))) (mj_cond (mj_cond (mj_cond (mj_cond (mj_cond (mj_cond (mj_cond ok_X11_leak ok_X11_leaks) (mj_cond ok_X11_let ok_X11_mostGain)) (mj_cond (mj_cond ok_X11_must ok_X11_offer) (mj_cond ok_X11_on ok_X11_plain))) (mj_cond (mj_cond (mj_cond ok_X11_plan ok_X11_price) (mj_cond ok_X11_putByte ok_X11_putNumber)) (mj_cond (mj_cond ok_X11_putTenant ok_X11_restore) (mj_cond ok_X11_rounds ok_X11_said)))) (mj_cond (mj_cond (mj_cond (mj_cond ok_X11_sentence ok_X11_shores) (mj_cond ok_X11_shoresOf ok_X11_take)) (mj_cond (mj_cond ok_X11_thirsty ok_X11_town) (mj_cond ok_X11_tryYear ok_X11_undo))) (mj_cond (mj_cond (mj_cond ok_X11_water ok_X11_wettest) (mj_cond ok_X11_worth ok_X11_write)) (mj_cond (mj_cond ok_X11_year ok_X12_areLevels) (mj_cond ok_X12_bad (mj_cond ok_X12_begin ok_X12_begins)))))) (mj_cond (mj_cond (mj_cond (mj_cond (mj_cond ok_X12_behind ok_X12_bid) (mj_cond ok_X12_bidMany ok_X12_bidOf)) (mj_cond (mj_cond ok_X12_bidsOf ok_X12_bitOf) (mj_cond ok_X12_byteAt ok_X12_canBe))) (mj_cond (mj_cond (mj_cond ok_X12_canPay ok_X12_cheapest) (mj_cond ok_X12_code ok_X12_comes)) (mj_cond (mj_cond ok_X12_contract ok_X12_contracts) (mj_cond ok_X12_costOf ok_X12_count)))) (mj_cond (mj_cond (mj_cond (mj_cond ok_X12_dealRow ok_X12_draw) (mj_cond ok_X12_drawn ok_X12_droughts)) (mj_cond (mj_cond ok_X12_end ok_X12_enough) (mj_cond ok_X12_fault ok_X12_feed))) (mj_cond (mj_cond (mj_cond ok_X12_find ok_X12_forgets) (mj_cond ok_X12_four ok_X12_gains)) (mj_cond (mj_cond ok_X12_greatest ok_X12_has) (mj_cond ok_X12_holderOf (mj_cond ok_X12_image ok_X12_init))))))) (mj_cond (mj_cond (mj_cond (mj_cond (mj_cond (mj_cond ok_X12_isDigit ok_X12_isIn) (mj_cond ok_X12_isLeaf ok_X12_isMonth)) (mj_cond (mj_cond ok_X12_isName ok_X12_isSaid) (mj_cond ok_X12_isSign ok_X12_isSmall))) (mj_cond (mj_cond (mj_cond ok_X12_isTown ok_X12_isWord) (mj_cond ok_X12_joins ok_X12_leafOf)) (mj_cond (mj_cond ok_X12_leak ok_X12_leaks) (mj_cond ok_X12_let ok_X12_lets)))) (mj_cond (mj_cond (mj_cond (mj_cond ok_X12_month ok_X12_more) (mj_cond ok_X12_must ok_X12_next)) (mj_cond (mj_cond ok_X12_nots ok_X12_octet) (mj_cond ok_X12_of ok_X12_offer))) (mj_cond (mj_cond (mj_cond ok_X12_on ok_X12_operand) (mj_cond ok_X12_pays ok_X12_peek)) (mj_cond (mj_cond ok_X12_placeOf ok_X12_plain) (mj_cond ok_X12_plan (mj_cond ok_X12_price ok_X12_put)))))) (mj_cond (mj_cond (mj_cond (mj_cond (mj_cond ok_X12_putName ok_X12_putNumber) (mj_cond ok_X12_readBid ok_X12_readOf)) (mj_cond (mj_cond ok_X12_readTown ok_X12_restore) (mj_cond ok_X12_rounds ok_X12_row))) (mj_cond (mj_cond (mj_cond ok_X12_said ok_X12_sentence) (mj_cond ok_X12_shores ok_X12_shoresOf)) (mj_cond (mj_cond ok_X12_sign ok_X12_sizeOf) (mj_cond ok_X12_take ok_X12_taken)))) (mj_cond (mj_cond (mj_cond (mj_cond ok_X12_takes ok_X12_thinks) (mj_cond ok_X12_thirsty ok_X12_thrown)) (mj_cond (mj_cond ok_X12_throwsIf ok_X12_told) (mj_cond ok_X12_toldOf ok_X12_town))) (mj_cond (mj_cond (mj_cond ok_X12_undo ok_X12_uses) (mj_cond ok_X12_wasLet ok_X12_water)) (mj_cond (mj_cond ok_X12_wettest ok_X12_wholeYear) (mj_cond ok_X12_worth (mj_cond ok_X12_write ok_X12_year)))))))))
end
